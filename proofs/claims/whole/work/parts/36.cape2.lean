theorem nat_div (a b : Nat) : (a : Int) / (b : Int) = ((a / b : Nat) : Int) := rfl
theorem nat_mod (a b : Nat) : (a : Int) % (b : Int) = ((a % b : Nat) : Int) := rfl
theorem nat_pos (a : Nat) : 0 ≤ (a : Int) := Int.natCast_nonneg a
theorem pw_r {b n : Nat} (hb : 1 ≤ b ∧ b ≤ 7) (hn : n ≤ 6) : 1 ≤ b ^ n ∧ b ^ n ≤ 117649 := by
  have h : ∀ b : Nat, b < 8 → ∀ n : Nat, n < 7 → (1 ≤ b → 1 ≤ b ^ n) ∧ b ^ n ≤ 117649 := by decide +kernel
  have := h b (by omega) n (by omega)
  exact ⟨this.1 hb.1, this.2⟩
theorem pw_r0 {b n : Nat} (hb : b ≤ 7) (hn : n ≤ 6) : b ^ n ≤ 117649 := by
  have h : ∀ b : Nat, b < 8 → ∀ n : Nat, n < 7 → b ^ n ≤ 117649 := by decide +kernel
  exact h b (by omega) n (by omega)
theorem pw_div {b n : Nat} (hb : 1 ≤ b) : b ^ (n + 1) / b = b ^ n := by
  rw [Nat.pow_succ]
  exact Nat.mul_div_cancel _ hb
set_option maxHeartbeats 2000000 in
theorem lp_M_power {κ : Kx} {μ : MX} {Q : Option Value → (Heap → Prop) → Prop} {m : Mem} {b q : Nat} {v y : Int} (hv : v = (b : Int)) (hy : y = (q : Int)) (hq : q ≤ 100) (k : Q (some (vi ((b ^ q : Nat) : Int))) (World κ m)) (F : Fx κ G_M_power 0 0 0 μ) :
    ∀ (n : Nat) (j : Nat) (e u : Int), q < j + n → j ≤ q → u = (j : Int) → e = ((b ^ j : Nat) : Int) →  GC κ μ (ZZ κ μ 0 0 Q) 0 0 5 [some (.ref (ad κ 10 0)), some (vi v), some (vi y), some (vi e), some (vi u)] [] (World κ m) := by
  intro n
  induction n with
  | zero =>
    intro j e u hn hj hu he
    exact absurd hn (by omega)
  | succ n ih =>
    intro j e u hn hj hu he
    refine g_iload F a_M_power_5 rfl ?_
    refine g_iload_n F a_M_power_7 rfl ?_
    refine g_icmp_ge F (by omega) (by omega) a_M_power_8 (fun h8 => ?_) (fun h8 => ?_)
    · refine g_iload_n F a_M_power_21 rfl ?_
      refine g_iret F a_M_power_22 rfl ⟨Nat.le_refl _, Nat.le_refl _⟩ ?_
      obtain rfl : j = q := by omega
      exact qv k he
    · refine g_iload_n F a_M_power_11 rfl ?_
      refine g_iload_n F a_M_power_12 rfl ?_
      refine g_imul F a_M_power_13 ?_
      refine g_istore_n (ls' := [_, _, _, _, _]) F a_M_power_14 rfl rfl rfl ?_
      refine g_iinc (ls' := [_, _, _, _, _]) F a_M_power_15 rfl rfl rfl ?_
      refine g_goto F a_M_power_18 ?_
      exact GC.loc2 (ih (j + 1) _ _ (by omega) (by omega) (by omega) (by rw [he, hv, Nat.pow_succ]; rfl)) ⟨rfl, rfl, rfl, rfl, rfl, trivial⟩
set_option maxHeartbeats 1000000 in
theorem sp_M_power {κ : Kx} {Q : Option Value → (Heap → Prop) → Prop} {m : Mem} {b q : Nat} {v y : Int} (hv : v = (b : Int)) (hy : y = (q : Int)) (hq : q ≤ 100) (k : Q (some (vi ((b ^ q : Nat) : Int))) (World κ m)) : GG κ G_M_power 0 0 0 [.ref (ad κ 10 0), vi v, vi y] (World κ m) Q := by
  refine GG.intro (ls := [some _, some _, some _, none, none]) (Nat.le_of_ble_eq_true rfl) rfl (fun μ F => ?_)
  refine g_iconst F a_M_power_0 ?_
  refine g_istore_n (ls' := [_, _, _, _, _]) F a_M_power_1 rfl rfl rfl ?_
  refine g_iconst F a_M_power_2 ?_
  refine g_istore (ls' := [_, _, _, _, _]) F a_M_power_3 rfl rfl rfl ?_
  exact GC.loc2 (lp_M_power hv hy hq k F (q + 1) 0 1 _ (by omega) (by omega) rfl (by rw [Nat.pow_zero]; rfl)) ⟨rfl, rfl, rfl, rfl, rfl, trivial⟩
/-- the ship behind k of q noons, whom at each told by the figures of code -/
def plS (S : Rc) (r : Int) (B q code : Nat) : Nat → Rc
  | 0 => S
  | k + 1 => sailS (plS S r B q code k) (setO (code / B ^ (q - 1 - k) % B)) r
theorem plS_sam (S : Rc) (r : Int) (B q code : Nat) : ∀ k : Nat, sam (plS S r B q code k) S
  | 0 => sam.rfl
  | k + 1 => (sail_sam _ _ r).trans (plS_sam S r B q code k)
theorem plS_ok {D : Int} {S : Rc} (h : okS D S) (r : Int) (B q code : Nat) : ∀ k : Nat, okS (D + k) (plS S r B q code k)
  | 0 => by rw [show D + ((0 : Nat) : Int) = D by omega]; exact h
  | k + 1 => by
    have := sail_ok (plS_ok h r B q code k) (setO (code / B ^ (q - 1 - k) % B)) r
    rw [show D + ((k + 1 : Nat) : Int) = D + (k : Int) + 1 by omega]
    exact this
theorem setO_s {n : Nat} (h : n ≠ 0) (hn : n < 7) : bShl 1 ((n : Int) - 1) = setO n := by
  unfold setO
  rw [if_neg h, shl_n (n := n - 1) (by omega) (by omega)]
theorem stM_1 {M S : Rc} : (stM M S).1 1 = M.1 1 := rfl
set_option maxHeartbeats 2000000 in
theorem lp_M_place {κ : Kx} {μ : MX} {Q : Option Value → (Heap → Prop) → Prop} {m : Mem} {D : Int} {B q c : Nat} {x y r : Int} (hS : okM D (m 10 0)) (hD : D + 6 ≤ 100000) (hB : (m 10 0).1 1 + 1 = (B : Int)) (hx : x = (c : Int)) (hy : y = (q : Int)) (hc : c ≤ 117649) (hq : q ≤ 5) (hr : 0 ≤ r ∧ r < (m 10 0).1 2) (k : Q (some (vi ((plS (shM (m 10 0)) r B q c q).1 0))) (World κ (mset m 10 0 (stM (m 10 0) (tkS ((m 10 0).2 11) 0 (plS (shM (m 10 0)) r B q c q)))))) (F : Fx κ G_M_placeBy 6 0 0 μ) :
    ∀ (n : Nat) (j : Nat) (e u : Int), q < j + n → j ≤ q → u = (j : Int) → e = ((B ^ (q - j) : Nat) : Int) →  GC κ μ (ZZ κ μ 0 0 Q) 0 0 25 [some (.ref (ad κ 10 0)), some (vi x), some (vi y), some (vi r), some (vi e), some (vi u), none] [] (World κ (mset m 10 0 (stM (m 10 0) (plS (shM (m 10 0)) r B q c j)))) := by
  have s4 := hS.2.2.2.2.1
  intro n
  induction n with
  | zero =>
    intro j e u hn hj hu he
    exact absurd hn (by omega)
  | succ n ih =>
    intro j e u hn hj hu he
    have hSj : okM (D + j) (stM (m 10 0) (plS (shM (m 10 0)) r B q c j)) := okM_st (plS_sam _ _ _ _ _ j) (plS_ok (okM_S hS) r B q c j)
    have hpj : j < q → 1 ≤ ((B ^ (q - 1 - j) : Nat) : Int) ∧ ((B ^ (q - 1 - j) : Nat) : Int) ≤ 117649 ∧ 1 ≤ ((B ^ (q - j) : Nat) : Int) ∧ ((B ^ (q - j) : Nat) : Int) ≤ 117649 ∧ ((c / B ^ (q - 1 - j) : Nat) : Int) ≤ 117649 ∧ 0 ≤ ((c / B ^ (q - 1 - j) : Nat) : Int) := fun h => by
      have h1 := pw_r (b := B) (n := q - 1 - j) (by omega) (by omega)
      have h2 := pw_r (b := B) (n := q - j) (by omega) (by omega)
      have h3 : c / B ^ (q - 1 - j) ≤ c := Nat.div_le_self _ _
      have h4 := nat_pos (c / B ^ (q - 1 - j))
      omega
    have hby : j < q → e / ((m 10 0).1 1 + 1) = ((B ^ (q - 1 - j) : Nat) : Int) := fun h => by
      rw [he, hB, nat_div, show q - j = (q - 1 - j) + 1 by omega, pw_div (by omega)]
    have hwho : j < q → x / ((B ^ (q - 1 - j) : Nat) : Int) % ((m 10 0).1 1 + 1) = (((c / B ^ (q - 1 - j) % B) : Nat) : Int) := fun h => by
      rw [hx, hB, nat_div, nat_mod]
    have hw7 : j < q → (c / B ^ (q - 1 - j) % B) < 7 := fun h => by
      have := Nat.mod_lt (c / B ^ (q - 1 - j)) (show 0 < B by omega)
      omega
    have hxd : j < q → x / ((B ^ (q - 1 - j) : Nat) : Int) = ((c / B ^ (q - 1 - j) : Nat) : Int) := fun h => by rw [hx, nat_div]
    refine g_iload F a_M_placeBy_25 rfl ?_
    refine g_iload_n F a_M_placeBy_27 rfl ?_
    refine g_icmp_ge F (by first | omega | (have h9 := hpj (by omega); have h8 := hxd (by omega); rw [h8]; omega) | (have h9 := hpj (by omega); omega) | (have h9 := hw7 (by omega); omega)) (by first | omega | (have h9 := hpj (by omega); have h8 := hxd (by omega); rw [h8]; omega) | (have h9 := hpj (by omega); omega) | (have h9 := hw7 (by omega); omega)) a_M_placeBy_28 (fun h28 => ?_) (fun h28 => ?_)
    · refine g_aload_n F a_M_placeBy_81 rfl ?_
      refine g_get_10_4 F a_M_placeBy_82 fl_M_70 ?_
      (try simp only [mset_app, mset_mset, fup_app, aup_app, fup_fup, aup_aup, false_and, and_false, true_and, and_true, and_self, reduceIte, Nat.reduceEqDiff, reduceCtorEq, fup_10, fs_4_5, fs_4_6, fs_5_6, stM_1])
      refine g_istore (ls' := [_, _, _, _, _, _, _]) F a_M_placeBy_85 rfl rfl rfl ?_
      refine g_aload_n F a_M_placeBy_87 rfl ?_
      refine g_aload_n F a_M_placeBy_88 rfl ?_
      refine g_get_10_24 F a_M_placeBy_89 fl_M_43 ?_
      (try simp only [mset_app, mset_mset, fup_app, aup_app, fup_fup, aup_aup, false_and, and_false, true_and, and_true, and_self, reduceIte, Nat.reduceEqDiff, reduceCtorEq, fup_10, fs_4_5, fs_4_6, fs_5_6, stM_1])
      refine g_iconst F a_M_placeBy_92 ?_
      refine g_v2 F a_M_placeBy_93 vc_M_239 mk_M_takes ob_10 ck_10.1 rfl rfl (by decide) ⟨Nat.le_refl _, Nat.le_refl _⟩ rfl (Nat.le_of_ble_eq_true rfl) (sp_M_takes (j := 11) (by decide) ⟨by omega, by show _ ≤ ((9 : Nat) : Int); omega⟩ (by decide) (GCr.n ?_))
      (try simp only [mset_app, mset_mset, fup_app, aup_app, fup_fup, aup_aup, false_and, and_false, true_and, and_true, and_self, reduceIte, Nat.reduceEqDiff, reduceCtorEq, fup_10, fs_4_5, fs_4_6, fs_5_6, stM_1])
      refine g_iload F a_M_placeBy_96 rfl ?_
      refine g_iret F a_M_placeBy_98 rfl ⟨Nat.le_refl _, Nat.le_refl _⟩ ?_
      obtain rfl : j = q := by omega
      exact qw k (congrArg (fun X => World κ (mset m 10 0 X)) (mea2 (f := fun S => tkS ((m 10 0).2 11) 0 S) (plS_sam _ _ _ _ _ _)))
    · refine g_iload F a_M_placeBy_31 rfl ?_
      refine g_aload_n F a_M_placeBy_33 rfl ?_
      refine g_get_10_1 F a_M_placeBy_34 fl_M_60 ?_
      (try simp only [mset_app, mset_mset, fup_app, aup_app, fup_fup, aup_aup, false_and, and_false, true_and, and_true, and_self, reduceIte, Nat.reduceEqDiff, reduceCtorEq, fup_10, fs_4_5, fs_4_6, fs_5_6, stM_1])
      refine g_iconst F a_M_placeBy_37 ?_
      refine g_iadd F a_M_placeBy_38 ?_
      refine g_idiv F (by first | omega | (have h9 := hpj (by omega); have h8 := hxd (by omega); rw [h8]; omega) | (have h9 := hpj (by omega); omega) | (have h9 := hw7 (by omega); omega)) (by first | omega | (have h9 := hpj (by omega); have h8 := hxd (by omega); rw [h8]; omega) | (have h9 := hpj (by omega); omega) | (have h9 := hw7 (by omega); omega)) a_M_placeBy_39 ?_
      rw [hby (by omega)]
      refine g_istore (ls' := [_, _, _, _, _, _, _]) F a_M_placeBy_40 rfl rfl rfl ?_
      refine g_iload_n F a_M_placeBy_42 rfl ?_
      refine g_iload F a_M_placeBy_43 rfl ?_
      refine g_idiv F (by first | omega | (have h9 := hpj (by omega); have h8 := hxd (by omega); rw [h8]; omega) | (have h9 := hpj (by omega); omega) | (have h9 := hw7 (by omega); omega)) (by first | omega | (have h9 := hpj (by omega); have h8 := hxd (by omega); rw [h8]; omega) | (have h9 := hpj (by omega); omega) | (have h9 := hw7 (by omega); omega)) a_M_placeBy_45 ?_
      refine g_aload_n F a_M_placeBy_46 rfl ?_
      refine g_get_10_1 F a_M_placeBy_47 fl_M_60 ?_
      (try simp only [mset_app, mset_mset, fup_app, aup_app, fup_fup, aup_aup, false_and, and_false, true_and, and_true, and_self, reduceIte, Nat.reduceEqDiff, reduceCtorEq, fup_10, fs_4_5, fs_4_6, fs_5_6, stM_1])
      refine g_iconst F a_M_placeBy_50 ?_
      refine g_iadd F a_M_placeBy_51 ?_
      refine g_irem F (by first | omega | (have h9 := hpj (by omega); have h8 := hxd (by omega); rw [h8]; omega) | (have h9 := hpj (by omega); omega) | (have h9 := hw7 (by omega); omega)) (by first | omega | (have h9 := hpj (by omega); have h8 := hxd (by omega); rw [h8]; omega) | (have h9 := hpj (by omega); omega) | (have h9 := hw7 (by omega); omega)) a_M_placeBy_52 ?_
      rw [hwho (by omega)]
      refine g_istore (ls' := [_, _, _, _, _, _, _]) F a_M_placeBy_53 rfl rfl rfl ?_
      refine g_aload_n F a_M_placeBy_55 rfl ?_
      refine g_iload F a_M_placeBy_56 rfl ?_
      refine g_if_ne F (by first | omega | (have h9 := hpj (by omega); have h8 := hxd (by omega); rw [h8]; omega) | (have h9 := hpj (by omega); omega) | (have h9 := hw7 (by omega); omega)) a_M_placeBy_58 (fun h58 => ?_) (fun h58 => ?_)
      · refine g_iconst F a_M_placeBy_65 ?_
        refine g_iload F a_M_placeBy_66 rfl ?_
        refine g_iconst F a_M_placeBy_68 ?_
        refine g_isub F a_M_placeBy_69 ?_
        refine g_ishl F a_M_placeBy_70 ?_
        refine g_iload_n F a_M_placeBy_71 rfl ?_
        refine g_v2 F a_M_placeBy_72 vc_M_155 mk_M_measures ob_10 ck_10.1 rfl rfl (by decide) ⟨Nat.le_refl _, Nat.le_refl _⟩ rfl (Nat.le_of_ble_eq_true rfl) (sp_M_measures (D := D + j) (by exact hSj) (by omega) (by rw [setO_s (n := (c / B ^ (q - 1 - j) % B)) (by omega) (hw7 (by omega))]; exact setO_r (by have := hw7 (by omega); omega)) (by exact hr) (GCr.n ?_))
        (try simp only [mset_app, mset_mset, fup_app, aup_app, fup_fup, aup_aup, false_and, and_false, true_and, and_true, and_self, reduceIte, Nat.reduceEqDiff, reduceCtorEq, fup_10, fs_4_5, fs_4_6, fs_5_6, stM_1])
        rw [mea2 (f := fun S => sailS S (bShl 1 ((((c / B ^ (q - 1 - j) % B) : Nat) : Int) - 1)) r) (plS_sam _ _ _ _ _ j)]
        have eS : sailS (plS (shM (m 10 0)) r B q c j) (bShl 1 ((((c / B ^ (q - 1 - j) % B) : Nat) : Int) - 1)) r = plS (shM (m 10 0)) r B q c (j + 1) := by show _ = sailS _ (setO (c / B ^ (q - 1 - j) % B)) r; rw [setO_s (n := (c / B ^ (q - 1 - j) % B)) (by omega) (hw7 (by omega))]
        rw [eS]
        refine g_iinc (ls' := [_, _, _, _, _, _, _]) F a_M_placeBy_75 rfl rfl rfl ?_
        refine g_goto F a_M_placeBy_78 ?_
        exact GC.loc2 (ih (j + 1) _ _ (by omega) (by omega) (by omega) (by rw [show q - (j + 1) = q - 1 - j by omega])) ⟨rfl, rfl, rfl, rfl, rfl, rfl, trivial⟩
      · refine g_iconst F a_M_placeBy_61 ?_
        refine g_goto F a_M_placeBy_62 ?_
        refine g_iload_n F a_M_placeBy_71 rfl ?_
        refine g_v2 F a_M_placeBy_72 vc_M_155 mk_M_measures ob_10 ck_10.1 rfl rfl (by decide) ⟨Nat.le_refl _, Nat.le_refl _⟩ rfl (Nat.le_of_ble_eq_true rfl) (sp_M_measures (D := D + j) (by exact hSj) (by omega) (by decide) (by exact hr) (GCr.n ?_))
        (try simp only [mset_app, mset_mset, fup_app, aup_app, fup_fup, aup_aup, false_and, and_false, true_and, and_true, and_self, reduceIte, Nat.reduceEqDiff, reduceCtorEq, fup_10, fs_4_5, fs_4_6, fs_5_6, stM_1])
        rw [mea2 (f := fun S => sailS S (0) r) (plS_sam _ _ _ _ _ j)]
        have eS : sailS (plS (shM (m 10 0)) r B q c j) (0) r = plS (shM (m 10 0)) r B q c (j + 1) := by show _ = sailS _ (setO (c / B ^ (q - 1 - j) % B)) r; rw [show (c / B ^ (q - 1 - j) % B) = 0 by omega]; rfl
        rw [eS]
        refine g_iinc (ls' := [_, _, _, _, _, _, _]) F a_M_placeBy_75 rfl rfl rfl ?_
        refine g_goto F a_M_placeBy_78 ?_
        exact GC.loc2 (ih (j + 1) _ _ (by omega) (by omega) (by omega) (by rw [show q - (j + 1) = q - 1 - j by omega])) ⟨rfl, rfl, rfl, rfl, rfl, rfl, trivial⟩
set_option maxHeartbeats 1000000 in
theorem sp_M_placeBy {κ : Kx} {Q : Option Value → (Heap → Prop) → Prop} {m : Mem} {D : Int} {B q c : Nat} {x y r : Int} (hS : okM D (m 10 0)) (hD : D + 6 ≤ 100000) (hB : (m 10 0).1 1 + 1 = (B : Int)) (hx : x = (c : Int)) (hy : y = (q : Int)) (hc : c ≤ 117649) (hq : q ≤ 5) (hr : 0 ≤ r ∧ r < (m 10 0).1 2) (k : ∀ g : Int → Int, Q (some (vi ((plS (shM (m 10 0)) r B q c q).1 0))) (World κ (mset m 10 0 ((m 10 0).1, aup (m 10 0).2 11 g)))) : GG κ G_M_placeBy 6 0 0 [.ref (ad κ 10 0), vi x, vi y, vi r] (World κ m) Q := by
  have s4 := hS.2.2.2.2.1
  refine GG.intro (ls := [some _, some _, some _, some _, none, none, none]) (Nat.le_of_ble_eq_true rfl) rfl (fun μ F => ?_)
  refine g_aload_n F a_M_placeBy_0 rfl ?_
  refine g_aload_n F a_M_placeBy_1 rfl ?_
  refine g_get_10_24 F a_M_placeBy_2 fl_M_43 ?_
  refine g_iconst F a_M_placeBy_5 ?_
  refine g_v2 F a_M_placeBy_6 vc_M_221 mk_M_lays ob_10 ck_10.1 rfl rfl (by decide) ⟨Nat.le_refl _, Nat.le_refl _⟩ rfl (Nat.le_of_ble_eq_true rfl) (sp_M_lays (j := 11) (by decide) ⟨by omega, by show _ ≤ ((9 : Nat) : Int); omega⟩ (by decide) (GCr.n ?_))
  (try simp only [mset_app, mset_mset, fup_app, aup_app, fup_fup, aup_aup, false_and, and_false, true_and, and_true, and_self, reduceIte, Nat.reduceEqDiff, reduceCtorEq, fup_10, fs_4_5, fs_4_6, fs_5_6])
  refine g_aload_n F a_M_placeBy_9 rfl ?_
  refine g_aload_n F a_M_placeBy_10 rfl ?_
  refine g_get_10_1 F a_M_placeBy_11 fl_M_60 ?_
  (try simp only [mset_app, mset_mset, fup_app, aup_app, fup_fup, aup_aup, false_and, and_false, true_and, and_true, and_self, reduceIte, Nat.reduceEqDiff, reduceCtorEq, fup_10, fs_4_5, fs_4_6, fs_5_6])
  refine g_iconst F a_M_placeBy_14 ?_
  refine g_iadd F a_M_placeBy_15 ?_
  refine g_iload_n F a_M_placeBy_16 rfl ?_
  refine g_v2 F a_M_placeBy_17 vc_M_255 mk_M_power ob_10 ck_10.1 rfl rfl (by decide) ⟨Nat.le_refl _, Nat.le_refl _⟩ rfl (Nat.le_of_ble_eq_true rfl) (sp_M_power (b := B) (q := q) (by exact hB) hy (by omega) (GCr.v ?_))
  (try simp only [mset_app, mset_mset, fup_app, aup_app, fup_fup, aup_aup, false_and, and_false, true_and, and_true, and_self, reduceIte, Nat.reduceEqDiff, reduceCtorEq, fup_10, fs_4_5, fs_4_6, fs_5_6])
  refine g_istore (ls' := [_, _, _, _, _, _, _]) F a_M_placeBy_20 rfl rfl rfl ?_
  refine g_iconst F a_M_placeBy_22 ?_
  refine g_istore (ls' := [_, _, _, _, _, _, _]) F a_M_placeBy_23 rfl rfl rfl ?_
  have hS1 : okM D ((mset m 10 0 ((m 10 0).1, aup (m 10 0).2 11 (lyI (shM (m 10 0)) ((m 10 0).2 11) 0))) 10 0) := by rw [mset_same]; exact okS_M (by rw [sh_11]; exact okM_S hS)
  have k1 := k (lyI (shM (m 10 0)) ((m 10 0).2 11) 0)
  have hz := lp_M_place (κ := κ) (Q := Q) (m := (mset m 10 0 ((m 10 0).1, aup (m 10 0).2 11 (lyI (shM (m 10 0)) ((m 10 0).2 11) 0)))) hS1 hD (by rw [mset_same]; exact hB) hx hy hc hq (by rw [mset_same]; exact hr) (by rw [mset_same, mset_mset, sh_11]; exact qw k1 back) F (q + 1) 0 _ 0 (by omega) (by omega) rfl rfl
  rw [show plS (shM ((mset m 10 0 ((m 10 0).1, aup (m 10 0).2 11 (lyI (shM (m 10 0)) ((m 10 0).2 11) 0))) 10 0)) r B q c 0 = shM ((mset m 10 0 ((m 10 0).1, aup (m 10 0).2 11 (lyI (shM (m 10 0)) ((m 10 0).2 11) 0))) 10 0) from rfl, stM_self, mset_self] at hz
  exact GC.loc2 hz ⟨rfl, rfl, rfl, rfl, rfl, rfl, trivial⟩
def cpP (S : Rc) (r : Int) (B : Nat) (x : Int) (q c : Nat) : Bool := decide ((plS S r B q c q).1 0 = x)
/-- the first one below k of which p is so -/
def fsN (p : Nat → Bool) : Nat → Option Nat
  | 0 => none
  | k + 1 => (fsN p k).or (if p k = true then some k else none)
theorem fsN_more {p : Nat → Bool} {a : Nat} (h : fsN p a ≠ none) : ∀ b : Nat, fsN p (a + b) = fsN p a
  | 0 => rfl
  | b + 1 => by
    have ih := fsN_more h b
    show (fsN p (a + b)).or _ = _
    rw [ih]
    cases e : fsN p a with
    | none => exact absurd e h
    | some c => rfl
theorem fsN_hit {p : Nat → Bool} {a n : Nat} (h : fsN p a = none) (hp : p a = true) (hn : a < n) : fsN p n = some a := by
  obtain ⟨d, rfl⟩ : ∃ d : Nat, n = (a + 1) + d := ⟨n - (a + 1), by omega⟩
  have e : fsN p (a + 1) = some a := by
    show (fsN p a).or (if p a = true then some a else none) = some a
    rw [h, if_pos hp]
    rfl
  rw [fsN_more (by rw [e]; simp) d, e]
theorem fsN_skip {p : Nat → Bool} {a : Nat} (h : fsN p a = none) (hp : ¬ p a = true) : fsN p (a + 1) = none := by
  show (fsN p a).or (if p a = true then some a else none) = none
  rw [h, if_neg hp]
  rfl
def cpN (S : Rc) (r : Int) (B : Nat) (x : Int) : Nat → Option (Nat × Nat)
  | 0 => none
  | q + 1 => (cpN S r B x q).or ((fsN (cpP S r B x q) (B ^ q)).map (fun c => (q, c)))
theorem cpN_more {S : Rc} {r x : Int} {B a : Nat} (h : cpN S r B x a ≠ none) : ∀ b : Nat, cpN S r B x (a + b) = cpN S r B x a
  | 0 => rfl
  | b + 1 => by
    have ih := cpN_more h b
    show (cpN S r B x (a + b)).or _ = _
    rw [ih]
    cases e : cpN S r B x a with
    | none => exact absurd e h
    | some c => rfl
theorem cpN_hit {S : Rc} {r x : Int} {B q c : Nat} (h : cpN S r B x q = none) (hf : fsN (cpP S r B x q) (B ^ q) = some c) (hq : q < 6) : cpN S r B x 6 = some (q, c) := by
  obtain ⟨d, hd⟩ : ∃ d : Nat, 6 = (q + 1) + d := ⟨6 - (q + 1), by omega⟩
  have e : cpN S r B x (q + 1) = some (q, c) := by
    show (cpN S r B x q).or ((fsN (cpP S r B x q) (B ^ q)).map _) = _
    rw [h, hf]
    rfl
  rw [hd, cpN_more (by rw [e]; simp) d, e]
theorem cpN_skip {S : Rc} {r x : Int} {B q : Nat} (h : cpN S r B x q = none) (hf : fsN (cpP S r B x q) (B ^ q) = none) : cpN S r B x (q + 1) = none := by
  show (cpN S r B x q).or ((fsN (cpP S r B x q) (B ^ q)).map _) = _
  rw [h, hf]
  rfl
def capM (t : Int) (B : Nat) : Option (Nat × Nat) → Int
  | none => -6
  | some z => if t = -1 then (z.1 : Int) else if (z.1 : Int) ≤ t then -5 else ((z.2 / B ^ (z.1 - 1 - t.toNat) % B : Nat) : Int) - 1
set_option maxHeartbeats 2000000 in
theorem lp_M_cape2 {κ : Kx} {μ : MX} {Q : Option Value → (Heap → Prop) → Prop} {m : Mem} {D : Int} {B : Nat} {x r t : Int} (hS : okM D (m 10 0)) (hD : D + 6 ≤ 100000) (hB : (m 10 0).1 1 + 1 = (B : Int)) (hx : 0 ≤ x ∧ x ≤ 99) (hr : 0 ≤ r ∧ r < (m 10 0).1 2) (ht : -1 ≤ t ∧ t ≤ 2147483647) (kk : ∀ g : Int → Int, Q (some (vi (capM t B (cpN (shM (m 10 0)) r B x 6)))) (World κ (mset m 10 0 ((m 10 0).1, aup (m 10 0).2 11 g)))) {q : Nat} {n0 e0 : Int} (hn0 : n0 = (q : Int)) (hq : q ≤ 5) (he : e0 = ((B ^ q : Nat) : Int)) (hcn : cpN (shM (m 10 0)) r B x q = none) (k : fsN (cpP (shM (m 10 0)) r B x q) (B ^ q) = none → ∀ g : Int → Int, GC κ μ (ZZ κ μ 0 0 Q) 0 0 130 [some (.ref (ad κ 10 0)), some (vi x), some (vi r), some (vi t), some (vi n0), none, none] [] (World κ (mset m 10 0 ((m 10 0).1, aup (m 10 0).2 11 g)))) (F : Fx κ G_M_cape 7 0 0 μ) :
    ∀ (n : Nat) (j : Nat) (v : Int) (g : Int → Int), ((B ^ q : Nat) : Int) < j + n → j ≤ B ^ q → v = (j : Int) → fsN (cpP (shM (m 10 0)) r B x q) j = none →  GC κ μ (ZZ κ μ 0 0 Q) 0 0 54 [some (.ref (ad κ 10 0)), some (vi x), some (vi r), some (vi t), some (vi n0), some (vi e0), some (vi v)] [] (World κ (mset m 10 0 ((m 10 0).1, aup (m 10 0).2 11 g))) := by
  have s4 := hS.2.2.2.2.1
  have hbp := pw_r0 (b := B) (n := q) (by omega) (by omega)
  intro n
  induction n with
  | zero =>
    intro j v g hn hj hv hfs
    exact absurd hn (by omega)
  | succ n ih =>
    intro j v g hn hj hv hfs
    have hpj : t < (q : Int) → 1 ≤ ((B ^ (q - 1 - t.toNat) : Nat) : Int) ∧ ((B ^ (q - 1 - t.toNat) : Nat) : Int) ≤ 117649 ∧ ((j / B ^ (q - 1 - t.toNat) : Nat) : Int) ≤ 117649 ∧ 0 ≤ ((j / B ^ (q - 1 - t.toNat) : Nat) : Int) := fun h => by
      have h1 := pw_r (b := B) (n := q - 1 - t.toNat) (by omega) (by omega)
      have h3 : j / B ^ (q - 1 - t.toNat) ≤ j := Nat.div_le_self _ _
      have h4 := nat_pos (j / B ^ (q - 1 - t.toNat))
      omega
    have hdv : t < (q : Int) → v / ((B ^ (q - 1 - t.toNat) : Nat) : Int) = ((j / B ^ (q - 1 - t.toNat) : Nat) : Int) := fun h => by rw [hv, nat_div]
    have hmd : t < (q : Int) → ((j / B ^ (q - 1 - t.toNat) : Nat) : Int) % ((m 10 0).1 1 + 1) = ((j / B ^ (q - 1 - t.toNat) % B : Nat) : Int) := fun h => by rw [hB, nat_mod]
    refine g_iload F a_M_cape_54 rfl ?_
    refine g_iload F a_M_cape_56 rfl ?_
    refine g_icmp_ge F (by first | omega | (have h9 := (plS_ok (okM_S hS) r B q j q).1; omega) | (have h9 := hpj (by omega); omega)) (by first | omega | (have h9 := (plS_ok (okM_S hS) r B q j q).1; omega) | (have h9 := hpj (by omega); omega)) a_M_cape_58 (fun h58 => ?_) (fun h58 => ?_)
    · obtain rfl : j = B ^ q := by omega
      exact GC.loc2 (k hfs _) ⟨rfl, rfl, rfl, rfl, rfl, trivial⟩
    · refine g_aload_n F a_M_cape_61 rfl ?_
      refine g_iload F a_M_cape_62 rfl ?_
      refine g_iload F a_M_cape_64 rfl ?_
      refine g_iload_n F a_M_cape_66 rfl ?_
      refine g_v3 F a_M_cape_67 vc_M_261 mk_M_placeBy ob_10 ck_10.1 rfl rfl (by decide) ⟨Nat.le_refl _, Nat.le_refl _⟩ rfl (Nat.le_of_ble_eq_true rfl) (sp_M_placeBy (D := D) (B := B) (q := q) (c := j) (by exact hS) hD (by exact hB) hv hn0 (by omega) hq (by exact hr) (fun g9 => (GCr.v ?_)))
      (try simp only [mset_app, mset_mset, fup_app, aup_app, fup_fup, aup_aup, false_and, and_false, true_and, and_true, and_self, reduceIte, Nat.reduceEqDiff, reduceCtorEq, fup_10, fs_4_5, fs_4_6, fs_5_6])
      rw [sh_11]
      refine g_iload_n F a_M_cape_70 rfl ?_
      refine g_icmp_ne F (by first | omega | (have h9 := (plS_ok (okM_S hS) r B q j q).1; omega) | (have h9 := hpj (by omega); omega)) (by first | omega | (have h9 := (plS_ok (okM_S hS) r B q j q).1; omega) | (have h9 := hpj (by omega); omega)) a_M_cape_71 (fun h71 => ?_) (fun h71 => ?_)
      · refine g_iinc (ls' := [_, _, _, _, _, _, _]) F a_M_cape_124 rfl rfl rfl ?_
        refine g_goto F a_M_cape_127 ?_
        exact GC.loc2 (ih (j + 1) _ _ (by omega) (by omega) (by omega) (fsN_skip hfs (by unfold cpP; rw [decide_eq_false (by assumption)]; decide))) ⟨rfl, rfl, rfl, rfl, rfl, rfl, rfl, trivial⟩
      · refine g_iload_n F a_M_cape_74 rfl ?_
        refine g_iconst F a_M_cape_75 ?_
        refine g_icmp_ne F (by first | omega | (have h9 := (plS_ok (okM_S hS) r B q j q).1; omega) | (have h9 := hpj (by omega); omega)) (by first | omega | (have h9 := (plS_ok (okM_S hS) r B q j q).1; omega) | (have h9 := hpj (by omega); omega)) a_M_cape_76 (fun h76 => ?_) (fun h76 => ?_)
        · refine g_iload_n F a_M_cape_84 rfl ?_
          refine g_iload F a_M_cape_85 rfl ?_
          refine g_icmp_lt F (by first | omega | (have h9 := (plS_ok (okM_S hS) r B q j q).1; omega) | (have h9 := hpj (by omega); omega)) (by first | omega | (have h9 := (plS_ok (okM_S hS) r B q j q).1; omega) | (have h9 := hpj (by omega); omega)) a_M_cape_87 (fun h87 => ?_) (fun h87 => ?_)
          · refine g_iload F a_M_cape_95 rfl ?_
            refine g_aload_n F a_M_cape_97 rfl ?_
            refine g_aload_n F a_M_cape_98 rfl ?_
            refine g_get_10_1 F a_M_cape_99 fl_M_60 ?_
            (try simp only [mset_app, mset_mset, fup_app, aup_app, fup_fup, aup_aup, false_and, and_false, true_and, and_true, and_self, reduceIte, Nat.reduceEqDiff, reduceCtorEq, fup_10, fs_4_5, fs_4_6, fs_5_6])
            refine g_iconst F a_M_cape_102 ?_
            refine g_iadd F a_M_cape_103 ?_
            refine g_iload F a_M_cape_104 rfl ?_
            refine g_iconst F a_M_cape_106 ?_
            refine g_isub F a_M_cape_107 ?_
            refine g_iload_n F a_M_cape_108 rfl ?_
            refine g_isub F a_M_cape_109 ?_
            refine g_v2 F a_M_cape_110 vc_M_255 mk_M_power ob_10 ck_10.1 rfl rfl (by decide) ⟨Nat.le_refl _, Nat.le_refl _⟩ rfl (Nat.le_of_ble_eq_true rfl) (sp_M_power (b := B) (q := q - 1 - t.toNat) (by exact hB) (by omega) (by omega) (GCr.v ?_))
            (try simp only [mset_app, mset_mset, fup_app, aup_app, fup_fup, aup_aup, false_and, and_false, true_and, and_true, and_self, reduceIte, Nat.reduceEqDiff, reduceCtorEq, fup_10, fs_4_5, fs_4_6, fs_5_6])
            refine g_idiv F (by first | omega | (have h9 := (plS_ok (okM_S hS) r B q j q).1; omega) | (have h9 := hpj (by omega); omega)) (by first | omega | (have h9 := (plS_ok (okM_S hS) r B q j q).1; omega) | (have h9 := hpj (by omega); omega)) a_M_cape_113 ?_
            rw [hdv (by omega)]
            refine g_aload_n F a_M_cape_114 rfl ?_
            refine g_get_10_1 F a_M_cape_115 fl_M_60 ?_
            (try simp only [mset_app, mset_mset, fup_app, aup_app, fup_fup, aup_aup, false_and, and_false, true_and, and_true, and_self, reduceIte, Nat.reduceEqDiff, reduceCtorEq, fup_10, fs_4_5, fs_4_6, fs_5_6])
            refine g_iconst F a_M_cape_118 ?_
            refine g_iadd F a_M_cape_119 ?_
            refine g_irem F (by first | omega | (have h9 := (plS_ok (okM_S hS) r B q j q).1; omega) | (have h9 := hpj (by omega); omega)) (by first | omega | (have h9 := (plS_ok (okM_S hS) r B q j q).1; omega) | (have h9 := hpj (by omega); omega)) a_M_cape_120 ?_
            rw [hmd (by omega)]
            refine g_iconst F a_M_cape_121 ?_
            refine g_isub F a_M_cape_122 ?_
            refine g_iret F a_M_cape_123 rfl ⟨Nat.le_refl _, Nat.le_refl _⟩ ?_
            have hp9 : cpP (shM (m 10 0)) r B x q j = true := decide_eq_true (by assumption)
            have hc9 := cpN_hit hcn (fsN_hit hfs hp9 (by omega)) (by omega)
            exact qv (kk _) (by rw [hc9]; unfold capM; dsimp only; rw [if_neg (by assumption), if_neg (by omega)])
          · refine g_bipush F a_M_cape_90 (by decide) ?_
            refine g_goto F a_M_cape_92 ?_
            refine g_iret F a_M_cape_123 rfl ⟨Nat.le_refl _, Nat.le_refl _⟩ ?_
            have hp9 : cpP (shM (m 10 0)) r B x q j = true := decide_eq_true (by assumption)
            have hc9 := cpN_hit hcn (fsN_hit hfs hp9 (by omega)) (by omega)
            exact qv (kk _) (by rw [hc9]; unfold capM; dsimp only; rw [if_neg (by assumption), if_pos (by omega)])
        · refine g_iload F a_M_cape_79 rfl ?_
          refine g_goto F a_M_cape_81 ?_
          refine g_iret F a_M_cape_123 rfl ⟨Nat.le_refl _, Nat.le_refl _⟩ ?_
          have hp9 : cpP (shM (m 10 0)) r B x q j = true := decide_eq_true (by assumption)
          have hc9 := cpN_hit hcn (fsN_hit hfs hp9 (by omega)) (by omega)
          exact qv (kk _) (by rw [hc9]; unfold capM; dsimp only; rw [if_pos (by assumption)]; omega)
set_option maxHeartbeats 2000000 in
theorem lp_M_cape1 {κ : Kx} {μ : MX} {Q : Option Value → (Heap → Prop) → Prop} {m : Mem} {D : Int} {B : Nat} {x r t : Int} (hS : okM D (m 10 0)) (hD : D + 6 ≤ 100000) (hB : (m 10 0).1 1 + 1 = (B : Int)) (hx : 0 ≤ x ∧ x ≤ 99) (hr : 0 ≤ r ∧ r < (m 10 0).1 2) (ht : -1 ≤ t ∧ t ≤ 2147483647) (kk : ∀ g : Int → Int, Q (some (vi (capM t B (cpN (shM (m 10 0)) r B x 6)))) (World κ (mset m 10 0 ((m 10 0).1, aup (m 10 0).2 11 g))))  (F : Fx κ G_M_cape 7 0 0 μ) :
    ∀ (n : Nat) (q : Nat) (n0 : Int) (g : Int → Int), 6 < q + n → q ≤ 6 → n0 = (q : Int) → cpN (shM (m 10 0)) r B x q = none →  GC κ μ (ZZ κ μ 0 0 Q) 0 0 31 [some (.ref (ad κ 10 0)), some (vi x), some (vi r), some (vi t), some (vi n0), none, none] [] (World κ (mset m 10 0 ((m 10 0).1, aup (m 10 0).2 11 g))) := by
  have s4 := hS.2.2.2.2.1
  intro n
  induction n with
  | zero =>
    intro q n0 g hn hq hn0 hcn
    exact absurd hn (by omega)
  | succ n ih =>
    intro q n0 g hn hq hn0 hcn
    refine g_iload F a_M_cape_31 rfl ?_
    refine g_iconst F a_M_cape_33 ?_
    refine g_icmp_gt F (by omega) (by omega) a_M_cape_34 (fun h34 => ?_) (fun h34 => ?_)
    · refine g_bipush F a_M_cape_136 (by decide) ?_
      refine g_iret F a_M_cape_138 rfl ⟨Nat.le_refl _, Nat.le_refl _⟩ ?_
      obtain rfl : q = 6 := by omega
      exact qv (kk _) (by rw [hcn]; rfl)
    · refine g_aload_n F a_M_cape_37 rfl ?_
      refine g_aload_n F a_M_cape_38 rfl ?_
      refine g_get_10_1 F a_M_cape_39 fl_M_60 ?_
      (try simp only [mset_app, mset_mset, fup_app, aup_app, fup_fup, aup_aup, false_and, and_false, true_and, and_true, and_self, reduceIte, Nat.reduceEqDiff, reduceCtorEq, fup_10, fs_4_5, fs_4_6, fs_5_6])
      refine g_iconst F a_M_cape_42 ?_
      refine g_iadd F a_M_cape_43 ?_
      refine g_iload F a_M_cape_44 rfl ?_
      refine g_v2 F a_M_cape_46 vc_M_255 mk_M_power ob_10 ck_10.1 rfl rfl (by decide) ⟨Nat.le_refl _, Nat.le_refl _⟩ rfl (Nat.le_of_ble_eq_true rfl) (sp_M_power (b := B) (q := q) (by exact hB) (by omega) (by omega) (GCr.v ?_))
      (try simp only [mset_app, mset_mset, fup_app, aup_app, fup_fup, aup_aup, false_and, and_false, true_and, and_true, and_self, reduceIte, Nat.reduceEqDiff, reduceCtorEq, fup_10, fs_4_5, fs_4_6, fs_5_6])
      refine g_istore (ls' := [_, _, _, _, _, _, _]) F a_M_cape_49 rfl rfl rfl ?_
      refine g_iconst F a_M_cape_51 ?_
      refine g_istore (ls' := [_, _, _, _, _, _, _]) F a_M_cape_52 rfl rfl rfl ?_
      refine GC.loc2 (lp_M_cape2 hS hD hB hx hr ht kk (q := q) (n0 := n0) (e0 := ((B ^ q : Nat) : Int)) hn0 (by omega) rfl hcn (fun hf9 g9 => ?_) F (B ^ q + 1) 0 0 g (by omega) (by omega) rfl rfl) ⟨rfl, rfl, rfl, rfl, rfl, rfl, rfl, trivial⟩
      refine g_iinc (ls' := [_, _, _, _, _, _, _]) F a_M_cape_130 rfl rfl rfl ?_
      refine g_goto F a_M_cape_133 ?_
      exact GC.loc2 (ih (q + 1) _ _ (by omega) (by omega) (by omega) (cpN_skip hcn hf9)) ⟨rfl, rfl, rfl, rfl, rfl, trivial⟩
set_option maxHeartbeats 1000000 in
theorem sp_M_cape {κ : Kx} {Q : Option Value → (Heap → Prop) → Prop} {m : Mem} {D : Int} {B : Nat} (hS : okM D (m 10 0)) (hD6 : D + 6 ≤ 100000) (hB : (m 10 0).1 1 + 1 = (B : Int)) {x y t : Int} (hx : R32 x) (hy : R32 y) (ht : R32 t) (kb : ¬ ((0 ≤ x ∧ x ≤ 99) ∧ (0 ≤ y ∧ y < (m 10 0).1 2) ∧ -1 ≤ t) → Q (some (vi (-10))) (World κ (bmM m 0))) (k : (0 ≤ x ∧ x ≤ 99) → (0 ≤ y ∧ y < (m 10 0).1 2) → -1 ≤ t → ∀ g : Int → Int, Q (some (vi (capM t B (cpN (shM (m 10 0)) y B x 6)))) (World κ (mset m 10 0 ((m 10 0).1, aup (m 10 0).2 11 g)))) : GG κ G_M_cape 7 0 0 [.ref (ad κ 10 0), vi x, vi y, vi t] (World κ m) Q := by
  have hD : D ≤ 100000 := by omega
  obtain ⟨s0, s1, s2, s3, s4, s5, hfg, hkd, hsh, hgl⟩ := id hS
  refine GG.intro (ls := [some _, some _, some _, some _, none, none, none]) (Nat.le_of_ble_eq_true rfl) rfl (fun μ F => ?_)
  refine g_iload_n F a_M_cape_0 rfl ?_
  refine g_iconst F a_M_cape_1 ?_
  refine g_bipush F a_M_cape_2 (by decide) ?_
  refine g_s3 F a_M_cape_4 sc_M_91 mk_M_in rfl (by decide) ⟨Nat.le_refl _, Nat.le_refl _⟩ rfl (Nat.le_of_ble_eq_true rfl) (sp_M_in (by omega) (by omega) (by omega) (fun c4 => GCr.v ?_) (fun c4 => GCr.v ?_))
  · refine g_ifeq1 F a_M_cape_7 ?_
    refine g_aload_n F a_M_cape_10 rfl ?_
    refine g_iload_n F a_M_cape_11 rfl ?_
    refine g_v1 F a_M_cape_12 vc_M_227 mk_M_isReader ob_10 ck_10.1 rfl rfl (by decide) ⟨Nat.le_refl _, Nat.le_refl _⟩ rfl (Nat.le_of_ble_eq_true rfl) (sp_M_isReader hS hD (by omega) (fun c12 => GCr.v ?_) (fun c12 => GCr.v ?_))
    · refine g_ifeq1 F a_M_cape_15 ?_
      refine g_iload_n F a_M_cape_18 rfl ?_
      refine g_iconst F a_M_cape_19 ?_
      refine g_icmp_ge F (by omega) (by omega) a_M_cape_20 (fun h20 => ?_) (fun h20 => ?_)
      · refine g_iconst F a_M_cape_28 ?_
        refine g_istore (ls' := [_, _, _, _, _, _, _]) F a_M_cape_29 rfl rfl rfl ?_
        have e9 : World κ m = World κ (mset m 10 0 ((m 10 0).1, aup (m 10 0).2 11 ((m 10 0).2 11))) := by rw [aup_self, mset_self]
        rw [e9]
        exact GC.loc2 (lp_M_cape1 hS hD6 hB (by assumption) (by assumption) (by omega) (k (by assumption) (by assumption) (by omega)) F 7 0 0 _ (by omega) (by omega) rfl rfl) ⟨rfl, rfl, rfl, rfl, rfl, trivial⟩
      · refine g_aload_n F a_M_cape_23 rfl ?_
        refine g_v0 F a_M_cape_24 vc_M_258 mk_M_ten ob_10 ck_10.1 rfl rfl (by decide) ⟨Nat.le_refl _, Nat.le_refl _⟩ rfl (Nat.le_of_ble_eq_true rfl) (sp_M_ten  (GCr.v ?_))
        refine g_iret F a_M_cape_27 rfl ⟨Nat.le_refl _, Nat.le_refl _⟩ ?_
        exact kb (by omega)
    · refine g_ifeq0 F a_M_cape_15 ?_
      refine g_aload_n F a_M_cape_23 rfl ?_
      refine g_v0 F a_M_cape_24 vc_M_258 mk_M_ten ob_10 ck_10.1 rfl rfl (by decide) ⟨Nat.le_refl _, Nat.le_refl _⟩ rfl (Nat.le_of_ble_eq_true rfl) (sp_M_ten  (GCr.v ?_))
      refine g_iret F a_M_cape_27 rfl ⟨Nat.le_refl _, Nat.le_refl _⟩ ?_
      exact kb (by omega)
  · refine g_ifeq0 F a_M_cape_7 ?_
    refine g_aload_n F a_M_cape_23 rfl ?_
    refine g_v0 F a_M_cape_24 vc_M_258 mk_M_ten ob_10 ck_10.1 rfl rfl (by decide) ⟨Nat.le_refl _, Nat.le_refl _⟩ rfl (Nat.le_of_ble_eq_true rfl) (sp_M_ten  (GCr.v ?_))
    refine g_iret F a_M_cape_27 rfl ⟨Nat.le_refl _, Nat.le_refl _⟩ ?_
    exact kb (by omega)
