theorem Ag7 {R R' : Rc} (h3 : ∀ k : Nat, R.1 k = R'.1 k) (a0 : ∀ x : Int, 0 ≤ x ∧ x < 6 → R.2 0 x = R'.2 0 x) (a1 : ∀ x : Int, 0 ≤ x ∧ x < 6 → R.2 1 x = R'.2 1 x) (a2 : ∀ x : Int, 0 ≤ x ∧ x < 6 → R.2 2 x = R'.2 2 x) : Ag 7 R R' := by
  refine ⟨fun k _ => h3 k, fun j hj k h0 h1 => ?_⟩
  · match j, hj with
    | 0, _ => exact a0 k ⟨h0, h1⟩
    | 1, _ => exact a1 k ⟨h0, h1⟩
    | 2, _ => exact a2 k ⟨h0, h1⟩
    | n + 3, h => exact absurd h (by show ¬ n + 3 < 3; omega)
def tkN (R : Rc) (s : Int) : Nat → Bool
  | 0 => false
  | n + 1 => tkN R s n || decide (R.2 2 n = s)
theorem tkN_mono {R : Rc} {s : Int} {p b : Nat} (h : p ≤ b) (hb : tkN R s b = false) : tkN R s p = false := by
  induction b with
  | zero => rw [show p = 0 by omega]; rfl
  | succ b ih =>
    by_cases e : p = b + 1
    · rw [e]; exact hb
    · refine ih (by omega) ?_
      unfold tkN at hb
      simp only [Bool.or_eq_false_iff] at hb
      exact hb.1
def wK (R : Rc) : Rc := (fup R.1 3 (R.1 3 + 1), if R.1 3 = 0 then aup R.2 0 (R.2 1) else R.2)
def wPut (R : Rc) (p r s : Int) : Rc := (R.1, aup (aup R.2 1 (gup (R.2 1) p r)) 2 (gup (R.2 2) p s))
def wF (g : Nat → Rc → Rc) : Nat → Rc → Rc
  | 0, R => R
  | n + 1, R => g n (wF g n R)
def wA (S : Rc) : Nat → Int → Rc → Rc
  | 0, _, R => wK R
  | f + 1, p, R => wF (fun r R => if tkN R (sgt S p r) p.toNat = true then R else wA S f (p + 1) (wPut R p r (sgt S p r))) (S.1 5).toNat R
/-- one READER of man p -/
def wS (S : Rc) (f : Nat) (p : Int) (r : Nat) (R : Rc) : Rc := if tkN R (sgt S p r) p.toNat = true then R else wA S f (p + 1) (wPut R p r (sgt S p r))
theorem wA_succ (S : Rc) (f : Nat) (p : Int) (R : Rc) : wA S (f + 1) p R = wF (wS S f p) (S.1 5).toNat R := rfl
def wc (t : Int) : Nat → Int
  | 0 => 0
  | n + 1 => wc t n + t
theorem wc4 (t : Int) : wc t 4 = 4 * t := by simp only [wc]; omega
theorem wc_le {t : Int} (ht : 0 ≤ t) {n : Nat} (hn : n ≤ 3) : wc t n ≤ 4 * t := by
  match n, hn with
  | 0, _ => simp only [wc]; omega
  | 1, _ => simp only [wc]; omega
  | 2, _ => simp only [wc]; omega
  | 3, _ => simp only [wc]; omega
theorem wc_0 {t : Int} (ht : 0 ≤ t) : ∀ n : Nat, 0 ≤ wc t n
  | 0 => by simp [wc]
  | n + 1 => by
    have := wc_0 ht n
    simp only [wc]
    omega
theorem p4 (f : Nat) : (1 : Int) ≤ 4 ^ f := by
  induction f with
  | zero => decide
  | succ f ih => rw [Int.pow_succ]; omega
theorem wF_r {g : Nat → Rc → Rc} {t : Int} (h : ∀ (n : Nat) (R : Rc), R.1 3 ≤ (g n R).1 3 ∧ (g n R).1 3 ≤ R.1 3 + t) : ∀ (n : Nat) (R : Rc), R.1 3 ≤ (wF g n R).1 3 ∧ (wF g n R).1 3 ≤ R.1 3 + wc t n
  | 0, R => by simp [wF, wc]
  | n + 1, R => by
    have ih := wF_r h n R
    have h1 := h n (wF g n R)
    simp only [wF, wc]
    omega
theorem wF_s {g : Nat → Rc → Rc} {k : Int} (h : ∀ (n : Nat) (R : Rc), (g n R).2 2 k = R.2 2 k) : ∀ (n : Nat) (R : Rc), (wF g n R).2 2 k = R.2 2 k
  | 0, R => rfl
  | n + 1, R => (h n (wF g n R)).trans (wF_s h n R)
theorem wA_r {S : Rc} (h : (S.1 5).toNat ≤ 3) : ∀ (f : Nat) (p : Int) (R : Rc), R.1 3 ≤ (wA S f p R).1 3 ∧ (wA S f p R).1 3 ≤ R.1 3 + 4 ^ f
  | 0, p, R => by
    show R.1 3 ≤ R.1 3 + 1 ∧ R.1 3 + 1 ≤ R.1 3 + 4 ^ 0
    simp only [Int.pow_zero]
    omega
  | f + 1, p, R => by
    have hp := p4 f
    have h1 := wF_r (g := wS S f p) (t := 4 ^ f) (fun n R => by
      unfold wS
      split
      · omega
      · exact wA_r h f (p + 1) (wPut R p n (sgt S p n))) (S.1 5).toNat R
    have h2 := wc_le (t := 4 ^ f) (by omega) h
    rw [wA_succ, Int.pow_succ]
    omega
theorem wA_s {S : Rc} {k : Int} : ∀ (f : Nat) (p : Int) (R : Rc), k < p → (wA S f p R).2 2 k = R.2 2 k
  | 0, p, R, h => by
    show (if R.1 3 = 0 then aup R.2 0 (R.2 1) else R.2) 2 k = R.2 2 k
    split <;> rfl
  | f + 1, p, R, h => by
    rw [wA_succ]
    refine wF_s (fun n R => ?_) _ _
    unfold wS
    split
    · rfl
    · rw [wA_s f (p + 1) _ (by omega)]
      show gup (R.2 2) p _ k = R.2 2 k
      unfold gup
      rw [if_neg (by omega)]
set_option maxHeartbeats 2000000 in
theorem lp_W_tk {κ : Kx} {μ : MX} {Q : Option Value → (Heap → Prop) → Prop} {m : Mem} {p s : Int} (hp : 0 ≤ p ∧ p ≤ 6) (hs : R32 s) (hg : ∀ x : Int, 0 ≤ x ∧ x < p → 0 ≤ (m 7 0).2 2 x ∧ (m 7 0).2 2 x ≤ 95) (k1 : tkN (m 7 0) s p.toNat = true → Q (some (vi 1)) (World κ m)) (k0 : tkN (m 7 0) s p.toNat = false → Q (some (vi 0)) (World κ m)) (F : Fx κ G_W_isTaken 0 0 0 μ) :
    ∀ (n : Nat) (j : Nat) (x : Int), p < j + n → (j : Int) ≤ p → x = j → tkN (m 7 0) s j = false →  GC κ μ (ZZ κ μ 0 0 Q) 0 0 2 [some (.ref (ad κ 7 0)), some (vi p), some (vi s), some (vi x)] [] (World κ m) := by
  intro n
  induction n with
  | zero =>
    intro j x hn hj hx ht
    exact absurd hn (by omega)
  | succ n ih =>
    intro j x hn hj hx ht
    refine g_iload_n F a_W_isTaken_2 rfl ?_
    refine g_iload_n F a_W_isTaken_3 rfl ?_
    refine g_icmp_ge F (by first | omega | (have := hg x (by omega); omega)) (by first | omega | (have := hg x (by omega); omega)) a_W_isTaken_4 (fun h4 => ?_) (fun h4 => ?_)
    · refine g_iconst F a_W_isTaken_25 ?_
      refine g_zret F a_W_isTaken_26 rfl rfl ⟨Nat.le_refl _, Nat.le_refl _⟩ ?_
      exact k0 (by rw [show p.toNat = j by omega]; exact ht)
    · refine g_aload_n F a_W_isTaken_7 rfl ?_
      refine g_get_7_2 F a_W_isTaken_8 fl_W_18 ?_
      refine g_iload_n F a_W_isTaken_11 rfl ?_
      refine g_ild_7_2 F a_W_isTaken_12 (by omega) ?_
      refine g_iload_n F a_W_isTaken_13 rfl ?_
      refine g_icmp_ne F (by first | omega | (have := hg x (by omega); omega)) (by first | omega | (have := hg x (by omega); omega)) a_W_isTaken_14 (fun h14 => ?_) (fun h14 => ?_)
      · refine g_iinc (ls' := [_, _, _, _]) F a_W_isTaken_19 rfl rfl rfl ?_
        refine g_goto F a_W_isTaken_22 ?_
        refine GC.loc2 (ih (j + 1) _ (by omega) (by omega) (by omega) ?_) ⟨rfl, rfl, rfl, rfl, trivial⟩
        unfold tkN
        rw [ht, ← hx, Bool.false_or]
        exact decide_eq_false h14
      · refine g_iconst F a_W_isTaken_17 ?_
        refine g_zret F a_W_isTaken_18 rfl rfl ⟨Nat.le_refl _, Nat.le_refl _⟩ ?_
        refine k1 ?_
        cases e : tkN (m 7 0) s p.toNat with
        | true => rfl
        | false =>
          exfalso
          have q := tkN_mono (p := j + 1) (by omega) e
          unfold tkN at q
          rw [ht, ← hx, Bool.false_or] at q
          exact of_decide_eq_false q h14
set_option maxHeartbeats 1000000 in
theorem sp_W_isTaken {κ : Kx} {Q : Option Value → (Heap → Prop) → Prop} {m : Mem} {p s : Int} (hp : 0 ≤ p ∧ p ≤ 6) (hs : R32 s) (hg : ∀ x : Int, 0 ≤ x ∧ x < p → 0 ≤ (m 7 0).2 2 x ∧ (m 7 0).2 2 x ≤ 95) (k1 : tkN (m 7 0) s p.toNat = true → Q (some (vi 1)) (World κ m)) (k0 : tkN (m 7 0) s p.toNat = false → Q (some (vi 0)) (World κ m)) : GG κ G_W_isTaken 0 0 0 [.ref (ad κ 7 0), vi p, vi s] (World κ m) Q := by
  refine GG.intro (ls := [some _, some _, some _, none]) (Nat.le_of_ble_eq_true rfl) rfl (fun μ F => ?_)
  refine g_iconst F a_W_isTaken_0 ?_
  refine g_istore_n (ls' := [_, _, _, _]) F a_W_isTaken_1 rfl rfl rfl ?_
  exact GC.loc2 (lp_W_tk hp hs hg k1 k0 F 8 0 _ (by omega) (by omega) rfl rfl) ⟨rfl, rfl, rfl, rfl, trivial⟩
set_option maxHeartbeats 1000000 in
theorem sp_W_keep {κ : Kx} {Q : Option Value → (Heap → Prop) → Prop} {m : Mem} (hf : 0 ≤ (m 7 0).1 3 ∧ (m 7 0).1 3 ≤ 100000) (k : Q none (World κ (mset m 7 0 (wK (m 7 0))))) : GG κ G_W_keep 1 0 0 [.ref (ad κ 7 0)] (World κ m) Q := by
  refine GG.intro (ls := [some _]) (Nat.le_of_ble_eq_true rfl) rfl (fun μ F => ?_)
  refine g_aload_n F a_W_keep_0 rfl ?_
  refine g_get_7_3 F a_W_keep_1 fl_W_21 ?_
  refine g_if_ne F (by omega) a_W_keep_4 (fun h4 => ?_) (fun h4 => ?_)
  · refine g_aload_n F a_W_keep_22 rfl ?_
    refine g_dup F a_W_keep_23 rfl ?_
    refine g_get_7_3 F a_W_keep_24 fl_W_21 ?_
    refine g_iconst F a_W_keep_27 ?_
    refine g_iadd F a_W_keep_28 ?_
    refine g_put_7_3 F a_W_keep_29 fl_W_21 ?_
    (try simp only [mset_app, mset_mset, fup_app, aup_app, fup_fup, aup_aup, false_and, and_false, true_and, and_true, and_self, reduceIte, Nat.reduceEqDiff, reduceCtorEq, fup_10])
    refine g_ret F a_W_keep_32 rfl ⟨Nat.le_refl _, Nat.le_refl _⟩ ?_
    refine qs k (Ag7 (fun _ => rfl) (fun x hx => ?_) (fun x hx => ?_) (fun x hx => ?_)) <;> unfold wK <;> first | rw [if_neg h4] | (try rw [if_pos h4]) <;> first | rfl | (simp only [aup_app, reduceIte]; exact cpyI_0 _ _ hx)
  · refine g_aload_n F a_W_keep_7 rfl ?_
    refine g_get_7_1 F a_W_keep_8 fl_W_15 ?_
    refine g_iconst F a_W_keep_11 ?_
    refine g_aload_n F a_W_keep_12 rfl ?_
    refine g_get_7_0 F a_W_keep_13 fl_W_9 ?_
    refine g_iconst F a_W_keep_16 ?_
    refine g_bipush F a_W_keep_17 (by decide) ?_
    refine g_copy F a_W_keep_19 sy_W_48 (show 0 < cnt 7 by decide) (show 1 < acnt 7 by decide) (fun _ => rfl) (show 0 < cnt 7 by decide) (show 0 < acnt 7 by decide) (fun _ => rfl) rfl (by decide) (Nat.le_of_ble_eq_true rfl) (by decide) (by decide) ?_
    (try simp only [mset_app, mset_mset, fup_app, aup_app, fup_fup, aup_aup, false_and, and_false, true_and, and_true, and_self, reduceIte, Nat.reduceEqDiff, reduceCtorEq, fup_10])
    refine g_aload_n F a_W_keep_22 rfl ?_
    refine g_dup F a_W_keep_23 rfl ?_
    refine g_get_7_3 F a_W_keep_24 fl_W_21 ?_
    (try simp only [mset_app, mset_mset, fup_app, aup_app, fup_fup, aup_aup, false_and, and_false, true_and, and_true, and_self, reduceIte, Nat.reduceEqDiff, reduceCtorEq, fup_10])
    refine g_iconst F a_W_keep_27 ?_
    refine g_iadd F a_W_keep_28 ?_
    refine g_put_7_3 F a_W_keep_29 fl_W_21 ?_
    (try simp only [mset_app, mset_mset, fup_app, aup_app, fup_fup, aup_aup, false_and, and_false, true_and, and_true, and_self, reduceIte, Nat.reduceEqDiff, reduceCtorEq, fup_10])
    refine g_ret F a_W_keep_32 rfl ⟨Nat.le_refl _, Nat.le_refl _⟩ ?_
    refine qs k (Ag7 (fun _ => rfl) (fun x hx => ?_) (fun x hx => ?_) (fun x hx => ?_)) <;> unfold wK <;> first | rw [if_neg h4] | (try rw [if_pos h4]) <;> first | rfl | (simp only [aup_app, reduceIte]; exact cpyI_0 _ _ hx)
def wAs (κ : Kx) (i : Nat) (D : Int) (f : Nat) : Prop := ∀ (Q : Option Value → (Heap → Prop) → Prop) (m : Mem) (p : Int), okS D (m 2 i) → 0 ≤ p → p + f = (m 2 i).1 4 → 0 ≤ (m 7 0).1 3 ∧ (m 7 0).1 3 + 4 ^ f ≤ 100000 → (∀ x : Int, 0 ≤ x ∧ x < p → 0 ≤ (m 7 0).2 2 x ∧ (m 7 0).2 2 x ≤ 95) → Q none (World κ (mset m 7 0 (wA (m 2 i) f p (m 7 0)))) → GG κ G_W_assign (f + 4) 0 0 [.ref (ad κ 7 0), .ref (ad κ 2 i), vi p] (World κ m) Q
set_option maxHeartbeats 2000000 in
theorem lp_W_as {κ : Kx} {μ : MX} {Q : Option Value → (Heap → Prop) → Prop} {m : Mem} {D : Int} {i f : Nat} {p : Int} (sp_W_assign : wAs κ i D f) (hi : i < 9) (hS : okS D (m 2 i)) (hD : D ≤ 100000) (hp : 0 ≤ p) (hpf : p + (f + 1) = (m 2 i).1 4) (k : Q none (World κ (mset m 7 0 (wA (m 2 i) (f + 1) p (m 7 0))))) (F : Fx κ G_W_assign (f + 1 + 4) 0 0 μ) :
    ∀ (n : Nat) (j : Nat) (x : Int) (R : Rc), (m 2 i).1 5 < j + n → (j : Int) ≤ (m 2 i).1 5 → x = j → R = wF (wS (m 2 i) f p) j (m 7 0) → 0 ≤ R.1 3 ∧ R.1 3 + wc (4 ^ f) n ≤ 100000 → (∀ x : Int, 0 ≤ x ∧ x < p → 0 ≤ R.2 2 x ∧ R.2 2 x ≤ 95) →  GC κ μ (ZZ κ μ 0 0 Q) 0 0 21 [some (.ref (ad κ 7 0)), some (.ref (ad κ 2 i)), some (vi p), some (vi x), none] [] (World κ (mset m 7 0 R)) := by
  obtain ⟨h0, h1, h2, h3, h4, h5, hfg, hkd, hsh, hgl⟩ := id hS
  have hp4 := p4 f
  intro n
  induction n with
  | zero =>
    intro j x R hn hj hx hR hb hg
    exact absurd hn (by omega)
  | succ n ih =>
    intro j x R hn hj hx hR hb hg
    have hwz := wc_0 (t := 4 ^ f) (by omega) n
    have hwu : wc (4 ^ f) (n + 1) = wc (4 ^ f) n + 4 ^ f := rfl
    have hsr := sgt_r hS (x := p) (r := x) (by omega)
    refine g_iload_n F a_W_assign_21 rfl ?_
    refine g_aload_n F a_W_assign_22 rfl ?_
    refine g_get_2_5 F a_W_assign_23 fl_W_37 (by first | assumption | decide | omega) ?_
    (try simp only [mset_app, mset_mset, fup_app, aup_app, fup_fup, aup_aup, false_and, and_false, true_and, and_true, and_self, reduceIte, Nat.reduceEqDiff, reduceCtorEq, fup_10])
    refine g_icmp_ge F (by omega) (by omega) a_W_assign_26 (fun h26 => ?_) (fun h26 => ?_)
    · refine g_ret F a_W_assign_76 rfl ⟨Nat.le_refl _, Nat.le_refl _⟩ ?_
      exact qw k (by rw [wA_succ, hR, show ((m 2 i).1 5).toNat = j by omega])
    · refine g_aload_n F a_W_assign_29 rfl ?_
      refine g_iload_n F a_W_assign_30 rfl ?_
      refine g_iload_n F a_W_assign_31 rfl ?_
      refine g_v2 F a_W_assign_32 vc_W_40 mk_H_sightOf (ob_2 (by first | assumption | decide | omega)) ck_2.1 rfl rfl (by omega) ⟨Nat.le_refl _, Nat.le_refl _⟩ rfl (Nat.le_of_ble_eq_true rfl) (sp_H_sightOf (m := mset m 7 0 R) hi hS hD (show _ ∧ _ < (m 2 i).1 4 by omega) (by omega) (GCr.v ?_))
      (try simp only [mset_app, mset_mset, fup_app, aup_app, fup_fup, aup_aup, false_and, and_false, true_and, and_true, and_self, reduceIte, Nat.reduceEqDiff, reduceCtorEq, fup_10])
      refine g_istore (ls' := [_, _, _, _, _]) F a_W_assign_35 rfl rfl rfl ?_
      rw [if_pos (by omega)]
      refine g_aload_n F a_W_assign_37 rfl ?_
      refine g_iload_n F a_W_assign_38 rfl ?_
      refine g_iload F a_W_assign_39 rfl ?_
      refine g_v2 F a_W_assign_41 vc_W_44 mk_W_isTaken ob_7 ck_7.1 rfl rfl (by omega) ⟨Nat.le_refl _, Nat.le_refl _⟩ rfl (Nat.le_of_ble_eq_true rfl) (sp_W_isTaken (m := mset m 7 0 R) (by omega) (by omega) hg (fun c41 => GCr.v ?_) (fun c41 => GCr.v ?_))
      · skip
        refine g_ifne1 F a_W_assign_44 ?_
        refine g_iinc (ls' := [_, _, _, _, _]) F a_W_assign_70 rfl rfl rfl ?_
        refine g_goto F a_W_assign_73 ?_
        refine GC.loc2 (ih (j + 1) _ R (by omega) (by omega) (by omega) ?_ (by omega) hg) ⟨rfl, rfl, rfl, rfl, trivial⟩
        unfold wF
        rw [← hR]
        unfold wS
        rw [if_pos (by rw [← hx]; exact c41)]
      · skip
        refine g_ifne0 F a_W_assign_44 ?_
        refine g_aload_n F a_W_assign_47 rfl ?_
        refine g_get_7_1 F a_W_assign_48 fl_W_15 ?_
        (try simp only [mset_app, mset_mset, fup_app, aup_app, fup_fup, aup_aup, false_and, and_false, true_and, and_true, and_self, reduceIte, Nat.reduceEqDiff, reduceCtorEq, fup_10])
        refine g_iload_n F a_W_assign_51 rfl ?_
        refine g_iload_n F a_W_assign_52 rfl ?_
        refine g_ist_7_1 F a_W_assign_53 (by omega) ?_
        (try simp only [mset_app, mset_mset, fup_app, aup_app, fup_fup, aup_aup, false_and, and_false, true_and, and_true, and_self, reduceIte, Nat.reduceEqDiff, reduceCtorEq, fup_10])
        refine g_aload_n F a_W_assign_54 rfl ?_
        refine g_get_7_2 F a_W_assign_55 fl_W_18 ?_
        (try simp only [mset_app, mset_mset, fup_app, aup_app, fup_fup, aup_aup, false_and, and_false, true_and, and_true, and_self, reduceIte, Nat.reduceEqDiff, reduceCtorEq, fup_10])
        refine g_iload_n F a_W_assign_58 rfl ?_
        refine g_iload F a_W_assign_59 rfl ?_
        refine g_ist_7_2 F a_W_assign_61 (by omega) ?_
        (try simp only [mset_app, mset_mset, fup_app, aup_app, fup_fup, aup_aup, false_and, and_false, true_and, and_true, and_self, reduceIte, Nat.reduceEqDiff, reduceCtorEq, fup_10])
        refine g_aload_n F a_W_assign_62 rfl ?_
        refine g_aload_n F a_W_assign_63 rfl ?_
        refine g_iload_n F a_W_assign_64 rfl ?_
        refine g_iconst F a_W_assign_65 ?_
        refine g_iadd F a_W_assign_66 ?_
        have hbb : 0 ≤ (wPut R p x (sgt (m 2 i) p x)).1 3 ∧ (wPut R p x (sgt (m 2 i) p x)).1 3 + 4 ^ f ≤ 100000 := by
          show 0 ≤ R.1 3 ∧ R.1 3 + 4 ^ f ≤ 100000
          omega
        have hgg : ∀ y : Int, 0 ≤ y ∧ y < p + 1 → 0 ≤ (wPut R p x (sgt (m 2 i) p x)).2 2 y ∧ (wPut R p x (sgt (m 2 i) p x)).2 2 y ≤ 95 := by
          intro y hy
          show 0 ≤ gup (R.2 2) p _ y ∧ gup (R.2 2) p _ y ≤ 95
          unfold gup
          split
          · omega
          · exact hg y (by omega)
        refine g_s3 F a_W_assign_67 sc_W_25 mk_W_assign rfl (by omega) ⟨Nat.le_refl _, Nat.le_refl _⟩ rfl (Nat.le_of_ble_eq_true rfl) (sp_W_assign _ _ _ (by exact hS) (by omega) (show _ = (m 2 i).1 4 by omega) hbb hgg (GCr.n ?_))
        (try simp only [mset_app, mset_mset, fup_app, aup_app, fup_fup, aup_aup, false_and, and_false, true_and, and_true, and_self, reduceIte, Nat.reduceEqDiff, reduceCtorEq, fup_10])
        refine g_iinc (ls' := [_, _, _, _, _]) F a_W_assign_70 rfl rfl rfl ?_
        refine g_goto F a_W_assign_73 ?_
        have hwr := wA_r (S := m 2 i) (by omega) f (p + 1) (wPut R p x (sgt (m 2 i) p x))
        have hw3 : (wPut R p x (sgt (m 2 i) p x)).1 3 = R.1 3 := rfl
        refine GC.loc2 (ih (j + 1) _ (wA (m 2 i) f (p + 1) (wPut R p x (sgt (m 2 i) p x))) (by omega) (by omega) (by omega) ?_ (by omega) ?_) ⟨rfl, rfl, rfl, rfl, trivial⟩
        · unfold wF
          rw [← hR]
          unfold wS
          have c41' : tkN R (sgt (m 2 i) p x) p.toNat = false := c41
          rw [if_neg (by rw [← hx, c41']; decide), ← hx]
        · intro y hy
          rw [wA_s f (p + 1) _ (by omega)]
          exact hgg y (by omega)
theorem wA_ok {κ : Kx} {i : Nat} {D : Int} (hi : i < 9) (hD : D ≤ 100000) : ∀ f : Nat, wAs κ i D f
  | 0 => by
    intro Q m p hS hp hpf hb hg k
    obtain ⟨h0, h1, h2, h3, h4, h5, hfg, hkd, hsh, hgl⟩ := id hS
    refine GG.intro (ls := [some _, some _, some _, none, none]) (Nat.le_of_ble_eq_true rfl) rfl (fun μ F => ?_)
    refine g_iload_n F a_W_assign_0 rfl ?_
    refine g_aload_n F a_W_assign_1 rfl ?_
    refine g_get_2_4 F a_W_assign_2 fl_W_29 (by first | assumption | decide | omega) ?_
    refine g_icmp_ge F (by omega) (by omega) a_W_assign_5 (fun h5 => ?_) (fun h5 => ?_)
    · refine g_aload_n F a_W_assign_14 rfl ?_
      refine g_v0 F a_W_assign_15 vc_W_34 mk_W_keep ob_7 ck_7.1 rfl rfl (by decide) ⟨Nat.le_refl _, Nat.le_refl _⟩ rfl (Nat.le_of_ble_eq_true rfl) (sp_W_keep (by omega) (GCr.n ?_))
      (try simp only [mset_app, mset_mset, fup_app, aup_app, fup_fup, aup_aup, false_and, and_false, true_and, and_true, and_self, reduceIte, Nat.reduceEqDiff, reduceCtorEq, fup_10])
      refine g_ret F a_W_assign_18 rfl ⟨Nat.le_refl _, Nat.le_refl _⟩ ?_
      exact k
    · exfalso; omega

  | f + 1 => by
    intro Q m p hS hp hpf hb hg k
    obtain ⟨h0, h1, h2, h3, h4, h5, hfg, hkd, hsh, hgl⟩ := id hS
    have hp4 := p4 f
    rw [Int.pow_succ] at hb
    have hw4 := wc4 (4 ^ f)
    refine GG.intro (ls := [some _, some _, some _, none, none]) (Nat.le_of_ble_eq_true rfl) rfl (fun μ F => ?_)
    refine g_iload_n F a_W_assign_0 rfl ?_
    refine g_aload_n F a_W_assign_1 rfl ?_
    refine g_get_2_4 F a_W_assign_2 fl_W_29 (by first | assumption | decide | omega) ?_
    refine g_icmp_ge F (by omega) (by omega) a_W_assign_5 (fun h5 => ?_) (fun h5 => ?_)
    · exfalso; omega
    · refine g_iload_n F a_W_assign_8 rfl ?_
      refine g_bipush F a_W_assign_9 (by decide) ?_
      refine g_icmp_lt F (by omega) (by omega) a_W_assign_11 (fun h11 => ?_) (fun h11 => ?_)
      · refine g_iconst F a_W_assign_19 ?_
        refine g_istore_n (ls' := [_, _, _, _, _]) F a_W_assign_20 rfl rfl rfl ?_
        have e : World κ m = World κ (mset m 7 0 (m 7 0)) := by rw [mset_self]
        rw [e]
        exact GC.loc2 (lp_W_as (wA_ok hi hD f) hi hS hD hp (by omega) k F 4 0 _ (m 7 0) (by omega) (by omega) rfl rfl (by omega) hg) ⟨rfl, rfl, rfl, rfl, trivial⟩
      · exfalso; omega
/-- all WATCHES: counted from 0 -/
def waS (S W : Rc) : Rc := wA S (S.1 4).toNat 0 (fup W.1 3 0, W.2)
theorem wa_r {D : Int} {S : Rc} (h : okS D S) (W : Rc) : 0 ≤ (waS S W).1 3 ∧ (waS S W).1 3 ≤ 4096 := by
  have h4 := h.2.2.2.2.1
  have h5 := h.2.2.2.2.2.1
  have h1 := wA_r (S := S) (by omega) (S.1 4).toNat 0 (fup W.1 3 0, W.2)
  have h2 : ∀ n : Nat, n < 7 → (4 : Int) ^ n ≤ 4096 := by decide
  have h3 := h2 (S.1 4).toNat (by omega)
  unfold waS
  have e : (fup W.1 3 0, W.2).1 3 = 0 := rfl
  omega
set_option maxHeartbeats 1000000 in
theorem sp_W_ways {κ : Kx} {Q : Option Value → (Heap → Prop) → Prop} {i : Nat} {m : Mem} {D : Int} (hi : i < 9) (hS : okS D (m 2 i)) (hD : D ≤ 100000) (k : Q (some (vi ((waS (m 2 i) (m 7 0)).1 3))) (World κ (mset m 7 0 (waS (m 2 i) (m 7 0))))) : GG κ G_W_ways 20 0 0 [.ref (ad κ 7 0), .ref (ad κ 2 i)] (World κ m) Q := by
  obtain ⟨h0, h1, h2, h3, h4, h5, hfg, hkd, hsh, hgl⟩ := id hS
  have hpx : ∀ n : Nat, n < 7 → (4 : Int) ^ n ≤ 4096 := by decide
  have hp6 := hpx ((m 2 i).1 4).toNat (by omega)
  refine GG.intro (ls := [some _, some _]) (Nat.le_of_ble_eq_true rfl) rfl (fun μ F => ?_)
  refine g_aload_n F a_W_ways_0 rfl ?_
  refine g_iconst F a_W_ways_1 ?_
  refine g_put_7_3 F a_W_ways_2 fl_W_21 ?_
  (try simp only [mset_app, mset_mset, fup_app, aup_app, fup_fup, aup_aup, false_and, and_false, true_and, and_true, and_self, reduceIte, Nat.reduceEqDiff, reduceCtorEq, fup_10])
  refine g_aload_n F a_W_ways_5 rfl ?_
  refine g_aload_n F a_W_ways_6 rfl ?_
  refine g_iconst F a_W_ways_7 ?_
  refine g_s3 F a_W_ways_8 sc_W_25 mk_W_assign rfl (by omega) ⟨Nat.le_refl _, Nat.le_refl _⟩ rfl (Nat.le_of_ble_eq_true rfl) (wA_ok hi hD ((m 2 i).1 4).toNat _ _ _ (by exact hS) (Int.le_refl 0) (show 0 + _ = (m 2 i).1 4 by omega) (show 0 ≤ 0 ∧ 0 + _ ≤ (100000 : Int) by omega) (fun y hy => absurd hy (by omega))  (GCr.n ?_))
  (try simp only [mset_app, mset_mset, fup_app, aup_app, fup_fup, aup_aup, false_and, and_false, true_and, and_true, and_self, reduceIte, Nat.reduceEqDiff, reduceCtorEq, fup_10])
  refine g_aload_n F a_W_ways_11 rfl ?_
  refine g_get_7_3 F a_W_ways_12 fl_W_21 ?_
  (try simp only [mset_app, mset_mset, fup_app, aup_app, fup_fup, aup_aup, false_and, and_false, true_and, and_true, and_self, reduceIte, Nat.reduceEqDiff, reduceCtorEq, fup_10])
  refine g_iret F a_W_ways_15 rfl ⟨Nat.le_refl _, Nat.le_refl _⟩ ?_
  exact k
