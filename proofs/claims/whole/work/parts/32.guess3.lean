/-- the model's SEEN ones, NOTES, MARKS told as rows -/
def snM (M : Rc) : Rc := (fun k => if k = 0 then M.1 7 else 3, fun _ k => if k % 4 = 3 then 0 else M.2 5 (k / 4 * 3 + k % 4))
def ntM (M : Rc) : Rc := (fun k => if k = 0 then M.1 8 else 4, fun _ k => M.2 6 k)
def mkM (M : Rc) : Rc := (fun k => if k = 0 then M.1 9 else 4, fun _ k => M.2 7 k)
theorem sn_c {M : Rc} {t c : Int} (hc : 0 ≤ c ∧ c < 3) : (snM M).2 0 (t * 4 + c) = M.2 5 (t * 3 + c) := by
  show (if (t * 4 + c) % 4 = 3 then 0 else M.2 5 ((t * 4 + c) / 4 * 3 + (t * 4 + c) % 4)) = _
  rw [if_neg (by omega)]
  exact congrArg (M.2 5) (by omega)
theorem clN_s {S : Rc} {d : Int} {n : Nat} : clN S d (n + 1) = clN S d n + if S.2 0 n = 0 then (d + 6 - 1 - n) / 6 else 0 := rfl
theorem clN_0 (S : Rc) : ∀ n : Nat, n ≤ 6 → clN S 0 n = 0
  | 0, _ => rfl
  | n + 1, h => by
    rw [clN_s, clN_0 S n (by omega)]
    split <;> omega
theorem clN_day (S : Rc) {d : Int} (hd : 0 ≤ d) : ∀ n : Nat, n ≤ 6 → clN S (d + 1) n = clN S d n + if d % 6 < n ∧ S.2 0 (d % 6) = 0 then 1 else 0
  | 0, _ => by
    rw [if_neg (by omega)]
    rfl
  | n + 1, h => by
    have ih := clN_day S hd n (by omega)
    rw [clN_s, clN_s, ih]
    by_cases e : d % 6 = (n : Int)
    · rw [← e]
      by_cases f : S.2 0 (d % 6) = 0
      · rw [if_pos f, if_pos f, if_neg (by omega), if_pos ⟨by omega, f⟩]
        omega
      · rw [if_neg f, if_neg f, if_neg (fun q => f q.2), if_neg (fun q => f q.2)]
    · have e1 : (d + 1 + 6 - 1 - n) / 6 = (d + 6 - 1 - n) / 6 := by omega
      rw [e1]
      generalize (if S.2 0 n = 0 then (d + 6 - 1 - n) / 6 else 0) = z
      by_cases f : d % 6 < (n : Int) ∧ S.2 0 (d % 6) = 0
      · rw [if_pos f, if_pos ⟨by omega, f.2⟩]
        omega
      · rw [if_neg f, if_neg (fun q => f ⟨by omega, q.2⟩)]
        omega
set_option maxHeartbeats 2000000 in
theorem lp_M_shameOn {κ : Kx} {μ : MX} {Q : Option Value → (Heap → Prop) → Prop} {m : Mem} {D : Int} (hS : okM D (m 10 0)) (hD : D ≤ 100000) {a d : Int} (ha : 0 ≤ a ∧ a ≤ 90) (hd : 0 ≤ d ∧ d ≤ 99) (k : Q (some (vi (min (a + 3 * clN (shM (m 10 0)) d 6) 90))) (World κ m)) (F : Fx κ G_M_shameOn 1 0 0 μ) :
    ∀ (n : Nat) (j : Nat) (e y : Int), d < j + n → (j : Int) ≤ d → y = (j : Int) → e = min (a + 3 * clN (shM (m 10 0)) j 6) 90 →  GC κ μ (ZZ κ μ 0 0 Q) 0 0 5 [some (.ref (ad κ 10 0)), some (vi a), some (vi d), some (vi e), some (vi y)] [] (World κ m) := by
  obtain ⟨s0, s1, s2, s3, s4, s5, hfg, hkd, hsh, hgl⟩ := id hS
  intro n
  induction n with
  | zero =>
    intro j e y hn hj hy he
    exact absurd hn (by omega)
  | succ n ih =>
    intro j e y hn hj hy he
    have hcr := clN_r (shM (m 10 0)) j (by omega) 6 (by decide)
    have hcd : clN (shM (m 10 0)) ((j + 1 : Nat) : Int) 6 = clN (shM (m 10 0)) j 6 + if y % 6 < ((6 : Nat) : Int) ∧ (shM (m 10 0)).2 0 (y % 6) = 0 then 1 else 0 := by
      have h9 := clN_day (shM (m 10 0)) (d := j) (by omega) 6 (by decide)
      rw [hy, show ((j + 1 : Nat) : Int) = (j : Int) + 1 by omega]
      exact h9
    have hf6 := hfg (y % 6) (by omega)
    refine g_iload F a_M_shameOn_5 rfl ?_
    refine g_iload_n F a_M_shameOn_7 rfl ?_
    refine g_icmp_ge F (by omega) (by omega) a_M_shameOn_8 (fun h8 => ?_) (fun h8 => ?_)
    · refine g_iload_n F a_M_shameOn_44 rfl ?_
      refine g_iret F a_M_shameOn_45 rfl ⟨Nat.le_refl _, Nat.le_refl _⟩ ?_
      exact qv k (by rw [he, show (j : Int) = d by omega])
    · refine g_aload_n F a_M_shameOn_11 rfl ?_
      refine g_get_10_13 F a_M_shameOn_12 fl_M_22 ?_
      refine g_iload F a_M_shameOn_15 rfl ?_
      refine g_bipush F a_M_shameOn_17 (by decide) ?_
      refine g_irem F (by omega) (by omega) a_M_shameOn_19 ?_
      refine g_ild_10_4 F a_M_shameOn_20 (by omega) ?_
      refine g_iconst F a_M_shameOn_21 ?_
      refine g_icmp_ne F (by omega) (by omega) a_M_shameOn_22 (fun h22 => ?_) (fun h22 => ?_)
      · refine g_bipush F a_M_shameOn_29 (by decide) ?_
        refine g_iload_n F a_M_shameOn_31 rfl ?_
        refine g_iconst F a_M_shameOn_32 ?_
        refine g_iadd F a_M_shameOn_33 ?_
        refine g_s2 F a_M_shameOn_34 sc_M_146 mk_M_lesser rfl (by decide) ⟨Nat.le_refl _, Nat.le_refl _⟩ rfl (Nat.le_of_ble_eq_true rfl) (sp_M_lesser (by omega) (by omega) (GCr.v ?_))
        refine g_istore_n (ls' := [_, _, _, _, _]) F a_M_shameOn_37 rfl rfl rfl ?_
        refine g_iinc (ls' := [_, _, _, _, _]) F a_M_shameOn_38 rfl rfl rfl ?_
        refine g_goto F a_M_shameOn_41 ?_
        exact GC.loc2 (ih (j + 1) _ _ (by omega) (by omega) (by omega) (by rw [if_pos ⟨by omega, show (m 10 0).2 4 (y % 6) = 0 by omega⟩] at hcd; omega)) ⟨rfl, rfl, rfl, rfl, rfl, trivial⟩
      · refine g_iload_n F a_M_shameOn_25 rfl ?_
        refine g_goto F a_M_shameOn_26 ?_
        refine g_istore_n (ls' := [_, _, _, _, _]) F a_M_shameOn_37 rfl rfl rfl ?_
        refine g_iinc (ls' := [_, _, _, _, _]) F a_M_shameOn_38 rfl rfl rfl ?_
        refine g_goto F a_M_shameOn_41 ?_
        exact GC.loc2 (ih (j + 1) _ _ (by omega) (by omega) (by omega) (by rw [if_neg (fun q => by have q2 : (m 10 0).2 4 (y % 6) = 0 := q.2; omega)] at hcd; omega)) ⟨rfl, rfl, rfl, rfl, rfl, trivial⟩
set_option maxHeartbeats 1000000 in
theorem sp_M_shameOn {κ : Kx} {Q : Option Value → (Heap → Prop) → Prop} {m : Mem} {D : Int} (hS : okM D (m 10 0)) (hD : D ≤ 100000) {a d : Int} (ha : 0 ≤ a ∧ a ≤ 90) (hd : 0 ≤ d ∧ d ≤ 99) (k : Q (some (vi (min (a + 3 * clN (shM (m 10 0)) d 6) 90))) (World κ m)) : GG κ G_M_shameOn 1 0 0 [.ref (ad κ 10 0), vi a, vi d] (World κ m) Q := by
  obtain ⟨s0, s1, s2, s3, s4, s5, hfg, hkd, hsh, hgl⟩ := id hS
  refine GG.intro (ls := [some _, some _, some _, none, none]) (Nat.le_of_ble_eq_true rfl) rfl (fun μ F => ?_)
  refine g_iload_n F a_M_shameOn_0 rfl ?_
  refine g_istore_n (ls' := [_, _, _, _, _]) F a_M_shameOn_1 rfl rfl rfl ?_
  refine g_iconst F a_M_shameOn_2 ?_
  refine g_istore (ls' := [_, _, _, _, _]) F a_M_shameOn_3 rfl rfl rfl ?_
  exact GC.loc2 (lp_M_shameOn hS hD ha hd k F (d.toNat + 1) 0 _ _ (by omega) (by omega) rfl (by rw [show (((0 : Nat) : Int)) = 0 from rfl, clN_0 _ 6 (by decide)]; omega)) ⟨rfl, rfl, rfl, rfl, rfl, trivial⟩
theorem mayN_s {S R : Rc} {x s : Int} {n : Nat} : mayN S R x s (n + 1) = (mayN S R x s n && (decide (R.2 0 ((n : Int) * 4) ≠ x) || decide (stn (S.2 1 x) (min (s + 3 * clN S (R.2 0 ((n : Int) * 4 + 1)) 6) 90) (R.2 0 ((n : Int) * 4 + 1)) = R.2 0 ((n : Int) * 4 + 2)))) := rfl
set_option maxHeartbeats 2000000 in
theorem lp_M_may {κ : Kx} {μ : MX} {Q : Option Value → (Heap → Prop) → Prop} {m : Mem} {D : Int} (hS : okM D (m 10 0)) (hD : D ≤ 100000) (hR : okR (snM (m 10 0))) {x s : Int} (hx : 0 ≤ x ∧ x < (m 10 0).1 1) (hs : 0 ≤ s ∧ s ≤ 90) (k1 : mayB (shM (m 10 0)) (snM (m 10 0)) x s = true → Q (some (vi 1)) (World κ m)) (k0 : mayB (shM (m 10 0)) (snM (m 10 0)) x s = false → Q (some (vi 0)) (World κ m)) (F : Fx κ G_M_mayBegin 2 0 0 μ) :
    ∀ (n : Nat) (j : Nat) (e y : Int), (m 10 0).1 7 < j + n → (j : Int) ≤ (m 10 0).1 7 → y = (j : Int) * 3 → e = bI (mayN (shM (m 10 0)) (snM (m 10 0)) x s j) →  GC κ μ (ZZ κ μ 0 0 Q) 0 0 5 [some (.ref (ad κ 10 0)), some (vi x), some (vi s), some (vi e), some (vi y), none] [] (World κ m) := by
  obtain ⟨s0, s1, s2, s3, s4, s5, hfg, hkd, hsh, hgl⟩ := id hS
  obtain ⟨hsz, hwd, hce⟩ := id hR
  have hsz2 : 0 ≤ (m 10 0).1 7 ∧ (m 10 0).1 7 ≤ 6 := hsz
  intro n
  induction n with
  | zero =>
    intro j e y hn hj hy he
    exact absurd hn (by omega)
  | succ n ih =>
    intro j e y hn hj hy he
    have hebr := bI_r (mayN (shM (m 10 0)) (snM (m 10 0)) x s j)
    have c0 : (m 10 0).2 5 y = (snM (m 10 0)).2 0 ((j : Int) * 4) := by
      have := sn_c (M := m 10 0) (t := j) (c := 0) (by decide)
      rw [Int.add_zero, Int.add_zero] at this
      rw [this, hy]
    have c1 : (m 10 0).2 5 (y + 1) = (snM (m 10 0)).2 0 ((j : Int) * 4 + 1) := by rw [sn_c (by decide), hy]
    have c2 : (m 10 0).2 5 (y + 2) = (snM (m 10 0)).2 0 ((j : Int) * 4 + 2) := by rw [sn_c (by decide), hy]
    have r0 : (j : Int) < 6 → 0 ≤ (m 10 0).2 5 y ∧ (m 10 0).2 5 y ≤ 99 := fun h => by rw [c0]; exact hce _ (by omega)
    have r1 : (j : Int) < 6 → 0 ≤ (m 10 0).2 5 (y + 1) ∧ (m 10 0).2 5 (y + 1) ≤ 99 := fun h => by rw [c1]; exact hce _ (by omega)
    have r2 : (j : Int) < 6 → 0 ≤ (m 10 0).2 5 (y + 2) ∧ (m 10 0).2 5 (y + 2) ≤ 99 := fun h => by rw [c2]; exact hce _ (by omega)
    have hcl := fun h : (j : Int) < 6 => clN_r (shM (m 10 0)) _ (r1 h) 6 (by decide)
    have hst := fun h : (j : Int) < 6 => stn_r (k := (m 10 0).2 1 x) (d := (m 10 0).2 5 (y + 1)) (s := min (s + 3 * clN (shM (m 10 0)) ((m 10 0).2 5 (y + 1)) 6) 90) (by have := hcl h; omega)
    refine g_iload F a_M_mayBegin_5 rfl ?_
    refine g_iconst F a_M_mayBegin_7 ?_
    refine g_aload_n F a_M_mayBegin_8 rfl ?_
    refine g_get_10_7 F a_M_mayBegin_9 fl_M_79 ?_
    refine g_imul F a_M_mayBegin_12 ?_
    refine g_icmp_ge F (by omega) (by omega) a_M_mayBegin_13 (fun h13 => ?_) (fun h13 => ?_)
    · obtain rfl : j = ((m 10 0).1 7).toNat := by omega
      rcases (show e = 0 ∨ e = 1 by omega) with rfl | rfl
      · refine g_iload_n F a_M_mayBegin_99 rfl ?_
        refine g_zret F a_M_mayBegin_100 rfl rfl ⟨Nat.le_refl _, Nat.le_refl _⟩ ?_
        exact k0 (bI_0 he.symm)
      · refine g_iload_n F a_M_mayBegin_99 rfl ?_
        refine g_zret F a_M_mayBegin_100 rfl rfl ⟨Nat.le_refl _, Nat.le_refl _⟩ ?_
        exact k1 (bI_1 (b := mayN (shM (m 10 0)) (snM (m 10 0)) x s ((m 10 0).1 7).toNat) (by rw [← he]; decide))
    · refine g_aload_n F a_M_mayBegin_16 rfl ?_
      refine g_get_10_10 F a_M_mayBegin_17 fl_M_13 ?_
      refine g_iload_n F a_M_mayBegin_20 rfl ?_
      refine g_ild_10_1 F a_M_mayBegin_21 (by omega) ?_
      refine g_aload_n F a_M_mayBegin_22 rfl ?_
      refine g_iload_n F a_M_mayBegin_23 rfl ?_
      refine g_aload_n F a_M_mayBegin_24 rfl ?_
      refine g_get_10_14 F a_M_mayBegin_25 fl_M_25 ?_
      refine g_iload F a_M_mayBegin_28 rfl ?_
      refine g_iconst F a_M_mayBegin_30 ?_
      refine g_iadd F a_M_mayBegin_31 ?_
      refine g_ild_10_5 F a_M_mayBegin_32 (by omega) ?_
      refine g_v2 F a_M_mayBegin_33 vc_M_267 mk_M_shameOn ob_10 ck_10.1 rfl rfl (by decide) ⟨Nat.le_refl _, Nat.le_refl _⟩ rfl (Nat.le_of_ble_eq_true rfl) (sp_M_shameOn hS hD (by omega) (by omega) (GCr.v ?_))
      refine g_aload_n F a_M_mayBegin_36 rfl ?_
      refine g_get_10_14 F a_M_mayBegin_37 fl_M_25 ?_
      refine g_iload F a_M_mayBegin_40 rfl ?_
      refine g_iconst F a_M_mayBegin_42 ?_
      refine g_iadd F a_M_mayBegin_43 ?_
      refine g_ild_10_5 F a_M_mayBegin_44 (by omega) ?_
      refine g_s3 F a_M_mayBegin_45 sc_M_196 mk_M_angleBy rfl (by decide) ⟨Nat.le_refl _, Nat.le_refl _⟩ rfl (Nat.le_of_ble_eq_true rfl) (sp_M_angleBy (hkd _ (by omega)) (by omega) (by omega) (GCr.v ?_))
      refine g_aload_n F a_M_mayBegin_48 rfl ?_
      refine g_get_10_14 F a_M_mayBegin_49 fl_M_25 ?_
      refine g_iload F a_M_mayBegin_52 rfl ?_
      refine g_iconst F a_M_mayBegin_54 ?_
      refine g_iadd F a_M_mayBegin_55 ?_
      refine g_ild_10_5 F a_M_mayBegin_56 (by omega) ?_
      refine g_icmp_ne F (by omega) (by omega) a_M_mayBegin_57 (fun h57 => ?_) (fun h57 => ?_)
      · refine g_iconst F a_M_mayBegin_64 ?_
        refine g_istore (ls' := [_, _, _, _, _, _]) F a_M_mayBegin_65 rfl rfl rfl ?_
        refine g_iload_n F a_M_mayBegin_67 rfl ?_
        refine g_if_eq F (by omega) a_M_mayBegin_68 (fun h68 => ?_) (fun h68 => ?_)
        · refine g_iconst F a_M_mayBegin_91 ?_
          refine g_istore_n (ls' := [_, _, _, _, _, _]) F a_M_mayBegin_92 rfl rfl rfl ?_
          refine g_iinc (ls' := [_, _, _, _, _, _]) F a_M_mayBegin_93 rfl rfl rfl ?_
          refine g_goto F a_M_mayBegin_96 ?_
          exact GC.loc2 (ih (j + 1) _ _ (by omega) (by omega) (by omega) (by rw [mayN_s, ← c0, ← c1, ← c2, bI_0 (he.symm.trans (by assumption))]; rfl)) ⟨rfl, rfl, rfl, rfl, rfl, trivial⟩
        · refine g_aload_n F a_M_mayBegin_71 rfl ?_
          refine g_get_10_14 F a_M_mayBegin_72 fl_M_25 ?_
          refine g_iload F a_M_mayBegin_75 rfl ?_
          refine g_ild_10_5 F a_M_mayBegin_77 (by omega) ?_
          refine g_iload_n F a_M_mayBegin_78 rfl ?_
          refine g_icmp_ne F (by omega) (by omega) a_M_mayBegin_79 (fun h79 => ?_) (fun h79 => ?_)
          · refine g_iconst F a_M_mayBegin_87 ?_
            refine g_goto F a_M_mayBegin_88 ?_
            refine g_istore_n (ls' := [_, _, _, _, _, _]) F a_M_mayBegin_92 rfl rfl rfl ?_
            refine g_iinc (ls' := [_, _, _, _, _, _]) F a_M_mayBegin_93 rfl rfl rfl ?_
            refine g_goto F a_M_mayBegin_96 ?_
            exact GC.loc2 (ih (j + 1) _ _ (by omega) (by omega) (by omega) (by rw [mayN_s, ← c0, ← c1, ← c2, bI_1 (fun q => (by assumption : ¬ e = 0) (he.trans q)), decide_eq_true (show (m 10 0).2 5 y ≠ x from by assumption)]; rfl)) ⟨rfl, rfl, rfl, rfl, rfl, trivial⟩
          · refine g_iload F a_M_mayBegin_82 rfl ?_
            refine g_ifeq0 F a_M_mayBegin_84 ?_
            refine g_iconst F a_M_mayBegin_91 ?_
            refine g_istore_n (ls' := [_, _, _, _, _, _]) F a_M_mayBegin_92 rfl rfl rfl ?_
            refine g_iinc (ls' := [_, _, _, _, _, _]) F a_M_mayBegin_93 rfl rfl rfl ?_
            refine g_goto F a_M_mayBegin_96 ?_
            exact GC.loc2 (ih (j + 1) _ _ (by omega) (by omega) (by omega) (by rw [mayN_s, ← c0, ← c1, ← c2, bI_1 (fun q => (by assumption : ¬ e = 0) (he.trans q)), decide_eq_false (show ¬ (m 10 0).2 5 y ≠ x from fun q => q (by assumption)), decide_eq_false (show ¬ stn ((shM (m 10 0)).2 1 x) (min (s + 3 * clN (shM (m 10 0)) ((m 10 0).2 5 (y + 1)) 6) 90) ((m 10 0).2 5 (y + 1)) = (m 10 0).2 5 (y + 2) from h57)]; rfl)) ⟨rfl, rfl, rfl, rfl, rfl, trivial⟩
      · refine g_iconst F a_M_mayBegin_60 ?_
        refine g_goto F a_M_mayBegin_61 ?_
        refine g_istore (ls' := [_, _, _, _, _, _]) F a_M_mayBegin_65 rfl rfl rfl ?_
        refine g_iload_n F a_M_mayBegin_67 rfl ?_
        refine g_if_eq F (by omega) a_M_mayBegin_68 (fun h68 => ?_) (fun h68 => ?_)
        · refine g_iconst F a_M_mayBegin_91 ?_
          refine g_istore_n (ls' := [_, _, _, _, _, _]) F a_M_mayBegin_92 rfl rfl rfl ?_
          refine g_iinc (ls' := [_, _, _, _, _, _]) F a_M_mayBegin_93 rfl rfl rfl ?_
          refine g_goto F a_M_mayBegin_96 ?_
          exact GC.loc2 (ih (j + 1) _ _ (by omega) (by omega) (by omega) (by rw [mayN_s, ← c0, ← c1, ← c2, bI_0 (he.symm.trans (by assumption))]; rfl)) ⟨rfl, rfl, rfl, rfl, rfl, trivial⟩
        · refine g_aload_n F a_M_mayBegin_71 rfl ?_
          refine g_get_10_14 F a_M_mayBegin_72 fl_M_25 ?_
          refine g_iload F a_M_mayBegin_75 rfl ?_
          refine g_ild_10_5 F a_M_mayBegin_77 (by omega) ?_
          refine g_iload_n F a_M_mayBegin_78 rfl ?_
          refine g_icmp_ne F (by omega) (by omega) a_M_mayBegin_79 (fun h79 => ?_) (fun h79 => ?_)
          · refine g_iconst F a_M_mayBegin_87 ?_
            refine g_goto F a_M_mayBegin_88 ?_
            refine g_istore_n (ls' := [_, _, _, _, _, _]) F a_M_mayBegin_92 rfl rfl rfl ?_
            refine g_iinc (ls' := [_, _, _, _, _, _]) F a_M_mayBegin_93 rfl rfl rfl ?_
            refine g_goto F a_M_mayBegin_96 ?_
            exact GC.loc2 (ih (j + 1) _ _ (by omega) (by omega) (by omega) (by rw [mayN_s, ← c0, ← c1, ← c2, bI_1 (fun q => (by assumption : ¬ e = 0) (he.trans q)), decide_eq_true (show (m 10 0).2 5 y ≠ x from by assumption)]; rfl)) ⟨rfl, rfl, rfl, rfl, rfl, trivial⟩
          · refine g_iload F a_M_mayBegin_82 rfl ?_
            refine g_ifeq1 F a_M_mayBegin_84 ?_
            refine g_iconst F a_M_mayBegin_87 ?_
            refine g_goto F a_M_mayBegin_88 ?_
            refine g_istore_n (ls' := [_, _, _, _, _, _]) F a_M_mayBegin_92 rfl rfl rfl ?_
            refine g_iinc (ls' := [_, _, _, _, _, _]) F a_M_mayBegin_93 rfl rfl rfl ?_
            refine g_goto F a_M_mayBegin_96 ?_
            exact GC.loc2 (ih (j + 1) _ _ (by omega) (by omega) (by omega) (by rw [mayN_s, ← c0, ← c1, ← c2, bI_1 (fun q => (by assumption : ¬ e = 0) (he.trans q)), decide_eq_false (show ¬ (m 10 0).2 5 y ≠ x from fun q => q (by assumption)), decide_eq_true (show stn ((shM (m 10 0)).2 1 x) (min (s + 3 * clN (shM (m 10 0)) ((m 10 0).2 5 (y + 1)) 6) 90) ((m 10 0).2 5 (y + 1)) = (m 10 0).2 5 (y + 2) from h57)]; rfl)) ⟨rfl, rfl, rfl, rfl, rfl, trivial⟩
set_option maxHeartbeats 1000000 in
theorem sp_M_mayBegin {κ : Kx} {Q : Option Value → (Heap → Prop) → Prop} {m : Mem} {D : Int} (hS : okM D (m 10 0)) (hD : D ≤ 100000) (hR : okR (snM (m 10 0))) {x s : Int} (hx : 0 ≤ x ∧ x < (m 10 0).1 1) (hs : 0 ≤ s ∧ s ≤ 90) (k1 : mayB (shM (m 10 0)) (snM (m 10 0)) x s = true → Q (some (vi 1)) (World κ m)) (k0 : mayB (shM (m 10 0)) (snM (m 10 0)) x s = false → Q (some (vi 0)) (World κ m)) : GG κ G_M_mayBegin 2 0 0 [.ref (ad κ 10 0), vi x, vi s] (World κ m) Q := by
  obtain ⟨s0, s1, s2, s3, s4, s5, hfg, hkd, hsh, hgl⟩ := id hS
  have hsz : 0 ≤ (m 10 0).1 7 ∧ (m 10 0).1 7 ≤ 6 := hR.1
  refine GG.intro (ls := [some _, some _, some _, none, none, none]) (Nat.le_of_ble_eq_true rfl) rfl (fun μ F => ?_)
  refine g_iconst F a_M_mayBegin_0 ?_
  refine g_istore_n (ls' := [_, _, _, _, _, _]) F a_M_mayBegin_1 rfl rfl rfl ?_
  refine g_iconst F a_M_mayBegin_2 ?_
  refine g_istore (ls' := [_, _, _, _, _, _]) F a_M_mayBegin_3 rfl rfl rfl ?_
  exact GC.loc2 (lp_M_may hS hD hR hx hs k1 k0 F (((m 10 0).1 7).toNat + 1) 0 _ _ (by omega) (by omega) rfl rfl) ⟨rfl, rfl, rfl, rfl, rfl, trivial⟩
theorem cntB_s {S R : Rc} {x : Int} {n : Nat} : cntB S R x (n + 1) = cntB S R x n + if mayB S R x n = true then 1 else 0 := rfl
theorem lstB_s {S R : Rc} {x : Int} {n : Nat} : lstB S R x (n + 1) = if mayB S R x n = true ∧ lstB S R x n = -1 then (n : Int) else lstB S R x n := rfl
theorem gstB_s {S R : Rc} {x : Int} {n : Nat} : gstB S R x (n + 1) = if mayB S R x n = true then (n : Int) else gstB S R x n := rfl
theorem lstB_r (S R : Rc) (x : Int) : ∀ n : Nat, -1 ≤ lstB S R x n ∧ lstB S R x n < n
  | 0 => by simp [lstB]
  | n + 1 => by
    have := lstB_r S R x n
    rw [lstB_s]
    split <;> omega
set_option maxHeartbeats 2000000 in
theorem lp_M_began {κ : Kx} {μ : MX} {Q : Option Value → (Heap → Prop) → Prop} {m : Mem} {D : Int} (hS : okM D (m 10 0)) (hD : D ≤ 100000) (hR : okR (snM (m 10 0))) {x t : Int} (hx : 0 ≤ x ∧ x < (m 10 0).1 1) (ht : 0 ≤ t ∧ t ≤ 2) (k : Q (some (vi (begA (shM (m 10 0)) (snM (m 10 0)) x t))) (World κ m)) (F : Fx κ G_M_began 3 0 0 μ) :
    ∀ (n : Nat) (j : Nat) (c l g v : Int), 91 < j + n → j ≤ 91 → v = (j : Int) → c = cntB (shM (m 10 0)) (snM (m 10 0)) x j → l = lstB (shM (m 10 0)) (snM (m 10 0)) x j → g = gstB (shM (m 10 0)) (snM (m 10 0)) x j →  GC κ μ (ZZ κ μ 0 0 Q) 0 0 33 [some (.ref (ad κ 10 0)), some (vi x), some (vi t), some (vi c), some (vi l), some (vi g), some (vi v), none] [] (World κ m) := by
  obtain ⟨s0, s1, s2, s3, s4, s5, hfg, hkd, hsh, hgl⟩ := id hS
  intro n
  induction n with
  | zero =>
    intro j c l g v hn hj hv hc hl hg
    exact absurd hn (by omega)
  | succ n ih =>
    intro j c l g v hn hj hv hc hl hg
    have hlr := lstB_r (shM (m 10 0)) (snM (m 10 0)) x j
    refine g_iload F a_M_began_33 rfl ?_
    refine g_bipush F a_M_began_35 (by decide) ?_
    refine g_icmp_gt F (by omega) (by omega) a_M_began_37 (fun h37 => ?_) (fun h37 => ?_)
    · refine g_iload_n F a_M_began_102 rfl ?_
      refine g_if_ne F (by omega) a_M_began_103 (fun h103 => ?_) (fun h103 => ?_)
      · refine g_iload_n F a_M_began_110 rfl ?_
        refine g_iconst F a_M_began_111 ?_
        refine g_icmp_ne F (by omega) (by omega) a_M_began_112 (fun h112 => ?_) (fun h112 => ?_)
        · refine g_iload F a_M_began_120 rfl ?_
          refine g_iret F a_M_began_122 rfl ⟨Nat.le_refl _, Nat.le_refl _⟩ ?_
          obtain rfl : j = 91 := by omega
          exact qv k (by unfold begA; rw [if_neg (show ¬ t = 0 by omega), if_neg (show ¬ t = 1 by omega), hg])
        · refine g_iload F a_M_began_115 rfl ?_
          refine g_goto F a_M_began_117 ?_
          refine g_iret F a_M_began_122 rfl ⟨Nat.le_refl _, Nat.le_refl _⟩ ?_
          obtain rfl : j = 91 := by omega
          exact qv k (by unfold begA; rw [if_neg (show ¬ t = 0 by omega), if_pos (show t = 1 by omega), hl])
      · refine g_iload_n F a_M_began_106 rfl ?_
        refine g_goto F a_M_began_107 ?_
        refine g_iret F a_M_began_122 rfl ⟨Nat.le_refl _, Nat.le_refl _⟩ ?_
        obtain rfl : j = 91 := by omega
        exact qv k (by unfold begA; rw [if_pos (show t = 0 by omega), hc])
    · refine g_aload_n F a_M_began_40 rfl ?_
      refine g_iload_n F a_M_began_41 rfl ?_
      refine g_iload F a_M_began_42 rfl ?_
      refine g_v2 F a_M_began_44 vc_M_270 mk_M_mayBegin ob_10 ck_10.1 rfl rfl (by decide) ⟨Nat.le_refl _, Nat.le_refl _⟩ rfl (Nat.le_of_ble_eq_true rfl) (sp_M_mayBegin hS hD hR hx (by omega) (fun c44 => GCr.v ?_) (fun c44 => GCr.v ?_))
      · refine g_istore (ls' := [_, _, _, _, _, _, _, _]) F a_M_began_47 rfl rfl rfl ?_
        refine g_iload_n F a_M_began_49 rfl ?_
        refine g_iload F a_M_began_50 rfl ?_
        refine g_ifeq1 F a_M_began_52 ?_
        refine g_iconst F a_M_began_55 ?_
        refine g_goto F a_M_began_56 ?_
        refine g_iadd F a_M_began_60 ?_
        refine g_istore_n (ls' := [_, _, _, _, _, _, _, _]) F a_M_began_61 rfl rfl rfl ?_
        refine g_iload F a_M_began_62 rfl ?_
        refine g_ifeq1 F a_M_began_64 ?_
        refine g_iload F a_M_began_67 rfl ?_
        refine g_iconst F a_M_began_69 ?_
        refine g_icmp_ne F (by omega) (by omega) a_M_began_70 (fun h70 => ?_) (fun h70 => ?_)
        · refine g_iload F a_M_began_78 rfl ?_
          refine g_istore (ls' := [_, _, _, _, _, _, _, _]) F a_M_began_80 rfl rfl rfl ?_
          refine g_iload F a_M_began_82 rfl ?_
          refine g_ifeq1 F a_M_began_84 ?_
          refine g_iload F a_M_began_87 rfl ?_
          refine g_goto F a_M_began_89 ?_
          refine g_istore (ls' := [_, _, _, _, _, _, _, _]) F a_M_began_94 rfl rfl rfl ?_
          refine g_iinc (ls' := [_, _, _, _, _, _, _, _]) F a_M_began_96 rfl rfl rfl ?_
          refine g_goto F a_M_began_99 ?_
          exact GC.loc2 (ih (j + 1) _ _ _ _ (by omega) (by omega) (by omega) (by rw [cntB_s, if_pos (show mayB (shM (m 10 0)) (snM (m 10 0)) x j = true from by rw [← hv]; exact c44), ← hc]) (by rw [lstB_s, if_neg (fun q => by rw [← hl] at q; exact absurd q.2 (by assumption))]; exact hl) (by rw [gstB_s, if_pos (show mayB (shM (m 10 0)) (snM (m 10 0)) x j = true from by rw [← hv]; exact c44)]; exact hv)) ⟨rfl, rfl, rfl, rfl, rfl, rfl, rfl, trivial⟩
        · refine g_iload F a_M_began_73 rfl ?_
          refine g_goto F a_M_began_75 ?_
          refine g_istore (ls' := [_, _, _, _, _, _, _, _]) F a_M_began_80 rfl rfl rfl ?_
          refine g_iload F a_M_began_82 rfl ?_
          refine g_ifeq1 F a_M_began_84 ?_
          refine g_iload F a_M_began_87 rfl ?_
          refine g_goto F a_M_began_89 ?_
          refine g_istore (ls' := [_, _, _, _, _, _, _, _]) F a_M_began_94 rfl rfl rfl ?_
          refine g_iinc (ls' := [_, _, _, _, _, _, _, _]) F a_M_began_96 rfl rfl rfl ?_
          refine g_goto F a_M_began_99 ?_
          exact GC.loc2 (ih (j + 1) _ _ _ _ (by omega) (by omega) (by omega) (by rw [cntB_s, if_pos (show mayB (shM (m 10 0)) (snM (m 10 0)) x j = true from by rw [← hv]; exact c44), ← hc]) (by rw [lstB_s, if_pos ⟨(show mayB (shM (m 10 0)) (snM (m 10 0)) x j = true from by rw [← hv]; exact c44), by rw [← hl]; assumption⟩]; exact hv) (by rw [gstB_s, if_pos (show mayB (shM (m 10 0)) (snM (m 10 0)) x j = true from by rw [← hv]; exact c44)]; exact hv)) ⟨rfl, rfl, rfl, rfl, rfl, rfl, rfl, trivial⟩
      · refine g_istore (ls' := [_, _, _, _, _, _, _, _]) F a_M_began_47 rfl rfl rfl ?_
        refine g_iload_n F a_M_began_49 rfl ?_
        refine g_iload F a_M_began_50 rfl ?_
        refine g_ifeq0 F a_M_began_52 ?_
        refine g_iconst F a_M_began_59 ?_
        refine g_iadd F a_M_began_60 ?_
        refine g_istore_n (ls' := [_, _, _, _, _, _, _, _]) F a_M_began_61 rfl rfl rfl ?_
        refine g_iload F a_M_began_62 rfl ?_
        refine g_ifeq0 F a_M_began_64 ?_
        refine g_iload F a_M_began_78 rfl ?_
        refine g_istore (ls' := [_, _, _, _, _, _, _, _]) F a_M_began_80 rfl rfl rfl ?_
        refine g_iload F a_M_began_82 rfl ?_
        refine g_ifeq0 F a_M_began_84 ?_
        refine g_iload F a_M_began_92 rfl ?_
        refine g_istore (ls' := [_, _, _, _, _, _, _, _]) F a_M_began_94 rfl rfl rfl ?_
        refine g_iinc (ls' := [_, _, _, _, _, _, _, _]) F a_M_began_96 rfl rfl rfl ?_
        refine g_goto F a_M_began_99 ?_
        exact GC.loc2 (ih (j + 1) _ _ _ _ (by omega) (by omega) (by omega) (by rw [cntB_s, if_neg (show ¬ mayB (shM (m 10 0)) (snM (m 10 0)) x j = true from by rw [← hv, c44]; decide), ← hc]) (by rw [lstB_s, if_neg (fun q => (show ¬ mayB (shM (m 10 0)) (snM (m 10 0)) x j = true from by rw [← hv, c44]; decide) q.1)]; exact hl) (by rw [gstB_s, if_neg (show ¬ mayB (shM (m 10 0)) (snM (m 10 0)) x j = true from by rw [← hv, c44]; decide)]; exact hg)) ⟨rfl, rfl, rfl, rfl, rfl, rfl, rfl, trivial⟩
set_option maxHeartbeats 1000000 in
theorem sp_M_began {κ : Kx} {Q : Option Value → (Heap → Prop) → Prop} {m : Mem} {D : Int} (hS : okM D (m 10 0)) (hD : D ≤ 100000) (hR : okR (snM (m 10 0))) {x t : Int} (hx : R32 x) (ht : R32 t) (kb : ¬ ((0 ≤ x ∧ x < (m 10 0).1 1) ∧ 0 ≤ t ∧ t ≤ 2) → Q (some (vi (-2))) (World κ (bmM m 0))) (k : (0 ≤ x ∧ x < (m 10 0).1 1) → (0 ≤ t ∧ t ≤ 2) → Q (some (vi (begA (shM (m 10 0)) (snM (m 10 0)) x t))) (World κ m)) : GG κ G_M_began 3 0 0 [.ref (ad κ 10 0), vi x, vi t] (World κ m) Q := by
  obtain ⟨s0, s1, s2, s3, s4, s5, hfg, hkd, hsh, hgl⟩ := id hS
  refine GG.intro (ls := [some _, some _, some _, none, none, none, none, none]) (Nat.le_of_ble_eq_true rfl) rfl (fun μ F => ?_)
  refine g_aload_n F a_M_began_0 rfl ?_
  refine g_iload_n F a_M_began_1 rfl ?_
  refine g_v1 F a_M_began_2 vc_M_236 mk_M_isMan ob_10 ck_10.1 rfl rfl (by decide) ⟨Nat.le_refl _, Nat.le_refl _⟩ rfl (Nat.le_of_ble_eq_true rfl) (sp_M_isMan hS hD (by omega) (fun c2 => GCr.v ?_) (fun c2 => GCr.v ?_))
  · refine g_ifeq1 F a_M_began_5 ?_
    refine g_iload_n F a_M_began_8 rfl ?_
    refine g_iconst F a_M_began_9 ?_
    refine g_iconst F a_M_began_10 ?_
    refine g_s3 F a_M_began_11 sc_M_91 mk_M_in rfl (by decide) ⟨Nat.le_refl _, Nat.le_refl _⟩ rfl (Nat.le_of_ble_eq_true rfl) (sp_M_in (by omega) (by omega) (by omega) (fun c11 => GCr.v ?_) (fun c11 => GCr.v ?_))
    · refine g_ifne1 F a_M_began_14 ?_
      refine g_iconst F a_M_began_22 ?_
      refine g_istore_n (ls' := [_, _, _, _, _, _, _, _]) F a_M_began_23 rfl rfl rfl ?_
      refine g_iconst F a_M_began_24 ?_
      refine g_istore (ls' := [_, _, _, _, _, _, _, _]) F a_M_began_25 rfl rfl rfl ?_
      refine g_iconst F a_M_began_27 ?_
      refine g_istore (ls' := [_, _, _, _, _, _, _, _]) F a_M_began_28 rfl rfl rfl ?_
      refine g_iconst F a_M_began_30 ?_
      refine g_istore (ls' := [_, _, _, _, _, _, _, _]) F a_M_began_31 rfl rfl rfl ?_
      exact GC.loc2 (lp_M_began hS hD hR (by assumption) (by assumption) (k (by assumption) (by assumption)) F 92 0 _ _ _ _ (by omega) (by omega) rfl rfl rfl rfl) ⟨rfl, rfl, rfl, rfl, rfl, rfl, rfl, trivial⟩
    · refine g_ifne0 F a_M_began_14 ?_
      refine g_aload_n F a_M_began_17 rfl ?_
      refine g_v0 F a_M_began_18 vc_M_95 mk_M_bad ob_10 ck_10.1 rfl rfl (by decide) ⟨Nat.le_refl _, Nat.le_refl _⟩ rfl (Nat.le_of_ble_eq_true rfl) (sp_M_bad  (GCr.v ?_))
      refine g_iret F a_M_began_21 rfl ⟨Nat.le_refl _, Nat.le_refl _⟩ ?_
      exact kb (by omega)
  · refine g_ifeq0 F a_M_began_5 ?_
    refine g_aload_n F a_M_began_17 rfl ?_
    refine g_v0 F a_M_began_18 vc_M_95 mk_M_bad ob_10 ck_10.1 rfl rfl (by decide) ⟨Nat.le_refl _, Nat.le_refl _⟩ rfl (Nat.le_of_ble_eq_true rfl) (sp_M_bad  (GCr.v ?_))
    refine g_iret F a_M_began_21 rfl ⟨Nat.le_refl _, Nat.le_refl _⟩ ?_
    exact kb (by omega)
theorem fitN_s {R : Rc} {who a kind : Int} {n : Nat} : fitN R who a kind (n + 1) = (fitN R who a kind n && (decide (R.2 0 ((n : Int) * 4) ≠ who) || decide (mks a kind (R.2 0 ((n : Int) * 4 + 1)) (R.2 0 ((n : Int) * 4 + 2)) = R.2 0 ((n : Int) * 4 + 3)))) := rfl
theorem kfN_s {R : Rc} {who a : Int} {n : Nat} : kfN R who a (n + 1) = kfN R who a n + if fitB R who a n = true then 2 ^ n else 0 := rfl
set_option maxHeartbeats 2000000 in
theorem lp_M_kindsOf2 {κ : Kx} {μ : MX} {Z : State → Prop} {m : Mem} {D : Int} (hS : okM D (m 10 0)) (hD : D ≤ 100000) (hR : okR (ntM (m 10 0))) (hv9 : ∀ t : Int, 0 ≤ t ∧ t < (m 10 0).1 8 → (m 10 0).2 6 (t * 4 + 1) ≤ 90) {x : Int} (hx : R32 x) {s b : Int} (hs : 0 ≤ s ∧ s ≤ 5) (k : GC κ μ Z 0 0 101 [some (.ref (ad κ 10 0)), some (vi x), some (vi b), some (vi s), some (vi (bI (fitB (ntM (m 10 0)) x 1 s))), none, none] [] (World κ m)) (F : Fx κ G_M_kindsOf 2 0 0 μ) :
    ∀ (n : Nat) (j : Nat) (e y : Int), (m 10 0).1 8 < j + n → (j : Int) ≤ (m 10 0).1 8 → y = (j : Int) * 4 → e = bI (fitN (ntM (m 10 0)) x 1 s j) →  GC κ μ Z 0 0 15 [some (.ref (ad κ 10 0)), some (vi x), some (vi b), some (vi s), some (vi e), some (vi y), none] [] (World κ m) := by
  obtain ⟨s0, s1, s2, s3, s4, s5, hfg, hkd, hsh, hgl⟩ := id hS
  obtain ⟨hsz, hwd, hce⟩ := id hR
  have hsz2 : 0 ≤ (m 10 0).1 8 ∧ (m 10 0).1 8 ≤ 6 := hsz
  intro n
  induction n with
  | zero =>
    intro j e y hn hj hy he
    exact absurd hn (by omega)
  | succ n ih =>
    intro j e y hn hj hy he
    have hebr := bI_r (fitN (ntM (m 10 0)) x 1 s j)
    have c0 : (m 10 0).2 6 (y) = (ntM (m 10 0)).2 0 ((j : Int) * 4) := by rw [hy]; rfl
    have c1 : (m 10 0).2 6 (y + 1) = (ntM (m 10 0)).2 0 ((j : Int) * 4 + 1) := by rw [hy]; rfl
    have c2 : (m 10 0).2 6 (y + 2) = (ntM (m 10 0)).2 0 ((j : Int) * 4 + 2) := by rw [hy]; rfl
    have c3 : (m 10 0).2 6 (y + 3) = (ntM (m 10 0)).2 0 ((j : Int) * 4 + 3) := by rw [hy]; rfl
    have r0 : (j : Int) < 6 → 0 ≤ (m 10 0).2 6 (y) ∧ (m 10 0).2 6 (y) ≤ 99 := fun h => by have := hce (y + 0) (by omega); rw [Int.add_zero] at this; exact this
    have r1 : (j : Int) < 6 → 0 ≤ (m 10 0).2 6 (y + 1) ∧ (m 10 0).2 6 (y + 1) ≤ 99 := fun h => by have := hce (y + 1) (by omega); exact this
    have r2 : (j : Int) < 6 → 0 ≤ (m 10 0).2 6 (y + 2) ∧ (m 10 0).2 6 (y + 2) ≤ 99 := fun h => by have := hce (y + 2) (by omega); exact this
    have r3 : (j : Int) < 6 → 0 ≤ (m 10 0).2 6 (y + 3) ∧ (m 10 0).2 6 (y + 3) ≤ 99 := fun h => by have := hce (y + 3) (by omega); exact this
    have r9 : (j : Int) < (m 10 0).1 8 → (m 10 0).2 6 (y + 1) ≤ 90 := fun h => by rw [hy]; exact hv9 j (by omega)
    have hmk := fun h : (j : Int) < (m 10 0).1 8 => mks_r (a := 1) (k := s) (e := (m 10 0).2 6 (y + 2)) (show 0 ≤ (m 10 0).2 6 (y + 1) ∧ (m 10 0).2 6 (y + 1) ≤ 90 from ⟨(r1 (by omega)).1, r9 h⟩)
    have hmk2 : (j : Int) < (m 10 0).1 8 → 0 ≤ stn s ((m 10 0).2 6 (y + 1)) ((m 10 0).2 6 (y + 2)) ∧ stn s ((m 10 0).2 6 (y + 1)) ((m 10 0).2 6 (y + 2)) ≤ 95 := hmk
    refine g_iload F a_M_kindsOf_15 rfl ?_
    refine g_iconst F a_M_kindsOf_17 ?_
    refine g_aload_n F a_M_kindsOf_18 rfl ?_
    refine g_get_10_8 F a_M_kindsOf_19 fl_M_82 ?_
    refine g_imul F a_M_kindsOf_22 ?_
    refine g_icmp_ge F (by omega) (by omega) a_M_kindsOf_23 (fun h23 => ?_) (fun h23 => ?_)
    · obtain rfl : j = ((m 10 0).1 8).toNat := by omega
      rw [he]
      exact GC.loc2 k ⟨rfl, rfl, rfl, rfl, rfl, trivial⟩
    · refine g_iload_n F a_M_kindsOf_26 rfl ?_
      refine g_aload_n F a_M_kindsOf_27 rfl ?_
      refine g_get_10_15 F a_M_kindsOf_28 fl_M_28 ?_
      refine g_iload F a_M_kindsOf_31 rfl ?_
      refine g_iconst F a_M_kindsOf_33 ?_
      refine g_iadd F a_M_kindsOf_34 ?_
      refine g_ild_10_6 F a_M_kindsOf_35 (by omega) ?_
      refine g_aload_n F a_M_kindsOf_36 rfl ?_
      refine g_get_10_15 F a_M_kindsOf_37 fl_M_28 ?_
      refine g_iload F a_M_kindsOf_40 rfl ?_
      refine g_iconst F a_M_kindsOf_42 ?_
      refine g_iadd F a_M_kindsOf_43 ?_
      refine g_ild_10_6 F a_M_kindsOf_44 (by omega) ?_
      refine g_s3 F a_M_kindsOf_45 sc_M_196 mk_M_angleBy rfl (by decide) ⟨Nat.le_refl _, Nat.le_refl _⟩ rfl (Nat.le_of_ble_eq_true rfl) (sp_M_angleBy (by omega) (by omega) (by omega) (GCr.v ?_))
      refine g_aload_n F a_M_kindsOf_48 rfl ?_
      refine g_get_10_15 F a_M_kindsOf_49 fl_M_28 ?_
      refine g_iload F a_M_kindsOf_52 rfl ?_
      refine g_iconst F a_M_kindsOf_54 ?_
      refine g_iadd F a_M_kindsOf_55 ?_
      refine g_ild_10_6 F a_M_kindsOf_56 (by omega) ?_
      refine g_icmp_ne F (by omega) (by omega) a_M_kindsOf_57 (fun h57 => ?_) (fun h57 => ?_)
      · refine g_iconst F a_M_kindsOf_64 ?_
        refine g_istore (ls' := [_, _, _, _, _, _, _]) F a_M_kindsOf_65 rfl rfl rfl ?_
        refine g_iload F a_M_kindsOf_67 rfl ?_
        refine g_if_eq F (by omega) a_M_kindsOf_69 (fun h69 => ?_) (fun h69 => ?_)
        · refine g_iconst F a_M_kindsOf_92 ?_
          refine g_istore (ls' := [_, _, _, _, _, _, _]) F a_M_kindsOf_93 rfl rfl rfl ?_
          refine g_iinc (ls' := [_, _, _, _, _, _, _]) F a_M_kindsOf_95 rfl rfl rfl ?_
          refine g_goto F a_M_kindsOf_98 ?_
          exact GC.loc2 (ih (j + 1) _ _ (by omega) (by omega) (by omega) (by rw [fitN_s, ← c0, ← c1, ← c2, ← c3, bI_0 (he.symm.trans (by assumption))]; rfl)) ⟨rfl, rfl, rfl, rfl, rfl, rfl, trivial⟩
        · refine g_aload_n F a_M_kindsOf_72 rfl ?_
          refine g_get_10_15 F a_M_kindsOf_73 fl_M_28 ?_
          refine g_iload F a_M_kindsOf_76 rfl ?_
          refine g_ild_10_6 F a_M_kindsOf_78 (by omega) ?_
          refine g_iload_n F a_M_kindsOf_79 rfl ?_
          refine g_icmp_ne F (by omega) (by omega) a_M_kindsOf_80 (fun h80 => ?_) (fun h80 => ?_)
          · refine g_iconst F a_M_kindsOf_88 ?_
            refine g_goto F a_M_kindsOf_89 ?_
            refine g_istore (ls' := [_, _, _, _, _, _, _]) F a_M_kindsOf_93 rfl rfl rfl ?_
            refine g_iinc (ls' := [_, _, _, _, _, _, _]) F a_M_kindsOf_95 rfl rfl rfl ?_
            refine g_goto F a_M_kindsOf_98 ?_
            exact GC.loc2 (ih (j + 1) _ _ (by omega) (by omega) (by omega) (by rw [fitN_s, ← c0, ← c1, ← c2, ← c3, bI_1 (fun q => (by assumption : ¬ e = 0) (he.trans q)), decide_eq_true (show (m 10 0).2 6 (y) ≠ x from by assumption)]; rfl)) ⟨rfl, rfl, rfl, rfl, rfl, rfl, trivial⟩
          · refine g_iload F a_M_kindsOf_83 rfl ?_
            refine g_ifeq0 F a_M_kindsOf_85 ?_
            refine g_iconst F a_M_kindsOf_92 ?_
            refine g_istore (ls' := [_, _, _, _, _, _, _]) F a_M_kindsOf_93 rfl rfl rfl ?_
            refine g_iinc (ls' := [_, _, _, _, _, _, _]) F a_M_kindsOf_95 rfl rfl rfl ?_
            refine g_goto F a_M_kindsOf_98 ?_
            exact GC.loc2 (ih (j + 1) _ _ (by omega) (by omega) (by omega) (by rw [fitN_s, ← c0, ← c1, ← c2, ← c3, bI_1 (fun q => (by assumption : ¬ e = 0) (he.trans q)), decide_eq_false (show ¬ (m 10 0).2 6 (y) ≠ x from fun q => q (by assumption)), decide_eq_false (show ¬ mks 1 s ((m 10 0).2 6 (y + 1)) ((m 10 0).2 6 (y + 2)) = (m 10 0).2 6 (y + 3) from h57)]; rfl)) ⟨rfl, rfl, rfl, rfl, rfl, rfl, trivial⟩
      · refine g_iconst F a_M_kindsOf_60 ?_
        refine g_goto F a_M_kindsOf_61 ?_
        refine g_istore (ls' := [_, _, _, _, _, _, _]) F a_M_kindsOf_65 rfl rfl rfl ?_
        refine g_iload F a_M_kindsOf_67 rfl ?_
        refine g_if_eq F (by omega) a_M_kindsOf_69 (fun h69 => ?_) (fun h69 => ?_)
        · refine g_iconst F a_M_kindsOf_92 ?_
          refine g_istore (ls' := [_, _, _, _, _, _, _]) F a_M_kindsOf_93 rfl rfl rfl ?_
          refine g_iinc (ls' := [_, _, _, _, _, _, _]) F a_M_kindsOf_95 rfl rfl rfl ?_
          refine g_goto F a_M_kindsOf_98 ?_
          exact GC.loc2 (ih (j + 1) _ _ (by omega) (by omega) (by omega) (by rw [fitN_s, ← c0, ← c1, ← c2, ← c3, bI_0 (he.symm.trans (by assumption))]; rfl)) ⟨rfl, rfl, rfl, rfl, rfl, rfl, trivial⟩
        · refine g_aload_n F a_M_kindsOf_72 rfl ?_
          refine g_get_10_15 F a_M_kindsOf_73 fl_M_28 ?_
          refine g_iload F a_M_kindsOf_76 rfl ?_
          refine g_ild_10_6 F a_M_kindsOf_78 (by omega) ?_
          refine g_iload_n F a_M_kindsOf_79 rfl ?_
          refine g_icmp_ne F (by omega) (by omega) a_M_kindsOf_80 (fun h80 => ?_) (fun h80 => ?_)
          · refine g_iconst F a_M_kindsOf_88 ?_
            refine g_goto F a_M_kindsOf_89 ?_
            refine g_istore (ls' := [_, _, _, _, _, _, _]) F a_M_kindsOf_93 rfl rfl rfl ?_
            refine g_iinc (ls' := [_, _, _, _, _, _, _]) F a_M_kindsOf_95 rfl rfl rfl ?_
            refine g_goto F a_M_kindsOf_98 ?_
            exact GC.loc2 (ih (j + 1) _ _ (by omega) (by omega) (by omega) (by rw [fitN_s, ← c0, ← c1, ← c2, ← c3, bI_1 (fun q => (by assumption : ¬ e = 0) (he.trans q)), decide_eq_true (show (m 10 0).2 6 (y) ≠ x from by assumption)]; rfl)) ⟨rfl, rfl, rfl, rfl, rfl, rfl, trivial⟩
          · refine g_iload F a_M_kindsOf_83 rfl ?_
            refine g_ifeq1 F a_M_kindsOf_85 ?_
            refine g_iconst F a_M_kindsOf_88 ?_
            refine g_goto F a_M_kindsOf_89 ?_
            refine g_istore (ls' := [_, _, _, _, _, _, _]) F a_M_kindsOf_93 rfl rfl rfl ?_
            refine g_iinc (ls' := [_, _, _, _, _, _, _]) F a_M_kindsOf_95 rfl rfl rfl ?_
            refine g_goto F a_M_kindsOf_98 ?_
            exact GC.loc2 (ih (j + 1) _ _ (by omega) (by omega) (by omega) (by rw [fitN_s, ← c0, ← c1, ← c2, ← c3, bI_1 (fun q => (by assumption : ¬ e = 0) (he.trans q)), decide_eq_false (show ¬ (m 10 0).2 6 (y) ≠ x from fun q => q (by assumption)), decide_eq_true (show mks 1 s ((m 10 0).2 6 (y + 1)) ((m 10 0).2 6 (y + 2)) = (m 10 0).2 6 (y + 3) from h57)]; rfl)) ⟨rfl, rfl, rfl, rfl, rfl, rfl, trivial⟩
set_option maxHeartbeats 2000000 in
theorem lp_M_kindsOf1 {κ : Kx} {μ : MX} {Q : Option Value → (Heap → Prop) → Prop} {m : Mem} {D : Int} (hS : okM D (m 10 0)) (hD : D ≤ 100000) (hR : okR (ntM (m 10 0))) (hv9 : ∀ t : Int, 0 ≤ t ∧ t < (m 10 0).1 8 → (m 10 0).2 6 (t * 4 + 1) ≤ 90) {x : Int} (hx : R32 x) (k : Q (some (vi (kfN (ntM (m 10 0)) x 1 6))) (World κ m)) (F : Fx κ G_M_kindsOf 2 0 0 μ) :
    ∀ (n : Nat) (j : Nat) (b v : Int), 6 < j + n → j ≤ 6 → v = (j : Int) → b = kfN (ntM (m 10 0)) x 1 j →  GC κ μ (ZZ κ μ 0 0 Q) 0 0 4 [some (.ref (ad κ 10 0)), some (vi x), some (vi b), some (vi v), none, none, none] [] (World κ m) := by
  obtain ⟨s0, s1, s2, s3, s4, s5, hfg, hkd, hsh, hgl⟩ := id hS
  have hsz2 : 0 ≤ (m 10 0).1 8 ∧ (m 10 0).1 8 ≤ 6 := hR.1
  intro n
  induction n with
  | zero =>
    intro j b v hn hj hv hb
    exact absurd hn (by omega)
  | succ n ih =>
    intro j b v hn hj hv hb
    have hkr := kfN_r (ntM (m 10 0)) x 1 j
    have hp6 : (2 : Int) ^ j ≤ 64 := (p64 (by omega)).2
    have hbi := bI_r (fitB (ntM (m 10 0)) x 1 v)
    refine g_iload_n F a_M_kindsOf_4 rfl ?_
    refine g_iconst F a_M_kindsOf_5 ?_
    refine g_icmp_gt F (by omega) (by omega) a_M_kindsOf_6 (fun h6 => ?_) (fun h6 => ?_)
    · refine g_iload_n F a_M_kindsOf_122 rfl ?_
      refine g_iret F a_M_kindsOf_123 rfl ⟨Nat.le_refl _, Nat.le_refl _⟩ ?_
      obtain rfl : j = 6 := by omega
      exact qv k hb
    · refine g_iconst F a_M_kindsOf_9 ?_
      refine g_istore (ls' := [_, _, _, _, _, _, _]) F a_M_kindsOf_10 rfl rfl rfl ?_
      refine g_iconst F a_M_kindsOf_12 ?_
      refine g_istore (ls' := [_, _, _, _, _, _, _]) F a_M_kindsOf_13 rfl rfl rfl ?_
      refine GC.loc2 (lp_M_kindsOf2 hS hD hR hv9 hx (s := v) (b := b) (by omega) ?_ F (((m 10 0).1 8).toNat + 1) 0 _ _ (by omega) (by omega) rfl rfl) ⟨rfl, rfl, rfl, rfl, rfl, rfl, trivial⟩
      refine g_iload_n F a_M_kindsOf_101 rfl ?_
      refine g_iload F a_M_kindsOf_102 rfl ?_
      refine g_if_eq F (by omega) a_M_kindsOf_104 (fun h104 => ?_) (fun h104 => ?_)
      · refine g_iconst F a_M_kindsOf_113 ?_
        refine g_ior F a_M_kindsOf_114 ?_
        rw [or0 (by omega)]
        refine g_istore_n (ls' := [_, _, _, _, _, _, _]) F a_M_kindsOf_115 rfl rfl rfl ?_
        refine g_iinc (ls' := [_, _, _, _, _, _, _]) F a_M_kindsOf_116 rfl rfl rfl ?_
        refine g_goto F a_M_kindsOf_119 ?_
        exact GC.loc2 (ih (j + 1) _ _ (by omega) (by omega) (by omega) (by rw [kfN_s, if_neg (by rw [← hv, bI_0 h104]; decide), Int.add_zero]; exact hb)) ⟨rfl, rfl, rfl, rfl, trivial⟩
      · refine g_iconst F a_M_kindsOf_107 ?_
        refine g_iload_n F a_M_kindsOf_108 rfl ?_
        refine g_ishl F a_M_kindsOf_109 ?_
        refine g_goto F a_M_kindsOf_110 ?_
        refine g_ior F a_M_kindsOf_114 ?_
        rw [shl_n (by omega) hv, orp (by omega) (by rw [hb]; exact hkr)]
        refine g_istore_n (ls' := [_, _, _, _, _, _, _]) F a_M_kindsOf_115 rfl rfl rfl ?_
        refine g_iinc (ls' := [_, _, _, _, _, _, _]) F a_M_kindsOf_116 rfl rfl rfl ?_
        refine g_goto F a_M_kindsOf_119 ?_
        exact GC.loc2 (ih (j + 1) _ _ (by omega) (by omega) (by omega) (by rw [kfN_s, if_pos (by rw [← hv]; exact bI_1 h104), hb])) ⟨rfl, rfl, rfl, rfl, trivial⟩
set_option maxHeartbeats 1000000 in
theorem sp_M_kindsOf {κ : Kx} {Q : Option Value → (Heap → Prop) → Prop} {m : Mem} {D : Int} (hS : okM D (m 10 0)) (hD : D ≤ 100000) (hR : okR (ntM (m 10 0))) (hv9 : ∀ t : Int, 0 ≤ t ∧ t < (m 10 0).1 8 → (m 10 0).2 6 (t * 4 + 1) ≤ 90) {x : Int} (hx : R32 x) (k : Q (some (vi (kfN (ntM (m 10 0)) x 1 6))) (World κ m)) : GG κ G_M_kindsOf 2 0 0 [.ref (ad κ 10 0), vi x] (World κ m) Q := by
  obtain ⟨s0, s1, s2, s3, s4, s5, hfg, hkd, hsh, hgl⟩ := id hS
  refine GG.intro (ls := [some _, some _, none, none, none, none, none]) (Nat.le_of_ble_eq_true rfl) rfl (fun μ F => ?_)
  refine g_iconst F a_M_kindsOf_0 ?_
  refine g_istore_n (ls' := [_, _, _, _, _, _, _]) F a_M_kindsOf_1 rfl rfl rfl ?_
  refine g_iconst F a_M_kindsOf_2 ?_
  refine g_istore_n (ls' := [_, _, _, _, _, _, _]) F a_M_kindsOf_3 rfl rfl rfl ?_
  exact GC.loc2 (lp_M_kindsOf1 hS hD hR hv9 hx k F 7 0 _ _ (by omega) (by omega) rfl rfl) ⟨rfl, rfl, rfl, rfl, trivial⟩
set_option maxHeartbeats 1000000 in
theorem sp_M_is {κ : Kx} {Q : Option Value → (Heap → Prop) → Prop} {m : Mem} {D : Int} (hS : okM D (m 10 0)) (hD : D ≤ 100000) (hR : okR (ntM (m 10 0))) (hv9 : ∀ t : Int, 0 ≤ t ∧ t < (m 10 0).1 8 → (m 10 0).2 6 (t * 4 + 1) ≤ 90) {x : Int} (hx : R32 x) (kb : ¬ (0 ≤ x ∧ x < (m 10 0).1 1) → Q (some (vi (-2))) (World κ (bmM m 0))) (k : (0 ≤ x ∧ x < (m 10 0).1 1) → Q (some (vi (kfN (ntM (m 10 0)) x 1 6))) (World κ m)) : GG κ G_M_is 3 0 0 [.ref (ad κ 10 0), vi x] (World κ m) Q := by
  obtain ⟨s0, s1, s2, s3, s4, s5, hfg, hkd, hsh, hgl⟩ := id hS
  refine GG.intro (ls := [some _, some _]) (Nat.le_of_ble_eq_true rfl) rfl (fun μ F => ?_)
  refine g_aload_n F a_M_is_0 rfl ?_
  refine g_iload_n F a_M_is_1 rfl ?_
  refine g_v1 F a_M_is_2 vc_M_236 mk_M_isMan ob_10 ck_10.1 rfl rfl (by decide) ⟨Nat.le_refl _, Nat.le_refl _⟩ rfl (Nat.le_of_ble_eq_true rfl) (sp_M_isMan hS hD (by omega) (fun c2 => GCr.v ?_) (fun c2 => GCr.v ?_))
  · refine g_ifeq1 F a_M_is_5 ?_
    refine g_aload_n F a_M_is_8 rfl ?_
    refine g_iload_n F a_M_is_9 rfl ?_
    refine g_v1 F a_M_is_10 vc_M_273 mk_M_kindsOf ob_10 ck_10.1 rfl rfl (by decide) ⟨Nat.le_refl _, Nat.le_refl _⟩ rfl (Nat.le_of_ble_eq_true rfl) (sp_M_kindsOf hS hD hR hv9 (by omega) (GCr.v ?_))
    refine g_goto F a_M_is_13 ?_
    refine g_iret F a_M_is_20 rfl ⟨Nat.le_refl _, Nat.le_refl _⟩ ?_
    first | exact kb (by assumption) | exact k (by assumption)
  · refine g_ifeq0 F a_M_is_5 ?_
    refine g_aload_n F a_M_is_16 rfl ?_
    refine g_v0 F a_M_is_17 vc_M_95 mk_M_bad ob_10 ck_10.1 rfl rfl (by decide) ⟨Nat.le_refl _, Nat.le_refl _⟩ rfl (Nat.le_of_ble_eq_true rfl) (sp_M_bad  (GCr.v ?_))
    refine g_iret F a_M_is_20 rfl ⟨Nat.le_refl _, Nat.le_refl _⟩ ?_
    first | exact kb (by assumption) | exact k (by assumption)
set_option maxHeartbeats 2000000 in
theorem lp_M_kindsBy2 {κ : Kx} {μ : MX} {Z : State → Prop} {m : Mem} {D : Int} (hS : okM D (m 10 0)) (hD : D ≤ 100000) (hR : okR (mkM (m 10 0))) (hv9 : ∀ t : Int, 0 ≤ t ∧ t < (m 10 0).1 9 → (m 10 0).2 7 (t * 4 + 1) ≤ 90) {x : Int} (hx : R32 x) {s b : Int} (hs : 0 ≤ s ∧ s ≤ 5) (k : GC κ μ Z 0 0 101 [some (.ref (ad κ 10 0)), some (vi x), some (vi b), some (vi s), some (vi (bI (fitB (mkM (m 10 0)) x 0 s))), none, none] [] (World κ m)) (F : Fx κ G_M_kindsBy 2 0 0 μ) :
    ∀ (n : Nat) (j : Nat) (e y : Int), (m 10 0).1 9 < j + n → (j : Int) ≤ (m 10 0).1 9 → y = (j : Int) * 4 → e = bI (fitN (mkM (m 10 0)) x 0 s j) →  GC κ μ Z 0 0 15 [some (.ref (ad κ 10 0)), some (vi x), some (vi b), some (vi s), some (vi e), some (vi y), none] [] (World κ m) := by
  obtain ⟨s0, s1, s2, s3, s4, s5, hfg, hkd, hsh, hgl⟩ := id hS
  obtain ⟨hsz, hwd, hce⟩ := id hR
  have hsz2 : 0 ≤ (m 10 0).1 9 ∧ (m 10 0).1 9 ≤ 6 := hsz
  intro n
  induction n with
  | zero =>
    intro j e y hn hj hy he
    exact absurd hn (by omega)
  | succ n ih =>
    intro j e y hn hj hy he
    have hebr := bI_r (fitN (mkM (m 10 0)) x 0 s j)
    have c0 : (m 10 0).2 7 (y) = (mkM (m 10 0)).2 0 ((j : Int) * 4) := by rw [hy]; rfl
    have c1 : (m 10 0).2 7 (y + 1) = (mkM (m 10 0)).2 0 ((j : Int) * 4 + 1) := by rw [hy]; rfl
    have c2 : (m 10 0).2 7 (y + 2) = (mkM (m 10 0)).2 0 ((j : Int) * 4 + 2) := by rw [hy]; rfl
    have c3 : (m 10 0).2 7 (y + 3) = (mkM (m 10 0)).2 0 ((j : Int) * 4 + 3) := by rw [hy]; rfl
    have r0 : (j : Int) < 6 → 0 ≤ (m 10 0).2 7 (y) ∧ (m 10 0).2 7 (y) ≤ 99 := fun h => by have := hce (y + 0) (by omega); rw [Int.add_zero] at this; exact this
    have r1 : (j : Int) < 6 → 0 ≤ (m 10 0).2 7 (y + 1) ∧ (m 10 0).2 7 (y + 1) ≤ 99 := fun h => by have := hce (y + 1) (by omega); exact this
    have r2 : (j : Int) < 6 → 0 ≤ (m 10 0).2 7 (y + 2) ∧ (m 10 0).2 7 (y + 2) ≤ 99 := fun h => by have := hce (y + 2) (by omega); exact this
    have r3 : (j : Int) < 6 → 0 ≤ (m 10 0).2 7 (y + 3) ∧ (m 10 0).2 7 (y + 3) ≤ 99 := fun h => by have := hce (y + 3) (by omega); exact this
    have r9 : (j : Int) < (m 10 0).1 9 → (m 10 0).2 7 (y + 1) ≤ 90 := fun h => by rw [hy]; exact hv9 j (by omega)
    have hmk := fun h : (j : Int) < (m 10 0).1 9 => mks_r (a := 0) (k := s) (e := (m 10 0).2 7 (y + 2)) (show 0 ≤ (m 10 0).2 7 (y + 1) ∧ (m 10 0).2 7 (y + 1) ≤ 90 from ⟨(r1 (by omega)).1, r9 h⟩)
    have hmk2 : (j : Int) < (m 10 0).1 9 → 0 ≤ see s ((m 10 0).2 7 (y + 1)) ((m 10 0).2 7 (y + 2)) ∧ see s ((m 10 0).2 7 (y + 1)) ((m 10 0).2 7 (y + 2)) ≤ 95 := hmk
    refine g_iload F a_M_kindsBy_15 rfl ?_
    refine g_iconst F a_M_kindsBy_17 ?_
    refine g_aload_n F a_M_kindsBy_18 rfl ?_
    refine g_get_10_9 F a_M_kindsBy_19 fl_M_85 ?_
    refine g_imul F a_M_kindsBy_22 ?_
    refine g_icmp_ge F (by omega) (by omega) a_M_kindsBy_23 (fun h23 => ?_) (fun h23 => ?_)
    · obtain rfl : j = ((m 10 0).1 9).toNat := by omega
      rw [he]
      exact GC.loc2 k ⟨rfl, rfl, rfl, rfl, rfl, trivial⟩
    · refine g_iload_n F a_M_kindsBy_26 rfl ?_
      refine g_aload_n F a_M_kindsBy_27 rfl ?_
      refine g_get_10_16 F a_M_kindsBy_28 fl_M_31 ?_
      refine g_iload F a_M_kindsBy_31 rfl ?_
      refine g_iconst F a_M_kindsBy_33 ?_
      refine g_iadd F a_M_kindsBy_34 ?_
      refine g_ild_10_7 F a_M_kindsBy_35 (by omega) ?_
      refine g_aload_n F a_M_kindsBy_36 rfl ?_
      refine g_get_10_16 F a_M_kindsBy_37 fl_M_31 ?_
      refine g_iload F a_M_kindsBy_40 rfl ?_
      refine g_iconst F a_M_kindsBy_42 ?_
      refine g_iadd F a_M_kindsBy_43 ?_
      refine g_ild_10_7 F a_M_kindsBy_44 (by omega) ?_
      refine g_s3 F a_M_kindsBy_45 sc_M_203 mk_M_readBy rfl (by decide) ⟨Nat.le_refl _, Nat.le_refl _⟩ rfl (Nat.le_of_ble_eq_true rfl) (sp_M_readBy (by omega) (by omega) (by omega) (GCr.v ?_))
      refine g_aload_n F a_M_kindsBy_48 rfl ?_
      refine g_get_10_16 F a_M_kindsBy_49 fl_M_31 ?_
      refine g_iload F a_M_kindsBy_52 rfl ?_
      refine g_iconst F a_M_kindsBy_54 ?_
      refine g_iadd F a_M_kindsBy_55 ?_
      refine g_ild_10_7 F a_M_kindsBy_56 (by omega) ?_
      refine g_icmp_ne F (by omega) (by omega) a_M_kindsBy_57 (fun h57 => ?_) (fun h57 => ?_)
      · refine g_iconst F a_M_kindsBy_64 ?_
        refine g_istore (ls' := [_, _, _, _, _, _, _]) F a_M_kindsBy_65 rfl rfl rfl ?_
        refine g_iload F a_M_kindsBy_67 rfl ?_
        refine g_if_eq F (by omega) a_M_kindsBy_69 (fun h69 => ?_) (fun h69 => ?_)
        · refine g_iconst F a_M_kindsBy_92 ?_
          refine g_istore (ls' := [_, _, _, _, _, _, _]) F a_M_kindsBy_93 rfl rfl rfl ?_
          refine g_iinc (ls' := [_, _, _, _, _, _, _]) F a_M_kindsBy_95 rfl rfl rfl ?_
          refine g_goto F a_M_kindsBy_98 ?_
          exact GC.loc2 (ih (j + 1) _ _ (by omega) (by omega) (by omega) (by rw [fitN_s, ← c0, ← c1, ← c2, ← c3, bI_0 (he.symm.trans (by assumption))]; rfl)) ⟨rfl, rfl, rfl, rfl, rfl, rfl, trivial⟩
        · refine g_aload_n F a_M_kindsBy_72 rfl ?_
          refine g_get_10_16 F a_M_kindsBy_73 fl_M_31 ?_
          refine g_iload F a_M_kindsBy_76 rfl ?_
          refine g_ild_10_7 F a_M_kindsBy_78 (by omega) ?_
          refine g_iload_n F a_M_kindsBy_79 rfl ?_
          refine g_icmp_ne F (by omega) (by omega) a_M_kindsBy_80 (fun h80 => ?_) (fun h80 => ?_)
          · refine g_iconst F a_M_kindsBy_88 ?_
            refine g_goto F a_M_kindsBy_89 ?_
            refine g_istore (ls' := [_, _, _, _, _, _, _]) F a_M_kindsBy_93 rfl rfl rfl ?_
            refine g_iinc (ls' := [_, _, _, _, _, _, _]) F a_M_kindsBy_95 rfl rfl rfl ?_
            refine g_goto F a_M_kindsBy_98 ?_
            exact GC.loc2 (ih (j + 1) _ _ (by omega) (by omega) (by omega) (by rw [fitN_s, ← c0, ← c1, ← c2, ← c3, bI_1 (fun q => (by assumption : ¬ e = 0) (he.trans q)), decide_eq_true (show (m 10 0).2 7 (y) ≠ x from by assumption)]; rfl)) ⟨rfl, rfl, rfl, rfl, rfl, rfl, trivial⟩
          · refine g_iload F a_M_kindsBy_83 rfl ?_
            refine g_ifeq0 F a_M_kindsBy_85 ?_
            refine g_iconst F a_M_kindsBy_92 ?_
            refine g_istore (ls' := [_, _, _, _, _, _, _]) F a_M_kindsBy_93 rfl rfl rfl ?_
            refine g_iinc (ls' := [_, _, _, _, _, _, _]) F a_M_kindsBy_95 rfl rfl rfl ?_
            refine g_goto F a_M_kindsBy_98 ?_
            exact GC.loc2 (ih (j + 1) _ _ (by omega) (by omega) (by omega) (by rw [fitN_s, ← c0, ← c1, ← c2, ← c3, bI_1 (fun q => (by assumption : ¬ e = 0) (he.trans q)), decide_eq_false (show ¬ (m 10 0).2 7 (y) ≠ x from fun q => q (by assumption)), decide_eq_false (show ¬ mks 0 s ((m 10 0).2 7 (y + 1)) ((m 10 0).2 7 (y + 2)) = (m 10 0).2 7 (y + 3) from h57)]; rfl)) ⟨rfl, rfl, rfl, rfl, rfl, rfl, trivial⟩
      · refine g_iconst F a_M_kindsBy_60 ?_
        refine g_goto F a_M_kindsBy_61 ?_
        refine g_istore (ls' := [_, _, _, _, _, _, _]) F a_M_kindsBy_65 rfl rfl rfl ?_
        refine g_iload F a_M_kindsBy_67 rfl ?_
        refine g_if_eq F (by omega) a_M_kindsBy_69 (fun h69 => ?_) (fun h69 => ?_)
        · refine g_iconst F a_M_kindsBy_92 ?_
          refine g_istore (ls' := [_, _, _, _, _, _, _]) F a_M_kindsBy_93 rfl rfl rfl ?_
          refine g_iinc (ls' := [_, _, _, _, _, _, _]) F a_M_kindsBy_95 rfl rfl rfl ?_
          refine g_goto F a_M_kindsBy_98 ?_
          exact GC.loc2 (ih (j + 1) _ _ (by omega) (by omega) (by omega) (by rw [fitN_s, ← c0, ← c1, ← c2, ← c3, bI_0 (he.symm.trans (by assumption))]; rfl)) ⟨rfl, rfl, rfl, rfl, rfl, rfl, trivial⟩
        · refine g_aload_n F a_M_kindsBy_72 rfl ?_
          refine g_get_10_16 F a_M_kindsBy_73 fl_M_31 ?_
          refine g_iload F a_M_kindsBy_76 rfl ?_
          refine g_ild_10_7 F a_M_kindsBy_78 (by omega) ?_
          refine g_iload_n F a_M_kindsBy_79 rfl ?_
          refine g_icmp_ne F (by omega) (by omega) a_M_kindsBy_80 (fun h80 => ?_) (fun h80 => ?_)
          · refine g_iconst F a_M_kindsBy_88 ?_
            refine g_goto F a_M_kindsBy_89 ?_
            refine g_istore (ls' := [_, _, _, _, _, _, _]) F a_M_kindsBy_93 rfl rfl rfl ?_
            refine g_iinc (ls' := [_, _, _, _, _, _, _]) F a_M_kindsBy_95 rfl rfl rfl ?_
            refine g_goto F a_M_kindsBy_98 ?_
            exact GC.loc2 (ih (j + 1) _ _ (by omega) (by omega) (by omega) (by rw [fitN_s, ← c0, ← c1, ← c2, ← c3, bI_1 (fun q => (by assumption : ¬ e = 0) (he.trans q)), decide_eq_true (show (m 10 0).2 7 (y) ≠ x from by assumption)]; rfl)) ⟨rfl, rfl, rfl, rfl, rfl, rfl, trivial⟩
          · refine g_iload F a_M_kindsBy_83 rfl ?_
            refine g_ifeq1 F a_M_kindsBy_85 ?_
            refine g_iconst F a_M_kindsBy_88 ?_
            refine g_goto F a_M_kindsBy_89 ?_
            refine g_istore (ls' := [_, _, _, _, _, _, _]) F a_M_kindsBy_93 rfl rfl rfl ?_
            refine g_iinc (ls' := [_, _, _, _, _, _, _]) F a_M_kindsBy_95 rfl rfl rfl ?_
            refine g_goto F a_M_kindsBy_98 ?_
            exact GC.loc2 (ih (j + 1) _ _ (by omega) (by omega) (by omega) (by rw [fitN_s, ← c0, ← c1, ← c2, ← c3, bI_1 (fun q => (by assumption : ¬ e = 0) (he.trans q)), decide_eq_false (show ¬ (m 10 0).2 7 (y) ≠ x from fun q => q (by assumption)), decide_eq_true (show mks 0 s ((m 10 0).2 7 (y + 1)) ((m 10 0).2 7 (y + 2)) = (m 10 0).2 7 (y + 3) from h57)]; rfl)) ⟨rfl, rfl, rfl, rfl, rfl, rfl, trivial⟩
set_option maxHeartbeats 2000000 in
theorem lp_M_kindsBy1 {κ : Kx} {μ : MX} {Q : Option Value → (Heap → Prop) → Prop} {m : Mem} {D : Int} (hS : okM D (m 10 0)) (hD : D ≤ 100000) (hR : okR (mkM (m 10 0))) (hv9 : ∀ t : Int, 0 ≤ t ∧ t < (m 10 0).1 9 → (m 10 0).2 7 (t * 4 + 1) ≤ 90) {x : Int} (hx : R32 x) (k : Q (some (vi (kfN (mkM (m 10 0)) x 0 6))) (World κ m)) (F : Fx κ G_M_kindsBy 2 0 0 μ) :
    ∀ (n : Nat) (j : Nat) (b v : Int), 6 < j + n → j ≤ 6 → v = (j : Int) → b = kfN (mkM (m 10 0)) x 0 j →  GC κ μ (ZZ κ μ 0 0 Q) 0 0 4 [some (.ref (ad κ 10 0)), some (vi x), some (vi b), some (vi v), none, none, none] [] (World κ m) := by
  obtain ⟨s0, s1, s2, s3, s4, s5, hfg, hkd, hsh, hgl⟩ := id hS
  have hsz2 : 0 ≤ (m 10 0).1 9 ∧ (m 10 0).1 9 ≤ 6 := hR.1
  intro n
  induction n with
  | zero =>
    intro j b v hn hj hv hb
    exact absurd hn (by omega)
  | succ n ih =>
    intro j b v hn hj hv hb
    have hkr := kfN_r (mkM (m 10 0)) x 0 j
    have hp6 : (2 : Int) ^ j ≤ 64 := (p64 (by omega)).2
    have hbi := bI_r (fitB (mkM (m 10 0)) x 0 v)
    refine g_iload_n F a_M_kindsBy_4 rfl ?_
    refine g_iconst F a_M_kindsBy_5 ?_
    refine g_icmp_gt F (by omega) (by omega) a_M_kindsBy_6 (fun h6 => ?_) (fun h6 => ?_)
    · refine g_iload_n F a_M_kindsBy_122 rfl ?_
      refine g_iret F a_M_kindsBy_123 rfl ⟨Nat.le_refl _, Nat.le_refl _⟩ ?_
      obtain rfl : j = 6 := by omega
      exact qv k hb
    · refine g_iconst F a_M_kindsBy_9 ?_
      refine g_istore (ls' := [_, _, _, _, _, _, _]) F a_M_kindsBy_10 rfl rfl rfl ?_
      refine g_iconst F a_M_kindsBy_12 ?_
      refine g_istore (ls' := [_, _, _, _, _, _, _]) F a_M_kindsBy_13 rfl rfl rfl ?_
      refine GC.loc2 (lp_M_kindsBy2 hS hD hR hv9 hx (s := v) (b := b) (by omega) ?_ F (((m 10 0).1 9).toNat + 1) 0 _ _ (by omega) (by omega) rfl rfl) ⟨rfl, rfl, rfl, rfl, rfl, rfl, trivial⟩
      refine g_iload_n F a_M_kindsBy_101 rfl ?_
      refine g_iload F a_M_kindsBy_102 rfl ?_
      refine g_if_eq F (by omega) a_M_kindsBy_104 (fun h104 => ?_) (fun h104 => ?_)
      · refine g_iconst F a_M_kindsBy_113 ?_
        refine g_ior F a_M_kindsBy_114 ?_
        rw [or0 (by omega)]
        refine g_istore_n (ls' := [_, _, _, _, _, _, _]) F a_M_kindsBy_115 rfl rfl rfl ?_
        refine g_iinc (ls' := [_, _, _, _, _, _, _]) F a_M_kindsBy_116 rfl rfl rfl ?_
        refine g_goto F a_M_kindsBy_119 ?_
        exact GC.loc2 (ih (j + 1) _ _ (by omega) (by omega) (by omega) (by rw [kfN_s, if_neg (by rw [← hv, bI_0 h104]; decide), Int.add_zero]; exact hb)) ⟨rfl, rfl, rfl, rfl, trivial⟩
      · refine g_iconst F a_M_kindsBy_107 ?_
        refine g_iload_n F a_M_kindsBy_108 rfl ?_
        refine g_ishl F a_M_kindsBy_109 ?_
        refine g_goto F a_M_kindsBy_110 ?_
        refine g_ior F a_M_kindsBy_114 ?_
        rw [shl_n (by omega) hv, orp (by omega) (by rw [hb]; exact hkr)]
        refine g_istore_n (ls' := [_, _, _, _, _, _, _]) F a_M_kindsBy_115 rfl rfl rfl ?_
        refine g_iinc (ls' := [_, _, _, _, _, _, _]) F a_M_kindsBy_116 rfl rfl rfl ?_
        refine g_goto F a_M_kindsBy_119 ?_
        exact GC.loc2 (ih (j + 1) _ _ (by omega) (by omega) (by omega) (by rw [kfN_s, if_pos (by rw [← hv]; exact bI_1 h104), hb])) ⟨rfl, rfl, rfl, rfl, trivial⟩
set_option maxHeartbeats 1000000 in
theorem sp_M_kindsBy {κ : Kx} {Q : Option Value → (Heap → Prop) → Prop} {m : Mem} {D : Int} (hS : okM D (m 10 0)) (hD : D ≤ 100000) (hR : okR (mkM (m 10 0))) (hv9 : ∀ t : Int, 0 ≤ t ∧ t < (m 10 0).1 9 → (m 10 0).2 7 (t * 4 + 1) ≤ 90) {x : Int} (hx : R32 x) (k : Q (some (vi (kfN (mkM (m 10 0)) x 0 6))) (World κ m)) : GG κ G_M_kindsBy 2 0 0 [.ref (ad κ 10 0), vi x] (World κ m) Q := by
  obtain ⟨s0, s1, s2, s3, s4, s5, hfg, hkd, hsh, hgl⟩ := id hS
  refine GG.intro (ls := [some _, some _, none, none, none, none, none]) (Nat.le_of_ble_eq_true rfl) rfl (fun μ F => ?_)
  refine g_iconst F a_M_kindsBy_0 ?_
  refine g_istore_n (ls' := [_, _, _, _, _, _, _]) F a_M_kindsBy_1 rfl rfl rfl ?_
  refine g_iconst F a_M_kindsBy_2 ?_
  refine g_istore_n (ls' := [_, _, _, _, _, _, _]) F a_M_kindsBy_3 rfl rfl rfl ?_
  exact GC.loc2 (lp_M_kindsBy1 hS hD hR hv9 hx k F 7 0 _ _ (by omega) (by omega) rfl rfl) ⟨rfl, rfl, rfl, rfl, trivial⟩
set_option maxHeartbeats 1000000 in
theorem sp_M_kinds {κ : Kx} {Q : Option Value → (Heap → Prop) → Prop} {m : Mem} {D : Int} (hS : okM D (m 10 0)) (hD : D ≤ 100000) (hR : okR (mkM (m 10 0))) (hv9 : ∀ t : Int, 0 ≤ t ∧ t < (m 10 0).1 9 → (m 10 0).2 7 (t * 4 + 1) ≤ 90) {x : Int} (hx : R32 x) (kb : ¬ (0 ≤ x ∧ x < (m 10 0).1 2) → Q (some (vi (-2))) (World κ (bmM m 0))) (k : (0 ≤ x ∧ x < (m 10 0).1 2) → Q (some (vi (kfN (mkM (m 10 0)) x 0 6))) (World κ m)) : GG κ G_M_kinds 3 0 0 [.ref (ad κ 10 0), vi x] (World κ m) Q := by
  obtain ⟨s0, s1, s2, s3, s4, s5, hfg, hkd, hsh, hgl⟩ := id hS
  refine GG.intro (ls := [some _, some _]) (Nat.le_of_ble_eq_true rfl) rfl (fun μ F => ?_)
  refine g_aload_n F a_M_kinds_0 rfl ?_
  refine g_iload_n F a_M_kinds_1 rfl ?_
  refine g_v1 F a_M_kinds_2 vc_M_227 mk_M_isReader ob_10 ck_10.1 rfl rfl (by decide) ⟨Nat.le_refl _, Nat.le_refl _⟩ rfl (Nat.le_of_ble_eq_true rfl) (sp_M_isReader hS hD (by omega) (fun c2 => GCr.v ?_) (fun c2 => GCr.v ?_))
  · refine g_ifeq1 F a_M_kinds_5 ?_
    refine g_aload_n F a_M_kinds_8 rfl ?_
    refine g_iload_n F a_M_kinds_9 rfl ?_
    refine g_v1 F a_M_kinds_10 vc_M_276 mk_M_kindsBy ob_10 ck_10.1 rfl rfl (by decide) ⟨Nat.le_refl _, Nat.le_refl _⟩ rfl (Nat.le_of_ble_eq_true rfl) (sp_M_kindsBy hS hD hR hv9 (by omega) (GCr.v ?_))
    refine g_goto F a_M_kinds_13 ?_
    refine g_iret F a_M_kinds_20 rfl ⟨Nat.le_refl _, Nat.le_refl _⟩ ?_
    first | exact kb (by assumption) | exact k (by assumption)
  · refine g_ifeq0 F a_M_kinds_5 ?_
    refine g_aload_n F a_M_kinds_16 rfl ?_
    refine g_v0 F a_M_kinds_17 vc_M_95 mk_M_bad ob_10 ck_10.1 rfl rfl (by decide) ⟨Nat.le_refl _, Nat.le_refl _⟩ rfl (Nat.le_of_ble_eq_true rfl) (sp_M_bad  (GCr.v ?_))
    refine g_iret F a_M_kinds_20 rfl ⟨Nat.le_refl _, Nat.le_refl _⟩ ?_
    first | exact kb (by assumption) | exact k (by assumption)
