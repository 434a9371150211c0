/-! ===== what each call keeps ===== -/
set_option maxHeartbeats 2000000 in
theorem lp_A_whenB {κ : Kx} {μ : MX} {Q : Option Value → (Heap → Prop) → Prop} {m : Mem} {D : Int} {x y : Int} (hS : okS D (m 2 0)) (hD : D + 61 ≤ 100000) (hx : 0 ≤ x ∧ x < (m 2 0).1 4) (hy : 1 ≤ y ∧ y ≤ 90) (k : ∀ a : Nat, a ≤ 61 → Q (some (vi (whN (m 2 0) x y 61))) (World κ (mset m 2 3 (saN (m 2 0) 0 (-1) a)))) (F : Fx κ G_A_when 3 0 0 μ) :
    ∀ (n : Nat) (j : Nat) (v : Int), 61 < j + n → j ≤ 61 → v = (j : Int) → whN (m 2 0) x y j = -1 →  GC κ μ (ZZ κ μ 0 0 Q) 0 0 47 [some (.ref (ad κ 0 0)), some (vi x), some (vi y), some (vi v)] [] (World κ (mset m 2 3 (saN (m 2 0) 0 (-1) j))) := by
  intro n
  induction n with
  | zero =>
    intro j v hn hj hv hw
    exact absurd hn (by omega)
  | succ n ih =>
    intro j v hn hj hv hw
    have hm6 := hS.2.2.2.2.1
    have hSj := saN_ok hS 0 (-1) j
    have haj := ang_r hSj (x := x) (by have := hS.2.2.2.2.1; omega)
    refine g_iload_n F a_A_when_47 rfl ?_
    refine g_bipush F a_A_when_48 (by decide) ?_
    refine g_icmp_gt F (by omega) (by omega) a_A_when_50 (fun h50 => ?_) (fun h50 => ?_)
    · refine g_iconst F a_A_when_82 ?_
      refine g_iret F a_A_when_83 rfl ⟨Nat.le_refl _, Nat.le_refl _⟩ ?_
      exact qv (k j (by omega)) (by rw [show 61 = j by omega, hw])
    · refine g_aload_n F a_A_when_53 rfl ?_
      refine g_get_0_3 F a_A_when_54 fl_A_27 ?_
      (try simp only [mset_app, mset_mset, fup_app, aup_app, fup_fup, aup_aup, false_and, and_false, true_and, and_true, and_self, reduceIte, Nat.reduceEqDiff, reduceCtorEq, fup_10])
      refine g_iload_n F a_A_when_57 rfl ?_
      refine g_v1 F a_A_when_58 vc_A_172 mk_H_angleOf (ob_2 (by first | assumption | decide | omega)) ck_2.1 rfl rfl (by decide) ⟨Nat.le_refl _, Nat.le_refl _⟩ rfl (Nat.le_of_ble_eq_true rfl) (sp_H_angleOf (i := 3) (D := D + j) (by decide) (by exact hSj) (by omega) (by omega) (GCr.v ?_))
      (try simp only [mset_app, mset_mset, fup_app, aup_app, fup_fup, aup_aup, false_and, and_false, true_and, and_true, and_self, reduceIte, Nat.reduceEqDiff, reduceCtorEq, fup_10])
      rw [if_pos (show 0 ≤ x ∧ x < (saN (m 2 0) 0 (-1) j).1 4 by rw [saN_4]; exact hx)]
      refine g_iload_n F a_A_when_61 rfl ?_
      refine g_icmp_lt F (by omega) (by omega) a_A_when_62 (fun h62 => ?_) (fun h62 => ?_)
      · refine g_aload_n F a_A_when_67 rfl ?_
        refine g_get_0_3 F a_A_when_68 fl_A_27 ?_
        (try simp only [mset_app, mset_mset, fup_app, aup_app, fup_fup, aup_aup, false_and, and_false, true_and, and_true, and_self, reduceIte, Nat.reduceEqDiff, reduceCtorEq, fup_10])
        refine g_iconst F a_A_when_71 ?_
        refine g_iconst F a_A_when_72 ?_
        refine g_v2 F a_A_when_73 vc_A_143 mk_H_sail (ob_2 (by first | assumption | decide | omega)) ck_2.1 rfl rfl (by decide) ⟨Nat.le_refl _, Nat.le_refl _⟩ rfl (Nat.le_of_ble_eq_true rfl) (sp_H_sail (i := 3) (D := D + j) (by decide) (by exact hSj) (by omega) (by decide) (by decide) (GCr.n ?_))
        (try simp only [mset_app, mset_mset, fup_app, aup_app, fup_fup, aup_aup, false_and, and_false, true_and, and_true, and_self, reduceIte, Nat.reduceEqDiff, reduceCtorEq, fup_10])
        refine g_iinc (ls' := [_, _, _, _]) F a_A_when_76 rfl rfl rfl ?_
        refine g_goto F a_A_when_79 ?_
        refine GC.loc2 (ih (j + 1) _ (by omega) (by omega) (by omega) ?_) ⟨rfl, rfl, rfl, rfl, trivial⟩
        show (if whN (m 2 0) x y j = -1 ∧ _ then (j : Int) else whN (m 2 0) x y j) = -1
        rw [if_neg (fun q => absurd q.2 (by omega)), hw]
      · refine g_iload_n F a_A_when_65 rfl ?_
        refine g_iret F a_A_when_66 rfl ⟨Nat.le_refl _, Nat.le_refl _⟩ ?_
        obtain ⟨d, hd⟩ : ∃ d : Nat, 61 = (j + 1) + d := ⟨61 - (j + 1), by omega⟩
        have e1 : whN (m 2 0) x y (j + 1) = j := by
          show (if whN (m 2 0) x y j = -1 ∧ _ then (j : Int) else whN (m 2 0) x y j) = j
          rw [if_pos ⟨hw, by omega⟩]
        exact qv (k j (by omega)) (by rw [hd, whN_done (by omega) d, e1, hv])
set_option maxHeartbeats 1000000 in
theorem sp_A_whenB {κ : Kx} {Q : Option Value → (Heap → Prop) → Prop} {m : Mem} {D : Int} (hS : okS D (m 2 0)) (hD60 : D + 61 ≤ 100000) {x y : Int} (hx : R32 x) (hy : R32 y) (kb : ¬ ((0 ≤ x ∧ x < (m 2 0).1 4) ∧ 1 ≤ y ∧ y ≤ 90) → Q (some (vi (-2))) (World κ (bmp m 9))) (k : (0 ≤ x ∧ x < (m 2 0).1 4) → (1 ≤ y ∧ y ≤ 90) → ∀ a : Nat, a ≤ 61 → Q (some (vi (whN (m 2 0) x y 61))) (World κ (mset m 2 3 (saN (m 2 0) 0 (-1) a)))) : GG κ G_A_when 3 0 0 [.ref (ad κ 0 0), vi x, vi y] (World κ m) Q := by
  have hD : D ≤ 100000 := by omega
  obtain ⟨s0, s1, s2, s3, s4, s5, hfg, hkd, hsh, hgl⟩ := id hS
  refine GG.intro (ls := [some _, some _, some _, none]) (Nat.le_of_ble_eq_true rfl) rfl (fun μ F => ?_)
  refine g_aload_n F a_A_when_0 rfl ?_
  refine g_get_0_0 F a_A_when_1 fl_A_10 ?_
  refine g_get_1_0 F a_A_when_4 fl_A_74 (by first | assumption | decide | omega) ?_
  refine g_iload_n F a_A_when_7 rfl ?_
  refine g_v1 F a_A_when_8 vc_A_150 mk_H_hasMan (ob_2 (by first | assumption | decide | omega)) ck_2.1 rfl rfl (by decide) ⟨Nat.le_refl _, Nat.le_refl _⟩ rfl (Nat.le_of_ble_eq_true rfl) (sp_H_hasMan (i := 0) (D := D) (by decide) hS hD (by omega) (fun c8 => GCr.v ?_) (fun c8 => GCr.v ?_))
  · refine g_ifeq1 F a_A_when_11 ?_
    refine g_iload_n F a_A_when_14 rfl ?_
    refine g_iconst F a_A_when_15 ?_
    refine g_bipush F a_A_when_16 (by decide) ?_
    refine g_s3 F a_A_when_18 sc_A_66 mk_A_within rfl (by decide) ⟨Nat.le_refl _, Nat.le_refl _⟩ rfl (Nat.le_of_ble_eq_true rfl) (sp_A_within (by omega) (by omega) (by omega) (fun c18 => GCr.v ?_) (fun c18 => GCr.v ?_))
    · refine g_ifne1 F a_A_when_21 ?_
      refine g_aload_n F a_A_when_31 rfl ?_
      refine g_get_0_3 F a_A_when_32 fl_A_27 ?_
      refine g_aload_n F a_A_when_35 rfl ?_
      refine g_get_0_0 F a_A_when_36 fl_A_10 ?_
      refine g_get_1_0 F a_A_when_39 fl_A_74 (by first | assumption | decide | omega) ?_
      refine g_v1 F a_A_when_42 vc_A_123 mk_H_copy (ob_2 (by first | assumption | decide | omega)) ck_2.1 rfl rfl (by decide) ⟨Nat.le_refl _, Nat.le_refl _⟩ rfl (Nat.le_of_ble_eq_true rfl) (sp_H_copy (by decide) (by decide) (by decide) (GCr.n ?_))
      (try simp only [mset_app, mset_mset, fup_app, aup_app, fup_fup, aup_aup, false_and, and_false, true_and, and_true, and_self, reduceIte, Nat.reduceEqDiff, reduceCtorEq, fup_10])
      refine g_iconst F a_A_when_45 ?_
      refine g_istore_n (ls' := [_, _, _, _]) F a_A_when_46 rfl rfl rfl ?_
      exact GC.loc2 (lp_A_whenB hS hD60 (by assumption) (by assumption) (k (by assumption) (by assumption)) F 62 0 _ (by omega) (by omega) rfl rfl) ⟨rfl, rfl, rfl, rfl, trivial⟩
    · refine g_ifne0 F a_A_when_21 ?_
      refine g_aload_n F a_A_when_24 rfl ?_
      refine g_bipush F a_A_when_25 (by decide) ?_
      refine g_v1 F a_A_when_27 vc_A_70 mk_A_bad ob_0 ck_0.1 rfl rfl (by decide) ⟨Nat.le_refl _, Nat.le_refl _⟩ rfl (Nat.le_of_ble_eq_true rfl) (sp_A_bad  (GCr.v ?_))
      refine g_iret F a_A_when_30 rfl ⟨Nat.le_refl _, Nat.le_refl _⟩ ?_
      exact kb (by omega)
  · refine g_ifeq0 F a_A_when_11 ?_
    refine g_aload_n F a_A_when_24 rfl ?_
    refine g_bipush F a_A_when_25 (by decide) ?_
    refine g_v1 F a_A_when_27 vc_A_70 mk_A_bad ob_0 ck_0.1 rfl rfl (by decide) ⟨Nat.le_refl _, Nat.le_refl _⟩ rfl (Nat.le_of_ble_eq_true rfl) (sp_A_bad  (GCr.v ?_))
    refine g_iret F a_A_when_30 rfl ⟨Nat.le_refl _, Nat.le_refl _⟩ ?_
    exact kb (by omega)
theorem gup_b {g : Int → Int} {u v k lo hi : Int} (hv : lo ≤ v ∧ v ≤ hi) (hg : lo ≤ g k ∧ g k ≤ hi) : lo ≤ gup g u v k ∧ gup g u v k ≤ hi := by
  unfold gup
  split
  · exact hv
  · exact hg
theorem gup4 {f : Int → Int} {n a b c e t i : Int} (hi : 0 ≤ i ∧ i < 4) : gup (gup (gup (gup f (n * 4) a) (n * 4 + 1) b) (n * 4 + 2) c) (n * 4 + 3) e (t * 4 + i) = if t = n then (if i = 0 then a else if i = 1 then b else if i = 2 then c else e) else f (t * 4 + i) := by
  by_cases q : t = n
  · subst q
    rw [if_pos rfl]
    rcases (show i = 0 ∨ i = 1 ∨ i = 2 ∨ i = 3 by omega) with r | r | r | r <;> subst r
    · rw [gup_ne (by omega), gup_ne (by omega), gup_ne (by omega), show t * 4 + 0 = t * 4 by omega, gup_eq]; rfl
    · rw [gup_ne (by omega), gup_ne (by omega), gup_eq]; rfl
    · rw [gup_ne (by omega), gup_eq]; rfl
    · rw [gup_eq]; rfl
  · rw [if_neg q, gup_ne (by omega), gup_ne (by omega), gup_ne (by omega), gup_ne (by omega)]
theorem gup3 {f : Int → Int} {n a b c t i : Int} (hi : 0 ≤ i ∧ i < 3) : gup (gup (gup f (3 * n) a) (3 * n + 1) b) (3 * n + 2) c (t * 3 + i) = if t = n then (if i = 0 then a else if i = 1 then b else c) else f (t * 3 + i) := by
  by_cases q : t = n
  · subst q
    rw [if_pos rfl]
    rcases (show i = 0 ∨ i = 1 ∨ i = 2 by omega) with r | r | r <;> subst r
    · rw [gup_ne (by omega), gup_ne (by omega), show t * 3 + 0 = 3 * t by omega, gup_eq]; rfl
    · rw [gup_ne (by omega), show t * 3 + 1 = 3 * t + 1 by omega, gup_eq]; rfl
    · rw [show t * 3 + 2 = 3 * t + 2 by omega, gup_eq]; rfl
  · rw [if_neg q, gup_ne (by omega), gup_ne (by omega), gup_ne (by omega)]
theorem rok_0 {R V V' : Rc} {w : Int} (h : rok R V w) (e0 : V'.1 0 = 0) (e1 : V'.1 1 = V.1 1) (e2 : ∀ k : Int, V'.2 0 k = V.2 0 k) : rok (fup R.1 0 0, R.2) V' w := by
  obtain ⟨h1, h2, h3, h4, h5⟩ := h
  refine ⟨⟨by show (0 : Int) ≤ 0 ∧ (0 : Int) ≤ 6; decide, h1.2.1, h1.2.2⟩, h2, ⟨by rw [e0]; decide, by rw [e1]; exact h3.2.1, fun k hk => by rw [e2]; exact h3.2.2 k hk⟩, ⟨⟨e0.symm, h4.1.2.trans e1.symm⟩, fun t c ht hc => ?_⟩, fun _ t ht => ?_⟩
  · have ht : 0 ≤ t ∧ t < 0 := ht
    omega
  · have ht : 0 ≤ t ∧ t < 0 := ht
    omega
theorem up_0 {P M M' : Rc} {k : Int} (h : okP P ∧ okA M ∧ lp k P M) (e1 : M'.1 23 = 0) (e2 : M'.2 10 = M.2 10) (k' : Int) : okP (fup P.1 0 0, P.2) ∧ okA M' ∧ lp k' (fup P.1 0 0, P.2) M' := by
  refine ⟨⟨by show (0 : Int) ≤ 0 ∧ (0 : Int) ≤ 8; decide, h.1.2⟩, fun t ht => by rw [e2]; exact h.2.1 t ht, e1.symm, fun t ht => ?_⟩
  have ht : 0 ≤ t ∧ t < 0 := ht
  omega
theorem CR_beg {S R0 R1 R2 P M : Rc} {c : Int} (h : CR S R0 R1 R2 P M) (hc : 0 ≤ c ∧ c ≤ 9) : CR (begS c S) (fup R0.1 0 0, R0.2) (fup R1.1 0 0, R1.2) (fup R2.1 0 0, R2.2) (fup P.1 0 0, P.2) (bgM c M) :=
  ⟨⟨ok_beg h.1.1 hc, bg_ok h.1.2.1 hc, beg_lv c S M⟩, rok_0 h.2.1 rfl rfl (fun _ => rfl), rok_0 h.2.2.1 rfl rfl (fun _ => rfl), rok_0 h.2.2.2.1 rfl rfl (fun _ => rfl), up_0 (M' := bgM c M) h.2.2.2.2 rfl rfl _⟩
theorem CR_fog {S R0 R1 R2 P M : Rc} {x y : Int} (h : CR S R0 R1 R2 P M) (hy : 0 ≤ y ∧ y ≤ 1) : CR (S.1, aup S.2 0 (gup (S.2 0) x y)) R0 R1 R2 (fup P.1 0 0, P.2) (fup M.1 23 0, aup M.2 4 (gup (M.2 4) x y)) := by
  obtain ⟨⟨hS, hM, hl⟩, r0, r1, r2, hp⟩ := h
  refine ⟨⟨⟨hS.1, hS.2.1, hS.2.2.1, hS.2.2.2.1, hS.2.2.2.2.1, hS.2.2.2.2.2.1, fun k hk => ?_, hS.2.2.2.2.2.2.2.1, hS.2.2.2.2.2.2.2.2.1, hS.2.2.2.2.2.2.2.2.2⟩, ⟨hM.1, hM.2.1, hM.2.2.1, hM.2.2.2.1, hM.2.2.2.2.1, hM.2.2.2.2.2.1, fun k hk => ?_, hM.2.2.2.2.2.2.2.1, hM.2.2.2.2.2.2.2.2.1, hM.2.2.2.2.2.2.2.2.2⟩, ?_⟩, r0, r1, r2, up_0 (M' := (fup M.1 23 0, aup M.2 4 (gup (M.2 4) x y))) hp rfl rfl _⟩
  · exact gup_b hy (hS.2.2.2.2.2.2.1 k hk)
  · exact gup_b hy (hM.2.2.2.2.2.2.1 k hk)
  · exact fog1_lv hl x y
theorem CR_man {S R0 R1 R2 P M : Rc} {x y : Int} (h : CR S R0 R1 R2 P M) (hm : S.1 4 < 6) (hx : 0 ≤ x ∧ x ≤ 5) (hy : 0 ≤ y ∧ y ≤ 90) : CR (addM S x y) R0 R1 R2 (fup P.1 0 0, P.2) (amM M x y) := by
  obtain ⟨⟨hS, hM, hl⟩, r0, r1, r2, hp⟩ := h
  have hm2 : (shM M).1 4 < 6 := by rw [← hl.men]; exact hm
  exact ⟨⟨ok_M hS hm hx hy, ok_M (okM_S hM) hm2 hx hy, addM_lv hl x y⟩, r0, r1, r2, up_0 (M' := amM M x y) hp rfl rfl _⟩
theorem CR_reader {S R0 R1 R2 P M : Rc} {x : Int} (h : CR S R0 R1 R2 P M) (hm : S.1 5 < 3) (hx : 0 ≤ x ∧ x ≤ 5) : CR (addG S x) R0 R1 R2 (fup P.1 0 0, P.2) (agM M x) := by
  obtain ⟨⟨hS, hM, hl⟩, r0, r1, r2, hp⟩ := h
  have hm2 : (shM M).1 5 < 3 := by rw [← hl.rds]; exact hm
  exact ⟨⟨ok_G hS hm hx, ok_G (okM_S hM) hm2 hx, addG_lv hl x⟩, r0, r1, r2, up_0 (M' := agM M x) hp rfl rfl _⟩
theorem CR_noon {S R0 R1 R2 P M : Rc} {x y : Int} (h : CR S R0 R1 R2 P M) (hd : S.1 3 < 999) : CR (sailS S x y) R0 R1 R2 (pushP P S) (stM (nuM M) (sailS (shM M) x y)) := by
  obtain ⟨⟨hS, hM, hl⟩, r0, r1, r2, hp1, hp2, hp3⟩ := h
  obtain ⟨q1, q2, q3⟩ := push_ok hS hM hl hp1 hp2 hp3
  have hd2 : (shM M).1 3 < 999 := by rw [← hl.1.2.2.2.1]; exact hd
  have o1 : okS 999 (sailS S x y) := (sail_ok hS x y).day (by show S.1 3 + 1 ≤ 999; omega)
  have o2 : okS 999 (sailS (shM M) x y) := (sail_ok (okM_S hM) x y).day (by show (shM M).1 3 + 1 ≤ 999; omega)
  refine ⟨⟨o1, ?_, ?_⟩, ?_, ?_, ?_, q1, q2, q3⟩
  · unfold nuM
    split <;> exact o2
  · have := sail_lv hl x y
    unfold nuM
    split <;> exact this
  · unfold nuM
    split <;> exact r0
  · unfold nuM
    split <;> exact r1
  · unfold nuM
    split <;> exact r2
theorem CR_deed {S R0 R1 R2 P M : Rc} {x y : Int} (h : CR S R0 R1 R2 P M) (hx : 0 ≤ x ∧ x < S.1 4) (hy : 1 ≤ y ∧ y ≤ 90) : CR (addH S x y) R0 R1 R2 (pushP P S) ((nuM M).1, aup (nuM M).2 2 (gup (M.2 2) x (min (M.2 2 x + y) 90))) := by
  obtain ⟨⟨hS, hM, hl⟩, r0, r1, r2, hp1, hp2, hp3⟩ := h
  obtain ⟨q1, q2, q3⟩ := push_ok hS hM hl hp1 hp2 hp3
  have hx2 : 0 ≤ x ∧ x < (shM M).1 4 := by rw [← hl.men]; exact hx
  have o1 : okS 999 (addH S x y) := ok_H hS hx (by omega)
  have o2 : okS 999 (addH (shM M) x y) := ok_H (okM_S hM) hx2 (by omega)
  have o3 := addH_lv hl hx y
  refine ⟨⟨o1, ?_, ?_⟩, ?_, ?_, ?_, q1, q2, q3⟩
  · unfold nuM
    split <;> exact o2
  · unfold nuM
    split <;> exact o3
  · unfold nuM
    split <;> exact r0
  · unfold nuM
    split <;> exact r1
  · unfold nuM
    split <;> exact r2
theorem CR_undo {S R0 R1 R2 P M : Rc} (h : CR S R0 R1 R2 P M) (hd : 1 ≤ P.1 0) : CR (popS P S) R0 R1 R2 (fup P.1 0 (P.1 0 - 1), P.2) (stM (fup M.1 23 (M.1 23 - 1), M.2) (tkS (M.2 10) (9 * (M.1 23 - 1)) (shM M))) ∧ (popS P S).1 3 = M.2 10 (9 * (M.1 23 - 1) + 2) := by
  obtain ⟨⟨hS, hM, hl⟩, r0, r1, r2, ⟨hz, hc⟩, hA, hp⟩ := h
  have h23 := hp.1
  have hm6 := hS.2.2.2.2.1
  obtain ⟨c1, c2, c3, c4⟩ := hc (P.1 0 - 1) (by omega)
  obtain ⟨a1, a2, a3, a4⟩ := hA (P.1 0 - 1) (by omega)
  obtain ⟨p1, p2, p3, p4⟩ := hp.2 (P.1 0 - 1) (by omega)
  have e9 : 9 * (M.1 23 - 1) = (P.1 0 - 1) * 9 := by omega
  rw [e9]
  rw [show (P.1 0 - 1) * 9 + 7 = (P.1 0 - 1) * 9 + 6 + 1 by omega] at c3 p3
  rw [show (P.1 0 - 1) * 9 + 8 = (P.1 0 - 1) * 9 + 6 + 2 by omega] at c4 p4
  refine ⟨⟨⟨⟨c2.imp id (fun _ => by show P.2 0 ((P.1 0 - 1) * 9 + 6) < 100; omega), ⟨c3.1, by show P.2 0 ((P.1 0 - 1) * 9 + 6 + 1) < 100; omega⟩, hS.2.2.1, c4, hS.2.2.2.2.1, hS.2.2.2.2.2.1, hS.2.2.2.2.2.2.1, hS.2.2.2.2.2.2.2.1, c1, hS.2.2.2.2.2.2.2.2.2⟩, ⟨⟨a2.1, by show M.2 10 ((P.1 0 - 1) * 9) < 100; omega⟩, ⟨a3.1, by show M.2 10 ((P.1 0 - 1) * 9 + 1) < 100; omega⟩, hM.2.2.1, a4, hM.2.2.2.2.1, hM.2.2.2.2.2.1, hM.2.2.2.2.2.2.1, hM.2.2.2.2.2.2.2.1, a1, hM.2.2.2.2.2.2.2.2.2⟩, ?_⟩, r0, r1, r2, ⟨by show 0 ≤ P.1 0 - 1 ∧ P.1 0 - 1 ≤ 8; omega, hc⟩, hA, by show P.1 0 - 1 = M.1 23 - 1; omega, fun t ht => hp.2 t (by have ht : 0 ≤ t ∧ t < P.1 0 - 1 := ht; omega)⟩, p4⟩
  obtain ⟨⟨b0, b1, b2, b3, b4, b5⟩, d0, d1, d2, d3⟩ := hl
  exact ⟨⟨p2, p3, b2, p4, b4, b5⟩, d0, d1, fun k hk => p1 k hk, d3⟩
theorem rok_seen {R M : Rc} {a b c : Int} (h : rok R (snM M) 3) (hz : R.1 0 < 6) (ha : 0 ≤ a ∧ a ≤ 99) (hb : 0 ≤ b ∧ b ≤ 99) (hc : 0 ≤ c ∧ c ≤ 99) : rok (addR R a b c 0) (snM (fup M.1 7 (M.1 7 + 1), aup M.2 5 (gup (gup (gup (M.2 5) (3 * M.1 7) a) (3 * M.1 7 + 1) b) (3 * M.1 7 + 2) c))) 3 := by
  obtain ⟨h1, h2, h3, h4, h5⟩ := h
  have e7 : R.1 0 = M.1 7 := h4.1.1
  have hz0 := h1.1
  refine ⟨⟨by show 0 ≤ R.1 0 + 1 ∧ R.1 0 + 1 ≤ 6; omega, h1.2.1, fun k hk => gup_b (by decide) (gup_b hc (gup_b hb (gup_b ha (h1.2.2 k hk))))⟩, h2, ⟨by show 0 ≤ M.1 7 + 1 ∧ M.1 7 + 1 ≤ 6; omega, Or.inl rfl, fun k hk => ?_⟩, ⟨⟨by show R.1 0 + 1 = M.1 7 + 1; omega, h2⟩, fun t i ht hi => ?_⟩, fun h => absurd h (by decide)⟩
  · have := h3.2.2 k hk
    have this : 0 ≤ (if k % 4 = 3 then 0 else M.2 5 (k / 4 * 3 + k % 4)) ∧ (if k % 4 = 3 then 0 else M.2 5 (k / 4 * 3 + k % 4)) ≤ 99 := this
    show 0 ≤ (if k % 4 = 3 then 0 else (gup (gup (gup (M.2 5) (3 * M.1 7) a) (3 * M.1 7 + 1) b) (3 * M.1 7 + 2) c) (k / 4 * 3 + k % 4)) ∧ (if k % 4 = 3 then 0 else (gup (gup (gup (M.2 5) (3 * M.1 7) a) (3 * M.1 7 + 1) b) (3 * M.1 7 + 2) c) (k / 4 * 3 + k % 4)) ≤ 99
    by_cases q : k % 4 = 3
    · rw [if_pos q]; decide
    · rw [if_neg q] at this ⊢
      exact gup_b hc (gup_b hb (gup_b ha this))
  · have ht : 0 ≤ t ∧ t < R.1 0 + 1 := ht
    have hi : 0 ≤ i ∧ i < 3 := by
      have hi : 0 ≤ i ∧ i < R.1 1 := hi
      omega
    rw [sn_c hi]
    show gup (gup (gup (gup (R.2 0) (R.1 0 * 4) a) (R.1 0 * 4 + 1) b) (R.1 0 * 4 + 2) c) (R.1 0 * 4 + 3) 0 (t * 4 + i) = gup (gup (gup (M.2 5) (3 * M.1 7) a) (3 * M.1 7 + 1) b) (3 * M.1 7 + 2) c (t * 3 + i)
    rw [gup4 (by omega), gup3 hi, ← e7]
    by_cases q : t = R.1 0
    · rw [if_pos q, if_pos q]
      split
      · rfl
      · split
        · rfl
        · rw [if_pos (by omega)]
    · rw [if_neg q, if_neg q, ← sn_c hi]
      exact h4.2 t i (by omega) (by omega)
theorem rok_four {R V V' : Rc} {n : Int} {g : Int → Int} {a b c e : Int} (h : rok R V 4) (hz : R.1 0 < 6) (ha : 0 ≤ a ∧ a ≤ 99) (hb : 0 ≤ b ∧ b ≤ 90) (hc : 0 ≤ c ∧ c ≤ 99) (he : 0 ≤ e ∧ e ≤ 99) (eg : V.2 0 = g) (en : V.1 0 = n) (e0 : V'.1 0 = n + 1) (e1 : V'.1 1 = V.1 1) (e2 : V'.2 0 = gup (gup (gup (gup g (4 * n) a) (4 * n + 1) b) (4 * n + 2) c) (4 * n + 3) e) : rok (addR R a b c e) V' 4 := by
  obtain ⟨h1, h2, h3, h4, h5⟩ := h
  have e7 : R.1 0 = n := h4.1.1.trans en
  have hz0 := h1.1
  subst eg
  rw [show 4 * n = R.1 0 * 4 by omega] at e2
  refine ⟨⟨by show 0 ≤ R.1 0 + 1 ∧ R.1 0 + 1 ≤ 6; omega, h1.2.1, fun k hk => gup_b he (gup_b hc (gup_b (by omega) (gup_b ha (h1.2.2 k hk))))⟩, h2, ⟨by rw [e0]; omega, by rw [e1]; exact h3.2.1, fun k hk => ?_⟩, ⟨⟨by rw [e0]; show R.1 0 + 1 = _; omega, h4.1.2.trans e1.symm⟩, fun t i ht hi => ?_⟩, fun _ t ht => ?_⟩
  · rw [e2]
    exact gup_b he (gup_b hc (gup_b (by omega) (gup_b ha (h3.2.2 k hk))))
  · have ht : 0 ≤ t ∧ t < R.1 0 + 1 := ht
    have hi : 0 ≤ i ∧ i < R.1 1 := hi
    rw [e2]
    show gup (gup (gup (gup (R.2 0) (R.1 0 * 4) a) (R.1 0 * 4 + 1) b) (R.1 0 * 4 + 2) c) (R.1 0 * 4 + 3) e (t * 4 + i) = _
    rw [gup4 (by omega), gup4 (by omega)]
    by_cases q : t = R.1 0
    · rw [if_pos q, if_pos q]
    · rw [if_neg q, if_neg q]
      exact h4.2 t i (by omega) (by omega)
  · have ht : 0 ≤ t ∧ t < R.1 0 + 1 := ht
    show gup (gup (gup (gup (R.2 0) (R.1 0 * 4) a) (R.1 0 * 4 + 1) b) (R.1 0 * 4 + 2) c) (R.1 0 * 4 + 3) e (t * 4 + 1) ≤ 90
    rw [gup4 (by decide)]
    by_cases q : t = R.1 0
    · rw [if_pos q, if_neg (by decide), if_pos rfl]; omega
    · rw [if_neg q]
      exact h5 rfl t (by omega)
theorem CR_seen {S R0 R1 R2 P M : Rc} {a b c : Int} (h : CR S R0 R1 R2 P M) (hz : R0.1 0 < 6) (ha : 0 ≤ a ∧ a ≤ 99) (hb : 0 ≤ b ∧ b ≤ 99) (hc : 0 ≤ c ∧ c ≤ 99) : CR S (addR R0 a b c 0) R1 R2 P (fup M.1 7 (M.1 7 + 1), aup M.2 5 (gup (gup (gup (M.2 5) (3 * M.1 7) a) (3 * M.1 7 + 1) b) (3 * M.1 7 + 2) c)) :=
  ⟨h.1, rok_seen h.2.1 hz ha hb hc, h.2.2.1, h.2.2.2.1, h.2.2.2.2⟩
theorem CR_note {S R0 R1 R2 P M : Rc} {a b c e : Int} (h : CR S R0 R1 R2 P M) (hz : R1.1 0 < 6) (ha : 0 ≤ a ∧ a ≤ 99) (hb : 0 ≤ b ∧ b ≤ 90) (hc : 0 ≤ c ∧ c ≤ 99) (he : 0 ≤ e ∧ e ≤ 99) : CR S R0 (addR R1 a b c e) R2 P (fup M.1 8 (M.1 8 + 1), aup M.2 6 (gup (gup (gup (gup (M.2 6) (4 * M.1 8) a) (4 * M.1 8 + 1) b) (4 * M.1 8 + 2) c) (4 * M.1 8 + 3) e)) :=
  ⟨h.1, h.2.1, rok_four h.2.2.1 hz ha hb hc he rfl rfl rfl rfl rfl, h.2.2.2.1, h.2.2.2.2⟩
theorem CR_mark {S R0 R1 R2 P M : Rc} {a b c e : Int} (h : CR S R0 R1 R2 P M) (hz : R2.1 0 < 6) (ha : 0 ≤ a ∧ a ≤ 99) (hb : 0 ≤ b ∧ b ≤ 90) (hc : 0 ≤ c ∧ c ≤ 99) (he : 0 ≤ e ∧ e ≤ 99) : CR S R0 R1 (addR R2 a b c e) P (fup M.1 9 (M.1 9 + 1), aup M.2 7 (gup (gup (gup (gup (M.2 7) (4 * M.1 9) a) (4 * M.1 9 + 1) b) (4 * M.1 9 + 2) c) (4 * M.1 9 + 3) e)) :=
  ⟨h.1, h.2.1, h.2.2.1, rok_four h.2.2.2.1 hz ha hb hc he rfl rfl rfl rfl rfl, h.2.2.2.2⟩
theorem CR_f0 {S R0 R1 R2 P M : Rc} (h : CR S R0 R1 R2 P M) : CR S (fup R0.1 0 0, R0.2) R1 R2 P (fup M.1 7 0, M.2) :=
  ⟨h.1, rok_0 h.2.1 rfl rfl (fun _ => rfl), h.2.2.1, h.2.2.2.1, h.2.2.2.2⟩
theorem CR_f1 {S R0 R1 R2 P M : Rc} (h : CR S R0 R1 R2 P M) : CR S R0 (fup R1.1 0 0, R1.2) R2 P (fup M.1 8 0, M.2) :=
  ⟨h.1, h.2.1, rok_0 h.2.2.1 rfl rfl (fun _ => rfl), h.2.2.2.1, h.2.2.2.2⟩
theorem CR_f2 {S R0 R1 R2 P M : Rc} (h : CR S R0 R1 R2 P M) : CR S R0 R1 (fup R2.1 0 0, R2.2) P (fup M.1 9 0, M.2) :=
  ⟨h.1, h.2.1, h.2.2.1, rok_0 h.2.2.2.1 rfl rfl (fun _ => rfl), h.2.2.2.2⟩
/-- rows laid into others of the same width -/
theorem rok_cp {R X V : Rc} {w : Int} (h : rok R V w) (hw : X.1 1 = w) : rok (fup X.1 0 (R.1 0), R.2) V w := by
  obtain ⟨h1, h2, h3, h4, h5⟩ := h
  have e : X.1 1 = R.1 1 := hw.trans h2.symm
  refine ⟨⟨h1.1, by show X.1 1 = 3 ∨ X.1 1 = 4; rw [e]; exact h1.2.1, h1.2.2⟩, hw, h3, ⟨⟨h4.1.1, e.trans h4.1.2⟩, fun t c ht hc => h4.2 t c ht (by have hc : 0 ≤ c ∧ c < X.1 1 := hc; omega)⟩, h5⟩
theorem CR_cp {S R0 R1 R2 P M X0 X1 X2 : Rc} (h : CR S R0 R1 R2 P M) (w0 : X0.1 1 = 3) (w1 : X1.1 1 = 4) (w2 : X2.1 1 = 4) : CR S (fup X0.1 0 (R0.1 0), R0.2) (fup X1.1 0 (R1.1 0), R1.2) (fup X2.1 0 (R2.1 0), R2.2) P M :=
  ⟨h.1, rok_cp h.2.1 w0, rok_cp h.2.2.1 w1, rok_cp h.2.2.2.1 w2, h.2.2.2.2⟩
/-- a ship that was read -/
theorem CR_read {S R0 R1 R2 P M S' M' : Rc} (h : CR S R0 R1 R2 P M) (hS : okS 150 S') (hl : lv S' (shM M')) {D : Int} (hM : okM D M') (hF : FRd M M') : CR S' (fup R0.1 0 0, R0.2) (fup R1.1 0 0, R1.2) (fup R2.1 0 0, R2.2) (fup P.1 0 0, P.2) M' := by
  obtain ⟨⟨f7, f8, f9, f23⟩, _, _, _, _, _, g5, g6, g7, g10⟩ := hF
  have hd : M'.1 6 ≤ 999 := by
    have h1 : S'.1 3 = M'.1 6 := hl.1.2.2.2.1
    have h2 := hS.2.2.2.1
    omega
  refine ⟨⟨hS.day (by have h2 := hS.2.2.2.1; omega), okS_M ((okM_S hM).day hd), hl⟩, rok_0 h.2.1 f7 rfl (fun k => ?_), rok_0 h.2.2.1 f8 rfl (fun k => ?_), rok_0 h.2.2.2.1 f9 rfl (fun k => ?_), up_0 h.2.2.2.2 f23 g10 _⟩
  · show (if k % 4 = 3 then 0 else M'.2 5 (k / 4 * 3 + k % 4)) = (if k % 4 = 3 then 0 else M.2 5 (k / 4 * 3 + k % 4))
    rw [g5]
  · show M'.2 6 k = M.2 6 k
    rw [g6]
  · show M'.2 7 k = M.2 7 k
    rw [g7]
theorem tell_ok {B : Int → Int} {z : Nat} : ∀ (f k p : Nat) (D : Int) (S S' : Rc) (n : Nat), 0 < k → okS D S → tellL B z f k p S = .inr (n, S') → okS (D + f) S'
  | 0, _, _, _, _, _, _, _, _, h => by cases h
  | f + 1, k, p, D, S, S', n, hk, hS, h => by
    unfold tellL at h
    by_cases c : lK B z p = 0 ∧ 0 < k
    · rw [if_pos c] at h
      cases h
      exact hS.day (by have := hS.2.2.2.1; omega)
    · rw [if_neg c] at h
      cases e : item B z p (decide (k = 0)) S with
      | inl e9 => rw [e] at h; cases h
      | inr w =>
        obtain ⟨q, S1⟩ := w
        rw [e] at h
        have := tell_ok f (k + 1) q (D + 1) S1 S' n (by omega) (item_ok hS e) h
        rw [show D + ((f + 1 : Nat) : Int) = D + 1 + (f : Int) by omega]
        exact this
theorem fin_r {B : Int → Int} {z a q : Nat} {S S' : Rc} (h : finB B z a S = .inr (q, S')) : S' = S := fin_S h
theorem tell_day {B : Int → Int} {z n : Nat} {D : Int} {S S' : Rc} (hS : okS D S) (h : tellL B z 150 0 0 S = .inr (n, S')) : okS 150 S' := by
  unfold tellL at h
  rw [if_neg (fun q => absurd q.2 (by decide)), decide_eq_true rfl] at h
  cases e : item B z 0 true S with
  | inl e9 => rw [e] at h; cases h
  | inr w =>
    obtain ⟨q, S1⟩ := w
    rw [e] at h
    have e0 : okS 0 S1 := by
      unfold item at e
      split at e
      · rw [if_pos rfl] at e
        unfold iShip at e
        split at e
        · rename_i g
          rw [fin_r e]
          exact (ok_beg hS g.2).day (by show (0 : Int) ≤ 0; decide)
        · cases e
      · rw [if_pos rfl] at e
        cases e
    have := tell_ok 149 1 q 0 S1 S' n (by decide) e0 h
    exact this.day (by have := this.2.2.2.1; omega)
/-- the digest of rows, there and here -/
theorem rw_sq {R : Rc} {g : Int → Int} {h : Int} {w n : Nat} (hg : ∀ c : Nat, c < w → R.2 0 ((n : Int) * 4 + c) = g (w * n + c : Nat)) : ∀ k : Nat, k ≤ w → rwN R (sqN g h (w * n)) n k = sqN g h (w * n + k)
  | 0, _ => rfl
  | k + 1, hk => by
    show 31 * rwN R (sqN g h (w * n)) n k + R.2 0 ((n : Int) * 4 + k) = 31 * sqN g h (w * n + k) + g (w * n + k : Nat)
    rw [rw_sq hg k (by omega), hg k (by omega)]
theorem rd_sq {R : Rc} {g : Int → Int} {h : Int} {w : Nat} (hw : R.1 1 = (w : Int)) : ∀ n : Nat, (∀ t : Nat, t < n → ∀ c : Nat, c < w → R.2 0 ((t : Int) * 4 + c) = g (w * t + c : Nat)) → rdN R h n = sqN g h (w * n)
  | 0, _ => rfl
  | n + 1, hg => by
    show rwN R (rdN R h n) n (R.1 1).toNat = _
    rw [rd_sq hw n (fun t ht => hg t (by omega)), hw]
    show rwN R (sqN g h (w * n)) n w = _
    rw [rw_sq (hg n (by omega)) w (Nat.le_refl _), Nat.mul_succ]
theorem sn_sq {R M : Rc} {h : Int} (hr : rok R (snM M) 3) : rdN R h (R.1 0).toNat = sqN (M.2 5) h (3 * M.1 7).toNat := by
  have e : R.1 0 = M.1 7 := hr.2.2.2.1.1.1
  have hz := hr.1.1
  rw [rd_sq (w := 3) (g := M.2 5) hr.2.1 _ (fun t ht c hc => ?_)]
  · exact congrArg (sqN (M.2 5) h) (by omega)
  · rw [hr.2.2.2.1.2 t c (by omega) (by have := hr.2.1; omega), sn_c (by omega)]
    exact congrArg (M.2 5) (by omega)
theorem fr_sq {R V : Rc} {h n : Int} {g : Int → Int} (hr : rok R V 4) (e0 : V.1 0 = n) (e1 : V.2 0 = g) : rdN R h (R.1 0).toNat = sqN g h (4 * n).toNat := by
  have e : R.1 0 = n := hr.2.2.2.1.1.1.trans e0
  have hz := hr.1.1
  rw [rd_sq (w := 4) (g := g) hr.2.1 _ (fun t ht c hc => ?_)]
  · exact congrArg (sqN g h) (by omega)
  · rw [hr.2.2.2.1.2 t c (by omega) (by have := hr.2.1; omega), e1]
    exact congrArg g (by omega)
theorem best_eq {D : Int} {S : Rc} (h : okS D S) {x y : Int} (hx : 0 ≤ x ∧ x ≤ S.1 4) : farS S (loN S x y (allN S)).1 y = (loN S x y (allN S)).2 := by
  have h1 := loN_ok h (nn := x) (r := y) hx
  rcases loN_far h x y (allN S) with h2 | h2
  · omega
  · exact h2.2.1.symm
