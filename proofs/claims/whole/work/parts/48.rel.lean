/-! ===== how class and model stand together ===== -/
def okA (M : Rc) : Prop := ∀ t : Int, 0 ≤ t ∧ t < 8 → (∀ k : Int, 0 ≤ k ∧ k < 6 → 0 ≤ M.2 10 (t * 9 + 3 + k) ∧ M.2 10 (t * 9 + 3 + k) ≤ 90) ∧ (0 ≤ M.2 10 (t * 9) ∧ M.2 10 (t * 9) ≤ 99) ∧ (0 ≤ M.2 10 (t * 9 + 1) ∧ M.2 10 (t * 9 + 1) ≤ 99) ∧ (0 ≤ M.2 10 (t * 9 + 2) ∧ M.2 10 (t * 9 + 2) ≤ 999)
/-- what may be undone, there and here, of so many men -/
def lp (men : Int) (P M : Rc) : Prop := P.1 0 = M.1 23 ∧ ∀ t : Int, 0 ≤ t ∧ t < P.1 0 → (∀ k : Int, 0 ≤ k ∧ k < men → P.2 0 (t * 9 + k) = M.2 10 (t * 9 + 3 + k)) ∧ P.2 0 (t * 9 + 6) = M.2 10 (t * 9) ∧ P.2 0 (t * 9 + 7) = M.2 10 (t * 9 + 1) ∧ P.2 0 (t * 9 + 8) = M.2 10 (t * 9 + 2)
def rok (R V : Rc) (w : Int) : Prop := okR R ∧ R.1 1 = w ∧ okR V ∧ lr R V ∧ (w = 4 → ∀ t : Int, 0 ≤ t ∧ t < R.1 0 → R.2 0 (t * 4 + 1) ≤ 90)
/-- all that an image keeps, there and here -/
def CR (S R0 R1 R2 P M : Rc) : Prop := (okS 999 S ∧ okM 999 M ∧ lv S (shM M)) ∧ rok R0 (snM M) 3 ∧ rok R1 (ntM M) 4 ∧ rok R2 (mkM M) 4 ∧ (okP P ∧ okA M ∧ lp (S.1 4) P M)
theorem lv.man {S M : Rc} (h : lv S (shM M)) : S.1 4 = M.1 1 := h.men
theorem lv.rdr {S M : Rc} (h : lv S (shM M)) : S.1 5 = M.1 2 := h.rds
theorem lyI_0 {S : Rc} {f : Int → Int} {a x : Int} (h : x = a) : lyI S f a x = S.1 0 := by
  unfold lyI
  rw [if_pos h]
theorem lyI_1 {S : Rc} {f : Int → Int} {a x : Int} (h : x = a + 1) : lyI S f a x = S.1 1 := by
  unfold lyI
  rw [if_neg (show ¬ x = a by omega), if_pos h]
theorem lyI_2 {S : Rc} {f : Int → Int} {a x : Int} (h : x = a + 2) : lyI S f a x = S.1 3 := by
  unfold lyI
  rw [if_neg (show ¬ x = a by omega), if_neg (show ¬ x = a + 1 by omega), if_pos h]
theorem lyI_s {S : Rc} {f : Int → Int} {a x k : Int} (h : x = a + 3 + k) (hk : 0 ≤ k ∧ k < 6) : lyI S f a x = S.2 2 k := by
  unfold lyI
  rw [if_neg (show ¬ x = a by omega), if_neg (show ¬ x = a + 1 by omega), if_neg (show ¬ x = a + 2 by omega), if_pos (show a + 3 ≤ x ∧ x < a + 9 by omega)]
  exact congrArg (S.2 2) (by omega)
theorem lyI_o {S : Rc} {f : Int → Int} {a x : Int} (h : x < a ∨ a + 9 ≤ x) : lyI S f a x = f x := by
  unfold lyI
  rw [if_neg (show ¬ x = a by omega), if_neg (show ¬ x = a + 1 by omega), if_neg (show ¬ x = a + 2 by omega), if_neg (show ¬ (a + 3 ≤ x ∧ x < a + 9) by omega)]
theorem layP_s {S : Rc} {c : Int → Int} {n x k : Int} (h : x = n * 9 + k) (hk : 0 ≤ k ∧ k < 6) : layP c n S x = S.2 2 k := by
  unfold layP
  rw [gup_ne (by omega), gup_ne (by omega), gup_ne (by omega)]
  unfold cpyI
  rw [if_pos (show n * 9 ≤ x ∧ x < n * 9 + 6 by omega)]
  exact congrArg (S.2 2) (by omega)
theorem layP_6 {S : Rc} {c : Int → Int} {n x : Int} (h : x = n * 9 + 6) : layP c n S x = S.1 0 := by
  unfold layP
  rw [gup_ne (by omega), gup_ne (by omega), h, gup_eq]
theorem layP_7 {S : Rc} {c : Int → Int} {n x : Int} (h : x = n * 9 + 6 + 1) : layP c n S x = S.1 1 := by
  unfold layP
  rw [gup_ne (by omega), h, gup_eq]
theorem layP_8 {S : Rc} {c : Int → Int} {n x : Int} (h : x = n * 9 + 6 + 2) : layP c n S x = S.1 3 := by
  unfold layP
  rw [h, gup_eq]
theorem layP_o {S : Rc} {c : Int → Int} {n x : Int} (h : x < n * 9 ∨ n * 9 + 9 ≤ x) : layP c n S x = c x := by
  unfold layP
  rw [gup_ne (by omega), gup_ne (by omega), gup_ne (by omega)]
  unfold cpyI
  rw [if_neg (show ¬ (n * 9 ≤ x ∧ x < n * 9 + 6) by omega)]
theorem cpy9 {c : Int → Int} {x : Int} (h : 0 ≤ x ∧ x < 63) : cpyI c c 9 0 63 x = c (x + 9) := by
  unfold cpyI
  rw [if_pos (by omega)]
  exact congrArg c (by omega)
/-- a step laid at place n, all others as c has them -/
theorem okPc_lay {S : Rc} {c : Int → Int} {n : Int} (hS : okS 999 S) (h : ∀ t : Int, 0 ≤ t ∧ t < 8 → t ≠ n → (∀ k : Int, 0 ≤ k ∧ k < 6 → 0 ≤ c (t * 9 + k) ∧ c (t * 9 + k) ≤ 90) ∧ (0 ≤ c (t * 9 + 6) ∧ c (t * 9 + 6) ≤ 99) ∧ (0 ≤ c (t * 9 + 7) ∧ c (t * 9 + 7) ≤ 99) ∧ (0 ≤ c (t * 9 + 8) ∧ c (t * 9 + 8) ≤ 999)) : okPc (layP c n S) := by
  obtain ⟨s0, s1, s2, s3, s4, s5, hfg, hkd, hsh, hgl⟩ := hS
  intro t ht
  by_cases e : t = n
  · subst e
    refine ⟨fun k hk => ?_, ?_, ?_, ?_⟩
    · rw [layP_s rfl hk]; exact hsh k hk
    · rw [layP_6 rfl]; omega
    · rw [layP_7 (by omega)]; omega
    · rw [layP_8 (by omega)]; omega
  · obtain ⟨h1, h2, h3, h4⟩ := h t ht e
    refine ⟨fun k hk => ?_, ?_, ?_, ?_⟩
    · rw [layP_o (by omega)]; exact h1 k hk
    · rw [layP_o (by omega)]; exact h2
    · rw [layP_o (by omega)]; exact h3
    · rw [layP_o (by omega)]; exact h4
theorem okA_lay {M : Rc} {f : Int → Int} {n a : Int} {F : Nat → Int} (hM : okM 999 M) (ha : a = n * 9) (h : ∀ t : Int, 0 ≤ t ∧ t < 8 → t ≠ n → (∀ k : Int, 0 ≤ k ∧ k < 6 → 0 ≤ f (t * 9 + 3 + k) ∧ f (t * 9 + 3 + k) ≤ 90) ∧ (0 ≤ f (t * 9) ∧ f (t * 9) ≤ 99) ∧ (0 ≤ f (t * 9 + 1) ∧ f (t * 9 + 1) ≤ 99) ∧ (0 ≤ f (t * 9 + 2) ∧ f (t * 9 + 2) ≤ 999)) : okA (F, aup M.2 10 (lyI (shM M) f a)) := by
  obtain ⟨s0, s1, s2, s3, s4, s5, hfg, hkd, hsh, hgl⟩ := hM
  intro t ht
  show (∀ k : Int, 0 ≤ k ∧ k < 6 → 0 ≤ lyI (shM M) f a (t * 9 + 3 + k) ∧ lyI (shM M) f a (t * 9 + 3 + k) ≤ 90) ∧ (0 ≤ lyI (shM M) f a (t * 9) ∧ lyI (shM M) f a (t * 9) ≤ 99) ∧ (0 ≤ lyI (shM M) f a (t * 9 + 1) ∧ lyI (shM M) f a (t * 9 + 1) ≤ 99) ∧ (0 ≤ lyI (shM M) f a (t * 9 + 2) ∧ lyI (shM M) f a (t * 9 + 2) ≤ 999)
  by_cases e : t = n
  · subst e
    refine ⟨fun k hk => ?_, ?_, ?_, ?_⟩
    · rw [lyI_s (by omega) hk]; exact hsh k hk
    · rw [lyI_0 (by omega)]; show 0 ≤ M.1 4 ∧ M.1 4 ≤ 99; omega
    · rw [lyI_1 (by omega)]; show 0 ≤ M.1 5 ∧ M.1 5 ≤ 99; omega
    · rw [lyI_2 (by omega)]; exact s3
  · obtain ⟨h1, h2, h3, h4⟩ := h t ht e
    refine ⟨fun k hk => ?_, ?_, ?_, ?_⟩
    · rw [lyI_o (by omega)]; exact h1 k hk
    · rw [lyI_o (by omega)]; exact h2
    · rw [lyI_o (by omega)]; exact h3
    · rw [lyI_o (by omega)]; exact h4
theorem nu_z (M : Rc) (h : 0 ≤ M.1 23 ∧ M.1 23 ≤ 8) : (nuM M).1 23 = (if M.1 23 < 8 then M.1 23 + 1 else 8) ∧ ∀ k : Nat, k ≠ 23 → (nuM M).1 k = M.1 k := by
  unfold nuM
  by_cases e : M.1 23 = 8
  · rw [if_pos e, if_neg (by omega)]
    refine ⟨?_, fun k hk => ?_⟩
    · show M.1 23 - 1 + 1 = 8
      omega
    · show fup M.1 23 _ k = M.1 k
      rw [fup_app, if_neg hk]
  · rw [if_neg e, if_pos (by omega)]
    refine ⟨rfl, fun k hk => ?_⟩
    show fup M.1 23 _ k = M.1 k
    rw [fup_app, if_neg hk]
theorem push_ok {S P M : Rc} (hS : okS 999 S) (hM : okM 999 M) (hl : lv S (shM M)) (hP : okP P) (hA : okA M) (h : lp (S.1 4) P M) : okP (pushP P S) ∧ okA (nuM M) ∧ lp (S.1 4) (pushP P S) (nuM M) := by
  have hm6 := hS.2.2.2.2.1
  obtain ⟨hz, hc⟩ := hP
  have h23 := h.1
  by_cases e : P.1 0 < 8
  · have e2 : ¬ M.1 23 = 8 := by omega
    unfold pushP nuM
    rw [if_pos e, if_neg e2]
    refine ⟨⟨by show 0 ≤ P.1 0 + 1 ∧ P.1 0 + 1 ≤ 8; omega, okPc_lay hS (fun t ht _ => hc t ht)⟩, okA_lay hM (n := M.1 23) (by omega) (fun t ht _ => hA t ht), by show P.1 0 + 1 = M.1 23 + 1; omega, fun t ht => ?_⟩
    have ht : 0 ≤ t ∧ t < P.1 0 + 1 := ht
    show (∀ k : Int, 0 ≤ k ∧ k < S.1 4 → layP (P.2 0) (P.1 0) S (t * 9 + k) = lyI (shM M) (M.2 10) (9 * M.1 23) (t * 9 + 3 + k)) ∧ layP (P.2 0) (P.1 0) S (t * 9 + 6) = lyI (shM M) (M.2 10) (9 * M.1 23) (t * 9) ∧ layP (P.2 0) (P.1 0) S (t * 9 + 7) = lyI (shM M) (M.2 10) (9 * M.1 23) (t * 9 + 1) ∧ layP (P.2 0) (P.1 0) S (t * 9 + 8) = lyI (shM M) (M.2 10) (9 * M.1 23) (t * 9 + 2)
    by_cases q : t = P.1 0
    · refine ⟨fun k hk => ?_, ?_, ?_, ?_⟩
      · rw [layP_s (k := k) (by omega) (by omega), lyI_s (k := k) (by omega) (by omega)]; exact hl.2.2.2.1 k hk
      · rw [layP_6 (by omega), lyI_0 (by omega)]; exact hl.1.1
      · rw [layP_7 (by omega), lyI_1 (by omega)]; exact hl.1.2.1
      · rw [layP_8 (by omega), lyI_2 (by omega)]; exact hl.1.2.2.2.1
    · obtain ⟨g1, g2, g3, g4⟩ := h.2 t (by omega)
      refine ⟨fun k hk => ?_, ?_, ?_, ?_⟩
      · rw [layP_o (by omega), lyI_o (by omega)]; exact g1 k hk
      · rw [layP_o (by omega), lyI_o (by omega)]; exact g2
      · rw [layP_o (by omega), lyI_o (by omega)]; exact g3
      · rw [layP_o (by omega), lyI_o (by omega)]; exact g4
  · have e2 : M.1 23 = 8 := by omega
    unfold pushP nuM
    rw [if_neg e, if_pos e2]
    refine ⟨⟨by show (0 : Int) ≤ 8 ∧ (8 : Int) ≤ 8; decide, okPc_lay hS (fun t ht q => ?_)⟩, okA_lay hM (n := 7) (by omega) (fun t ht q => ?_), by show (8 : Int) = M.1 23 - 1 + 1; omega, fun t ht => ?_⟩
    · obtain ⟨g1, g2, g3, g4⟩ := hc (t + 1) (by omega)
      refine ⟨fun k hk => ?_, ?_, ?_, ?_⟩
      · rw [cpy9 (by omega), show t * 9 + k + 9 = (t + 1) * 9 + k by omega]; exact g1 k hk
      · rw [cpy9 (by omega), show t * 9 + 6 + 9 = (t + 1) * 9 + 6 by omega]; exact g2
      · rw [cpy9 (by omega), show t * 9 + 7 + 9 = (t + 1) * 9 + 7 by omega]; exact g3
      · rw [cpy9 (by omega), show t * 9 + 8 + 9 = (t + 1) * 9 + 8 by omega]; exact g4
    · obtain ⟨g1, g2, g3, g4⟩ := hA (t + 1) (by omega)
      refine ⟨fun k hk => ?_, ?_, ?_, ?_⟩
      · rw [cpy9 (by omega), show t * 9 + 3 + k + 9 = (t + 1) * 9 + 3 + k by omega]; exact g1 k hk
      · rw [cpy9 (by omega), show t * 9 + 9 = (t + 1) * 9 by omega]; exact g2
      · rw [cpy9 (by omega), show t * 9 + 1 + 9 = (t + 1) * 9 + 1 by omega]; exact g3
      · rw [cpy9 (by omega), show t * 9 + 2 + 9 = (t + 1) * 9 + 2 by omega]; exact g4
    · have ht : 0 ≤ t ∧ t < 8 := ht
      show (∀ k : Int, 0 ≤ k ∧ k < S.1 4 → layP (cpyI (P.2 0) (P.2 0) 9 0 63) 7 S (t * 9 + k) = lyI (shM M) (cpyI (M.2 10) (M.2 10) 9 0 63) (9 * (M.1 23 - 1)) (t * 9 + 3 + k)) ∧ layP (cpyI (P.2 0) (P.2 0) 9 0 63) 7 S (t * 9 + 6) = lyI (shM M) (cpyI (M.2 10) (M.2 10) 9 0 63) (9 * (M.1 23 - 1)) (t * 9) ∧ layP (cpyI (P.2 0) (P.2 0) 9 0 63) 7 S (t * 9 + 7) = lyI (shM M) (cpyI (M.2 10) (M.2 10) 9 0 63) (9 * (M.1 23 - 1)) (t * 9 + 1) ∧ layP (cpyI (P.2 0) (P.2 0) 9 0 63) 7 S (t * 9 + 8) = lyI (shM M) (cpyI (M.2 10) (M.2 10) 9 0 63) (9 * (M.1 23 - 1)) (t * 9 + 2)
      by_cases q : t = 7
      · refine ⟨fun k hk => ?_, ?_, ?_, ?_⟩
        · rw [layP_s (k := k) (by omega) (by omega), lyI_s (k := k) (by omega) (by omega)]; exact hl.2.2.2.1 k hk
        · rw [layP_6 (by omega), lyI_0 (by omega)]; exact hl.1.1
        · rw [layP_7 (by omega), lyI_1 (by omega)]; exact hl.1.2.1
        · rw [layP_8 (by omega), lyI_2 (by omega)]; exact hl.1.2.2.2.1
      · obtain ⟨g1, g2, g3, g4⟩ := h.2 (t + 1) (by omega)
        refine ⟨fun k hk => ?_, ?_, ?_, ?_⟩
        · rw [layP_o (by omega), lyI_o (by omega), cpy9 (by omega), cpy9 (by omega), show t * 9 + k + 9 = (t + 1) * 9 + k by omega, show t * 9 + 3 + k + 9 = (t + 1) * 9 + 3 + k by omega]; exact g1 k hk
        · rw [layP_o (by omega), lyI_o (by omega), cpy9 (by omega), cpy9 (by omega), show t * 9 + 6 + 9 = (t + 1) * 9 + 6 by omega, show t * 9 + 9 = (t + 1) * 9 by omega]; exact g2
        · rw [layP_o (by omega), lyI_o (by omega), cpy9 (by omega), cpy9 (by omega), show t * 9 + 7 + 9 = (t + 1) * 9 + 7 by omega, show t * 9 + 1 + 9 = (t + 1) * 9 + 1 by omega]; exact g3
        · rw [layP_o (by omega), lyI_o (by omega), cpy9 (by omega), cpy9 (by omega), show t * 9 + 8 + 9 = (t + 1) * 9 + 8 by omega, show t * 9 + 2 + 9 = (t + 1) * 9 + 2 by omega]; exact g4
/-- only what is kept counts -/
theorem CR_kp {S R0 R1 R2 P M M' : Rc} (h : CR S R0 R1 R2 P M) (k : KP M M') : CR S R0 R1 R2 P M' := by
  obtain ⟨⟨k1, k2, k3, k4, k5, k6, k7, k8, k9, k23⟩, a2, a1, a4, a3, a5, a6, a7, a10⟩ := k
  obtain ⟨⟨hS, hM, hl⟩, ⟨r0, w0, v0, l0, u0⟩, ⟨r1, w1, v1, l1, u1⟩, ⟨r2, w2, v2, l2, u2⟩, hP, hA, hp⟩ := h
  have e5 : ∀ k : Int, 0 ≤ k ∧ k < 24 → (snM M').2 0 k = (snM M).2 0 k := by
    intro k hk
    show (if k % 4 = 3 then 0 else M'.2 5 (k / 4 * 3 + k % 4)) = (if k % 4 = 3 then 0 else M.2 5 (k / 4 * 3 + k % 4))
    split
    · rfl
    · exact a5 _ (by omega)
  have e6 : ∀ k : Int, 0 ≤ k ∧ k < 24 → (ntM M').2 0 k = (ntM M).2 0 k := fun k hk => a6 k hk
  have e7 : ∀ k : Int, 0 ≤ k ∧ k < 24 → (mkM M').2 0 k = (mkM M).2 0 k := fun k hk => a7 k hk
  have f5 : (snM M').1 0 = (snM M).1 0 := k7
  have f6 : (ntM M').1 0 = (ntM M).1 0 := k8
  have f7 : (mkM M').1 0 = (mkM M).1 0 := k9
  have z0 := r0.1
  have z1 := r1.1
  have z2 := r2.1
  refine ⟨⟨hS, ?_, ?_⟩, ⟨r0, w0, ⟨by rw [f5]; exact v0.1, v0.2.1, fun k hk => by rw [e5 k hk]; exact v0.2.2 k hk⟩, ⟨⟨l0.1.1.trans f5.symm, l0.1.2⟩, fun t c ht hc => by rw [e5 _ (by omega)]; exact l0.2 t c ht hc⟩, u0⟩, ⟨r1, w1, ⟨by rw [f6]; exact v1.1, v1.2.1, fun k hk => by rw [e6 k hk]; exact v1.2.2 k hk⟩, ⟨⟨l1.1.1.trans f6.symm, l1.1.2⟩, fun t c ht hc => by rw [e6 _ (by omega)]; exact l1.2 t c ht hc⟩, u1⟩, ⟨r2, w2, ⟨by rw [f7]; exact v2.1, v2.2.1, fun k hk => by rw [e7 k hk]; exact v2.2.2 k hk⟩, ⟨⟨l2.1.1.trans f7.symm, l2.1.2⟩, fun t c ht hc => by rw [e7 _ (by omega)]; exact l2.2 t c ht hc⟩, u2⟩, hP, ?_, ?_, ?_⟩
  · obtain ⟨s0, s1, s2, s3, s4, s5, hfg, hkd, hsh, hgl⟩ := hM
    exact ⟨by rw [k4]; exact s0, by rw [k5]; exact s1, by rw [k3]; exact s2, by rw [k6]; exact s3, by rw [k1]; exact s4, by rw [k2]; exact s5, fun k hk => by rw [a4 k hk]; exact hfg k hk, fun k hk => by rw [a1 k hk]; exact hkd k hk, fun k hk => by rw [a2 k hk]; exact hsh k hk, fun k hk => by rw [a3 k hk]; exact hgl k hk⟩
  · have hm6 := hS.2.2.2.2.1
    have hr3 := hS.2.2.2.2.2.1
    obtain ⟨⟨b0, b1, b2, b3, b4, b5⟩, c0, c1, c2, c3⟩ := hl
    exact ⟨⟨b0.trans k4.symm, b1.trans k5.symm, b2.trans k3.symm, b3.trans k6.symm, b4.trans k1.symm, b5.trans k2.symm⟩, fun x hx => (c0 x hx).trans (a4 x hx).symm, fun x hx => (c1 x hx).trans (a1 x (by omega)).symm, fun x hx => (c2 x hx).trans (a2 x (by omega)).symm, fun x hx => (c3 x hx).trans (a3 x (by omega)).symm⟩
  · intro t ht
    obtain ⟨g1, g2, g3, g4⟩ := hA t ht
    exact ⟨fun k hk => by rw [a10 _ (by omega)]; exact g1 k hk, by rw [a10 _ (by omega)]; exact g2, by rw [a10 _ (by omega)]; exact g3, by rw [a10 _ (by omega)]; exact g4⟩
  · exact hp.1.trans k23.symm
  · intro t ht
    have hz := hP.1
    have hm6 := hS.2.2.2.2.1
    obtain ⟨g1, g2, g3, g4⟩ := hp.2 t ht
    exact ⟨fun k hk => (g1 k hk).trans (a10 _ (by omega)).symm, g2.trans (a10 _ (by omega)).symm, g3.trans (a10 _ (by omega)).symm, g4.trans (a10 _ (by omega)).symm⟩
