/-! ===== items alike for ships alike; how far they go; what a row laid holds ===== -/
def rlv : Rs → Rs → Prop
  | .inl e, .inl e' => e = e'
  | .inr q, .inr q' => q.1 = q'.1 ∧ lv q.2 q'.2
  | _, _ => False
section LI
variable {S S' : Rc} {B : Int → Int} {z : Nat}
theorem finB_lv (h : lv S S') (a : Nat) : rlv (finB B z a S) (finB B z a S') := by
  unfold finB
  split
  · exact ⟨rfl, h⟩
  · exact rfl
theorem addM_lv (h : lv S S') (a b : Int) : lv (addM S a b) (addM S' a b) := by
  refine ⟨⟨h.1.1, h.1.2.1, h.1.2.2.1, h.1.2.2.2.1, ?_, h.1.2.2.2.2.2⟩, h.2.1, fun x hx => ?_, fun x hx => ?_, h.2.2.2.2⟩
  · show S.1 4 + 1 = S'.1 4 + 1
    rw [h.men]
  · have hx : 0 ≤ x ∧ x < S.1 4 + 1 := hx
    show gup (S.2 1) (S.1 4) a x = gup (S'.2 1) (S'.1 4) a x
    rw [← h.men]
    unfold gup
    by_cases e : x = S.1 4
    · rw [if_pos e, if_pos e]
    · rw [if_neg e, if_neg e]
      exact h.2.2.1 x (by omega)
  · have hx : 0 ≤ x ∧ x < S.1 4 + 1 := hx
    show gup (S.2 2) (S.1 4) b x = gup (S'.2 2) (S'.1 4) b x
    rw [← h.men]
    unfold gup
    by_cases e : x = S.1 4
    · rw [if_pos e, if_pos e]
    · rw [if_neg e, if_neg e]
      exact h.2.2.2.1 x (by omega)
theorem addG_lv (h : lv S S') (a : Int) : lv (addG S a) (addG S' a) := by
  refine ⟨⟨h.1.1, h.1.2.1, h.1.2.2.1, h.1.2.2.2.1, h.1.2.2.2.2.1, ?_⟩, h.2.1, h.2.2.1, h.2.2.2.1, fun x hx => ?_⟩
  · show S.1 5 + 1 = S'.1 5 + 1
    rw [h.rds]
  · have hx : 0 ≤ x ∧ x < S.1 5 + 1 := hx
    show gup (S.2 3) (S.1 5) a x = gup (S'.2 3) (S'.1 5) a x
    rw [← h.rds]
    unfold gup
    by_cases e : x = S.1 5
    · rw [if_pos e, if_pos e]
    · rw [if_neg e, if_neg e]
      exact h.2.2.2.2 x (by omega)
theorem addH_lv (h : lv S S') {x : Int} (hx : 0 ≤ x ∧ x < S.1 4) (n : Int) : lv (addH S x n) (addH S' x n) := by
  refine ⟨h.1, h.2.1, h.2.2.1, fun y hy => ?_, h.2.2.2.2⟩
  have hy : 0 ≤ y ∧ y < S.1 4 := hy
  show gup (S.2 2) x (min (S.2 2 x + n) 90) y = gup (S'.2 2) x (min (S'.2 2 x + n) 90) y
  unfold gup
  rw [h.2.2.2.1 x hx, h.2.2.2.1 y hy]
theorem fog1_lv (h : lv S S') (x v : Int) : lv (S.1, aup S.2 0 (gup (S.2 0) x v)) (S'.1, aup S'.2 0 (gup (S'.2 0) x v)) := by
  refine ⟨h.1, fun y hy => ?_, h.2.2.1, h.2.2.2.1, h.2.2.2.2⟩
  show gup (S.2 0) x v y = gup (S'.2 0) x v y
  unfold gup
  rw [h.2.1 y hy]
theorem fgL_lv : ∀ (f a : Nat) (S S' : Rc), lv S S' → rlv (fgL B z f a S) (fgL B z f a S')
  | 0, a, S, S', h => finB_lv h a
  | f + 1, a, S, S', h => by
    unfold fgL
    split
    · exact finB_lv h a
    · split
      · exact fgL_lv f _ _ _ (fog1_lv h _ _)
      · exact rfl
theorem nnL_lv (h : lv S S') (r : Int) : ∀ (f : Nat) (t : Int) (a : Nat), rlv (nnL B z S r f t a) (nnL B z S' r f t a)
  | 0, t, a => finB_lv (sail_lv h t r) a
  | f + 1, t, a => by
    unfold nnL
    rw [← h.men]
    split
    · exact finB_lv (sail_lv h t r) a
    · split
      · exact rfl
      · split
        · exact nnL_lv h r f _ _
        · exact rfl
theorem item_lv (h : lv S S') (p : Nat) : rlv (item B z p false S) (item B z p false S') := by
  unfold item
  split
  · exact rfl
  · split
    · exact rfl
    · split
      · exact fgL_lv _ _ _ _ h
      · split
        · rw [← h.men]
          split
          · unfold iMan
            split
            · split
              · exact finB_lv (addM_lv h _ _) _
              · exact rfl
            · exact rfl
          · exact rfl
        · split
          · rw [← h.rds]
            split
            · unfold iRd
              split
              · exact finB_lv (addG_lv h _) _
              · exact rfl
            · exact rfl
          · split
            · unfold iDeed
              rw [← h.men]
              split
              · rename_i g
                split
                · have g2 := g.2
                  exact finB_lv (addH_lv h (by omega) _) _
                · exact rfl
              · exact rfl
            · split
              · unfold iNoon
                rw [← h.rds]
                split
                · exact nnL_lv h _ _ _ _
                · exact rfl
              · exact rfl
theorem wB_i {p i : Nat} (h : p ≤ z) : wB B z (lS B z p) i = wB B z p i := by
  unfold wB
  rw [lK_i h, lE_i h, lS_i h]
theorem item_i {p : Nat} (h : p ≤ z) (b : Bool) (S : Rc) : item B z (lS B z p) b S = item B z p b S := by
  unfold item
  rw [wB_i h, wB_i h, wB_i h, wB_i h, wB_i h, wB_i h, lE_i h, lS_i h]
theorem finB_ad {a q : Nat} (ha : a ≤ z) (h : finB B z a S = .inr (q, S')) : a ≤ q := by
  unfold finB at h
  split at h
  · cases h
    have := lS_r (B := B) ha
    have := lE_r (B := B) ha
    omega
  · cases h
theorem lE_ge {a : Nat} (ha : a ≤ z) : a ≤ lE B z a := by
  have := lS_r (B := B) ha
  have := lE_r (B := B) ha
  omega
theorem fgL_ad {q : Nat} {S9 : Rc} : ∀ (f a : Nat) (S : Rc), a ≤ z → fgL B z f a S = .inr (q, S9) → a ≤ q
  | 0, a, S, ha, h => finB_ad ha h
  | f + 1, a, S, ha, h => by
    unfold fgL at h
    split at h
    · exact finB_ad ha h
    · split at h
      · have := fgL_ad f _ _ (lE_r (B := B) ha).2 h
        have := lE_ge (B := B) ha
        omega
      · cases h
theorem nnL_ad {q : Nat} {S9 : Rc} {r : Int} : ∀ (f : Nat) (t : Int) (a : Nat), a ≤ z → nnL B z S r f t a = .inr (q, S9) → a ≤ q
  | 0, t, a, ha, h => finB_ad ha h
  | f + 1, t, a, ha, h => by
    unfold nnL at h
    split at h
    · exact finB_ad ha h
    · split at h
      · cases h
      · split at h
        · have := nnL_ad f _ _ (lE_r (B := B) ha).2 h
          have := lE_ge (B := B) ha
          omega
        · cases h
theorem wB_ad {p i : Nat} (hp : p ≤ z) (hi : i < 6) (h : wB B z p i = true) : p + 3 ≤ lE B z p := by
  have hs := lS_r (B := B) hp
  have hl := len_dec i hi
  unfold wB at h
  simp only [Bool.and_eq_true, decide_eq_true_eq] at h
  omega
theorem item_ad {p q : Nat} {b : Bool} {S9 : Rc} (hp : p ≤ z) (h : item B z p b S = .inr (q, S9)) : p + 3 ≤ q := by
  have h1 := (lE_r (B := B) hp).2
  have h2 := (lE_r (B := B) h1).2
  have h3 := (lE_r (B := B) h2).2
  have g1 := lE_ge (B := B) h1
  have g2 := lE_ge (B := B) h2
  have g3 := lE_ge (B := B) h3
  unfold item at h
  split at h
  · have w := wB_ad hp (i := 0) (by decide) (by assumption)
    split at h
    · unfold iShip at h
      split at h
      · have := finB_ad h2 h; omega
      · cases h
    · cases h
  · split at h
    · cases h
    · split at h
      · have w := wB_ad hp (i := 1) (by decide) (by assumption)
        have := fgL_ad _ _ _ h1 h
        omega
      · split at h
        · have w := wB_ad hp (i := 2) (by decide) (by assumption)
          split at h
          · unfold iMan at h
            split at h
            · split at h
              · have := finB_ad h3 h; omega
              · cases h
            · cases h
          · cases h
        · split at h
          · have w := wB_ad hp (i := 3) (by decide) (by assumption)
            split at h
            · unfold iRd at h
              split at h
              · have := finB_ad h2 h; omega
              · cases h
            · cases h
          · split at h
            · have w := wB_ad hp (i := 4) (by decide) (by assumption)
              unfold iDeed at h
              split at h
              · split at h
                · have := finB_ad h3 h; omega
                · cases h
              · cases h
            · split at h
              · have w := wB_ad hp (i := 5) (by decide) (by assumption)
                unfold iNoon at h
                split at h
                · have := nnL_ad _ _ _ h2 h
                  omega
                · cases h
              · cases h
end LI
section LA
variable {M : Rc} {f : Int → Int} {a x : Int}
theorem la_S {k : Int} (hk : k < a + 16 ∨ a + 169 ≤ k) : lyA M f a k = lyS M f a k := by
  simp only [lyA, cpyI]
  repeat' split
  all_goals first | rfl | (exfalso; omega)
theorem la_I {k : Int} (hk : k < a + 9 ∨ a + 16 ≤ k) : lyS M f a k = lyI (shM M) f a k := by
  simp only [lyS, gup]
  repeat' split
  all_goals first | rfl | (exfalso; omega)
theorem la_0 : lyA M f a a = M.1 4 := by
  rw [la_S (by omega), la_I (by omega)]
  unfold lyI
  rw [if_pos rfl]
  rfl
theorem la_1 : lyA M f a (a + 1) = M.1 5 := by
  rw [la_S (by omega), la_I (by omega)]
  unfold lyI
  rw [if_neg (show ¬ a + 1 = a by omega), if_pos rfl]
  rfl
theorem la_2 : lyA M f a (a + 2) = M.1 6 := by
  rw [la_S (by omega), la_I (by omega)]
  unfold lyI
  rw [if_neg (show ¬ a + 2 = a by omega), if_neg (show ¬ a + 2 = a + 1 by omega), if_pos rfl]
  rfl
theorem la_3 (hx : 0 ≤ x ∧ x < 6) : lyA M f a (a + 3 + x) = M.2 2 x := by
  rw [la_S (by omega), la_I (by omega)]
  unfold lyI
  rw [if_neg (show ¬ a + 3 + x = a by omega), if_neg (show ¬ a + 3 + x = a + 1 by omega), if_neg (show ¬ a + 3 + x = a + 2 by omega), if_pos (show a + 3 ≤ a + 3 + x ∧ a + 3 + x < a + 9 by omega)]
  show M.2 2 _ = M.2 2 x
  exact congrArg (M.2 2) (by omega)
theorem gup_ne {g : Int → Int} {u v k : Int} (h : ¬ k = u) : gup g u v k = g k := by
  show (if k = u then v else g k) = g k
  rw [if_neg h]
theorem gup_eq {g : Int → Int} {u v : Int} : gup g u v u = v := by
  show (if u = u then v else g u) = v
  rw [if_pos rfl]
theorem la_9 : lyA M f a (a + 9) = M.1 1 := by
  rw [la_S (by omega)]
  unfold lyS
  rw [gup_ne (show ¬ a + 9 = a + 15 by omega), gup_ne (show ¬ a + 9 = a + 14 by omega), gup_ne (show ¬ a + 9 = a + 13 by omega), gup_ne (show ¬ a + 9 = a + 12 by omega), gup_ne (show ¬ a + 9 = a + 11 by omega), gup_ne (show ¬ a + 9 = a + 10 by omega), gup_eq]
theorem la_10 : lyA M f a (a + 10) = M.1 2 := by
  rw [la_S (by omega)]
  unfold lyS
  rw [gup_ne (show ¬ a + 10 = a + 15 by omega), gup_ne (show ¬ a + 10 = a + 14 by omega), gup_ne (show ¬ a + 10 = a + 13 by omega), gup_ne (show ¬ a + 10 = a + 12 by omega), gup_ne (show ¬ a + 10 = a + 11 by omega), gup_eq]
theorem la_11 : lyA M f a (a + 11) = M.1 3 := by
  rw [la_S (by omega)]
  unfold lyS
  rw [gup_ne (show ¬ a + 11 = a + 15 by omega), gup_ne (show ¬ a + 11 = a + 14 by omega), gup_ne (show ¬ a + 11 = a + 13 by omega), gup_ne (show ¬ a + 11 = a + 12 by omega), gup_eq]
theorem la_12 : lyA M f a (a + 12) = M.1 7 := by
  rw [la_S (by omega)]
  unfold lyS
  rw [gup_ne (show ¬ a + 12 = a + 15 by omega), gup_ne (show ¬ a + 12 = a + 14 by omega), gup_ne (show ¬ a + 12 = a + 13 by omega), gup_eq]
theorem la_13 : lyA M f a (a + 13) = M.1 8 := by
  rw [la_S (by omega)]
  unfold lyS
  rw [gup_ne (show ¬ a + 13 = a + 15 by omega), gup_ne (show ¬ a + 13 = a + 14 by omega), gup_eq]
theorem la_14 : lyA M f a (a + 14) = M.1 9 := by
  rw [la_S (by omega)]
  unfold lyS
  rw [gup_ne (show ¬ a + 14 = a + 15 by omega), gup_eq]
theorem la_15 : lyA M f a (a + 15) = M.1 23 := by
  rw [la_S (by omega)]
  unfold lyS
  rw [gup_eq]
theorem la_16 (hx : 0 ≤ x ∧ x < 6) : lyA M f a (a + 16 + x) = M.2 1 x := by
  simp only [lyA, cpyI]
  repeat' split
  all_goals first | (exfalso; omega) | exact congrArg (M.2 1) (by omega)
theorem la_22 (hx : 0 ≤ x ∧ x < 6) : lyA M f a (a + 22 + x) = M.2 4 x := by
  simp only [lyA, cpyI]
  repeat' split
  all_goals first | (exfalso; omega) | exact congrArg (M.2 4) (by omega)
theorem la_28 (hx : 0 ≤ x ∧ x < 3) : lyA M f a (a + 28 + x) = M.2 3 x := by
  simp only [lyA, cpyI]
  repeat' split
  all_goals first | (exfalso; omega) | exact congrArg (M.2 3) (by omega)
theorem la_31 (hx : 0 ≤ x ∧ x < 18) : lyA M f a (a + 31 + x) = M.2 5 x := by
  simp only [lyA, cpyI]
  repeat' split
  all_goals first | (exfalso; omega) | exact congrArg (M.2 5) (by omega)
theorem la_49 (hx : 0 ≤ x ∧ x < 24) : lyA M f a (a + 49 + x) = M.2 6 x := by
  simp only [lyA, cpyI]
  repeat' split
  all_goals first | (exfalso; omega) | exact congrArg (M.2 6) (by omega)
theorem la_73 (hx : 0 ≤ x ∧ x < 24) : lyA M f a (a + 73 + x) = M.2 7 x := by
  simp only [lyA, cpyI]
  repeat' split
  all_goals first | (exfalso; omega) | exact congrArg (M.2 7) (by omega)
theorem la_97 (hx : 0 ≤ x ∧ x < 72) : lyA M f a (a + 97 + x) = M.2 10 x := by
  simp only [lyA, cpyI]
  repeat' split
  all_goals first | (exfalso; omega) | exact congrArg (M.2 10) (by omega)
theorem la_out (hx : x < a ∨ a + 169 ≤ x) : lyA M f a x = f x := by
  rw [la_S (by omega), la_I (by omega)]
  unfold lyI
  rw [if_neg (show ¬ x = a by omega), if_neg (show ¬ x = a + 1 by omega), if_neg (show ¬ x = a + 2 by omega), if_neg (show ¬ (a + 3 ≤ x ∧ x < a + 9) by omega)]
end LA
