/-! ===== ships alike in all that is there: what they answer is alike ===== -/
def lv (S S' : Rc) : Prop := (S.1 0 = S'.1 0 ∧ S.1 1 = S'.1 1 ∧ S.1 2 = S'.1 2 ∧ S.1 3 = S'.1 3 ∧ S.1 4 = S'.1 4 ∧ S.1 5 = S'.1 5) ∧ (∀ x : Int, 0 ≤ x ∧ x < 6 → S.2 0 x = S'.2 0 x) ∧ (∀ x : Int, 0 ≤ x ∧ x < S.1 4 → S.2 1 x = S'.2 1 x) ∧ (∀ x : Int, 0 ≤ x ∧ x < S.1 4 → S.2 2 x = S'.2 2 x) ∧ ∀ x : Int, 0 ≤ x ∧ x < S.1 5 → S.2 3 x = S'.2 3 x
theorem lv.rfl {S : Rc} : lv S S := ⟨⟨Eq.refl _, Eq.refl _, Eq.refl _, Eq.refl _, Eq.refl _, Eq.refl _⟩, fun _ _ => Eq.refl _, fun _ _ => Eq.refl _, fun _ _ => Eq.refl _, fun _ _ => Eq.refl _⟩
theorem lv.symm {S S' : Rc} (h : lv S S') : lv S' S := ⟨⟨h.1.1.symm, h.1.2.1.symm, h.1.2.2.1.symm, h.1.2.2.2.1.symm, h.1.2.2.2.2.1.symm, h.1.2.2.2.2.2.symm⟩, fun x hx => (h.2.1 x hx).symm, fun x hx => (h.2.2.1 x (by rw [h.1.2.2.2.2.1]; exact hx)).symm, fun x hx => (h.2.2.2.1 x (by rw [h.1.2.2.2.2.1]; exact hx)).symm, fun x hx => (h.2.2.2.2 x (by rw [h.1.2.2.2.2.2]; exact hx)).symm⟩
theorem lv.trans {S S1 S2 : Rc} (h : lv S S1) (g : lv S1 S2) : lv S S2 := ⟨⟨h.1.1.trans g.1.1, h.1.2.1.trans g.1.2.1, h.1.2.2.1.trans g.1.2.2.1, h.1.2.2.2.1.trans g.1.2.2.2.1, h.1.2.2.2.2.1.trans g.1.2.2.2.2.1, h.1.2.2.2.2.2.trans g.1.2.2.2.2.2⟩, fun x hx => (h.2.1 x hx).trans (g.2.1 x hx), fun x hx => (h.2.2.1 x hx).trans (g.2.2.1 x (by rw [← h.1.2.2.2.2.1]; exact hx)), fun x hx => (h.2.2.2.1 x hx).trans (g.2.2.2.1 x (by rw [← h.1.2.2.2.2.1]; exact hx)), fun x hx => (h.2.2.2.2 x hx).trans (g.2.2.2.2 x (by rw [← h.1.2.2.2.2.2]; exact hx))⟩
section LV
variable {S S' : Rc}
theorem lv.men (h : lv S S') : S.1 4 = S'.1 4 := h.1.2.2.2.2.1
theorem lv.rds (h : lv S S') : S.1 5 = S'.1 5 := h.1.2.2.2.2.2
theorem ang_lv (h : lv S S') {x : Int} (hx : 0 ≤ x ∧ x < S.1 4) : ang S x = ang S' x := by
  unfold ang
  rw [h.2.2.1 x hx, h.2.2.2.1 x hx, h.1.2.2.2.1]
theorem sgt_lv (h : lv S S') {x r : Int} (hx : 0 ≤ x ∧ x < S.1 4) (hr : 0 ≤ r ∧ r < S.1 5) : sgt S x r = sgt S' x r := by
  unfold sgt
  rw [ang_lv h hx, h.2.2.2.2 r hr, h.1.2.2.2.1]
theorem fog_lv (h : lv S S') : fogB S ↔ fogB S' := by
  unfold fogB
  rw [h.1.2.2.2.1, h.2.1 (S'.1 3 % 6) (by omega)]
theorem errN_lv (h : lv S S') (t : Int) {r : Int} (hr : 0 ≤ r ∧ r < S.1 5) : ∀ n : Nat, (∀ k : Nat, k < n → (k : Int) < S.1 4) → errN S t r n = errN S' t r n
  | 0, _ => rfl
  | n + 1, hn => by
    have h1 := hn n (by omega)
    rw [errN_succ, errN_succ, errN_lv h t hr n (fun k hk => hn k (by omega)), sgt_lv h ⟨by omega, h1⟩ hr, ang_lv h ⟨by omega, h1⟩]
theorem errS_lv (h : lv S S') (t r : Int) : errS S t r = errS S' t r := by
  unfold errS
  by_cases c : (0 ≤ r ∧ r < S.1 5) ∧ ¬ fogB S
  · rw [if_pos c, if_pos ⟨by rw [← h.rds]; exact c.1, fun q => c.2 ((fog_lv h).mpr q)⟩, ← h.men]
    exact errN_lv h t c.1 _ (fun k hk => by omega)
  · rw [if_neg c, if_neg (fun q => c ⟨by rw [h.rds]; exact q.1, fun z => q.2 ((fog_lv h).mp z)⟩)]
theorem shN_lv (h : lv S S') (t : Int) (n : Nat) {x : Int} (hx : 0 ≤ x ∧ x < S.1 4) : shN S t n x = shN S' t n x := by
  unfold shN
  rw [h.2.2.2.1 x hx]
theorem sail_lv (h : lv S S') (t r : Int) : lv (sailS S t r) (sailS S' t r) := by
  refine ⟨⟨?_, ?_, h.1.2.2.1, ?_, h.1.2.2.2.2.1, h.1.2.2.2.2.2⟩, h.2.1, h.2.2.1, fun x hx => ?_, h.2.2.2.2⟩
  · show (S.1 0 + S.1 2 + errS S t r) % 100 = (S'.1 0 + S'.1 2 + errS S' t r) % 100
    rw [h.1.1, h.1.2.2.1, errS_lv h]
  · show (S.1 1 + S.1 2) % 100 = (S'.1 1 + S'.1 2) % 100
    rw [h.1.2.1, h.1.2.2.1]
  · show S.1 3 + 1 = S'.1 3 + 1
    rw [h.1.2.2.2.1]
  · have hx : 0 ≤ x ∧ x < S.1 4 := hx
    show (if fogB S then S.2 2 else shN S t (S.1 4).toNat) x = (if fogB S' then S'.2 2 else shN S' t (S'.1 4).toNat) x
    by_cases c : fogB S
    · rw [if_pos c, if_pos ((fog_lv h).mp c)]
      exact h.2.2.2.1 x hx
    · rw [if_neg c, if_neg (fun q => c ((fog_lv h).mpr q)), ← h.men]
      exact shN_lv h t _ hx
theorem saN_lv (h : lv S S') (t r : Int) : ∀ n : Nat, lv (saN S t r n) (saN S' t r n)
  | 0 => h
  | n + 1 => sail_lv (saN_lv h t r n) t r
theorem offS_lv (h : lv S S') : offS S = offS S' := by
  unfold offS
  rw [h.1.1, h.1.2.1]
theorem whN_lv (h : lv S S') {x : Int} (hx : 0 ≤ x ∧ x < S.1 4) (y : Int) : ∀ n : Nat, whN S x y n = whN S' x y n
  | 0 => rfl
  | n + 1 => by
    have e := ang_lv (saN_lv h 0 (-1) n) (x := x) (by rw [saN_4]; exact hx)
    show (if whN S x y n = -1 ∧ y ≤ ang (saN S 0 (-1) n) x then (n : Int) else whN S x y n) = (if whN S' x y n = -1 ∧ y ≤ ang (saN S' 0 (-1) n) x then (n : Int) else whN S' x y n)
    rw [whN_lv h hx y n, e]
theorem vyT_lv (h : lv S S') (x : Int) : vyT S x = vyT S' x := by
  unfold vyT
  rw [h.men, h.rds]
theorem vyS_lv (h : lv S S') (s : Int) : ∀ n : Nat, lv (vyS S s n) (vyS S' s n)
  | 0 => h
  | n + 1 => by
    show lv (sailS (vyS S s n) (vyT (vyS S s n) _) _) (sailS (vyS S' s n) (vyT (vyS S' s n) _) _)
    rw [vyT_lv (vyS_lv h s n)]
    exact sail_lv (vyS_lv h s n) _ _
theorem vyZ_lv (h : lv S S') (s : Int) : ∀ n : Nat, vyZ S s n = vyZ S' s n
  | 0 => rfl
  | n + 1 => by
    show vyZ S s n + max (offS (vyS S s (n + 1))) (-(offS (vyS S s (n + 1)))) = vyZ S' s n + max (offS (vyS S' s (n + 1))) (-(offS (vyS S' s (n + 1))))
    rw [vyZ_lv h s n, offS_lv (vyS_lv h s (n + 1))]
theorem farS_lv (h : lv S S') (t r : Int) : farS S t r = farS S' t r := by
  unfold farS
  rw [errS_lv h]
theorem allN_lv (h : lv S S') : allN S = allN S' := by
  unfold allN
  rw [h.men]
theorem loN_lv (h : lv S S') (nn r : Int) : ∀ n : Nat, loN S nn r n = loN S' nn r n
  | 0 => rfl
  | n + 1 => by
    show (if bc n = nn ∧ farS S n r < (loN S nn r n).2 then ((n : Int), farS S n r) else loN S nn r n) = (if bc n = nn ∧ farS S' n r < (loN S' nn r n).2 then ((n : Int), farS S' n r) else loN S' nn r n)
    rw [loN_lv h nn r n, farS_lv h]
theorem feN_lv (h : lv S S') (e r : Int) : ∀ n : Nat, feN S e r n = feN S' e r n
  | 0 => rfl
  | n + 1 => by
    show (if (feN S e r n = -1 ∨ bc n < bc (feN S e r n)) ∧ errS S n r = e then (n : Int) else feN S e r n) = (if (feN S' e r n = -1 ∨ bc n < bc (feN S' e r n)) ∧ errS S' n r = e then (n : Int) else feN S' e r n)
    rw [feN_lv h e r n, errS_lv h]
theorem alS_lv (h : lv S S') {r x : Int} (hr : 0 ≤ r ∧ r < S.1 5) (hx : 0 ≤ x ∧ x < S.1 4) : ∀ n : Nat, (∀ k : Nat, k < n → (k : Int) < S.1 4) → alS S r x n = alS S' r x n
  | 0, _ => rfl
  | n + 1, hn => by
    show alS S r x n + (if sgt S x r = sgt S n r then 2 ^ n else 0) = alS S' r x n + (if sgt S' x r = sgt S' n r then 2 ^ n else 0)
    rw [alS_lv h hr hx n (fun k hk => hn k (by omega)), sgt_lv h hx hr, sgt_lv h ⟨by omega, hn n (by omega)⟩ hr]
theorem moN_lv (h : lv S S') {r : Int} (hr : 0 ≤ r ∧ r < S.1 5) : ∀ n : Nat, (∀ k : Nat, k < n → (k : Int) < S.1 4) → moN S r n = moN S' r n
  | 0, _ => rfl
  | n + 1, hn => by
    rw [moN_s, moN_s, moN_lv h hr n (fun k hk => hn k (by omega)), ← h.men, alS_lv h hr ⟨by omega, hn n (by omega)⟩ _ (fun k hk => by omega)]
theorem rsN_lv (h : lv S S') (r i : Int) {j : Int} (hj : 0 ≤ j ∧ j < S.1 4) : ∀ n : Nat, (∀ k : Nat, k < n → (k : Int) < S.1 4) → rsN S r i j n = rsN S' r i j n
  | 0, _ => rfl
  | n + 1, hn => by
    rw [rsN_s, rsN_s, rsN_lv h r i hj n (fun k hk => hn k (by omega)), ang_lv h hj, ang_lv h (x := n) ⟨by omega, hn n (by omega)⟩]
    unfold frS
    rw [farS_lv h, farS_lv h]
theorem rsB_lv (h : lv S S') (r i : Int) {j : Int} (hj : 0 ≤ j ∧ j < S.1 4) : rsB S r i j = rsB S' r i j := by
  unfold rsB
  rw [← h.men]
  exact rsN_lv h r i hj _ (fun k hk => by omega)
theorem rwC_lv (h : lv S S') (r i c : Int) : ∀ n : Nat, (∀ k : Nat, k < n → (k : Int) < S.1 4) → rwC S r i c n = rwC S' r i c n
  | 0, _ => rfl
  | n + 1, hn => by
    rw [rwC_s, rwC_s, rwC_lv h r i c n (fun k hk => hn k (by omega)), rsB_lv h r i ⟨by omega, hn n (by omega)⟩]
theorem ttC_lv (h : lv S S') (r : Int) : ∀ n : Nat, ttC S r n = ttC S' r n
  | 0 => rfl
  | n + 1 => by
    show rwC S r n (ttC S r n) (S.1 4).toNat = rwC S' r n (ttC S' r n) (S'.1 4).toNat
    rw [ttC_lv h r n, ← h.men]
    exact rwC_lv h r n _ _ (fun k hk => by omega)
theorem rwT_lv (h : lv S S') (r k i c t : Int) : ∀ n : Nat, (∀ q : Nat, q < n → (q : Int) < S.1 4) → rwT S r k i c t n = rwT S' r k i c t n
  | 0, _ => rfl
  | n + 1, hn => by
    rw [rwT_s, rwT_s, rwT_lv h r k i c t n (fun k hk => hn k (by omega)), rsB_lv h r i ⟨by omega, hn n (by omega)⟩, rwC_lv h r i c n (fun k hk => hn k (by omega))]
theorem ttT_lv (h : lv S S') (r k t : Int) : ∀ n : Nat, ttT S r k t n = ttT S' r k t n
  | 0 => rfl
  | n + 1 => by
    show rwT S r k n (ttC S r n) (ttT S r k t n) (S.1 4).toNat = rwT S' r k n (ttC S' r n) (ttT S' r k t n) (S'.1 4).toNat
    rw [ttT_lv h r k t n, ttC_lv h r n, ← h.men]
    exact rwT_lv h r k n _ _ _ (fun k hk => by omega)
theorem clN_lv (h : lv S S') (d : Int) : ∀ n : Nat, n ≤ 6 → clN S d n = clN S' d n
  | 0, _ => rfl
  | n + 1, hn => by
    rw [clN_s, clN_s, clN_lv h d n (by omega), h.2.1 n (by omega)]
/-- rows alike in all that is there -/
def lr (R R' : Rc) : Prop := (R.1 0 = R'.1 0 ∧ R.1 1 = R'.1 1) ∧ ∀ t c : Int, 0 ≤ t ∧ t < R.1 0 → 0 ≤ c ∧ c < R.1 1 → R.2 0 (t * 4 + c) = R'.2 0 (t * 4 + c)
theorem mayN_lv (h : lv S S') {R R' : Rc} (hR : lr R R') (hw : R.1 1 = 3) {x : Int} (hx : 0 ≤ x ∧ x < S.1 4) (s : Int) : ∀ n : Nat, (∀ k : Nat, k < n → (k : Int) < R.1 0) → mayN S R x s n = mayN S' R' x s n
  | 0, _ => rfl
  | n + 1, hn => by
    have hn1 := hn n (by omega)
    have e0 := hR.2 n 0 ⟨by omega, hn1⟩ (by omega)
    rw [Int.add_zero] at e0
    rw [mayN_s, mayN_s, mayN_lv h hR hw hx s n (fun k hk => hn k (by omega)), e0, hR.2 n 1 ⟨by omega, hn1⟩ (by omega), hR.2 n 2 ⟨by omega, hn1⟩ (by omega), h.2.2.1 x hx, clN_lv h _ 6 (by decide)]
theorem mayB_lv (h : lv S S') {R R' : Rc} (hR : lr R R') (hw : R.1 1 = 3) {x : Int} (hx : 0 ≤ x ∧ x < S.1 4) (s : Int) : mayB S R x s = mayB S' R' x s := by
  unfold mayB
  rw [← hR.1.1]
  exact mayN_lv h hR hw hx s _ (fun k hk => by omega)
theorem begA_lv (h : lv S S') {R R' : Rc} (hR : lr R R') (hw : R.1 1 = 3) {x : Int} (hx : 0 ≤ x ∧ x < S.1 4) (t : Int) : begA S R x t = begA S' R' x t := by
  have h1 : ∀ n : Nat, cntB S R x n = cntB S' R' x n ∧ lstB S R x n = lstB S' R' x n ∧ gstB S R x n = gstB S' R' x n := by
    intro n
    induction n with
    | zero => exact ⟨rfl, rfl, rfl⟩
    | succ n ih =>
      rw [cntB_s, cntB_s, lstB_s, lstB_s, gstB_s, gstB_s, ih.1, ih.2.1, ih.2.2, mayB_lv h hR hw hx]
      exact ⟨rfl, rfl, rfl⟩
  unfold begA
  rw [(h1 91).1, (h1 91).2.1, (h1 91).2.2]
theorem fitN_lr {R R' : Rc} (hR : lr R R') (hw : R.1 1 = 4) (who a kind : Int) : ∀ n : Nat, (∀ k : Nat, k < n → (k : Int) < R.1 0) → fitN R who a kind n = fitN R' who a kind n
  | 0, _ => rfl
  | n + 1, hn => by
    have hn1 := hn n (by omega)
    have e0 := hR.2 n 0 ⟨by omega, hn1⟩ (by omega)
    rw [Int.add_zero] at e0
    rw [fitN_s, fitN_s, fitN_lr hR hw who a kind n (fun k hk => hn k (by omega)), e0, hR.2 n 1 ⟨by omega, hn1⟩ (by omega), hR.2 n 2 ⟨by omega, hn1⟩ (by omega), hR.2 n 3 ⟨by omega, hn1⟩ (by omega)]
theorem kfN_lr {R R' : Rc} (hR : lr R R') (hw : R.1 1 = 4) (who a : Int) : ∀ n : Nat, kfN R who a n = kfN R' who a n
  | 0 => rfl
  | n + 1 => by
    have e : fitB R who a n = fitB R' who a n := by
      unfold fitB
      rw [← hR.1.1]
      exact fitN_lr hR hw who a n _ (fun k hk => by omega)
    rw [kfN_s, kfN_s, kfN_lr hR hw who a n, e]
theorem sumN_lv (h : lv S S') : ∀ n : Nat, (∀ k : Nat, k < n → (k : Int) < S.1 4) → sumN S n = sumN S' n
  | 0, _ => rfl
  | n + 1, hn => by
    show sumN S n + S.2 2 n = sumN S' n + S'.2 2 n
    rw [sumN_lv h n (fun k hk => hn k (by omega)), h.2.2.2.1 n ⟨by omega, hn n (by omega)⟩]
theorem nowS_lv (h : lv S S') (x : Int) : nowS S x = nowS S' x := by
  unfold nowS
  rw [h.1.1, h.1.2.1, h.1.2.2.1]
  by_cases c : fogB S
  · rw [if_pos c, if_pos ((fog_lv h).mp c)]
  · rw [if_neg c, if_neg (fun q => c ((fog_lv h).mpr q))]
theorem ndN_lv (h : lv S S') (k : Int) : ∀ n : Nat, ndN S k n = ndN S' k n
  | 0 => rfl
  | n + 1 => by
    show 31 * ndN S k n + nowS S n = 31 * ndN S' k n + nowS S' n
    rw [ndN_lv h k n, nowS_lv h]
theorem fgN_lv (h : lv S S') (k : Int) : ∀ n : Nat, n ≤ 6 → fgN S k n = fgN S' k n
  | 0, _ => rfl
  | n + 1, hn => by
    show 31 * fgN S k n + S.2 0 n = 31 * fgN S' k n + S'.2 0 n
    rw [fgN_lv h k n (by omega), h.2.1 n (by omega)]
theorem mnN_lv (h : lv S S') (z : Int) : ∀ n : Nat, (∀ k : Nat, k < n → (k : Int) < S.1 4) → mnN S z n = mnN S' z n
  | 0, _ => rfl
  | n + 1, hn => by
    show 31 * (31 * mnN S z n + S.2 1 n) + S.2 2 n = 31 * (31 * mnN S' z n + S'.2 1 n) + S'.2 2 n
    rw [mnN_lv h z n (fun k hk => hn k (by omega)), h.2.2.1 n ⟨by omega, hn n (by omega)⟩, h.2.2.2.1 n ⟨by omega, hn n (by omega)⟩]
theorem glN_lv (h : lv S S') (z : Int) : ∀ n : Nat, (∀ k : Nat, k < n → (k : Int) < S.1 5) → glN S z n = glN S' z n
  | 0, _ => rfl
  | n + 1, hn => by
    show 31 * glN S z n + S.2 3 n = 31 * glN S' z n + S'.2 3 n
    rw [glN_lv h z n (fun k hk => hn k (by omega)), h.2.2.2.2 n ⟨by omega, hn n (by omega)⟩]
theorem digS_lv (h : lv S S') (z : Int) : digS S z = digS S' z := by
  unfold digS
  rw [← h.men, ← h.rds, fgN_lv h z 6 (by decide), mnN_lv h _ _ (fun k hk => by omega), glN_lv h _ _ (fun k hk => by omega)]
theorem plS_lv (h : lv S S') (r : Int) (B q c : Nat) : ∀ k : Nat, lv (plS S r B q c k) (plS S' r B q c k)
  | 0 => h
  | k + 1 => sail_lv (plS_lv h r B q c k) _ r
theorem cpN_lv (h : lv S S') (r : Int) (B : Nat) (x : Int) : ∀ n : Nat, cpN S r B x n = cpN S' r B x n
  | 0 => rfl
  | n + 1 => by
    have e : cpP S r B x n = cpP S' r B x n := by
      funext c
      unfold cpP
      rw [(plS_lv h r B n c n).1.1]
    show (cpN S r B x n).or ((fsN (cpP S r B x n) (B ^ n)).map _) = (cpN S' r B x n).or ((fsN (cpP S' r B x n) (B ^ n)).map _)
    rw [cpN_lv h r B x n, e]
theorem watM_lv (h : lv S S') {B q : Nat} (hB : S.1 5 = B) (hq : S.1 4 = q) (x : Int) : watM S B q x = watM S' B q x := by
  have hb : ∀ (c a : Nat), a < q → ∀ k : Nat, a + 1 + k ≤ q → (0 < k → 0 < B) → ibN S B q c a k = ibN S' B q c a k := by
    intro c a ha k
    induction k with
    | zero => intro _ _; rfl
    | succ k ih =>
      intro hk hB0
      have h1 := fgO_lt (q := q) (c := c) (a := a) (hB0 (by omega))
      have h2 := fgO_lt (q := q) (c := c) (a := a + 1 + k) (hB0 (by omega))
      rw [ibN_s, ibN_s, ih (by omega) (fun _ => hB0 (by omega)), sgt_lv h (by omega) (by omega), sgt_lv h (by omega) (by omega)]
  have hi : (B = 0 → q = 0) → ∀ c a : Nat, a ≤ q → iaN S B q c a = iaN S' B q c a := by
    intro hz c a
    induction a with
    | zero => intro _; rfl
    | succ a ih =>
      intro ha
      rw [iaN_s, iaN_s, ih (by omega), hb c a (by omega) _ (by omega) (fun _ => by omega)]
  have hw : (B = 0 → q = 0) → ∀ k : Nat, wwN S B q k = wwN S' B q k ∧ wfN S B q k = wfN S' B q k := by
    intro hz k
    induction k with
    | zero => exact ⟨rfl, rfl⟩
    | succ k ih =>
      have e : iwB S B q k = iwB S' B q k := hi hz k q (Nat.le_refl q)
      rw [wwN_s, wwN_s, wfN_s, wfN_s, ih.1, ih.2, e]
      exact ⟨rfl, rfl⟩
  unfold watM
  by_cases z : B = 0 → q = 0
  · rw [(hw z (B ^ q)).1, (hw z (B ^ q)).2]
  · have hB0 : B = 0 := by omega
    have hq0 : q ≠ 0 := by omega
    rw [hB0, Nat.zero_pow (by omega)]
    rfl
end LV
