/-! ===== WATCHES, there and here ===== -/
theorem ibN_t {S : Rc} {B q c a : Nat} : ∀ k : Nat, ibN S B q c a k = true ↔ ∀ i : Nat, i < k → sgt S a (fgO B q c a) ≠ sgt S ((a + 1 + i : Nat) : Int) (fgO B q c (a + 1 + i))
  | 0 => ⟨fun _ i h => absurd h (by omega), fun _ => rfl⟩
  | k + 1 => by
    rw [ibN_s, Bool.and_eq_true, decide_eq_true_eq, ibN_t k]
    constructor
    · intro h i hi
      by_cases e : i = k
      · subst e; exact h.2
      · exact h.1 i (by omega)
    · intro h
      exact ⟨fun i hi => h i (by omega), h k (by omega)⟩
theorem iaN_t {S : Rc} {B q c : Nat} : ∀ k : Nat, iaN S B q c k = true ↔ ∀ a : Nat, a < k → ∀ i : Nat, i < q - (a + 1) → sgt S a (fgO B q c a) ≠ sgt S ((a + 1 + i : Nat) : Int) (fgO B q c (a + 1 + i))
  | 0 => ⟨fun _ i h => absurd h (by omega), fun _ => rfl⟩
  | k + 1 => by
    rw [iaN_s, Bool.and_eq_true, iaN_t k, ibN_t]
    constructor
    · intro h i hi
      by_cases e : i = k
      · subst e; exact h.2
      · exact h.1 i (by omega)
    · intro h
      exact ⟨fun i hi => h i (by omega), h k (by omega)⟩
/-- no two of the first p men are read alike -/
def dsT (S : Rc) (B q c p : Nat) : Prop := ∀ a b : Nat, a < b → b < p → sgt S a (fgO B q c a) ≠ sgt S b (fgO B q c b)
theorem iwB_t {S : Rc} {B q c : Nat} : iwB S B q c = true ↔ dsT S B q c q := by
  unfold iwB
  rw [iaN_t]
  constructor
  · intro h a b hab hb
    have := h a (by omega) (b - a - 1) (by omega)
    rw [show a + 1 + (b - a - 1) = b by omega] at this
    exact this
  · intro h a ha i hi
    exact h a (a + 1 + i) (by omega) (by omega)
theorem tkN_t {R : Rc} {s : Int} : ∀ p : Nat, tkN R s p = true ↔ ∃ k : Nat, k < p ∧ R.2 2 k = s
  | 0 => ⟨fun h => (by cases h), fun ⟨_, h, _⟩ => absurd h (by omega)⟩
  | n + 1 => by
    show (tkN R s n || decide (R.2 2 n = s)) = true ↔ _
    rw [Bool.or_eq_true, decide_eq_true_eq, tkN_t n]
    constructor
    · rintro (⟨k, hk, e⟩ | e)
      · exact ⟨k, by omega, e⟩
      · exact ⟨n, by omega, e⟩
    · rintro ⟨k, hk, e⟩
      by_cases c : k = n
      · subst c; exact Or.inr e
      · exact Or.inl ⟨k, by omega, e⟩
/-- the figures of a code that begins so -/
theorem fgO_pre {B f p a j k : Nat} (hj : j < B ^ f) (hk : k < p) : fgO B (p + f) (a * B ^ f + j) k = fgO B p a k := by
  unfold fgO
  rw [show p + f - 1 - k = f + (p - 1 - k) by omega, Nat.pow_add, ← Nat.div_div_eq_div_mul, dg_hi hj]
theorem dsT_cong {S : Rc} {B q c q' c' p : Nat} (h : ∀ k : Nat, k < p → fgO B q c k = fgO B q' c' k) (d : dsT S B q c p) : dsT S B q' c' p := by
  intro a b hab hb
  rw [← h a (by omega), ← h b hb]
  exact d a b hab hb
/-- what has been found among the codes below c -/
def wOk (S : Rc) (B q c : Nat) (R : Rc) : Prop := R.1 3 = wwN S B q c ∧ (R.1 3 ≠ 0 → ∀ k : Nat, k < q → R.2 0 k = (fgO B q (wfN S B q c) k : Nat))
/-- the first p men are told so -/
def wPr (S : Rc) (B p a : Nat) (R : Rc) : Prop := ∀ k : Nat, k < p → R.2 1 k = (fgO B p a k : Nat) ∧ R.2 2 k = sgt S k (fgO B p a k : Nat)
theorem wOk_skip {S : Rc} {B q c : Nat} {R : Rc} (h : wOk S B q c R) : ∀ n : Nat, (∀ j : Nat, j < n → ¬ dsT S B q (c + j) q) → wOk S B q (c + n) R
  | 0, _ => h
  | n + 1, hn => by
    obtain ⟨h1, h2⟩ := wOk_skip h n (fun j hj => hn j (by omega))
    have hb : ¬ iwB S B q (c + n) = true := fun e => hn n (by omega) (iwB_t.mp e)
    refine ⟨?_, ?_⟩
    · rw [show c + (n + 1) = c + n + 1 from rfl, wwN_s, if_neg hb, Int.add_zero]; exact h1
    · rw [show c + (n + 1) = c + n + 1 from rfl, wfN_s, if_neg (fun e => hb e.1)]; exact h2
theorem wwN_0 (S : Rc) (B q c : Nat) : 0 ≤ wwN S B q c := (wwN_r S B q c).1
theorem wOk_keep {S : Rc} {B q c : Nat} {R : Rc} (h : wOk S B q c R) (hp : wPr S B q c R) (hd : dsT S B q c q) : wOk S B q (c + 1) (wK R) := by
  obtain ⟨h1, h2⟩ := h
  have hb : iwB S B q c = true := iwB_t.mpr hd
  have h0 := wwN_0 S B q c
  have e3 : (wK R).1 3 = R.1 3 + 1 := rfl
  refine ⟨?_, fun _ k hk => ?_⟩
  · rw [wwN_s, if_pos hb, e3, h1]
  · have e0 : (wK R).2 = if R.1 3 = 0 then aup R.2 0 (R.2 1) else R.2 := rfl
    rw [e0, wfN_s]
    by_cases c0 : R.1 3 = 0
    · rw [if_pos c0, if_pos ⟨hb, by omega⟩]
      exact (hp k hk).1
    · rw [if_neg c0, if_neg (fun e => c0 (by omega))]
      exact h2 c0 k hk
theorem wA_eq {S : Rc} {B q : Nat} (hB : S.1 5 = (B : Int)) : ∀ (f p a : Nat) (R : Rc), p + f = q → wOk S B q (a * B ^ f) R → wPr S B p a R → dsT S B p a p → wOk S B q ((a + 1) * B ^ f) (wA S f p R) ∧ wPr S B p a (wA S f p R)
  | 0, p, a, R, hpq, h, hp, hd => by
    obtain rfl : p = q := by omega
    rw [Nat.pow_zero, Nat.mul_one] at h
    rw [Nat.pow_zero, Nat.mul_one]
    refine ⟨wOk_keep h hp hd, fun k hk => ?_⟩
    have e0 : (wK R).2 = if R.1 3 = 0 then aup R.2 0 (R.2 1) else R.2 := rfl
    show (wK R).2 1 k = _ ∧ (wK R).2 2 k = _
    rw [e0]
    split
    · exact hp k hk
    · exact hp k hk
  | f + 1, p, a, R, hpq, h, hp, hd => by
    have key : ∀ n : Nat, n ≤ B → wOk S B q ((a * B + n) * B ^ f) (wF (wS S f p) n R) ∧ wPr S B p a (wF (wS S f p) n R) := by
      intro n
      induction n with
      | zero =>
        intro _
        refine ⟨?_, hp⟩
        rw [Nat.add_zero, Nat.mul_assoc, show B * B ^ f = B ^ (f + 1) by rw [Nat.pow_succ, Nat.mul_comm]]
        exact h
      | succ n ih =>
        intro hn
        obtain ⟨i1, i2⟩ := ih (by omega)
        show wOk S B q ((a * B + (n + 1)) * B ^ f) (wS S f p n (wF (wS S f p) n R)) ∧ wPr S B p a (wS S f p n (wF (wS S f p) n R))
        generalize wF (wS S f p) n R = R1 at i1 i2
        have d1 : ∀ k : Nat, k < p → fgO B (p + 1) (a * B + n) k = fgO B p a k := fun k hk => by
          have := fgO_pre (B := B) (f := 1) (p := p) (a := a) (j := n) (k := k) (by rw [Nat.pow_one]; omega) hk
          rw [Nat.pow_one] at this
          exact this
        have d2 : fgO B (p + 1) (a * B + n) p = n := by
          unfold fgO
          rw [show p + 1 - 1 - p = 0 by omega, Nat.pow_zero, Nat.div_one, Nat.add_comm, Nat.add_mul_mod_self_right, Nat.mod_eq_of_lt (by omega)]
        unfold wS
        by_cases t : tkN R1 (sgt S p n) ((p : Int)).toNat = true
        · rw [if_pos t]
          refine ⟨?_, i2⟩
          obtain ⟨k, hk, ek⟩ := (tkN_t _).mp t
          have hk : k < p := hk
          rw [show a * B + (n + 1) = a * B + n + 1 from rfl, Nat.succ_mul]
          refine wOk_skip i1 _ (fun j hj hds => ?_)
          have hq : q = p + 1 + f := by omega
          rw [hq] at hds
          refine hds k p hk (by omega) ?_
          rw [fgO_pre hj (by omega), fgO_pre hj (by omega), d1 k hk, d2, ← (i2 k hk).2]
          exact ek
        · rw [if_neg t]
          have hs : ∀ k : Nat, k < p → sgt S k (fgO B p a k : Nat) ≠ sgt S p n := fun k hk e => t ((tkN_t _).mpr ⟨k, hk, by rw [(i2 k hk).2]; exact e⟩)
          have hp2 : wPr S B (p + 1) (a * B + n) (wPut R1 p n (sgt S p n)) := by
            intro k hk
            show gup (R1.2 1) p n k = _ ∧ gup (R1.2 2) p (sgt S p n) k = _
            by_cases e : k = p
            · subst e
              rw [gup_eq, gup_eq, d2]
              exact ⟨rfl, rfl⟩
            · rw [gup_ne (by omega), gup_ne (by omega), d1 k (by omega)]
              exact i2 k (by omega)
          have hd2 : dsT S B (p + 1) (a * B + n) (p + 1) := by
            intro x y hxy hy
            by_cases e : y = p
            · subst e
              rw [d2, d1 x hxy]
              exact hs x hxy
            · rw [d1 x (by omega), d1 y (by omega)]
              exact hd x y hxy (by omega)
          obtain ⟨r1, r2⟩ := wA_eq hB f (p + 1) (a * B + n) (wPut R1 p n (sgt S p n)) (by omega) i1 hp2 hd2
          refine ⟨r1, fun k hk => ?_⟩
          have := r2 k (by omega)
          rw [d1 k hk] at this
          exact this
    obtain ⟨k1, k2⟩ := key B (Nat.le_refl _)
    have e : wA S (f + 1) p R = wF (wS S f p) B R := by
      rw [wA_succ, hB]
      rfl
    rw [e]
    refine ⟨?_, k2⟩
    rw [show (a + 1) * B ^ (f + 1) = (a * B + B) * B ^ f by rw [← Nat.succ_mul, Nat.pow_succ, Nat.mul_comm (B ^ f) B, Nat.mul_assoc]]
    exact k1
theorem watch_eq {S W : Rc} {B q : Nat} (hB : S.1 5 = (B : Int)) (hq : S.1 4 = (q : Int)) {x : Int} (hx : x = -1 ∨ (0 ≤ x ∧ x < S.1 4)) : (if x = -1 then (waS S W).1 3 else if (waS S W).1 3 = 0 then -6 else (waS S W).2 0 x) = watM S B q x := by
  obtain ⟨⟨h1, h2⟩, _⟩ := wA_eq (S := S) (q := q) hB q 0 0 (fup W.1 3 0, W.2) (by omega) (by rw [Nat.zero_mul]; exact ⟨rfl, fun h => absurd rfl h⟩) (fun k hk => absurd hk (by omega)) (fun a b _ hb => absurd hb (by omega))
  rw [show (0 + 1) * B ^ q = B ^ q by omega] at h1 h2
  have e : waS S W = wA S q ((0 : Nat) : Int) (fup W.1 3 0, W.2) := by
    unfold waS
    rw [hq]
    rfl
  rw [e]
  unfold watM
  by_cases c : x = -1
  · rw [if_pos c, if_pos c, h1]
  · rw [if_neg c, if_neg c, h1]
    by_cases c2 : wwN S B q (B ^ q) = 0
    · rw [if_pos c2, if_pos c2]
    · rw [if_neg c2, if_neg c2]
      have := h2 (by omega) x.toNat (by omega)
      rw [show ((x.toNat : Nat) : Int) = x by omega] at this
      exact this
