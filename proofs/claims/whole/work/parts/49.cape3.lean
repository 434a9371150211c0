/-! ===== the search for a row of noons, there and here ===== -/
theorem see_lo {k a d : Int} (hk : 0 ≤ k ∧ k ≤ 5) (ha : 0 ≤ a ∧ a ≤ 90) : tabv 0 k.toNat ≤ see k a d - a ∧ see k a d - a ≤ tabv 1 k.toNat := by
  have h : k = 0 ∨ k = 1 ∨ k = 2 ∨ k = 3 ∨ k = 4 ∨ k = 5 := by omega
  unfold see
  rcases h with h | h | h | h | h | h <;> subst h
  · show (0 : Int) ≤ a - a ∧ a - a ≤ 0
    omega
  · show (0 : Int) ≤ a + 2 - a ∧ a + 2 - a ≤ 2
    omega
  · show (-3 : Int) ≤ max (a - 3) 0 - a ∧ max (a - 3) 0 - a ≤ 0
    omega
  · show (0 : Int) ≤ a + 2 + a / 30 - a ∧ a + 2 + a / 30 - a ≤ 5
    omega
  · show (-9 : Int) ≤ a - a % 10 - a ∧ a - a % 10 - a ≤ 0
    omega
  · show (-4 : Int) ≤ max (max (a - 3) 0 - d % 2) 0 - a ∧ max (max (a - 3) 0 - d % 2) 0 - a ≤ 0
    omega
theorem setO_bit : ∀ n : Nat, n < 7 → ∀ k : Nat, k < 6 → (setO n / 2 ^ k % 2 = 1 ↔ n = k + 1) := by decide +kernel
theorem tab_0 : ∀ n : Nat, n < 6 → tabv 0 n ≤ 0 ∧ 0 ≤ tabv 1 n ∧ tabv 1 n - tabv 0 n ≤ 9 := by decide
theorem errN_setO {D : Int} {S : Rc} (h : okS D S) {r : Int} (hr : 0 ≤ r ∧ r < S.1 5) {n : Nat} (hn : n < 7) : ∀ k : Nat, k ≤ 6 → (k < n → errN S (setO n) r k = 0) ∧ (tabv 0 (S.2 3 r).toNat ≤ errN S (setO n) r k ∧ errN S (setO n) r k ≤ tabv 1 (S.2 3 r).toNat) := by
  have hg := h.2.2.2.2.2.2.2.2.2 r (by have := h.2.2.2.2.2.1; omega)
  have t0 := tab_0 (S.2 3 r).toNat (by omega)
  intro k
  induction k with
  | zero => intro _; exact ⟨fun _ => rfl, t0.1, t0.2.1⟩
  | succ k ih =>
    intro hk
    obtain ⟨i1, i2⟩ := ih (by omega)
    have hb := setO_bit n hn k (by omega)
    have e : errN S (setO n) r (k + 1) = errN S (setO n) r k + if setO n / 2 ^ k % 2 = 1 then sgt S k r - ang S k else 0 := rfl
    by_cases c : n = k + 1
    · rw [e, if_pos (hb.mpr c), i1 (by omega)]
      have := see_lo (d := S.1 3) hg (ang_r h (x := (k : Int)) (by omega))
      refine ⟨fun h => absurd h (by omega), ?_⟩
      show tabv 0 (S.2 3 r).toNat ≤ 0 + (see (S.2 3 r) (ang S k) (S.1 3) - ang S k) ∧ 0 + (see (S.2 3 r) (ang S k) (S.1 3) - ang S k) ≤ tabv 1 (S.2 3 r).toNat
      omega
    · rw [e, if_neg (fun h => c (hb.mp h)), Int.add_zero]
      exact ⟨fun h => i1 (by omega), i2⟩
theorem errS_setO {D : Int} {S : Rc} (h : okS D S) {r : Int} (hr : 0 ≤ r ∧ r < S.1 5) {n : Nat} (hn : n < 7) : tabv 0 (S.2 3 r).toNat ≤ errS S (setO n) r ∧ errS S (setO n) r ≤ tabv 1 (S.2 3 r).toNat := by
  have hg := h.2.2.2.2.2.2.2.2.2 r (by have := h.2.2.2.2.2.1; omega)
  have t0 := tab_0 (S.2 3 r).toNat (by omega)
  unfold errS
  split
  · exact (errN_setO h hr hn (S.1 4).toNat (by have := h.2.2.2.2.1; omega)).2
  · exact ⟨t0.1, t0.2.1⟩
/-- the search with nothing left out -/
def dgF (r x : Int) (B : Nat) : Nat → Rc → Option (List Int)
  | 0, S => if S.1 0 = x then some [] else none
  | l + 1, S => arF (fun n => dgF r x B l (sailS S (setO n) r)) B
theorem arF_some {g : Nat → Option (List Int)} {ps : List Int} : ∀ {n : Nat}, arF g n = some ps → ∃ k qs, k < n ∧ g k = some qs
  | 0, h => by cases h
  | n + 1, h => by
    have h : (arF g n).or ((g n).map (fun l => ((n : Int) - 1) :: l)) = some ps := h
    cases e : arF g n with
    | some z => obtain ⟨k, qs, hk, hg⟩ := arF_some e; exact ⟨k, qs, by omega, hg⟩
    | none =>
      rw [e] at h
      cases e2 : g n with
      | none => rw [e2] at h; cases h
      | some z => exact ⟨n, z, by omega, e2⟩
theorem arF_cong {g g' : Nat → Option (List Int)} : ∀ {n : Nat}, (∀ k : Nat, k < n → g k = g' k) → arF g n = arF g' n
  | 0, _ => rfl
  | n + 1, h => by
    show (arF g n).or _ = (arF g' n).or _
    rw [arF_cong (fun k hk => h k (by omega)), h n (by omega)]
theorem dgF_far {r x : Int} {B : Nat} (hB : B ≤ 7) : ∀ (l : Nat) (D : Int) (S : Rc) (ps : List Int), okS D S → 0 ≤ r ∧ r < S.1 5 → dgF r x B l S = some ps → ∃ e : Int, (l : Int) * tabv 0 (S.2 3 r).toNat ≤ e ∧ e ≤ (l : Int) * tabv 1 (S.2 3 r).toNat ∧ (S.1 0 + (l : Int) * S.1 2 + e) % 100 = x
  | 0, D, S, ps, hS, hr, h => by
    have h : (if S.1 0 = x then some [] else none) = some ps := h
    have h0 := hS.1
    by_cases e : S.1 0 = x
    · exact ⟨0, by simp, by simp, by simp; omega⟩
    · rw [if_neg e] at h; cases h
  | l + 1, D, S, ps, hS, hr, h => by
    obtain ⟨n, qs, hn, hq⟩ := arF_some (show arF (fun n => dgF r x B l (sailS S (setO n) r)) B = some ps from h)
    obtain ⟨e, e1, e2, e3⟩ := dgF_far hB l (D + 1) (sailS S (setO n) r) qs (sail_ok hS _ _) hr hq
    have he := errS_setO hS hr (n := n) (by omega)
    have f1 : (sailS S (setO n) r).1 0 = (S.1 0 + S.1 2 + errS S (setO n) r) % 100 := rfl
    have f2 : (sailS S (setO n) r).1 2 = S.1 2 := rfl
    have f3 : (sailS S (setO n) r).2 3 = S.2 3 := rfl
    rw [f3] at e1 e2
    rw [f1, f2] at e3
    refine ⟨e + errS S (setO n) r, ?_, ?_, ?_⟩
    · rw [show ((l + 1 : Nat) : Int) = (l : Int) + 1 by omega, Int.add_mul]; omega
    · rw [show ((l + 1 : Nat) : Int) = (l : Int) + 1 by omega, Int.add_mul]; omega
    · rw [show ((l + 1 : Nat) : Int) = (l : Int) + 1 by omega, Int.add_mul]; omega
theorem dgF_may {r x : Int} {B l : Nat} {D : Int} {S : Rc} {ps : List Int} (hB : B ≤ 7) (hl : l ≤ 5) (hS : okS D S) (hr : 0 ≤ r ∧ r < S.1 5) (h : dgF r x B l S = some ps) : mayO S l x r = true := by
  obtain ⟨e, e1, e2, e3⟩ := dgF_far hB l D S ps hS hr h
  have hg := hS.2.2.2.2.2.2.2.2.2 r (by have := hS.2.2.2.2.2.1; omega)
  have t0 := tab_0 (S.2 3 r).toNat (by omega)
  have hl2 : (l : Int) = 0 ∨ (l : Int) = 1 ∨ (l : Int) = 2 ∨ (l : Int) = 3 ∨ (l : Int) = 4 ∨ (l : Int) = 5 := by omega
  unfold mayO
  refine decide_eq_true ?_
  generalize (l : Int) = L at *
  rcases hl2 with q | q | q | q | q | q <;> subst q <;> omega
theorem arQ_dgF {r x : Int} {B : Nat} (hB : B ≤ 7) : ∀ (l : Nat) (D : Int) (S : Rc), l ≤ 5 → okS D S → 0 ≤ r ∧ r < S.1 5 → (S.1 4).toNat + 1 = B → arQ x r l S = dgF r x B l S
  | 0, _, _, _, _, _, _ => rfl
  | l + 1, D, S, hl, hS, hr, hb => by
    have e : arF (fun n => arQ x r l (sailS S (setO n) r)) ((S.1 4).toNat + 1) = dgF r x B (l + 1) S := by
      rw [hb]
      exact arF_cong (fun k _ => arQ_dgF hB l (D + 1) (sailS S (setO k) r) (by omega) (sail_ok hS _ _) hr hb)
    show (if mayO S ((l + 1 : Nat) : Int) x r = true then arF (fun n => arQ x r l (sailS S (setO n) r)) ((S.1 4).toNat + 1) else none) = _
    split
    · exact e
    · rename_i c
      cases e2 : dgF r x B (l + 1) S with
      | none => rfl
      | some ps => exact absurd (dgF_may hB hl hS hr e2) c
theorem fsN_cong {p p' : Nat → Bool} : ∀ {n : Nat}, (∀ k : Nat, k < n → p k = p' k) → fsN p n = fsN p' n
  | 0, _ => rfl
  | n + 1, h => by
    show (fsN p n).or _ = (fsN p' n).or _
    rw [fsN_cong (fun k hk => h k (by omega)), h n (by omega)]
theorem or_map {α β : Type} (f : α → β) (a b : Option α) : (a.or b).map f = (a.map f).or (b.map f) := by cases a <;> rfl
theorem or_asc {α : Type} (a b c : Option α) : (a.or b).or c = a.or (b.or c) := by cases a <;> rfl
theorem fsN_add {p : Nat → Bool} {a : Nat} : ∀ b : Nat, fsN p (a + b) = (fsN p a).or ((fsN (fun j => p (a + j)) b).map (fun j => a + j))
  | 0 => by
    show fsN p a = (fsN p a).or none
    cases fsN p a <;> rfl
  | b + 1 => by
    show (fsN p (a + b)).or (if p (a + b) = true then some (a + b) else none) = (fsN p a).or (((fsN (fun j => p (a + j)) b).or (if p (a + b) = true then some b else none)).map (fun j => a + j))
    rw [fsN_add b, or_asc, or_map]
    congr 2
    split <;> rfl
theorem fsN_lt {p : Nat → Bool} {c : Nat} : ∀ {n : Nat}, fsN p n = some c → c < n
  | 0, h => by cases h
  | n + 1, h => by
    have h : (fsN p n).or (if p n = true then some n else none) = some c := h
    cases e : fsN p n with
    | some z =>
      rw [e] at h
      have := fsN_lt e
      cases h
      omega
    | none =>
      rw [e] at h
      by_cases c2 : p n = true
      · rw [if_pos c2] at h; cases h; omega
      · rw [if_neg c2] at h; cases h
/-- the row of a code: whom each noon tells, less one -/
def dgL (B : Nat) : Nat → Nat → List Int
  | 0, _ => []
  | q + 1, c => (((c / B ^ q % B : Nat) : Int) - 1) :: dgL B q (c % B ^ q)
theorem dg_hi {B q n j : Nat} (hj : j < B ^ q) : (n * B ^ q + j) / B ^ q = n := by
  rw [Nat.add_comm, Nat.add_mul_div_right _ _ (by omega), Nat.div_eq_of_lt hj, Nat.zero_add]
theorem dg_lo {B q n j : Nat} (hj : j < B ^ q) : (n * B ^ q + j) % B ^ q = j := by
  rw [Nat.add_comm, Nat.add_mul_mod_self_right, Nat.mod_eq_of_lt hj]
theorem dg_mid {B q c m : Nat} (h : m < q) : c % B ^ q / B ^ m % B = c / B ^ m % B := by
  obtain ⟨d, rfl⟩ : ∃ d : Nat, q = m + (d + 1) := ⟨q - m - 1, by omega⟩
  rw [Nat.pow_add, Nat.mod_mul_right_div_self, Nat.mod_mod_of_dvd _ (⟨B ^ d, by rw [Nat.pow_succ, Nat.mul_comm]⟩ : B ∣ B ^ (d + 1))]
theorem plS_code {S : Rc} {r : Int} {B q a b : Nat} : ∀ k : Nat, (∀ i : Nat, i < k → a / B ^ (q - 1 - i) % B = b / B ^ (q - 1 - i) % B) → plS S r B q a k = plS S r B q b k
  | 0, _ => rfl
  | k + 1, h => by
    show sailS (plS S r B q a k) _ r = sailS (plS S r B q b k) _ r
    rw [plS_code k (fun i hi => h i (by omega)), h k (by omega)]
theorem plS_cut {S : Rc} {r : Int} {B q n j : Nat} (hn : n < B) (hj : j < B ^ q) : ∀ k : Nat, k ≤ q → plS S r B (q + 1) (n * B ^ q + j) (k + 1) = plS (sailS S (setO n) r) r B q j k
  | 0, _ => by
    show sailS S (setO ((n * B ^ q + j) / B ^ (q + 1 - 1 - 0) % B)) r = sailS S (setO n) r
    rw [show q + 1 - 1 - 0 = q by omega, dg_hi hj, Nat.mod_eq_of_lt hn]
  | k + 1, hk => by
    show sailS (plS S r B (q + 1) (n * B ^ q + j) (k + 1)) (setO ((n * B ^ q + j) / B ^ (q + 1 - 1 - (k + 1)) % B)) r = sailS (plS (sailS S (setO n) r) r B q j k) (setO (j / B ^ (q - 1 - k) % B)) r
    rw [plS_cut hn hj k (by omega), show q + 1 - 1 - (k + 1) = q - 1 - k by omega, ← dg_mid (c := n * B ^ q + j) (show q - 1 - k < q by omega), dg_lo hj]
theorem dgF_fsN {r x : Int} {B : Nat} : ∀ (q : Nat) (S : Rc), dgF r x B q S = (fsN (cpP S r B x q) (B ^ q)).map (dgL B q)
  | 0, S => by
    show (if S.1 0 = x then some [] else none) = (((none : Option Nat).or (if decide (S.1 0 = x) = true then some 0 else none)).map (dgL B 0))
    by_cases e : S.1 0 = x
    · rw [if_pos e, if_pos (decide_eq_true e)]; rfl
    · rw [if_neg e, if_neg (by simp [e])]; rfl
  | q + 1, S => by
    have h : ∀ b : Nat, b ≤ B → arF (fun n => dgF r x B q (sailS S (setO n) r)) b = (fsN (cpP S r B x (q + 1)) (b * B ^ q)).map (dgL B (q + 1)) := by
      intro b
      induction b with
      | zero => intro _; rw [Nat.zero_mul]; rfl
      | succ b ih =>
        intro hb
        rw [Nat.succ_mul, fsN_add, or_map, ← ih (by omega)]
        show (arF (fun n => dgF r x B q (sailS S (setO n) r)) b).or ((dgF r x B q (sailS S (setO b) r)).map (fun l => ((b : Int) - 1) :: l)) = _
        congr 1
        rw [dgF_fsN q (sailS S (setO b) r), Option.map_map, Option.map_map, fsN_cong (p := fun j => cpP S r B x (q + 1) (b * B ^ q + j)) (p' := cpP (sailS S (setO b) r) r B x q) (fun k hk => by
          show decide ((plS S r B (q + 1) (b * B ^ q + k) (q + 1)).1 0 = x) = decide ((plS (sailS S (setO b) r) r B q k q).1 0 = x)
          rw [plS_cut (by omega) hk q (Nat.le_refl _)])]
        cases e : fsN (cpP (sailS S (setO b) r) r B x q) (B ^ q) with
        | none => rfl
        | some j =>
          have hj := fsN_lt e
          show some (((b : Int) - 1) :: dgL B q j) = some (((((b * B ^ q + j) / B ^ q % B : Nat) : Int) - 1) :: dgL B q ((b * B ^ q + j) % B ^ q))
          rw [dg_hi hj, dg_lo hj, Nat.mod_eq_of_lt (show b < B by omega)]
    have := h B (Nat.le_refl _)
    rw [Nat.pow_succ, Nat.mul_comm]
    exact this
theorem dgL_get {B : Nat} : ∀ (q c k : Nat), k < q → (dgL B q c).getD k 0 = ((c / B ^ (q - 1 - k) % B : Nat) : Int) - 1
  | 0, _, _, h => absurd h (by omega)
  | q + 1, c, 0, _ => by
    show (((c / B ^ q % B : Nat) : Int) - 1) = _
    rw [show q + 1 - 1 - 0 = q by omega]
  | q + 1, c, k + 1, h => by
    show (dgL B q (c % B ^ q)).getD k 0 = _
    rw [dgL_get q _ k (by omega), show q + 1 - 1 - (k + 1) = q - 1 - k by omega, dg_mid (by omega)]
theorem rtS_cpN {r x : Int} {B : Nat} {D : Int} {S : Rc} (hS : okS D S) (hr : 0 ≤ r ∧ r < S.1 5) (hB : S.1 4 + 1 = (B : Int)) : rtS x r S = (cpN S r B x 6).map (fun z => (z.1, dgL B z.1 z.2)) := by
  have h4 := hS.2.2.2.2.1
  have e1 : cpN S r B x 1 = if S.1 0 = x then some (0, 0) else none := by
    show (none : Option (Nat × Nat)).or (((none : Option Nat).or (if decide (S.1 0 = x) = true then some 0 else none)).map (fun c => (0, c))) = _
    by_cases e : S.1 0 = x
    · rw [if_pos e, if_pos (decide_eq_true e)]; rfl
    · rw [if_neg e, if_neg (by simp [e])]; rfl
  unfold rtS
  by_cases e : S.1 0 = x
  · rw [if_pos e]
    rw [if_pos e] at e1
    rw [show (6 : Nat) = 1 + 5 from rfl, cpN_more (by rw [e1]; simp), e1]
    rfl
  · rw [if_neg e]
    rw [if_neg e] at e1
    have h : ∀ n : Nat, n ≤ 5 → fwN x r S n = (cpN S r B x (n + 1)).map (fun z => (z.1, dgL B z.1 z.2)) := by
      intro n
      induction n with
      | zero => intro _; rw [e1]; rfl
      | succ n ih =>
        intro hn
        show (fwN x r S n).or ((arQ x r (n + 1) S).map (fun ps => (n + 1, ps))) = ((cpN S r B x (n + 1)).or ((fsN (cpP S r B x (n + 1)) (B ^ (n + 1))).map (fun c => (n + 1, c)))).map _
        rw [ih (by omega), or_map, arQ_dgF (B := B) (by omega) (n + 1) D S hn hS hr (by omega), dgF_fsN, Option.map_map, Option.map_map]
        rfl
    exact h 5 (Nat.le_refl _)
theorem cape_eq {r x t : Int} {B : Nat} {D : Int} {S : Rc} (hS : okS D S) (hr : 0 ≤ r ∧ r < S.1 5) (hB : S.1 4 + 1 = (B : Int)) (ht : -1 ≤ t) : capI t (rtS x r S) = capM t B (cpN S r B x 6) := by
  rw [rtS_cpN hS hr hB]
  cases cpN S r B x 6 with
  | none => rfl
  | some z =>
    show (if t = -1 then (z.1 : Int) else if t < z.1 then (dgL B z.1 z.2).getD t.toNat 0 else -5) = (if t = -1 then (z.1 : Int) else if (z.1 : Int) ≤ t then -5 else ((z.2 / B ^ (z.1 - 1 - t.toNat) % B : Nat) : Int) - 1)
    by_cases e : t = -1
    · rw [if_pos e, if_pos e]
    · rw [if_neg e, if_neg e]
      by_cases c : t < z.1
      · rw [if_pos c, if_neg (by omega), dgL_get _ _ _ (by omega)]
      · rw [if_neg c, if_pos (by omega)]
