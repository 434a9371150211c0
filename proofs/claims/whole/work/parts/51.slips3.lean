/-! ===== slips, there and here ===== -/
theorem gcd_dec : ∀ n : Nat, n < 7 → ∀ s : Nat, s < n + 1 → ∀ c : Nat, c < 11 → redN (abN n s c n * wyN n (wyR n s)) (blN n) n = ((abN n s c n * wyN n (wyR n s)) / ((Nat.gcd (abN n s c n * wyN n (wyR n s)).toNat (blN n).toNat : Nat) : Int), (blN n) / ((Nat.gcd (abN n s c n * wyN n (wyR n s)).toNat (blN n).toNat : Nat) : Int)) := by decide +kernel
theorem gcd_0 : ∀ n : Nat, n < 7 → redN 0 (blN n) n = (0 / ((Nat.gcd (0 : Int).toNat (blN n).toNat : Nat) : Int), (blN n) / ((Nat.gcd (0 : Int).toNat (blN n).toNat : Nat) : Int)) := by decide +kernel
theorem gcd_1 : ∀ n : Nat, n < 7 → blN n / ((Nat.gcd (blN n).toNat (blN n).toNat : Nat) : Int) = 1 := by decide +kernel
/-- the ways in which s of the men told may be taken for another -/
def cnX (x e : Int) : Nat → Int
  | 0 => 0
  | k + 1 => cnX x e k + if isP x e false k then 1 else 0
theorem cn_dec : ∀ x : Nat, x < 64 → ∀ s : Nat, s < 7 → cnX x (-(s : Int)) (x + 1) = if (s : Int) ≤ bc x then wyN (bc x) (wyR (bc x) s) else 0 := by decide +kernel
/-- how many of the first j told men are taken for another, and are not -/
def tkX (x s : Int) : Nat → Nat × Nat
  | 0 => (0, 0)
  | j + 1 => if x / 2 ^ j % 2 = 1 then (if s / 2 ^ j % 2 = 1 then ((tkX x s j).1 + 1, (tkX x s j).2) else ((tkX x s j).1, (tkX x s j).2 + 1)) else tkX x s j
theorem tk_dec : ∀ x : Nat, x < 64 → ∀ s : Nat, s < 64 → bAnd s (bXor x (-1)) = 0 → tkX x s 6 = ((bc s).toNat, (bc x).toNat - (bc s).toNat) ∧ bc s ≤ bc x := by decide +kernel
theorem wt_tk (x s t : Int) : ∀ j : Nat, wtN x s t j = t ^ (tkX x s j).1 * (10 - t) ^ (tkX x s j).2
  | 0 => by
    show (1 : Int) = t ^ 0 * (10 - t) ^ 0
    rw [Int.pow_zero, Int.pow_zero]
    rfl
  | j + 1 => by
    show wtN x s t j * (if x / 2 ^ j % 2 = 1 then (if s / 2 ^ j % 2 = 1 then t else 10 - t) else 1) = t ^ (tkX x s (j + 1)).1 * (10 - t) ^ (tkX x s (j + 1)).2
    have e : tkX x s (j + 1) = if x / 2 ^ j % 2 = 1 then (if s / 2 ^ j % 2 = 1 then ((tkX x s j).1 + 1, (tkX x s j).2) else ((tkX x s j).1, (tkX x s j).2 + 1)) else tkX x s j := rfl
    rw [e, wt_tk x s t j]
    split
    · split
      · show _ = t ^ ((tkX x s j).1 + 1) * (10 - t) ^ (tkX x s j).2
        rw [Int.pow_succ, Int.mul_assoc, Int.mul_assoc, Int.mul_comm t]
      · show _ = t ^ (tkX x s j).1 * (10 - t) ^ ((tkX x s j).2 + 1)
        rw [Int.pow_succ, Int.mul_assoc]
    · rw [Int.mul_one]
theorem ab_dec : ∀ n : Nat, n < 7 → ∀ s : Nat, s < n + 1 → ∀ c : Nat, c < 11 → abN n s c n = (c : Int) ^ s * (10 - (c : Int)) ^ (n - s) := by decide +kernel
theorem bit_hi {x : Int} {mm j : Nat} (hx : 0 ≤ x ∧ x < 2 ^ mm) (h : mm ≤ j) : ¬ x / 2 ^ j % 2 = 1 := by
  have h2 : (2 : Int) ^ mm ≤ 2 ^ j := by
    have := Nat.pow_le_pow_right (show 2 > 0 by omega) h
    exact_mod_cast this
  rw [Int.ediv_eq_zero_of_lt hx.1 (by omega)]
  decide
theorem wt_hi {x s t : Int} {mm : Nat} (hx : 0 ≤ x ∧ x < 2 ^ mm) : ∀ d : Nat, wtN x s t (mm + d) = wtN x s t mm
  | 0 => rfl
  | d + 1 => by
    show wtN x s t (mm + d) * (if x / 2 ^ (mm + d) % 2 = 1 then _ else 1) = _
    rw [if_neg (bit_hi hx (by omega)), Int.mul_one, wt_hi hx d]
theorem wl_hi {x : Int} {mm : Nat} (hx : 0 ≤ x ∧ x < 2 ^ mm) : ∀ d : Nat, wlN x (mm + d) = wlN x mm
  | 0 => rfl
  | d + 1 => by
    show wlN x (mm + d) * (if x / 2 ^ (mm + d) % 2 = 1 then _ else 1) = _
    rw [if_neg (bit_hi hx (by omega)), Int.mul_one, wl_hi hx d]
theorem wl_dec : ∀ x : Nat, x < 64 → wlN x 6 = blN (bc x).toNat ∧ 0 ≤ bc x ∧ bc x ≤ 6 := by decide +kernel
theorem sm_cn {x t e v : Int} {mm : Nat} : ∀ k : Nat, (∀ s : Nat, s < k → isP x e false s → wtN x s t mm = v) → smN x t e false mm k = cnX x e k * v
  | 0, _ => by
    show (0 : Int) = 0 * v
    omega
  | k + 1, h => by
    show smN x t e false mm k + (if isP x e false k then 1 else 0) * wtN x k t mm = (cnX x e k + if isP x e false k then 1 else 0) * v
    rw [sm_cn k (fun s hs => h s (by omega)), Int.add_mul]
    by_cases c : isP x e false k
    · rw [if_pos c, h k (by omega) c]
    · rw [if_neg c, Int.zero_mul, Int.zero_mul]
theorem sm_z {x t e : Int} {mm : Nat} (h : ∀ s : Nat, s ≤ x.toNat → ¬ isP x e false s) : ∀ k : Nat, k ≤ x.toNat + 1 → smN x t e false mm k = 0
  | 0, _ => rfl
  | k + 1, hk => by
    show smN x t e false mm k + (if isP x e false k then 1 else 0) * wtN x k t mm = 0
    rw [if_neg (h k (by omega)), sm_z h k (by omega), Int.zero_mul, Int.zero_add]
theorem pow_64 {mm : Nat} (h : mm ≤ 6) : (2 : Int) ^ mm ≤ 64 := by
  have := Nat.pow_le_pow_right (show 2 > 0 by omega) h
  exact_mod_cast this
theorem slip_no {x t e : Int} {mm : Nat} (hm : mm ≤ 6) (hx : 0 ≤ x ∧ x < 2 ^ mm) (ht : 0 ≤ t ∧ t ≤ 10) : smN x t e false mm (x.toNat + 1) = abN (bc x) (-e) t (bc x).toNat * wyN (bc x) (wyR (bc x) (-e)) := by
  have h64 := pow_64 hm
  obtain ⟨wl1, wl2, wl3⟩ := wl_dec x.toNat (by omega)
  have hxn : ((x.toNat : Nat) : Int) = x := by omega
  rw [hxn] at wl1 wl2 wl3
  have hsub : ∀ s : Nat, s ≤ x.toNat → isP x e false s → bc s = -e ∧ bc s ≤ bc x := fun s hs hp => by
    have h1 := tk_dec x.toNat (by omega) s (by omega) (by rw [hxn]; exact hp.1)
    rw [hxn] at h1
    have h2 := hp.2
    simp only [Bool.false_eq_true, false_or] at h2
    exact ⟨by omega, h1.2⟩
  by_cases c : -e < 0 ∨ bc x < -e
  · have hz : ∀ j : Nat, abN (bc x) (-e) t j = 0 := by
      intro j
      induction j with
      | zero => show (if -e < 0 ∨ bc x < -e then (0 : Int) else 1) = 0; rw [if_pos c]
      | succ j ih => show abN (bc x) (-e) t j * _ = 0; rw [ih, Int.zero_mul]
    rw [hz, Int.zero_mul]
    refine sm_z (fun s hs hp => ?_) _ (Nat.le_refl _)
    have h1 := hsub s hs hp
    have h2 := (wl_dec s (by omega)).2.1
    omega
  · obtain ⟨σ, hσ⟩ : ∃ σ : Nat, -e = (σ : Int) := ⟨(-e).toNat, by omega⟩
    obtain ⟨n, hn⟩ : ∃ n : Nat, bc x = (n : Int) := ⟨(bc x).toNat, by omega⟩
    obtain ⟨c2, hc⟩ : ∃ c2 : Nat, t = (c2 : Int) := ⟨t.toNat, by omega⟩
    have he : e = -(σ : Int) := by omega
    rw [sm_cn (v := abN n σ t n) _ (fun s hs hp => ?_)]
    · have h1 := cn_dec x.toNat (by omega) σ (by omega)
      rw [hxn, if_pos (by omega)] at h1
      rw [he, h1, Int.mul_comm, hn]
      rw [show -(-(σ : Int)) = (σ : Int) by omega]
      rfl
    · have h1 := tk_dec x.toNat (by omega) s (by omega) (by rw [hxn]; exact hp.1)
      rw [hxn] at h1
      have h3 := (hsub s (by omega) hp).1
      rw [hc, ab_dec n (by omega) σ (by omega) c2 (by omega), ← hc, ← wt_hi hx (6 - mm), show mm + (6 - mm) = 6 by omega, wt_tk, h1.1, h3, hn, hσ]
      rfl
theorem wl_bl {x : Int} {mm : Nat} (hm : mm ≤ 6) (hx : 0 ≤ x ∧ x < 2 ^ mm) : wlN x mm = blN (bc x).toNat ∧ 0 ≤ bc x ∧ bc x ≤ 6 := by
  have h64 := pow_64 hm
  have h1 := wl_dec x.toNat (by omega)
  rw [show ((x.toNat : Nat) : Int) = x by omega] at h1
  rw [← wl_hi hx (6 - mm), show mm + (6 - mm) = 6 by omega]
  exact h1
theorem slip_eq {x t e : Int} {mm : Nat} (hm : mm ≤ 6) (hx : 0 ≤ x ∧ x < 2 ^ mm) (ht : 0 ≤ t ∧ t ≤ 10) : slA (bc x) (-e) t = smN x t e false mm (x.toNat + 1) / (Nat.gcd (smN x t e false mm (x.toNat + 1)).toNat (wlN x mm).toNat : Nat) ∧ slB (bc x) (-e) t = wlN x mm / (Nat.gcd (smN x t e false mm (x.toNat + 1)).toNat (wlN x mm).toNat : Nat) := by
  obtain ⟨w1, w2, w3⟩ := wl_bl hm hx
  rw [slip_no hm hx ht, w1]
  unfold slA slB
  obtain ⟨n, hn⟩ : ∃ n : Nat, bc x = (n : Int) := ⟨(bc x).toNat, by omega⟩
  obtain ⟨c2, hc⟩ : ∃ c2 : Nat, t = (c2 : Int) := ⟨t.toNat, by omega⟩
  rw [hn, hc, show ((n : Int)).toNat = n from rfl]
  by_cases c : -e < 0 ∨ bc x < -e
  · have hz : ∀ j : Nat, abN (n : Int) (-e) (c2 : Int) j = 0 := by
      intro j
      induction j with
      | zero => show (if -e < 0 ∨ (n : Int) < -e then (0 : Int) else 1) = 0; rw [if_pos (by omega)]
      | succ j ih => show abN (n : Int) (-e) (c2 : Int) j * _ = 0; rw [ih, Int.zero_mul]
    rw [hz, Int.zero_mul, gcd_0 n (by omega)]
    exact ⟨rfl, rfl⟩
  · obtain ⟨σ, hσ⟩ : ∃ σ : Nat, -e = (σ : Int) := ⟨(-e).toNat, by omega⟩
    rw [hσ, gcd_dec n (by omega) σ (by omega) c2 (by omega)]
    exact ⟨rfl, rfl⟩
theorem fog_dec : ∀ x : Nat, x < 64 → ∀ t : Nat, t < 11 → smN x t 0 true 6 (x + 1) = blN (bc x).toNat := by decide +kernel
theorem sm_fog {x t e : Int} {mm d : Nat} (hx : 0 ≤ x ∧ x < 2 ^ mm) : ∀ k : Nat, smN x t e true mm k = smN x t 0 true (mm + d) k
  | 0 => rfl
  | k + 1 => by
    show smN x t e true mm k + (if isP x e true k then 1 else 0) * wtN x k t mm = smN x t 0 true (mm + d) k + (if isP x 0 true k then 1 else 0) * wtN x k t (mm + d)
    rw [sm_fog hx k, wt_hi hx]
    congr 2
    by_cases c : bAnd k (bXor x (-1)) = 0
    · rw [if_pos ⟨c, Or.inl rfl⟩, if_pos ⟨c, Or.inl rfl⟩]
    · rw [if_neg (fun h => c h.1), if_neg (fun h => c h.1)]
theorem slip_fog {x t e : Int} {mm : Nat} (hm : mm ≤ 6) (hx : 0 ≤ x ∧ x < 2 ^ mm) (ht : 0 ≤ t ∧ t ≤ 10) : smN x t e true mm (x.toNat + 1) / (Nat.gcd (smN x t e true mm (x.toNat + 1)).toNat (wlN x mm).toNat : Nat) = 1 ∧ wlN x mm / (Nat.gcd (smN x t e true mm (x.toNat + 1)).toNat (wlN x mm).toNat : Nat) = 1 := by
  have h64 := pow_64 hm
  obtain ⟨w1, w2, w3⟩ := wl_bl hm hx
  have h1 := fog_dec x.toNat (by omega) t.toNat (by omega)
  rw [show ((x.toNat : Nat) : Int) = x by omega, show ((t.toNat : Nat) : Int) = t by omega] at h1
  rw [sm_fog (d := 6 - mm) hx, show mm + (6 - mm) = 6 by omega, h1, w1]
  exact ⟨gcd_1 _ (by omega), gcd_1 _ (by omega)⟩
