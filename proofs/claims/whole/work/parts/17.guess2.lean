def mks (a : Int) (k c e : Int) : Int := if a = 1 then stn k c e else see k c e
theorem mks_r {a k c e : Int} (hc : 0 ≤ c ∧ c ≤ 90) : 0 ≤ mks a k c e ∧ mks a k c e ≤ 95 := by
  unfold mks
  split
  · have := stn_r (k := k) (d := e) hc; omega
  · exact see_r hc
/-- rows of who, of the first n, all so by the KIND -/
def fitN (R : Rc) (who a kind : Int) : Nat → Bool
  | 0 => true
  | n + 1 => fitN R who a kind n && (decide (R.2 0 ((n : Int) * 4) ≠ who) || decide (mks a kind (R.2 0 ((n : Int) * 4 + 1)) (R.2 0 ((n : Int) * 4 + 2)) = R.2 0 ((n : Int) * 4 + 3)))
theorem fitN_mono {R : Rc} {x s a : Int} {p b : Nat} (h : p ≤ b) (hb : fitN R x a s b = true) : fitN R x a s p = true := by
  induction b with
  | zero => rw [show p = 0 by omega]; rfl
  | succ b ih =>
    by_cases e : p = b + 1
    · rw [e]; exact hb
    · have : fitN R x a s b = true := by
        unfold fitN at hb
        simp only [Bool.and_eq_true] at hb
        exact hb.1
      exact ih (by omega) this
def fitB (R : Rc) (who a kind : Int) : Bool := fitN R who a kind (R.1 0).toNat
def kfN (R : Rc) (who a : Int) : Nat → Int
  | 0 => 0
  | n + 1 => kfN R who a n + if fitB R who a n = true then 2 ^ n else 0
theorem kfN_r (R : Rc) (who a : Int) : ∀ n : Nat, 0 ≤ kfN R who a n ∧ kfN R who a n < 2 ^ n
  | 0 => by simp [kfN]
  | n + 1 => by
    have ih := kfN_r R who a n
    unfold kfN
    rw [Int.pow_succ]
    split <;> omega
theorem orp_dec : ∀ n : Nat, n < 6 → ∀ s : Nat, s < 2 ^ n → bOr (s : Int) (2 ^ n) = (s : Int) + 2 ^ n := by decide +kernel
theorem orp {s : Int} {n : Nat} (hn : n < 6) (hs : 0 ≤ s ∧ s < 2 ^ n) : bOr s (2 ^ n) = s + 2 ^ n := by
  have h := orp_dec n hn s.toNat (by
    have : ((2 ^ n : Nat) : Int) = 2 ^ n := by simp
    omega)
  rw [Int.toNat_of_nonneg hs.1] at h
  exact h
theorem p64 {n : Nat} (h : n ≤ 6) : (1 : Int) ≤ 2 ^ n ∧ (2 : Int) ^ n ≤ 64 := by
  have : ∀ n : Nat, n < 7 → (1 : Int) ≤ 2 ^ n ∧ (2 : Int) ^ n ≤ 64 := by decide +kernel
  exact this n (by omega)
theorem shl_n {x : Int} {n : Nat} (hn : n < 7) (hx : x = n) : bShl 1 x = 2 ^ n := by rw [hx, shl_eq (by omega), Int.toNat_natCast]
set_option maxHeartbeats 2000000 in
theorem lp_G_fits {κ : Kx} {μ : MX} {Q : Option Value → (Heap → Prop) → Prop} {m : Mem} {i : Nat} {x a : Int} (hi : i < 9) (hR : okR (m 3 i)) (hx : R32 x) (ha : a = 0 ∨ a = 1) (hv : ∀ t : Int, 0 ≤ t ∧ t < (m 3 i).1 0 → (m 3 i).2 0 (t * 4 + 1) ≤ 90) {s : Int} (hk : 0 ≤ s ∧ s ≤ 5) (k1 : fitB (m 3 i) x a s = true → Q (some (vi 1)) (World κ m)) (k0 : fitB (m 3 i) x a s = false → Q (some (vi 0)) (World κ m)) (F : Fx κ G_G_fits 2 0 0 μ) :
    ∀ (n : Nat) (j : Nat) (y : Int), (m 3 i).1 0 < j + n → (j : Int) ≤ (m 3 i).1 0 → y = j → fitN (m 3 i) x a s j = true →  GC κ μ (ZZ κ μ 0 0 Q) 0 0 3 [some (.ref (ad κ 3 i)), some (vi x), some (vi a), some (vi s), some (vi y), none] [] (World κ m) := by
  obtain ⟨hsz, hwd, hce⟩ := id hR
  intro n
  induction n with
  | zero =>
    intro j y hn hj hy he
    exact absurd hn (by omega)
  | succ n ih =>
    intro j y hn hj hy he
    have hc9 : ∀ t : Int, y < (m 3 i).1 0 ∧ 0 ≤ t ∧ t < 4 → 0 ≤ (m 3 i).2 0 (y * 4 + t) ∧ (m 3 i).2 0 (y * 4 + t) ≤ 99 := fun t h => hce _ (by omega)
    refine g_iload F a_G_fits_3 rfl ?_
    refine g_aload_n F a_G_fits_5 rfl ?_
    refine g_get_3_0 F a_G_fits_6 fl_G_35 (by first | assumption | decide | omega) ?_
    refine g_icmp_ge F (by first | omega | (have := hc9 0 (by omega); rw [Int.add_zero] at this; omega) | (have := hc9 3 (by omega); omega) | (have := hmk; unfold mks at this; omega)) (by first | omega | (have := hc9 0 (by omega); rw [Int.add_zero] at this; omega) | (have := hc9 3 (by omega); omega) | (have := hmk; unfold mks at this; omega)) a_G_fits_9 (fun h9 => ?_) (fun h9 => ?_)
    · refine g_iconst F a_G_fits_64 ?_
      refine g_zret F a_G_fits_65 rfl rfl ⟨Nat.le_refl _, Nat.le_refl _⟩ ?_
      exact k1 (by unfold fitB; rw [show ((m 3 i).1 0).toNat = j by omega]; exact he)
    · have hc1 : 0 ≤ (m 3 i).2 0 (y * 4 + 1) ∧ (m 3 i).2 0 (y * 4 + 1) ≤ 90 := ⟨(hce _ (by omega)).1, hv y (by omega)⟩
      have hc2 := hce (y * 4 + 2) (by omega)
      have hmk := mks_r (a := a) (k := s) (e := (m 3 i).2 0 (y * 4 + 2)) hc1
      refine g_iload_n F a_G_fits_12 rfl ?_
      refine g_iload_n F a_G_fits_13 rfl ?_
      refine g_aload_n F a_G_fits_14 rfl ?_
      refine g_iload F a_G_fits_15 rfl ?_
      refine g_iconst F a_G_fits_17 ?_
      refine g_v2 F a_G_fits_18 vc_G_41 mk_R_cell (ob_3 (by first | assumption | decide | omega)) ck_3.1 rfl rfl (by decide) ⟨Nat.le_refl _, Nat.le_refl _⟩ rfl (Nat.le_of_ble_eq_true rfl) (sp_R_cell hi hR (by omega) (by omega) (GCr.v ?_))
      refine g_aload_n F a_G_fits_21 rfl ?_
      refine g_iload F a_G_fits_22 rfl ?_
      refine g_iconst F a_G_fits_24 ?_
      refine g_v2 F a_G_fits_25 vc_G_41 mk_R_cell (ob_3 (by first | assumption | decide | omega)) ck_3.1 rfl rfl (by decide) ⟨Nat.le_refl _, Nat.le_refl _⟩ rfl (Nat.le_of_ble_eq_true rfl) (sp_R_cell hi hR (by omega) (by omega) (GCr.v ?_))
      refine g_s4 F a_G_fits_28 sc_G_61 mk_K_makes rfl (by decide) ⟨Nat.le_refl _, Nat.le_refl _⟩ rfl (Nat.le_of_ble_eq_true rfl) (sp_K_makes ha hk hc1 (by omega) (GCr.v ?_))
      refine g_istore (ls' := [_, _, _, _, _, _]) F a_G_fits_31 rfl rfl rfl ?_
      refine g_aload_n F a_G_fits_33 rfl ?_
      refine g_iload F a_G_fits_34 rfl ?_
      refine g_iconst F a_G_fits_36 ?_
      refine g_v2 F a_G_fits_37 vc_G_41 mk_R_cell (ob_3 (by first | assumption | decide | omega)) ck_3.1 rfl rfl (by decide) ⟨Nat.le_refl _, Nat.le_refl _⟩ rfl (Nat.le_of_ble_eq_true rfl) (sp_R_cell hi hR (by omega) (by omega) (GCr.v ?_))
      rw [Int.add_zero]
      refine g_iload_n F a_G_fits_40 rfl ?_
      refine g_icmp_ne F (by first | omega | (have := hc9 0 (by omega); rw [Int.add_zero] at this; omega) | (have := hc9 3 (by omega); omega) | (have := hmk; unfold mks at this; omega)) (by first | omega | (have := hc9 0 (by omega); rw [Int.add_zero] at this; omega) | (have := hc9 3 (by omega); omega) | (have := hmk; unfold mks at this; omega)) a_G_fits_41 (fun h41 => ?_) (fun h41 => ?_)
      · refine g_iinc (ls' := [_, _, _, _, _, _]) F a_G_fits_58 rfl rfl rfl ?_
        refine g_goto F a_G_fits_61 ?_
        refine GC.loc2 (ih (j + 1) _ (by omega) (by omega) (by omega) ?_) ⟨rfl, rfl, rfl, rfl, rfl, trivial⟩
        unfold fitN
        rw [he, ← hy]
        first | (simp [h41, mks, h53]; done) | (simp [h41]; done)
      · refine g_aload_n F a_G_fits_44 rfl ?_
        refine g_iload F a_G_fits_45 rfl ?_
        refine g_iconst F a_G_fits_47 ?_
        refine g_v2 F a_G_fits_48 vc_G_41 mk_R_cell (ob_3 (by first | assumption | decide | omega)) ck_3.1 rfl rfl (by decide) ⟨Nat.le_refl _, Nat.le_refl _⟩ rfl (Nat.le_of_ble_eq_true rfl) (sp_R_cell hi hR (by omega) (by omega) (GCr.v ?_))
        refine g_iload F a_G_fits_51 rfl ?_
        refine g_icmp_eq F (by first | omega | (have := hc9 0 (by omega); rw [Int.add_zero] at this; omega) | (have := hc9 3 (by omega); omega) | (have := hmk; unfold mks at this; omega)) (by first | omega | (have := hc9 0 (by omega); rw [Int.add_zero] at this; omega) | (have := hc9 3 (by omega); omega) | (have := hmk; unfold mks at this; omega)) a_G_fits_53 (fun h53 => ?_) (fun h53 => ?_)
        · refine g_iinc (ls' := [_, _, _, _, _, _]) F a_G_fits_58 rfl rfl rfl ?_
          refine g_goto F a_G_fits_61 ?_
          refine GC.loc2 (ih (j + 1) _ (by omega) (by omega) (by omega) ?_) ⟨rfl, rfl, rfl, rfl, rfl, trivial⟩
          unfold fitN
          rw [he, ← hy]
          first | (simp [h41, mks, h53]; done) | (simp [h41]; done)
        · refine g_iconst F a_G_fits_56 ?_
          refine g_zret F a_G_fits_57 rfl rfl ⟨Nat.le_refl _, Nat.le_refl _⟩ ?_
          refine k0 ?_
          by_cases q : fitB (m 3 i) x a s = true
          · exfalso
            have q2 := fitN_mono (p := j + 1) (b := ((m 3 i).1 0).toNat) (by omega) q
            unfold fitN at q2
            rw [← hy] at q2
            simp [h41, mks] at q2
            exact h53 (of_decide_eq_true q2.2).symm
          · simpa using q
set_option maxHeartbeats 1000000 in
theorem sp_G_fits {κ : Kx} {Q : Option Value → (Heap → Prop) → Prop} {m : Mem} {i : Nat} {x a : Int} (hi : i < 9) (hR : okR (m 3 i)) (hx : R32 x) (ha : a = 0 ∨ a = 1) (hv : ∀ t : Int, 0 ≤ t ∧ t < (m 3 i).1 0 → (m 3 i).2 0 (t * 4 + 1) ≤ 90) {s : Int} (hk : 0 ≤ s ∧ s ≤ 5) (k1 : fitB (m 3 i) x a s = true → Q (some (vi 1)) (World κ m)) (k0 : fitB (m 3 i) x a s = false → Q (some (vi 0)) (World κ m)) : GG κ G_G_fits 2 0 0 [.ref (ad κ 3 i), vi x, vi a, vi s] (World κ m) Q := by
  obtain ⟨hsz, hwd, hce⟩ := id hR
  refine GG.intro (ls := [some _, some _, some _, some _, none, none]) (Nat.le_of_ble_eq_true rfl) rfl (fun μ F => ?_)
  refine g_iconst F a_G_fits_0 ?_
  refine g_istore (ls' := [_, _, _, _, _, _]) F a_G_fits_1 rfl rfl rfl ?_
  exact GC.loc2 (lp_G_fits hi hR hx ha hv hk k1 k0 F (((m 3 i).1 0).toNat + 1) 0 _ (by omega) (by omega) rfl rfl) ⟨rfl, rfl, rfl, rfl, rfl, trivial⟩
set_option maxHeartbeats 2000000 in
theorem lp_G_ktf {κ : Kx} {μ : MX} {Q : Option Value → (Heap → Prop) → Prop} {m : Mem} {i : Nat} {x a : Int} (hi : i < 9) (hR : okR (m 3 i)) (hx : R32 x) (ha : a = 0 ∨ a = 1) (hv : ∀ t : Int, 0 ≤ t ∧ t < (m 3 i).1 0 → (m 3 i).2 0 (t * 4 + 1) ≤ 90) (k : Q (some (vi (kfN (m 3 i) x a 6))) (World κ m)) (F : Fx κ G_G_kindsThatFit 3 0 0 μ) :
    ∀ (n : Nat) (j : Nat) (y e : Int), 6 < j + n → (j : Int) ≤ 6 → y = j → e = kfN (m 3 i) x a j →  GC κ μ (ZZ κ μ 0 0 Q) 0 0 5 [some (.ref (ad κ 3 i)), some (vi x), some (vi a), some (vi e), some (vi y)] [] (World κ m) := by
  intro n
  induction n with
  | zero =>
    intro j y e hn hj hy he
    exact absurd hn (by omega)
  | succ n ih =>
    intro j y e hn hj hy he
    refine g_iload F a_G_kindsThatFit_5 rfl ?_
    refine g_iconst F a_G_kindsThatFit_7 ?_
    refine g_icmp_gt F (by omega) (by omega) a_G_kindsThatFit_8 (fun h8 => ?_) (fun h8 => ?_)
    · refine g_iload_n F a_G_kindsThatFit_35 rfl ?_
      refine g_iret F a_G_kindsThatFit_36 rfl ⟨Nat.le_refl _, Nat.le_refl _⟩ ?_
      exact qv k (by rw [he, show j = 6 by omega])
    · refine g_aload_n F a_G_kindsThatFit_11 rfl ?_
      refine g_iload_n F a_G_kindsThatFit_12 rfl ?_
      refine g_iload_n F a_G_kindsThatFit_13 rfl ?_
      refine g_iload F a_G_kindsThatFit_14 rfl ?_
      refine g_s4 F a_G_kindsThatFit_16 sc_G_57 mk_G_fits rfl (by decide) ⟨Nat.le_refl _, Nat.le_refl _⟩ rfl (Nat.le_of_ble_eq_true rfl) (sp_G_fits hi hR hx ha hv (by omega) (fun c16 => GCr.v ?_) (fun c16 => GCr.v ?_))
      · refine g_ifeq1 F a_G_kindsThatFit_19 ?_
        refine g_iload_n F a_G_kindsThatFit_22 rfl ?_
        refine g_iconst F a_G_kindsThatFit_23 ?_
        refine g_iload F a_G_kindsThatFit_24 rfl ?_
        refine g_ishl F a_G_kindsThatFit_26 ?_
        refine g_ior F a_G_kindsThatFit_27 ?_
        refine g_istore_n (ls' := [_, _, _, _, _]) F a_G_kindsThatFit_28 rfl rfl rfl ?_
        refine g_iinc (ls' := [_, _, _, _, _]) F a_G_kindsThatFit_29 rfl rfl rfl ?_
        refine g_goto F a_G_kindsThatFit_32 ?_
        exact GC.loc2 (ih (j + 1) _ _ (by omega) (by omega) (by omega) (by unfold kfN; rw [if_pos (by rw [← hy]; exact c16), he, shl_n (by omega) hy, orp (by omega) (kfN_r _ _ _ _)])) ⟨rfl, rfl, rfl, rfl, rfl, trivial⟩
      · refine g_ifeq0 F a_G_kindsThatFit_19 ?_
        refine g_iinc (ls' := [_, _, _, _, _]) F a_G_kindsThatFit_29 rfl rfl rfl ?_
        refine g_goto F a_G_kindsThatFit_32 ?_
        exact GC.loc2 (ih (j + 1) _ _ (by omega) (by omega) (by omega) (by unfold kfN; rw [if_neg (by rw [← hy, c16]; simp)]; omega)) ⟨rfl, rfl, rfl, rfl, rfl, trivial⟩
set_option maxHeartbeats 1000000 in
theorem sp_G_kindsThatFit {κ : Kx} {Q : Option Value → (Heap → Prop) → Prop} {m : Mem} {i : Nat} {x a : Int} (hi : i < 9) (hR : okR (m 3 i)) (hx : R32 x) (ha : a = 0 ∨ a = 1) (hv : ∀ t : Int, 0 ≤ t ∧ t < (m 3 i).1 0 → (m 3 i).2 0 (t * 4 + 1) ≤ 90) (k : Q (some (vi (kfN (m 3 i) x a 6))) (World κ m)) : GG κ G_G_kindsThatFit 3 0 0 [.ref (ad κ 3 i), vi x, vi a] (World κ m) Q := by
  refine GG.intro (ls := [some _, some _, some _, none, none]) (Nat.le_of_ble_eq_true rfl) rfl (fun μ F => ?_)
  refine g_iconst F a_G_kindsThatFit_0 ?_
  refine g_istore_n (ls' := [_, _, _, _, _]) F a_G_kindsThatFit_1 rfl rfl rfl ?_
  refine g_iconst F a_G_kindsThatFit_2 ?_
  refine g_istore (ls' := [_, _, _, _, _]) F a_G_kindsThatFit_3 rfl rfl rfl ?_
  exact GC.loc2 (lp_G_ktf hi hR hx ha hv k F 7 0 _ _ (by omega) (by omega) rfl rfl) ⟨rfl, rfl, rfl, rfl, rfl, trivial⟩
/-- how many KINDS of the set, of the first n, make the same as KIND c -/
def alN (set a v d c : Int) : Nat → Int
  | 0 => 0
  | n + 1 => alN set a v d c n + if set / 2 ^ n % 2 = 1 ∧ mks a n v d = mks a c v d then 1 else 0
def maN (set a v d : Int) : Nat → Int
  | 0 => 0
  | n + 1 => max (maN set a v d n) (if set / 2 ^ n % 2 = 1 then alN set a v d n 6 else 0)
theorem alN_r (set a v d c : Int) : ∀ n : Nat, 0 ≤ alN set a v d c n ∧ alN set a v d c n ≤ n
  | 0 => by simp [alN]
  | n + 1 => by
    have := alN_r set a v d c n
    unfold alN
    split <;> omega
theorem maN_r (set a v d : Int) : ∀ n : Nat, 0 ≤ maN set a v d n ∧ maN set a v d n ≤ 6
  | 0 => by simp [maN]
  | n + 1 => by
    have h1 := maN_r set a v d n
    have h2 := alN_r set a v d n 6
    unfold maN
    split <;> omega
/-- the values row, behind n of them -/
def vlN (f : Int → Int) (a v d : Int) (n : Nat) : Int → Int := fun k => if 0 ≤ k ∧ k < (n : Int) then mks a k v d else f k
theorem vlN_succ {f : Int → Int} {a v d x : Int} {n : Nat} (hx : x = n) : gup (vlN f a v d n) x (mks a x v d) = vlN f a v d (n + 1) := by
  funext k
  unfold gup
  by_cases h : k = x
  · subst h
    have hc : 0 ≤ k ∧ k < ((n + 1 : Nat) : Int) := by omega
    rw [if_pos rfl]
    unfold vlN
    rw [if_pos hc]
  · rw [if_neg h]
    unfold vlN
    by_cases h1 : 0 ≤ k ∧ k < (n : Int)
    · have hc : 0 ≤ k ∧ k < ((n + 1 : Nat) : Int) := by omega
      rw [if_pos h1, if_pos hc]
    · have hc : ¬ (0 ≤ k ∧ k < ((n + 1 : Nat) : Int)) := by omega
      rw [if_neg h1, if_neg hc]
theorem vlN_zero (f : Int → Int) (a v d : Int) : vlN f a v d 0 = f := by
  funext k
  unfold vlN
  rw [if_neg (by omega)]
theorem bitx {set x : Int} {j : Nat} (hset : 0 ≤ set ∧ set < 64) (hx : x = j) (hj : j < 6) : bAnd (bShr set x) 1 = set / 2 ^ j % 2 := by rw [bit_eq hset (by omega), hx, Int.toNat_natCast]
set_option maxHeartbeats 2000000 in
theorem lp_G_ma3 {κ : Kx} {μ : MX} {Z : State → Prop} {m : Mem} {set a v d : Int} (hset : 0 ≤ set ∧ set < 64) (ha : a = 0 ∨ a = 1) (hv : 0 ≤ v ∧ v ≤ 90) (hd : 0 ≤ d ∧ d ≤ 100) {e z : Int} {c : Nat} (hz : z = c) (hc6 : c < 6) (hval : ∀ y : Int, 0 ≤ y ∧ y < 6 → (m 8 0).2 0 y = mks a y v d) (k : GC κ μ Z 0 0 99 [some (.ref (ad κ 8 0)), some (vi set), some (vi a), some (vi v), some (vi d), some (vi e), some (vi z), some (vi (alN set a v d c 6)), none] [] (World κ m)) (F : Fx κ G_G_mostAlike 2 0 0 μ) :
    ∀ (n : Nat) (j : Nat) (y f : Int), 6 < j + n → (j : Int) ≤ 6 → y = j → f = alN set a v d c j →  GC κ μ Z 0 0 58 [some (.ref (ad κ 8 0)), some (vi set), some (vi a), some (vi v), some (vi d), some (vi e), some (vi z), some (vi f), some (vi y)] [] (World κ m) := by
  intro n
  induction n with
  | zero =>
    intro j y f hn hj hy hf
    exact absurd hn (by omega)
  | succ n ih =>
    intro j y f hn hj hy hf
    have hbb : 0 ≤ set / 2 ^ j % 2 ∧ set / 2 ^ j % 2 ≤ 1 := by omega
    have har := alN_r set a v d c j
    refine g_iload F a_G_mostAlike_58 rfl ?_
    refine g_iconst F a_G_mostAlike_60 ?_
    refine g_icmp_gt F (by first | omega | exact ⟨by have := mks_r (a := a) (k := y) (e := d) hv; omega, by have := mks_r (a := a) (k := y) (e := d) hv; omega⟩ | exact ⟨by have := mks_r (a := a) (k := z) (e := d) hv; omega, by have := mks_r (a := a) (k := z) (e := d) hv; omega⟩) (by first | omega | exact ⟨by have := mks_r (a := a) (k := y) (e := d) hv; omega, by have := mks_r (a := a) (k := y) (e := d) hv; omega⟩ | exact ⟨by have := mks_r (a := a) (k := z) (e := d) hv; omega, by have := mks_r (a := a) (k := z) (e := d) hv; omega⟩) a_G_mostAlike_61 (fun h61 => ?_) (fun h61 => ?_)
    · rw [hf, show j = 6 by omega]
      exact GC.loc2 k ⟨rfl, rfl, rfl, rfl, rfl, rfl, rfl, rfl, trivial⟩
    · refine g_iload_n F a_G_mostAlike_64 rfl ?_
      refine g_iload F a_G_mostAlike_65 rfl ?_
      refine g_ishr F a_G_mostAlike_67 ?_
      refine g_iconst F a_G_mostAlike_68 ?_
      refine g_iand F a_G_mostAlike_69 ?_
      rw [bitx hset hy (by omega)]
      refine g_if_eq F (by first | omega | exact ⟨by have := mks_r (a := a) (k := y) (e := d) hv; omega, by have := mks_r (a := a) (k := y) (e := d) hv; omega⟩ | exact ⟨by have := mks_r (a := a) (k := z) (e := d) hv; omega, by have := mks_r (a := a) (k := z) (e := d) hv; omega⟩) a_G_mostAlike_70 (fun h70 => ?_) (fun h70 => ?_)
      · refine g_iinc (ls' := [_, _, _, _, _, _, _, _, _]) F a_G_mostAlike_93 rfl rfl rfl ?_
        refine g_goto F a_G_mostAlike_96 ?_
        exact GC.loc2 (ih (j + 1) _ _ (by omega) (by omega) (by omega) (by unfold alN; rw [if_neg (by omega)]; omega)) ⟨rfl, rfl, rfl, rfl, rfl, rfl, rfl, rfl, rfl, trivial⟩
      · refine g_aload_n F a_G_mostAlike_73 rfl ?_
        refine g_get_8_0 F a_G_mostAlike_74 fl_G_9 ?_
        refine g_iload F a_G_mostAlike_77 rfl ?_
        refine g_ild_8_0 F a_G_mostAlike_79 (by omega) ?_
        rw [hval _ (by omega)]
        refine g_aload_n F a_G_mostAlike_80 rfl ?_
        refine g_get_8_0 F a_G_mostAlike_81 fl_G_9 ?_
        refine g_iload F a_G_mostAlike_84 rfl ?_
        refine g_ild_8_0 F a_G_mostAlike_86 (by omega) ?_
        rw [hval _ (by omega)]
        refine g_icmp_ne F (by first | omega | exact ⟨by have := mks_r (a := a) (k := y) (e := d) hv; omega, by have := mks_r (a := a) (k := y) (e := d) hv; omega⟩ | exact ⟨by have := mks_r (a := a) (k := z) (e := d) hv; omega, by have := mks_r (a := a) (k := z) (e := d) hv; omega⟩) (by first | omega | exact ⟨by have := mks_r (a := a) (k := y) (e := d) hv; omega, by have := mks_r (a := a) (k := y) (e := d) hv; omega⟩ | exact ⟨by have := mks_r (a := a) (k := z) (e := d) hv; omega, by have := mks_r (a := a) (k := z) (e := d) hv; omega⟩) a_G_mostAlike_87 (fun h87 => ?_) (fun h87 => ?_)
        · refine g_iinc (ls' := [_, _, _, _, _, _, _, _, _]) F a_G_mostAlike_93 rfl rfl rfl ?_
          refine g_goto F a_G_mostAlike_96 ?_
          exact GC.loc2 (ih (j + 1) _ _ (by omega) (by omega) (by omega) (by unfold alN; rw [if_neg (by rw [← hy, ← hz]; exact fun q => h87 q.2)]; omega)) ⟨rfl, rfl, rfl, rfl, rfl, rfl, rfl, rfl, rfl, trivial⟩
        · refine g_iinc (ls' := [_, _, _, _, _, _, _, _, _]) F a_G_mostAlike_90 rfl rfl rfl ?_
          refine g_iinc (ls' := [_, _, _, _, _, _, _, _, _]) F a_G_mostAlike_93 rfl rfl rfl ?_
          refine g_goto F a_G_mostAlike_96 ?_
          exact GC.loc2 (ih (j + 1) _ _ (by omega) (by omega) (by omega) (by unfold alN; rw [if_pos (by rw [← hz]; exact ⟨by omega, by rw [← hy]; exact h87⟩)]; omega)) ⟨rfl, rfl, rfl, rfl, rfl, rfl, rfl, rfl, rfl, trivial⟩
set_option maxHeartbeats 2000000 in
theorem lp_G_ma2 {κ : Kx} {μ : MX} {Q : Option Value → (Heap → Prop) → Prop} {m : Mem} {set a v d : Int} (hset : 0 ≤ set ∧ set < 64) (ha : a = 0 ∨ a = 1) (hv : 0 ≤ v ∧ v ≤ 90) (hd : 0 ≤ d ∧ d ≤ 100) (hval : ∀ y : Int, 0 ≤ y ∧ y < 6 → (m 8 0).2 0 y = mks a y v d) (k : Q (some (vi (maN set a v d 6))) (World κ m)) (F : Fx κ G_G_mostAlike 2 0 0 μ) :
    ∀ (n : Nat) (j : Nat) (z e : Int), 6 < j + n → (j : Int) ≤ 6 → z = j → e = maN set a v d j →  GC κ μ (ZZ κ μ 0 0 Q) 0 0 37 [some (.ref (ad κ 8 0)), some (vi set), some (vi a), some (vi v), some (vi d), some (vi e), some (vi z), none, none] [] (World κ m) := by
  intro n
  induction n with
  | zero =>
    intro j z e hn hj hz he
    exact absurd hn (by omega)
  | succ n ih =>
    intro j z e hn hj hz he
    have hbb : 0 ≤ set / 2 ^ j % 2 ∧ set / 2 ^ j % 2 ≤ 1 := by omega
    have har := alN_r set a v d j 6
    have hmr := maN_r set a v d j
    refine g_iload F a_G_mostAlike_37 rfl ?_
    refine g_iconst F a_G_mostAlike_39 ?_
    refine g_icmp_gt F (by omega) (by omega) a_G_mostAlike_40 (fun h40 => ?_) (fun h40 => ?_)
    · refine g_iload F a_G_mostAlike_114 rfl ?_
      refine g_iret F a_G_mostAlike_116 rfl ⟨Nat.le_refl _, Nat.le_refl _⟩ ?_
      exact qv k (by rw [he, show j = 6 by omega])
    · refine g_iload_n F a_G_mostAlike_43 rfl ?_
      refine g_iload F a_G_mostAlike_44 rfl ?_
      refine g_ishr F a_G_mostAlike_46 ?_
      refine g_iconst F a_G_mostAlike_47 ?_
      refine g_iand F a_G_mostAlike_48 ?_
      rw [bitx hset hz (by omega)]
      refine g_if_eq F (by omega) a_G_mostAlike_49 (fun h49 => ?_) (fun h49 => ?_)
      · refine g_iinc (ls' := [_, _, _, _, _, _, _, _, _]) F a_G_mostAlike_108 rfl rfl rfl ?_
        refine g_goto F a_G_mostAlike_111 ?_
        exact GC.loc2 (ih (j + 1) _ _ (by omega) (by omega) (by omega) (by unfold maN; rw [if_neg (by omega)]; omega)) ⟨rfl, rfl, rfl, rfl, rfl, rfl, rfl, trivial⟩
      · refine g_iconst F a_G_mostAlike_52 ?_
        refine g_istore (ls' := [_, _, _, _, _, _, _, _, _]) F a_G_mostAlike_53 rfl rfl rfl ?_
        refine g_iconst F a_G_mostAlike_55 ?_
        refine g_istore (ls' := [_, _, _, _, _, _, _, _, _]) F a_G_mostAlike_56 rfl rfl rfl ?_
        refine GC.loc2 (lp_G_ma3 hset ha hv hd (e := e) (c := j) hz (by omega) hval ?_ F 7 0 _ _ (by omega) (by omega) rfl rfl) ⟨rfl, rfl, rfl, rfl, rfl, rfl, rfl, rfl, rfl, trivial⟩
        refine g_iload F a_G_mostAlike_99 rfl ?_
        refine g_iload F a_G_mostAlike_101 rfl ?_
        refine g_s2 F a_G_mostAlike_103 sc_G_69 mk_J_max rfl (by decide) ⟨Nat.le_refl _, Nat.le_refl _⟩ rfl (Nat.le_of_ble_eq_true rfl) (sp_J_max (by omega) (by omega) (GCr.v ?_))
        refine g_istore (ls' := [_, _, _, _, _, _, _, _, _]) F a_G_mostAlike_106 rfl rfl rfl ?_
        refine g_iinc (ls' := [_, _, _, _, _, _, _, _, _]) F a_G_mostAlike_108 rfl rfl rfl ?_
        refine g_goto F a_G_mostAlike_111 ?_
        exact GC.loc2 (ih (j + 1) _ _ (by omega) (by omega) (by omega) (by unfold maN; rw [if_pos (by omega), he])) ⟨rfl, rfl, rfl, rfl, rfl, rfl, rfl, trivial⟩
set_option maxHeartbeats 2000000 in
theorem lp_G_ma1 {κ : Kx} {μ : MX} {Q : Option Value → (Heap → Prop) → Prop} {m : Mem} {set a v d : Int} (hset : 0 ≤ set ∧ set < 64) (ha : a = 0 ∨ a = 1) (hv : 0 ≤ v ∧ v ≤ 90) (hd : 0 ≤ d ∧ d ≤ 100) (k : Q (some (vi (maN set a v d 6))) (World κ (mset m 8 0 ((m 8 0).1, aup (m 8 0).2 0 (fun k => mks a k v d))))) (F : Fx κ G_G_mostAlike 2 0 0 μ) :
    ∀ (n : Nat) (j : Nat) (y : Int), 6 < j + n → (j : Int) ≤ 6 → y = j →  GC κ μ (ZZ κ μ 0 0 Q) 0 0 3 [some (.ref (ad κ 8 0)), some (vi set), some (vi a), some (vi v), some (vi d), some (vi y), none, none, none] [] (World κ (mset m 8 0 ((m 8 0).1, aup (m 8 0).2 0 (vlN ((m 8 0).2 0) a v d j)))) := by
  intro n
  induction n with
  | zero =>
    intro j y hn hj hy
    exact absurd hn (by omega)
  | succ n ih =>
    intro j y hn hj hy
    refine g_iload F a_G_mostAlike_3 rfl ?_
    refine g_iconst F a_G_mostAlike_5 ?_
    refine g_icmp_gt F (by omega) (by omega) a_G_mostAlike_6 (fun h6 => ?_) (fun h6 => ?_)
    · refine g_iconst F a_G_mostAlike_31 ?_
      refine g_istore (ls' := [_, _, _, _, _, _, _, _, _]) F a_G_mostAlike_32 rfl rfl rfl ?_
      refine g_iconst F a_G_mostAlike_34 ?_
      refine g_istore (ls' := [_, _, _, _, _, _, _, _, _]) F a_G_mostAlike_35 rfl rfl rfl ?_
      obtain rfl : j = 6 := by omega
      rw [World_set (R' := ((m 8 0).1, aup (m 8 0).2 0 (fun k => mks a k v d))) (Ag8 (fun x hx => if_pos hx))]
      exact GC.loc2 (lp_G_ma2 hset ha hv hd (fun y hy => by rw [mset_same]; rfl) k F 7 0 _ _ (by omega) (by omega) rfl rfl) ⟨rfl, rfl, rfl, rfl, rfl, rfl, rfl, trivial⟩
    · refine g_aload_n F a_G_mostAlike_9 rfl ?_
      refine g_get_8_0 F a_G_mostAlike_10 fl_G_9 ?_
      (try simp only [mset_app, mset_mset, fup_app, aup_app, fup_fup, aup_aup, false_and, and_false, true_and, and_true, and_self, reduceIte, Nat.reduceEqDiff, reduceCtorEq])
      refine g_iload F a_G_mostAlike_13 rfl ?_
      refine g_iload_n F a_G_mostAlike_15 rfl ?_
      refine g_iload F a_G_mostAlike_16 rfl ?_
      refine g_iload_n F a_G_mostAlike_18 rfl ?_
      refine g_iload F a_G_mostAlike_19 rfl ?_
      refine g_s4 F a_G_mostAlike_21 sc_G_61 mk_K_makes rfl (by decide) ⟨Nat.le_refl _, Nat.le_refl _⟩ rfl (Nat.le_of_ble_eq_true rfl) (sp_K_makes ha (by omega) hv (by omega) (GCr.v ?_))
      (try simp only [mset_app, mset_mset, fup_app, aup_app, fup_fup, aup_aup, false_and, and_false, true_and, and_true, and_self, reduceIte, Nat.reduceEqDiff, reduceCtorEq])
      refine g_ist_8_0 F a_G_mostAlike_24 (by omega) ?_
      (try simp only [mset_app, mset_mset, fup_app, aup_app, fup_fup, aup_aup, false_and, and_false, true_and, and_true, and_self, reduceIte, Nat.reduceEqDiff, reduceCtorEq])
      refine g_iinc (ls' := [_, _, _, _, _, _, _, _, _]) F a_G_mostAlike_25 rfl rfl rfl ?_
      refine g_goto F a_G_mostAlike_28 ?_
      rw [show (if a = 1 then stn y v d else see y v d) = mks a y v d from rfl, vlN_succ hy]
      exact GC.loc2 (ih (j + 1) _ (by omega) (by omega) (by omega)) ⟨rfl, rfl, rfl, rfl, rfl, rfl, trivial⟩
set_option maxHeartbeats 1000000 in
theorem sp_G_mostAlike {κ : Kx} {Q : Option Value → (Heap → Prop) → Prop} {m : Mem} {set a v d : Int} (hset : 0 ≤ set ∧ set < 64) (ha : a = 0 ∨ a = 1) (hv : 0 ≤ v ∧ v ≤ 90) (hd : 0 ≤ d ∧ d ≤ 100) (k : Q (some (vi (maN set a v d 6))) (World κ (mset m 8 0 ((m 8 0).1, aup (m 8 0).2 0 (fun k => mks a k v d))))) : GG κ G_G_mostAlike 2 0 0 [.ref (ad κ 8 0), vi set, vi a, vi v, vi d] (World κ m) Q := by
  refine GG.intro (ls := [some _, some _, some _, some _, some _, none, none, none, none]) (Nat.le_of_ble_eq_true rfl) rfl (fun μ F => ?_)
  refine g_iconst F a_G_mostAlike_0 ?_
  refine g_istore (ls' := [_, _, _, _, _, _, _, _, _]) F a_G_mostAlike_1 rfl rfl rfl ?_
  have hz := lp_G_ma1 hset ha hv hd k F 7 0 0 (by omega) (by omega) rfl
  rw [vlN_zero, aup_self, mset_self] at hz
  exact GC.loc2 hz ⟨rfl, rfl, rfl, rfl, rfl, rfl, trivial⟩
/-- looks: the best one of the first n, and its number -/
def lkF (set a : Int) (f : Nat → Int × Int) (cd : Nat → Int) : Nat → Int × Int
  | 0 => (-1, 7)
  | n + 1 => if maN set a (f n).1 (f n).2 6 < (lkF set a f cd n).2 then (cd n, maN set a (f n).1 (f n).2 6) else lkF set a f cd n
def lookF : Nat → Int × Int := fun c => (10 * ((c : Int) % 10), (c : Int) / 10)
def lookC : Nat → Int := fun c => (c : Int)
def askF : Nat → Int × Int := fun c => ((c : Int) % 91, (c : Int) / 91)
def askC : Nat → Int := fun c => 100 * ((c : Int) / 91) + (c : Int) % 91
def lookA (set : Int) : Int := if set = 0 then -1 else (lkF set 1 lookF lookC 80).1
def askA (set : Int) : Int := if set = 0 then -1 else (lkF set 0 askF askC 182).1
theorem lkF_r (set a : Int) (f : Nat → Int × Int) (cd : Nat → Int) : ∀ n : Nat, (0 ≤ (lkF set a f cd n).2 ∧ (lkF set a f cd n).2 ≤ 7)
  | 0 => by simp [lkF]
  | n + 1 => by
    have ih := lkF_r set a f cd n
    have := maN_r set a (f n).1 (f n).2 6
    unfold lkF
    split
    · exact ⟨by show 0 ≤ maN _ _ _ _ _; omega, by show maN _ _ _ _ _ ≤ _; omega⟩
    · omega
set_option maxHeartbeats 2000000 in
theorem lp_look_2 {κ : Kx} {μ : MX} {Z : State → Prop} {m0 : Mem} {set : Int} (hset : 0 ≤ set ∧ set < 64) {d0 : Nat} (hd0 : d0 < 8) (k : ∀ (g : Int → Int) (b f : Int), b = (lkF set 1 lookF lookC (10 * (d0 + 1))).1 → f = (lkF set 1 lookF lookC (10 * (d0 + 1))).2 → GC κ μ Z 0 0 68 [some (.ref (ad κ 8 0)), some (vi set), some (vi b), some (vi f), some (vi (d0 : Int)), none, none] [] (World κ (mset m0 8 0 ((m0 8 0).1, aup (m0 8 0).2 0 g)))) (F : Fx κ G_G_nextLook 3 0 0 μ) :
    ∀ (n : Nat) (j : Nat) (t b f d : Int) (g : Int → Int), 10 < j + n → (j : Int) ≤ 10 → t = j → b = (lkF set 1 lookF lookC (10 * d0 + j)).1 → f = (lkF set 1 lookF lookC (10 * d0 + j)).2 → d = d0 →  GC κ μ Z 0 0 22 [some (.ref (ad κ 8 0)), some (vi set), some (vi b), some (vi f), some (vi d), some (vi t), none] [] (World κ (mset m0 8 0 ((m0 8 0).1, aup (m0 8 0).2 0 g))) := by
  intro n
  induction n with
  | zero =>
    intro j t b f d g hn hj ht hb hf hdd
    exact absurd hn (by omega)
  | succ n ih =>
    intro j t b f d g hn hj ht hb hf hdd
    have hlr := lkF_r set 1 lookF lookC (10 * d0 + j)
    have hmr := maN_r set 1 (10 * t) d 6
    have hfj : j < 10 → lookF (10 * d0 + j) = (10 * t, d) := by
      intro hj9
      unfold lookF
      apply Prod.ext
      · show 10 * (((10 * d0 + j : Nat) : Int) % 10) = _; omega
      · show ((10 * d0 + j : Nat) : Int) / 10 = d; omega
    refine g_iload F a_G_nextLook_22 rfl ?_
    refine g_bipush F a_G_nextLook_24 (by decide) ?_
    refine g_icmp_gt F (by omega) (by omega) a_G_nextLook_26 (fun h26 => ?_) (fun h26 => ?_)
    · obtain rfl : j = 10 := by omega
      rw [hdd]
      exact GC.loc2 (k _ b f (by rw [hb]; congr 1) (by rw [hf]; congr 1)) ⟨rfl, rfl, rfl, rfl, rfl, trivial⟩
    · refine g_aload_n F a_G_nextLook_29 rfl ?_
      refine g_iload_n F a_G_nextLook_30 rfl ?_
      refine g_iconst F a_G_nextLook_31 ?_
      refine g_bipush F a_G_nextLook_32 (by decide) ?_
      refine g_iload F a_G_nextLook_34 rfl ?_
      refine g_imul F a_G_nextLook_36 ?_
      refine g_iload F a_G_nextLook_37 rfl ?_
      refine g_v4 F a_G_nextLook_39 vc_G_65 mk_G_mostAlike ob_8 ck_8.1 rfl rfl (by decide) ⟨Nat.le_refl _, Nat.le_refl _⟩ rfl (Nat.le_of_ble_eq_true rfl) (sp_G_mostAlike hset (by decide) (by omega) (by omega) (GCr.v ?_))
      (try simp only [mset_app, mset_mset, fup_app, aup_app, fup_fup, aup_aup, false_and, and_false, true_and, and_true, and_self, reduceIte, Nat.reduceEqDiff, reduceCtorEq])
      refine g_istore (ls' := [_, _, _, _, _, _, _]) F a_G_nextLook_42 rfl rfl rfl ?_
      refine g_iload F a_G_nextLook_44 rfl ?_
      refine g_iload_n F a_G_nextLook_46 rfl ?_
      refine g_icmp_ge F (by omega) (by omega) a_G_nextLook_47 (fun h47 => ?_) (fun h47 => ?_)
      · refine g_iinc (ls' := [_, _, _, _, _, _, _]) F a_G_nextLook_62 rfl rfl rfl ?_
        refine g_goto F a_G_nextLook_65 ?_
        refine GC.loc2 (ih (j + 1) _ b f _ _ (by omega) (by omega) (by omega) ?_ ?_ hdd) ⟨rfl, rfl, rfl, rfl, rfl, rfl, trivial⟩
        all_goals
          rw [show 10 * d0 + (j + 1) = (10 * d0 + j) + 1 by omega]
          unfold lkF
          rw [if_neg (by rw [hfj (by omega), ← hf]; dsimp only; omega)]
          assumption
      · refine g_iload F a_G_nextLook_50 rfl ?_
        refine g_istore_n (ls' := [_, _, _, _, _, _, _]) F a_G_nextLook_52 rfl rfl rfl ?_
        refine g_bipush F a_G_nextLook_53 (by decide) ?_
        refine g_iload F a_G_nextLook_55 rfl ?_
        refine g_imul F a_G_nextLook_57 ?_
        refine g_iload F a_G_nextLook_58 rfl ?_
        refine g_iadd F a_G_nextLook_60 ?_
        refine g_istore_n (ls' := [_, _, _, _, _, _, _]) F a_G_nextLook_61 rfl rfl rfl ?_
        refine g_iinc (ls' := [_, _, _, _, _, _, _]) F a_G_nextLook_62 rfl rfl rfl ?_
        refine g_goto F a_G_nextLook_65 ?_
        refine GC.loc2 (ih (j + 1) _ (10 * d + t) _ _ _ (by omega) (by omega) (by omega) ?_ ?_ hdd) ⟨rfl, rfl, rfl, rfl, rfl, rfl, trivial⟩
        · rw [show 10 * d0 + (j + 1) = (10 * d0 + j) + 1 by omega]
          unfold lkF
          rw [if_pos (by rw [hfj (by omega), ← hf]; dsimp only; omega)]
          show _ = lookC (10 * d0 + j)
          unfold lookC
          omega
        · rw [show 10 * d0 + (j + 1) = (10 * d0 + j) + 1 by omega]
          unfold lkF
          rw [if_pos (by rw [hfj (by omega), ← hf]; dsimp only; omega), hfj (by omega)]
set_option maxHeartbeats 2000000 in
theorem lp_look_1 {κ : Kx} {μ : MX} {Q : Option Value → (Heap → Prop) → Prop} {m0 : Mem} {set : Int} (hset : 0 ≤ set ∧ set < 64) (hs0 : set ≠ 0) (k : ∀ g : Int → Int, Q (some (vi (lookA set))) (World κ (mset m0 8 0 ((m0 8 0).1, aup (m0 8 0).2 0 g))))  (F : Fx κ G_G_nextLook 3 0 0 μ) :
    ∀ (n : Nat) (j : Nat) (b f d : Int) (g : Int → Int), 8 < j + n → (j : Int) ≤ 8 → d = j → b = (lkF set 1 lookF lookC (10 * j)).1 → f = (lkF set 1 lookF lookC (10 * j)).2 →  GC κ μ (ZZ κ μ 0 0 Q) 0 0 8 [some (.ref (ad κ 8 0)), some (vi set), some (vi b), some (vi f), some (vi d), none, none] [] (World κ (mset m0 8 0 ((m0 8 0).1, aup (m0 8 0).2 0 g))) := by
  intro n
  induction n with
  | zero =>
    intro j b f d g hn hj hdd hb hf
    exact absurd hn (by omega)
  | succ n ih =>
    intro j b f d g hn hj hdd hb hf
    refine g_iload_n F a_G_nextLook_8 rfl ?_
    refine g_if_eq F (by omega) a_G_nextLook_9 (fun h9 => ?_) (fun h9 => ?_)
    · refine g_iload_n F a_G_nextLook_74 rfl ?_
      refine g_iret F a_G_nextLook_75 rfl ⟨Nat.le_refl _, Nat.le_refl _⟩ ?_
      exact absurd (by assumption) hs0
    · refine g_iload F a_G_nextLook_12 rfl ?_
      refine g_bipush F a_G_nextLook_14 (by decide) ?_
      refine g_icmp_gt F (by omega) (by omega) a_G_nextLook_16 (fun h16 => ?_) (fun h16 => ?_)
      · refine g_iload_n F a_G_nextLook_74 rfl ?_
        refine g_iret F a_G_nextLook_75 rfl ⟨Nat.le_refl _, Nat.le_refl _⟩ ?_
        have ej : j = 8 := by omega
        rw [ej] at hb
        exact qv (k g) (by rw [hb]; unfold lookA; rw [if_neg hs0])
      · refine g_iconst F a_G_nextLook_19 ?_
        refine g_istore (ls' := [_, _, _, _, _, _, _]) F a_G_nextLook_20 rfl rfl rfl ?_
        rw [hdd]
        refine GC.loc2 (lp_look_2 hset (d0 := j) (by omega) (fun g2 b2 f2 hb2 hf2 => ?_) F 11 0 _ b f _ g (by omega) (by omega) rfl hb hf rfl) ⟨rfl, rfl, rfl, rfl, rfl, rfl, trivial⟩
        refine g_iinc (ls' := [_, _, _, _, _, _, _]) F a_G_nextLook_68 rfl rfl rfl ?_
        refine g_goto F a_G_nextLook_71 ?_
        exact GC.loc2 (ih (j + 1) b2 f2 _ g2 (by omega) (by omega) (by omega) hb2 hf2) ⟨rfl, rfl, rfl, rfl, rfl, trivial⟩
set_option maxHeartbeats 1000000 in
theorem sp_G_nextLook {κ : Kx} {Q : Option Value → (Heap → Prop) → Prop} {m : Mem} {set : Int} (hset : 0 ≤ set ∧ set < 64) (k : ∀ g : Int → Int, Q (some (vi (lookA set))) (World κ (mset m 8 0 ((m 8 0).1, aup (m 8 0).2 0 g))))  : GG κ G_G_nextLook 3 0 0 [.ref (ad κ 8 0), vi set] (World κ m) Q := by
  refine GG.intro (ls := [some _, some _, none, none, none, none, none]) (Nat.le_of_ble_eq_true rfl) rfl (fun μ F => ?_)
  refine g_iconst F a_G_nextLook_0 ?_
  refine g_istore_n (ls' := [_, _, _, _, _, _, _]) F a_G_nextLook_1 rfl rfl rfl ?_
  refine g_bipush F a_G_nextLook_2 (by decide) ?_
  refine g_istore_n (ls' := [_, _, _, _, _, _, _]) F a_G_nextLook_4 rfl rfl rfl ?_
  refine g_iconst F a_G_nextLook_5 ?_
  refine g_istore (ls' := [_, _, _, _, _, _, _]) F a_G_nextLook_6 rfl rfl rfl ?_
  have e0 : aup (m 8 0).2 0 ((m 8 0).2 0) = (m 8 0).2 := aup_self _ _
  by_cases hs0 : set = 0
  · have k0 := k ((m 8 0).2 0)
    rw [e0, mset_self] at k0
    refine g_iload_n F a_G_nextLook_8 rfl ?_
    refine g_if_eq F (by omega) a_G_nextLook_9 (fun h9 => ?_) (fun h9 => ?_)
    · refine g_iload_n F a_G_nextLook_74 rfl ?_
      refine g_iret F a_G_nextLook_75 rfl ⟨Nat.le_refl _, Nat.le_refl _⟩ ?_
      exact qv k0 (by unfold lookA; rw [if_pos hs0])
    · exact absurd hs0 h9
  · have hz := lp_look_1 hset hs0 k F 9 0 (-1) 7 0 ((m 8 0).2 0) (by omega) (by omega) rfl rfl rfl
    rw [e0, mset_self] at hz
    exact GC.loc2 hz ⟨rfl, rfl, rfl, rfl, rfl, trivial⟩
set_option maxHeartbeats 2000000 in
theorem lp_ask_2 {κ : Kx} {μ : MX} {Z : State → Prop} {m0 : Mem} {set : Int} (hset : 0 ≤ set ∧ set < 64) {d0 : Nat} (hd0 : d0 < 2) (k : ∀ (g : Int → Int) (b f : Int), b = (lkF set 0 askF askC (91 * (d0 + 1))).1 → f = (lkF set 0 askF askC (91 * (d0 + 1))).2 → GC κ μ Z 0 0 64 [some (.ref (ad κ 8 0)), some (vi set), some (vi b), some (vi f), some (vi (d0 : Int)), none, none] [] (World κ (mset m0 8 0 ((m0 8 0).1, aup (m0 8 0).2 0 g)))) (F : Fx κ G_G_nextAsk 3 0 0 μ) :
    ∀ (n : Nat) (j : Nat) (t b f d : Int) (g : Int → Int), 91 < j + n → (j : Int) ≤ 91 → t = j → b = (lkF set 0 askF askC (91 * d0 + j)).1 → f = (lkF set 0 askF askC (91 * d0 + j)).2 → d = d0 →  GC κ μ Z 0 0 21 [some (.ref (ad κ 8 0)), some (vi set), some (vi b), some (vi f), some (vi d), some (vi t), none] [] (World κ (mset m0 8 0 ((m0 8 0).1, aup (m0 8 0).2 0 g))) := by
  intro n
  induction n with
  | zero =>
    intro j t b f d g hn hj ht hb hf hdd
    exact absurd hn (by omega)
  | succ n ih =>
    intro j t b f d g hn hj ht hb hf hdd
    have hlr := lkF_r set 0 askF askC (91 * d0 + j)
    have hmr := maN_r set 0 (t) d 6
    have hfj : j < 91 → askF (91 * d0 + j) = (t, d) := by
      intro hj9
      unfold askF
      apply Prod.ext
      · show ((91 * d0 + j : Nat) : Int) % 91 = _; omega
      · show ((91 * d0 + j : Nat) : Int) / 91 = d; omega
    refine g_iload F a_G_nextAsk_21 rfl ?_
    refine g_bipush F a_G_nextAsk_23 (by decide) ?_
    refine g_icmp_gt F (by omega) (by omega) a_G_nextAsk_25 (fun h25 => ?_) (fun h25 => ?_)
    · obtain rfl : j = 91 := by omega
      rw [hdd]
      exact GC.loc2 (k _ b f (by rw [hb]; congr 1) (by rw [hf]; congr 1)) ⟨rfl, rfl, rfl, rfl, rfl, trivial⟩
    · refine g_aload_n F a_G_nextAsk_28 rfl ?_
      refine g_iload_n F a_G_nextAsk_29 rfl ?_
      refine g_iconst F a_G_nextAsk_30 ?_
      refine g_iload F a_G_nextAsk_31 rfl ?_
      refine g_iload F a_G_nextAsk_33 rfl ?_
      refine g_v4 F a_G_nextAsk_35 vc_G_65 mk_G_mostAlike ob_8 ck_8.1 rfl rfl (by decide) ⟨Nat.le_refl _, Nat.le_refl _⟩ rfl (Nat.le_of_ble_eq_true rfl) (sp_G_mostAlike hset (by decide) (by omega) (by omega) (GCr.v ?_))
      (try simp only [mset_app, mset_mset, fup_app, aup_app, fup_fup, aup_aup, false_and, and_false, true_and, and_true, and_self, reduceIte, Nat.reduceEqDiff, reduceCtorEq])
      refine g_istore (ls' := [_, _, _, _, _, _, _]) F a_G_nextAsk_38 rfl rfl rfl ?_
      refine g_iload F a_G_nextAsk_40 rfl ?_
      refine g_iload_n F a_G_nextAsk_42 rfl ?_
      refine g_icmp_ge F (by omega) (by omega) a_G_nextAsk_43 (fun h43 => ?_) (fun h43 => ?_)
      · refine g_iinc (ls' := [_, _, _, _, _, _, _]) F a_G_nextAsk_58 rfl rfl rfl ?_
        refine g_goto F a_G_nextAsk_61 ?_
        refine GC.loc2 (ih (j + 1) _ b f _ _ (by omega) (by omega) (by omega) ?_ ?_ hdd) ⟨rfl, rfl, rfl, rfl, rfl, rfl, trivial⟩
        all_goals
          rw [show 91 * d0 + (j + 1) = (91 * d0 + j) + 1 by omega]
          unfold lkF
          rw [if_neg (by rw [hfj (by omega), ← hf]; dsimp only; omega)]
          assumption
      · refine g_iload F a_G_nextAsk_46 rfl ?_
        refine g_istore_n (ls' := [_, _, _, _, _, _, _]) F a_G_nextAsk_48 rfl rfl rfl ?_
        refine g_bipush F a_G_nextAsk_49 (by decide) ?_
        refine g_iload F a_G_nextAsk_51 rfl ?_
        refine g_imul F a_G_nextAsk_53 ?_
        refine g_iload F a_G_nextAsk_54 rfl ?_
        refine g_iadd F a_G_nextAsk_56 ?_
        refine g_istore_n (ls' := [_, _, _, _, _, _, _]) F a_G_nextAsk_57 rfl rfl rfl ?_
        refine g_iinc (ls' := [_, _, _, _, _, _, _]) F a_G_nextAsk_58 rfl rfl rfl ?_
        refine g_goto F a_G_nextAsk_61 ?_
        refine GC.loc2 (ih (j + 1) _ (100 * d + t) _ _ _ (by omega) (by omega) (by omega) ?_ ?_ hdd) ⟨rfl, rfl, rfl, rfl, rfl, rfl, trivial⟩
        · rw [show 91 * d0 + (j + 1) = (91 * d0 + j) + 1 by omega]
          unfold lkF
          rw [if_pos (by rw [hfj (by omega), ← hf]; dsimp only; omega)]
          show _ = askC (91 * d0 + j)
          unfold askC
          omega
        · rw [show 91 * d0 + (j + 1) = (91 * d0 + j) + 1 by omega]
          unfold lkF
          rw [if_pos (by rw [hfj (by omega), ← hf]; dsimp only; omega), hfj (by omega)]
set_option maxHeartbeats 2000000 in
theorem lp_ask_1 {κ : Kx} {μ : MX} {Q : Option Value → (Heap → Prop) → Prop} {m0 : Mem} {set : Int} (hset : 0 ≤ set ∧ set < 64) (hs0 : set ≠ 0) (k : ∀ g : Int → Int, Q (some (vi (askA set))) (World κ (mset m0 8 0 ((m0 8 0).1, aup (m0 8 0).2 0 g))))  (F : Fx κ G_G_nextAsk 3 0 0 μ) :
    ∀ (n : Nat) (j : Nat) (b f d : Int) (g : Int → Int), 2 < j + n → (j : Int) ≤ 2 → d = j → b = (lkF set 0 askF askC (91 * j)).1 → f = (lkF set 0 askF askC (91 * j)).2 →  GC κ μ (ZZ κ μ 0 0 Q) 0 0 8 [some (.ref (ad κ 8 0)), some (vi set), some (vi b), some (vi f), some (vi d), none, none] [] (World κ (mset m0 8 0 ((m0 8 0).1, aup (m0 8 0).2 0 g))) := by
  intro n
  induction n with
  | zero =>
    intro j b f d g hn hj hdd hb hf
    exact absurd hn (by omega)
  | succ n ih =>
    intro j b f d g hn hj hdd hb hf
    refine g_iload_n F a_G_nextAsk_8 rfl ?_
    refine g_if_eq F (by omega) a_G_nextAsk_9 (fun h9 => ?_) (fun h9 => ?_)
    · refine g_iload_n F a_G_nextAsk_70 rfl ?_
      refine g_iret F a_G_nextAsk_71 rfl ⟨Nat.le_refl _, Nat.le_refl _⟩ ?_
      exact absurd (by assumption) hs0
    · refine g_iload F a_G_nextAsk_12 rfl ?_
      refine g_iconst F a_G_nextAsk_14 ?_
      refine g_icmp_gt F (by omega) (by omega) a_G_nextAsk_15 (fun h15 => ?_) (fun h15 => ?_)
      · refine g_iload_n F a_G_nextAsk_70 rfl ?_
        refine g_iret F a_G_nextAsk_71 rfl ⟨Nat.le_refl _, Nat.le_refl _⟩ ?_
        have ej : j = 2 := by omega
        rw [ej] at hb
        exact qv (k g) (by rw [hb]; unfold askA; rw [if_neg hs0])
      · refine g_iconst F a_G_nextAsk_18 ?_
        refine g_istore (ls' := [_, _, _, _, _, _, _]) F a_G_nextAsk_19 rfl rfl rfl ?_
        rw [hdd]
        refine GC.loc2 (lp_ask_2 hset (d0 := j) (by omega) (fun g2 b2 f2 hb2 hf2 => ?_) F 92 0 _ b f _ g (by omega) (by omega) rfl hb hf rfl) ⟨rfl, rfl, rfl, rfl, rfl, rfl, trivial⟩
        refine g_iinc (ls' := [_, _, _, _, _, _, _]) F a_G_nextAsk_64 rfl rfl rfl ?_
        refine g_goto F a_G_nextAsk_67 ?_
        exact GC.loc2 (ih (j + 1) b2 f2 _ g2 (by omega) (by omega) (by omega) hb2 hf2) ⟨rfl, rfl, rfl, rfl, rfl, trivial⟩
set_option maxHeartbeats 1000000 in
theorem sp_G_nextAsk {κ : Kx} {Q : Option Value → (Heap → Prop) → Prop} {m : Mem} {set : Int} (hset : 0 ≤ set ∧ set < 64) (k : ∀ g : Int → Int, Q (some (vi (askA set))) (World κ (mset m 8 0 ((m 8 0).1, aup (m 8 0).2 0 g))))  : GG κ G_G_nextAsk 3 0 0 [.ref (ad κ 8 0), vi set] (World κ m) Q := by
  refine GG.intro (ls := [some _, some _, none, none, none, none, none]) (Nat.le_of_ble_eq_true rfl) rfl (fun μ F => ?_)
  refine g_iconst F a_G_nextAsk_0 ?_
  refine g_istore_n (ls' := [_, _, _, _, _, _, _]) F a_G_nextAsk_1 rfl rfl rfl ?_
  refine g_bipush F a_G_nextAsk_2 (by decide) ?_
  refine g_istore_n (ls' := [_, _, _, _, _, _, _]) F a_G_nextAsk_4 rfl rfl rfl ?_
  refine g_iconst F a_G_nextAsk_5 ?_
  refine g_istore (ls' := [_, _, _, _, _, _, _]) F a_G_nextAsk_6 rfl rfl rfl ?_
  have e0 : aup (m 8 0).2 0 ((m 8 0).2 0) = (m 8 0).2 := aup_self _ _
  by_cases hs0 : set = 0
  · have k0 := k ((m 8 0).2 0)
    rw [e0, mset_self] at k0
    refine g_iload_n F a_G_nextAsk_8 rfl ?_
    refine g_if_eq F (by omega) a_G_nextAsk_9 (fun h9 => ?_) (fun h9 => ?_)
    · refine g_iload_n F a_G_nextAsk_70 rfl ?_
      refine g_iret F a_G_nextAsk_71 rfl ⟨Nat.le_refl _, Nat.le_refl _⟩ ?_
      exact qv k0 (by unfold askA; rw [if_pos hs0])
    · exact absurd hs0 h9
  · have hz := lp_ask_1 hset hs0 k F 3 0 (-1) 7 0 ((m 8 0).2 0) (by omega) (by omega) rfl rfl rfl
    rw [e0, mset_self] at hz
    exact GC.loc2 hz ⟨rfl, rfl, rfl, rfl, rfl, trivial⟩
