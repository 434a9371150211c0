theorem Ag8 {R R' : Rc} (a0 : ∀ x : Int, 0 ≤ x ∧ x < 6 → R.2 0 x = R'.2 0 x) : Ag 8 R R' := by
  refine ⟨fun k hk => ?_, fun j hj x x0 x1 => ?_⟩
  · have hk : k < 0 := hk
    exact absurd hk (by omega)
  · have hj : j < 1 := hj
    match j, hj, x1 with
    | 0, _, x1 => exact a0 x ⟨x0, x1⟩
/-- SEEN ones of x all so, of the first n rows, if s was his SHAME on DAY 0 -/
def mayN (S R : Rc) (x s : Int) : Nat → Bool
  | 0 => true
  | n + 1 => mayN S R x s n && (decide (R.2 0 ((n : Int) * 4) ≠ x) || decide (stn (S.2 1 x) (min (s + 3 * clN S (R.2 0 ((n : Int) * 4 + 1)) 6) 90) (R.2 0 ((n : Int) * 4 + 1)) = R.2 0 ((n : Int) * 4 + 2)))
theorem mayN_mono {S R : Rc} {x s : Int} {a b : Nat} (h : a ≤ b) (hb : mayN S R x s b = true) : mayN S R x s a = true := by
  induction b with
  | zero => rw [show a = 0 by omega]; rfl
  | succ b ih =>
    by_cases e : a = b + 1
    · rw [e]; exact hb
    · have : mayN S R x s b = true := by
        unfold mayN at hb
        simp only [Bool.and_eq_true] at hb
        exact hb.1
      exact ih (by omega) this
def mayB (S R : Rc) (x s : Int) : Bool := mayN S R x s (R.1 0).toNat
def cntB (S R : Rc) (x : Int) : Nat → Int
  | 0 => 0
  | n + 1 => cntB S R x n + if mayB S R x n = true then 1 else 0
def lstB (S R : Rc) (x : Int) : Nat → Int
  | 0 => -1
  | n + 1 => if mayB S R x n = true ∧ lstB S R x n = -1 then (n : Int) else lstB S R x n
def gstB (S R : Rc) (x : Int) : Nat → Int
  | 0 => -1
  | n + 1 => if mayB S R x n = true then (n : Int) else gstB S R x n
theorem cntB_r (S R : Rc) (x : Int) : ∀ n : Nat, 0 ≤ cntB S R x n ∧ cntB S R x n ≤ n
  | 0 => by simp [cntB]
  | n + 1 => by
    have := cntB_r S R x n
    unfold cntB
    split <;> omega
theorem lstB_keep {S R : Rc} {x : Int} {a : Nat} (h : lstB S R x a ≠ -1) : ∀ n : Nat, lstB S R x (a + n) = lstB S R x a
  | 0 => rfl
  | n + 1 => by
    have ih := lstB_keep h n
    show lstB S R x ((a + n) + 1) = _
    conv => lhs; unfold lstB
    rw [if_neg (fun q => h (ih ▸ q.2)), ih]
theorem gstB_skip {S R : Rc} {x : Int} {a : Nat} : ∀ n : Nat, (∀ t : Nat, a ≤ t → t < a + n → mayB S R x t = false) → gstB S R x (a + n) = gstB S R x a
  | 0, _ => rfl
  | n + 1, h => by
    have ih := gstB_skip n (fun t h1 h2 => h t h1 (by omega))
    show gstB S R x ((a + n) + 1) = _
    conv => lhs; unfold gstB
    rw [if_neg (by rw [h (a + n) (by omega) (by omega)]; simp), ih]
set_option maxHeartbeats 2000000 in
theorem lp_G_may {κ : Kx} {μ : MX} {Q : Option Value → (Heap → Prop) → Prop} {m : Mem} {D : Int} {x : Int} (hS : okS D (m 2 0)) (hD : D ≤ 100000) (hR : okR (m 3 0)) (hx : 0 ≤ x ∧ x < (m 2 0).1 4) {s : Int} (hs : 0 ≤ s ∧ s ≤ 90) (k1 : mayB (m 2 0) (m 3 0) x s = true → Q (some (vi 1)) (World κ m)) (k0 : mayB (m 2 0) (m 3 0) x s = false → Q (some (vi 0)) (World κ m)) (F : Fx κ G_G_mayHaveBegun 2 0 0 μ) :
    ∀ (n : Nat) (j : Nat) (y : Int), (m 3 0).1 0 < j + n → (j : Int) ≤ (m 3 0).1 0 → y = j → mayN (m 2 0) (m 3 0) x s j = true →  GC κ μ (ZZ κ μ 0 0 Q) 0 0 18 [some (.ref (ad κ 1 0)), some (vi x), some (vi s), some (.ref (ad κ 2 0)), some (vi y), none, none] [] (World κ m) := by
  obtain ⟨h0, h1, h2, h3, h4, h5, hfg, hkd, hsh, hgl⟩ := id hS
  obtain ⟨hsz, hwd, hce⟩ := id hR
  have hi : (0 : Nat) < 9 := by decide
  intro n
  induction n with
  | zero =>
    intro j y hn hj hy he
    exact absurd hn (by omega)
  | succ n ih =>
    intro j y hn hj hy he
    have hc9 : ∀ t : Int, y < (m 3 0).1 0 ∧ 0 ≤ t ∧ t < 4 → 0 ≤ (m 3 0).2 0 (y * 4 + t) ∧ (m 3 0).2 0 (y * 4 + t) ≤ 99 := fun t h => hce _ (by omega)
    refine g_iload F a_G_mayHaveBegun_18 rfl ?_
    refine g_aload_n F a_G_mayHaveBegun_20 rfl ?_
    refine g_get_1_1 F a_G_mayHaveBegun_21 fl_G_31 (by first | assumption | decide | omega) ?_
    (try simp only [Nat.mul_zero, Nat.zero_add])
    refine g_get_3_0 F a_G_mayHaveBegun_24 fl_G_35 (by first | assumption | decide | omega) ?_
    refine g_icmp_ge F (by first | omega | (have := hc9 0 (by omega); rw [Int.add_zero] at this; omega) | (have := hc9 2 (by omega); omega)) (by first | omega | (have := hc9 0 (by omega); rw [Int.add_zero] at this; omega) | (have := hc9 2 (by omega); omega)) a_G_mayHaveBegun_27 (fun h27 => ?_) (fun h27 => ?_)
    · refine g_iconst F a_G_mayHaveBegun_99 ?_
      refine g_zret F a_G_mayHaveBegun_100 rfl rfl ⟨Nat.le_refl _, Nat.le_refl _⟩ ?_
      exact k1 (by unfold mayB; rw [show ((m 3 0).1 0).toNat = j by omega]; exact he)
    · refine g_aload_n F a_G_mayHaveBegun_30 rfl ?_
      refine g_get_1_1 F a_G_mayHaveBegun_31 fl_G_31 (by first | assumption | decide | omega) ?_
      (try simp only [Nat.mul_zero, Nat.zero_add])
      refine g_iload F a_G_mayHaveBegun_34 rfl ?_
      refine g_iconst F a_G_mayHaveBegun_36 ?_
      refine g_v2 F a_G_mayHaveBegun_37 vc_G_41 mk_R_cell (ob_3 (by first | assumption | decide | omega)) ck_3.1 rfl rfl (by decide) ⟨Nat.le_refl _, Nat.le_refl _⟩ rfl (Nat.le_of_ble_eq_true rfl) (sp_R_cell (by decide) hR (by omega) (by omega) (GCr.v ?_))
      rw [Int.add_zero]
      refine g_iload_n F a_G_mayHaveBegun_40 rfl ?_
      refine g_icmp_ne F (by first | omega | (have := hc9 0 (by omega); rw [Int.add_zero] at this; omega) | (have := hc9 2 (by omega); omega)) (by first | omega | (have := hc9 0 (by omega); rw [Int.add_zero] at this; omega) | (have := hc9 2 (by omega); omega)) a_G_mayHaveBegun_41 (fun h41 => ?_) (fun h41 => ?_)
      · refine g_iinc (ls' := [_, _, _, _, _, _, _]) F a_G_mayHaveBegun_93 rfl rfl rfl ?_
        refine g_goto F a_G_mayHaveBegun_96 ?_
        refine GC.loc2 (ih (j + 1) _ (by omega) (by omega) (by omega) ?_) ⟨rfl, rfl, rfl, rfl, rfl, trivial⟩
        unfold mayN
        rw [he, ← hy]
        first | (simp [h41, h88]; done) | (simp [h41]; done)
      · have hdy : 0 ≤ (m 3 0).2 0 (y * 4 + 1) ∧ (m 3 0).2 0 (y * 4 + 1) ≤ 99 := hce _ (by omega)
        have hcl := clN_r (m 2 0) _ hdy 6 (by omega)
        have hmn : 0 ≤ min (s + 3 * clN (m 2 0) ((m 3 0).2 0 (y * 4 + 1)) 6) 90 ∧ min (s + 3 * clN (m 2 0) ((m 3 0).2 0 (y * 4 + 1)) 6) 90 ≤ 90 := by omega
        have hst := stn_r (k := (m 2 0).2 1 x) (d := (m 3 0).2 0 (y * 4 + 1)) hmn
        refine g_aload_n F a_G_mayHaveBegun_44 rfl ?_
        refine g_get_1_1 F a_G_mayHaveBegun_45 fl_G_31 (by first | assumption | decide | omega) ?_
        (try simp only [Nat.mul_zero, Nat.zero_add])
        refine g_iload F a_G_mayHaveBegun_48 rfl ?_
        refine g_iconst F a_G_mayHaveBegun_50 ?_
        refine g_v2 F a_G_mayHaveBegun_51 vc_G_41 mk_R_cell (ob_3 (by first | assumption | decide | omega)) ck_3.1 rfl rfl (by decide) ⟨Nat.le_refl _, Nat.le_refl _⟩ rfl (Nat.le_of_ble_eq_true rfl) (sp_R_cell (by decide) hR (by omega) (by omega) (GCr.v ?_))
        refine g_istore (ls' := [_, _, _, _, _, _, _]) F a_G_mayHaveBegun_54 rfl rfl rfl ?_
        refine g_aload_n F a_G_mayHaveBegun_56 rfl ?_
        refine g_get_2_7 F a_G_mayHaveBegun_57 fl_G_45 (by first | assumption | decide | omega) ?_
        refine g_iload_n F a_G_mayHaveBegun_60 rfl ?_
        refine g_ild_2_1 F a_G_mayHaveBegun_61 (by first | assumption | decide | omega) (by omega) ?_
        refine g_aload_n F a_G_mayHaveBegun_62 rfl ?_
        refine g_iload_n F a_G_mayHaveBegun_63 rfl ?_
        refine g_iload F a_G_mayHaveBegun_64 rfl ?_
        refine g_v2 F a_G_mayHaveBegun_66 vc_G_48 mk_H_shameBy (ob_2 (by first | assumption | decide | omega)) ck_2.1 rfl rfl (by decide) ⟨Nat.le_refl _, Nat.le_refl _⟩ rfl (Nat.le_of_ble_eq_true rfl) (sp_H_shameBy (by decide) hS hD hs hdy (GCr.v ?_))
        refine g_iload F a_G_mayHaveBegun_69 rfl ?_
        refine g_s3 F a_G_mayHaveBegun_71 sc_G_51 mk_K_stands rfl (by decide) ⟨Nat.le_refl _, Nat.le_refl _⟩ rfl (Nat.le_of_ble_eq_true rfl) (sp_K_stands (hkd _ (by omega)) hmn (by omega) (GCr.v ?_))
        refine g_istore (ls' := [_, _, _, _, _, _, _]) F a_G_mayHaveBegun_74 rfl rfl rfl ?_
        refine g_iload F a_G_mayHaveBegun_76 rfl ?_
        refine g_aload_n F a_G_mayHaveBegun_78 rfl ?_
        refine g_get_1_1 F a_G_mayHaveBegun_79 fl_G_31 (by first | assumption | decide | omega) ?_
        (try simp only [Nat.mul_zero, Nat.zero_add])
        refine g_iload F a_G_mayHaveBegun_82 rfl ?_
        refine g_iconst F a_G_mayHaveBegun_84 ?_
        refine g_v2 F a_G_mayHaveBegun_85 vc_G_41 mk_R_cell (ob_3 (by first | assumption | decide | omega)) ck_3.1 rfl rfl (by decide) ⟨Nat.le_refl _, Nat.le_refl _⟩ rfl (Nat.le_of_ble_eq_true rfl) (sp_R_cell (by decide) hR (by omega) (by omega) (GCr.v ?_))
        refine g_icmp_eq F (by first | omega | (have := hc9 0 (by omega); rw [Int.add_zero] at this; omega) | (have := hc9 2 (by omega); omega)) (by first | omega | (have := hc9 0 (by omega); rw [Int.add_zero] at this; omega) | (have := hc9 2 (by omega); omega)) a_G_mayHaveBegun_88 (fun h88 => ?_) (fun h88 => ?_)
        · refine g_iinc (ls' := [_, _, _, _, _, _, _]) F a_G_mayHaveBegun_93 rfl rfl rfl ?_
          refine g_goto F a_G_mayHaveBegun_96 ?_
          refine GC.loc2 (ih (j + 1) _ (by omega) (by omega) (by omega) ?_) ⟨rfl, rfl, rfl, rfl, rfl, trivial⟩
          unfold mayN
          rw [he, ← hy]
          first | (simp [h41, h88]; done) | (simp [h41]; done)
        · refine g_iconst F a_G_mayHaveBegun_91 ?_
          refine g_zret F a_G_mayHaveBegun_92 rfl rfl ⟨Nat.le_refl _, Nat.le_refl _⟩ ?_
          refine k0 (by
            by_cases q : mayB (m 2 0) (m 3 0) x s = true
            · exfalso
              have q2 := mayN_mono (a := j + 1) (b := ((m 3 0).1 0).toNat) (by omega) q
              unfold mayN at q2
              rw [← hy] at q2
              simp [h41, h88] at q2
            · simpa using q)
set_option maxHeartbeats 1000000 in
theorem sp_G_mayHaveBegun {κ : Kx} {Q : Option Value → (Heap → Prop) → Prop} {m : Mem} {D : Int} {x : Int} (hS : okS D (m 2 0)) (hD : D ≤ 100000) (hR : okR (m 3 0)) (hx : 0 ≤ x ∧ x < (m 2 0).1 4) {s : Int} (hs : 0 ≤ s ∧ s ≤ 90) (k1 : mayB (m 2 0) (m 3 0) x s = true → Q (some (vi 1)) (World κ m)) (k0 : mayB (m 2 0) (m 3 0) x s = false → Q (some (vi 0)) (World κ m)) : GG κ G_G_mayHaveBegun 2 0 0 [.ref (ad κ 1 0), vi x, vi s] (World κ m) Q := by
  obtain ⟨h0, h1, h2, h3, h4, h5, hfg, hkd, hsh, hgl⟩ := id hS
  obtain ⟨hsz, hwd, hce⟩ := id hR
  have hi : (0 : Nat) < 9 := by decide
  refine GG.intro (ls := [some _, some _, some _, none, none, none, none]) (Nat.le_of_ble_eq_true rfl) rfl (fun μ F => ?_)
  refine g_aload_n F a_G_mayHaveBegun_0 rfl ?_
  refine g_get_1_0 F a_G_mayHaveBegun_1 fl_G_19 (by first | assumption | decide | omega) ?_
  refine g_astore_n (ls' := [_, _, _, _, _, _, _]) F a_G_mayHaveBegun_4 rfl rfl rfl ?_
  refine g_aload_n F a_G_mayHaveBegun_5 rfl ?_
  refine g_iload_n F a_G_mayHaveBegun_6 rfl ?_
  refine g_v1 F a_G_mayHaveBegun_7 vc_G_25 mk_H_hasMan (ob_2 (by first | assumption | decide | omega)) ck_2.1 rfl rfl (by decide) ⟨Nat.le_refl _, Nat.le_refl _⟩ rfl (Nat.le_of_ble_eq_true rfl) (sp_H_hasMan (by decide) hS hD (by omega) (fun c7 => GCr.v ?_) (fun c7 => GCr.v ?_))
  · refine g_ifne1 F a_G_mayHaveBegun_10 ?_
    refine g_iconst F a_G_mayHaveBegun_15 ?_
    refine g_istore (ls' := [_, _, _, _, _, _, _]) F a_G_mayHaveBegun_16 rfl rfl rfl ?_
    exact GC.loc2 (lp_G_may hS hD hR hx hs k1 k0 F (((m 3 0).1 0).toNat + 1) 0 _ (by omega) (by omega) rfl rfl) ⟨rfl, rfl, rfl, rfl, rfl, trivial⟩
  · refine g_ifne0 F a_G_mayHaveBegun_10 ?_
    refine g_iconst F a_G_mayHaveBegun_13 ?_
    refine g_zret F a_G_mayHaveBegun_14 rfl rfl ⟨Nat.le_refl _, Nat.le_refl _⟩ ?_
    exact absurd hx c7
set_option maxHeartbeats 2000000 in
theorem lp_G_how {κ : Kx} {μ : MX} {Q : Option Value → (Heap → Prop) → Prop} {m : Mem} {D : Int} {x : Int} (hS : okS D (m 2 0)) (hD : D ≤ 100000) (hR : okR (m 3 0)) (hx : 0 ≤ x ∧ x < (m 2 0).1 4) (k : Q (some (vi (cntB (m 2 0) (m 3 0) x 91))) (World κ m)) (F : Fx κ G_G_howManyBegan 3 0 0 μ) :
    ∀ (n : Nat) (j : Nat) (y e : Int), 91 < j + n → (j : Int) ≤ 91 → y = j → e = cntB (m 2 0) (m 3 0) x j →  GC κ μ (ZZ κ μ 0 0 Q) 0 0 4 [some (.ref (ad κ 1 0)), some (vi x), some (vi e), some (vi y)] [] (World κ m) := by
  intro n
  induction n with
  | zero =>
    intro j y e hn hj hy he
    exact absurd hn (by omega)
  | succ n ih =>
    intro j y e hn hj hy he
    refine g_iload_n F a_G_howManyBegan_4 rfl ?_
    refine g_bipush F a_G_howManyBegan_5 (by decide) ?_
    refine g_icmp_gt F (by first | omega | (have := cntB_r (m 2 0) (m 3 0) x j; omega)) (by first | omega | (have := cntB_r (m 2 0) (m 3 0) x j; omega)) a_G_howManyBegan_7 (fun h7 => ?_) (fun h7 => ?_)
    · refine g_iload_n F a_G_howManyBegan_28 rfl ?_
      refine g_iret F a_G_howManyBegan_29 rfl ⟨Nat.le_refl _, Nat.le_refl _⟩ ?_
      exact qv k (by rw [he, show j = 91 by omega])
    · refine g_aload_n F a_G_howManyBegan_10 rfl ?_
      refine g_iload_n F a_G_howManyBegan_11 rfl ?_
      refine g_iload_n F a_G_howManyBegan_12 rfl ?_
      refine g_s3 F a_G_howManyBegan_13 sc_G_15 mk_G_mayHaveBegun rfl (by decide) ⟨Nat.le_refl _, Nat.le_refl _⟩ rfl (Nat.le_of_ble_eq_true rfl) (sp_G_mayHaveBegun hS hD hR hx (by omega) (fun c13 => GCr.v ?_) (fun c13 => GCr.v ?_))
      · refine g_ifeq1 F a_G_howManyBegan_16 ?_
        refine g_iinc (ls' := [_, _, _, _]) F a_G_howManyBegan_19 rfl rfl rfl ?_
        refine g_iinc (ls' := [_, _, _, _]) F a_G_howManyBegan_22 rfl rfl rfl ?_
        refine g_goto F a_G_howManyBegan_25 ?_
        exact GC.loc2 (ih (j + 1) _ _ (by omega) (by omega) (by omega) (by unfold cntB; rw [if_pos (by rw [← hy]; exact c13)]; omega)) ⟨rfl, rfl, rfl, rfl, trivial⟩
      · refine g_ifeq0 F a_G_howManyBegan_16 ?_
        refine g_iinc (ls' := [_, _, _, _]) F a_G_howManyBegan_22 rfl rfl rfl ?_
        refine g_goto F a_G_howManyBegan_25 ?_
        exact GC.loc2 (ih (j + 1) _ _ (by omega) (by omega) (by omega) (by unfold cntB; rw [if_neg (by rw [← hy, c13]; simp)]; omega)) ⟨rfl, rfl, rfl, rfl, trivial⟩
set_option maxHeartbeats 1000000 in
theorem sp_G_howManyBegan {κ : Kx} {Q : Option Value → (Heap → Prop) → Prop} {m : Mem} {D : Int} {x : Int} (hS : okS D (m 2 0)) (hD : D ≤ 100000) (hR : okR (m 3 0)) (hx : 0 ≤ x ∧ x < (m 2 0).1 4) (k : Q (some (vi (cntB (m 2 0) (m 3 0) x 91))) (World κ m)) : GG κ G_G_howManyBegan 3 0 0 [.ref (ad κ 1 0), vi x] (World κ m) Q := by
  refine GG.intro (ls := [some _, some _, none, none]) (Nat.le_of_ble_eq_true rfl) rfl (fun μ F => ?_)
  refine g_iconst F a_G_howManyBegan_0 ?_
  refine g_istore_n (ls' := [_, _, _, _]) F a_G_howManyBegan_1 rfl rfl rfl ?_
  refine g_iconst F a_G_howManyBegan_2 ?_
  refine g_istore_n (ls' := [_, _, _, _]) F a_G_howManyBegan_3 rfl rfl rfl ?_
  exact GC.loc2 (lp_G_how hS hD hR hx k F 92 0 _ _ (by omega) (by omega) rfl rfl) ⟨rfl, rfl, rfl, rfl, trivial⟩
set_option maxHeartbeats 2000000 in
theorem lp_G_least {κ : Kx} {μ : MX} {Q : Option Value → (Heap → Prop) → Prop} {m : Mem} {D : Int} {x : Int} (hS : okS D (m 2 0)) (hD : D ≤ 100000) (hR : okR (m 3 0)) (hx : 0 ≤ x ∧ x < (m 2 0).1 4) (k : Q (some (vi (lstB (m 2 0) (m 3 0) x 91))) (World κ m)) (F : Fx κ G_G_leastBegan 3 0 0 μ) :
    ∀ (n : Nat) (j : Nat) (y : Int), 91 < j + n → (j : Int) ≤ 91 → y = j → lstB (m 2 0) (m 3 0) x j = -1 →  GC κ μ (ZZ κ μ 0 0 Q) 0 0 2 [some (.ref (ad κ 1 0)), some (vi x), some (vi y)] [] (World κ m) := by
  intro n
  induction n with
  | zero =>
    intro j y hn hj hy he
    exact absurd hn (by omega)
  | succ n ih =>
    intro j y hn hj hy he
    refine g_iload_n F a_G_leastBegan_2 rfl ?_
    refine g_bipush F a_G_leastBegan_3 (by decide) ?_
    refine g_icmp_gt F (by omega) (by omega) a_G_leastBegan_5 (fun h5 => ?_) (fun h5 => ?_)
    · refine g_iconst F a_G_leastBegan_25 ?_
      refine g_iret F a_G_leastBegan_26 rfl ⟨Nat.le_refl _, Nat.le_refl _⟩ ?_
      exact qv k (by rw [← he, show j = 91 by omega])
    · refine g_aload_n F a_G_leastBegan_8 rfl ?_
      refine g_iload_n F a_G_leastBegan_9 rfl ?_
      refine g_iload_n F a_G_leastBegan_10 rfl ?_
      refine g_s3 F a_G_leastBegan_11 sc_G_15 mk_G_mayHaveBegun rfl (by decide) ⟨Nat.le_refl _, Nat.le_refl _⟩ rfl (Nat.le_of_ble_eq_true rfl) (sp_G_mayHaveBegun hS hD hR hx (by omega) (fun c11 => GCr.v ?_) (fun c11 => GCr.v ?_))
      · refine g_ifeq1 F a_G_leastBegan_14 ?_
        refine g_iload_n F a_G_leastBegan_17 rfl ?_
        refine g_iret F a_G_leastBegan_18 rfl ⟨Nat.le_refl _, Nat.le_refl _⟩ ?_
        have e1 : lstB (m 2 0) (m 3 0) x (j + 1) = y := by
          unfold lstB
          rw [if_pos ⟨by rw [← hy]; exact c11, he⟩, hy]
        have e2 := lstB_keep (S := m 2 0) (R := m 3 0) (x := x) (a := j + 1) (by omega) (90 - j)
        exact qv k (by rw [← e1, ← e2]; congr 1; omega)
      · refine g_ifeq0 F a_G_leastBegan_14 ?_
        refine g_iinc (ls' := [_, _, _]) F a_G_leastBegan_19 rfl rfl rfl ?_
        refine g_goto F a_G_leastBegan_22 ?_
        exact GC.loc2 (ih (j + 1) _ (by omega) (by omega) (by omega) (by unfold lstB; rw [if_neg (by rw [← hy, c11]; simp), he])) ⟨rfl, rfl, rfl, trivial⟩
set_option maxHeartbeats 1000000 in
theorem sp_G_leastBegan {κ : Kx} {Q : Option Value → (Heap → Prop) → Prop} {m : Mem} {D : Int} {x : Int} (hS : okS D (m 2 0)) (hD : D ≤ 100000) (hR : okR (m 3 0)) (hx : 0 ≤ x ∧ x < (m 2 0).1 4) (k : Q (some (vi (lstB (m 2 0) (m 3 0) x 91))) (World κ m)) : GG κ G_G_leastBegan 3 0 0 [.ref (ad κ 1 0), vi x] (World κ m) Q := by
  refine GG.intro (ls := [some _, some _, none]) (Nat.le_of_ble_eq_true rfl) rfl (fun μ F => ?_)
  refine g_iconst F a_G_leastBegan_0 ?_
  refine g_istore_n (ls' := [_, _, _]) F a_G_leastBegan_1 rfl rfl rfl ?_
  exact GC.loc2 (lp_G_least hS hD hR hx k F 92 0 _ (by omega) (by omega) rfl rfl) ⟨rfl, rfl, rfl, trivial⟩
set_option maxHeartbeats 2000000 in
theorem lp_G_great {κ : Kx} {μ : MX} {Q : Option Value → (Heap → Prop) → Prop} {m : Mem} {D : Int} {x : Int} (hS : okS D (m 2 0)) (hD : D ≤ 100000) (hR : okR (m 3 0)) (hx : 0 ≤ x ∧ x < (m 2 0).1 4) (k : Q (some (vi (gstB (m 2 0) (m 3 0) x 91))) (World κ m)) (F : Fx κ G_G_greatestBegan 3 0 0 μ) :
    ∀ (n : Nat) (j : Nat) (y : Int), 91 < j + n → (j : Int) ≤ 91 → y = 90 - j → (∀ t : Nat, 91 - j ≤ t → t < 91 → mayB (m 2 0) (m 3 0) x t = false) →  GC κ μ (ZZ κ μ 0 0 Q) 0 0 3 [some (.ref (ad κ 1 0)), some (vi x), some (vi y)] [] (World κ m) := by
  intro n
  induction n with
  | zero =>
    intro j y hn hj hy he
    exact absurd hn (by omega)
  | succ n ih =>
    intro j y hn hj hy he
    refine g_iload_n F a_G_greatestBegan_3 rfl ?_
    refine g_if_lt F (by omega) a_G_greatestBegan_4 (fun h4 => ?_) (fun h4 => ?_)
    · refine g_iconst F a_G_greatestBegan_24 ?_
      refine g_iret F a_G_greatestBegan_25 rfl ⟨Nat.le_refl _, Nat.le_refl _⟩ ?_
      have e2 := gstB_skip (S := m 2 0) (R := m 3 0) (x := x) (a := 0) 91 (fun t h1 h2 => he t (by omega) (by omega))
      exact qv k (by rw [show (91 : Nat) = 0 + 91 by omega, e2]; rfl)
    · refine g_aload_n F a_G_greatestBegan_7 rfl ?_
      refine g_iload_n F a_G_greatestBegan_8 rfl ?_
      refine g_iload_n F a_G_greatestBegan_9 rfl ?_
      refine g_s3 F a_G_greatestBegan_10 sc_G_15 mk_G_mayHaveBegun rfl (by decide) ⟨Nat.le_refl _, Nat.le_refl _⟩ rfl (Nat.le_of_ble_eq_true rfl) (sp_G_mayHaveBegun hS hD hR hx (by omega) (fun c10 => GCr.v ?_) (fun c10 => GCr.v ?_))
      · refine g_ifeq1 F a_G_greatestBegan_13 ?_
        refine g_iload_n F a_G_greatestBegan_16 rfl ?_
        refine g_iret F a_G_greatestBegan_17 rfl ⟨Nat.le_refl _, Nat.le_refl _⟩ ?_
        have e1 : gstB (m 2 0) (m 3 0) x (91 - j) = y := by
          rw [show 91 - j = (90 - j) + 1 by omega]
          unfold gstB
          rw [if_pos (by rw [show ((90 - j : Nat) : Int) = y by omega]; exact c10)]
          omega
        have e2 := gstB_skip (S := m 2 0) (R := m 3 0) (x := x) (a := 91 - j) j (fun t h1 h2 => he t (by omega) (by omega))
        exact qv k (by rw [← e1, ← e2]; congr 1; omega)
      · refine g_ifeq0 F a_G_greatestBegan_13 ?_
        refine g_iinc (ls' := [_, _, _]) F a_G_greatestBegan_18 rfl rfl rfl ?_
        refine g_goto F a_G_greatestBegan_21 ?_
        refine GC.loc2 (ih (j + 1) _ (by omega) (by omega) (by omega) (fun t h1 h2 => ?_)) ⟨rfl, rfl, rfl, trivial⟩
        by_cases q : t = 90 - j
        · rw [show (t : Int) = y by omega]; exact c10
        · exact he t (by omega) h2
set_option maxHeartbeats 1000000 in
theorem sp_G_greatestBegan {κ : Kx} {Q : Option Value → (Heap → Prop) → Prop} {m : Mem} {D : Int} {x : Int} (hS : okS D (m 2 0)) (hD : D ≤ 100000) (hR : okR (m 3 0)) (hx : 0 ≤ x ∧ x < (m 2 0).1 4) (k : Q (some (vi (gstB (m 2 0) (m 3 0) x 91))) (World κ m)) : GG κ G_G_greatestBegan 3 0 0 [.ref (ad κ 1 0), vi x] (World κ m) Q := by
  refine GG.intro (ls := [some _, some _, none]) (Nat.le_of_ble_eq_true rfl) rfl (fun μ F => ?_)
  refine g_bipush F a_G_greatestBegan_0 (by decide) ?_
  refine g_istore_n (ls' := [_, _, _]) F a_G_greatestBegan_2 rfl rfl rfl ?_
  exact GC.loc2 (lp_G_great hS hD hR hx k F 92 0 _ (by omega) (by omega) rfl (fun t h1 h2 => absurd h1 (by omega))) ⟨rfl, rfl, rfl, trivial⟩
