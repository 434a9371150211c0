theorem cnt_29 (M : Rc) (h x : Int) : cntM (fup M.1 29 h, M.2) x = cntM M x := by
  unfold cntM
  rw [sh_fup (by decide)]
  rfl
theorem now_29 (M : Rc) (h x : Int) : nowS (shM (fup M.1 29 h, M.2)) x = nowS (shM M) x := by rw [sh_fup (by decide)]
def sqN (f : Int → Int) (h : Int) : Nat → Int
  | 0 => h
  | n + 1 => 31 * sqN f h n + f n
def cdM (M : Rc) : Nat → Int
  | 0 => 1543
  | n + 1 => 31 * cdM M n + cntM M n
def digM (M : Rc) : Int := 31 * (31 * sqN (M.2 7) (sqN (M.2 6) (sqN (M.2 5) (glN (shM M) (mnN (shM M) (fgN (shM M) (ndN (shM M) (cdM M 9) 3) 6) (M.1 1).toNat) (M.1 2).toNat) (3 * M.1 7).toNat) (4 * M.1 8).toNat) (4 * M.1 9).toNat + M.1 25) + M.1 26
theorem cntM_r {M : Rc} {D x : Int} (hS : okM D M) (hD : D ≤ 100000) (h7 : 0 ≤ M.1 7 ∧ M.1 7 ≤ 6) (h8 : 0 ≤ M.1 8 ∧ M.1 8 ≤ 6) (h9 : 0 ≤ M.1 9 ∧ M.1 9 ≤ 6) (h23 : 0 ≤ M.1 23 ∧ M.1 23 ≤ 8) (h18 : 0 ≤ M.1 18 ∧ M.1 18 ≤ 150) : R32 (cntM M x) := by
  obtain ⟨s0, s1, s2, s3, s4, s5, hfg, hkd, hsh, hgl⟩ := id hS
  have hs := sumN_r (okM_S hS) (M.1 1).toNat (by omega)
  unfold cntM
  repeat' split
  all_goals omega
set_option maxHeartbeats 1000000 in
theorem sp_M_mix {κ : Kx} {Q : Option Value → (Heap → Prop) → Prop} {m : Mem} {v : Int} (k : Q none (World κ (mset m 10 0 (fup (m 10 0).1 29 (31 * (m 10 0).1 29 + v), (m 10 0).2)))) : GG κ G_M_mix 0 0 0 [.ref (ad κ 10 0), vl v] (World κ m) Q := by
  refine GG.intro (ls := [some _, some _, none]) (Nat.le_of_ble_eq_true rfl) rfl (fun μ F => ?_)
  refine g_aload_n F a_M_mix_0 rfl ?_
  refine g_ldc2 F a_M_mix_1 kl_M_319 ?_
  refine g_aload_n F a_M_mix_4 rfl ?_
  refine g_get_10_29 F a_M_mix_5 fl_M_321 ?_
  refine g_lmul F a_M_mix_8 ?_
  refine g_lload_n F a_M_mix_9 rfl ?_
  refine g_ladd F a_M_mix_10 ?_
  refine g_put_10_29 F a_M_mix_11 fl_M_321 ?_
  (try simp only [mset_app, mset_mset, fup_app, aup_app, fup_fup, aup_aup, false_and, and_false, true_and, and_true, and_self, reduceIte, Nat.reduceEqDiff, reduceCtorEq, fup_10, fs_4_5, fs_4_6, fs_5_6])
  refine g_ret F a_M_mix_14 rfl ⟨Nat.le_refl _, Nat.le_refl _⟩ ?_
  exact k
set_option maxHeartbeats 2000000 in
theorem lp_M_dig1 {κ : Kx} {μ : MX} {Z : State → Prop} {m : Mem} {D : Int} (hS : okM D (m 10 0)) (hD : D ≤ 100000) (h7 : 0 ≤ (m 10 0).1 7 ∧ (m 10 0).1 7 ≤ 6) (h8 : 0 ≤ (m 10 0).1 8 ∧ (m 10 0).1 8 ≤ 6) (h9 : 0 ≤ (m 10 0).1 9 ∧ (m 10 0).1 9 ≤ 6) (h23 : 0 ≤ (m 10 0).1 23 ∧ (m 10 0).1 23 ≤ 8) (h18 : 0 ≤ (m 10 0).1 18 ∧ (m 10 0).1 18 ≤ 150) (c5 : ∀ k : Int, 0 ≤ k ∧ k < 18 → R32 ((m 10 0).2 5 k)) (c6 : ∀ k : Int, 0 ≤ k ∧ k < 24 → R32 ((m 10 0).2 6 k)) (c7 : ∀ k : Int, 0 ≤ k ∧ k < 24 → R32 ((m 10 0).2 7 k)) (k : ∀ e : Int, e = cdM (m 10 0) 9 → GC κ μ Z 0 0 31 [some (.ref (ad κ 10 0)), none] [] (World κ (mset m 10 0 (fup (m 10 0).1 29 (e), (m 10 0).2)))) (F : Fx κ G_M_digest 2 0 0 μ) :
    ∀ (n : Nat) (j : Nat) (e y : Int), 9 < j + n → (j : Int) ≤ 9 → y = (j : Int) → e = cdM (m 10 0) j →  GC κ μ Z 0 0 9 [some (.ref (ad κ 10 0)), some (vi y)] [] (World κ (mset m 10 0 (fup (m 10 0).1 29 (e), (m 10 0).2))) := by
  obtain ⟨s0, s1, s2, s3, s4, s5, hfg, hkd, hsh, hgl⟩ := id hS
  intro n
  induction n with
  | zero =>
    intro j e y hn hj hy he
    exact absurd hn (by omega)
  | succ n ih =>
    intro j e y hn hj hy he
    refine g_iload_n F a_M_digest_9 rfl ?_
    refine g_bipush F a_M_digest_10 (by decide) ?_
    refine g_icmp_gt F (by first | omega | exact cntM_r hS hD h7 h8 h9 h23 h18 | exact nowS_r (okM_S hS) | exact c5 _ (by omega) | exact c6 _ (by omega) | exact c7 _ (by omega) | (have := hfg y (by omega); omega) | (have := hkd y (by omega); omega) | (have := hsh y (by omega); omega) | (have := hgl y (by omega); omega)) (by first | omega | exact cntM_r hS hD h7 h8 h9 h23 h18 | exact nowS_r (okM_S hS) | exact c5 _ (by omega) | exact c6 _ (by omega) | exact c7 _ (by omega) | (have := hfg y (by omega); omega) | (have := hkd y (by omega); omega) | (have := hsh y (by omega); omega) | (have := hgl y (by omega); omega)) a_M_digest_12 (fun h12 => ?_) (fun h12 => ?_)
    · obtain rfl : j = 9 := by omega
      exact GC.loc2 (k e he) ⟨rfl, trivial⟩
    · refine g_aload_n F a_M_digest_15 rfl ?_
      refine g_aload_n F a_M_digest_16 rfl ?_
      refine g_iload_n F a_M_digest_17 rfl ?_
      refine g_v1 F a_M_digest_18 vc_M_316 mk_M_countOf ob_10 ck_10.1 rfl rfl (by decide) ⟨Nat.le_refl _, Nat.le_refl _⟩ rfl (Nat.le_of_ble_eq_true rfl) (sp_M_countOf (D := D) (by exact hS) hD (by omega) (GCr.v ?_))
      (try simp only [mset_app, mset_mset, fup_app, aup_app, fup_fup, aup_aup, false_and, and_false, true_and, and_true, and_self, reduceIte, Nat.reduceEqDiff, reduceCtorEq, fup_10, fs_4_5, fs_4_6, fs_5_6])
      rw [cnt_29]
      refine g_i2l F (by first | omega | exact cntM_r hS hD h7 h8 h9 h23 h18 | exact nowS_r (okM_S hS) | exact c5 _ (by omega) | exact c6 _ (by omega) | exact c7 _ (by omega) | (have := hfg y (by omega); omega) | (have := hkd y (by omega); omega) | (have := hsh y (by omega); omega) | (have := hgl y (by omega); omega)) a_M_digest_21 ?_
      refine g_v1 F a_M_digest_22 vc_M_326 mk_M_mix ob_10 ck_10.1 rfl rfl (by decide) ⟨Nat.le_refl _, Nat.le_refl _⟩ rfl (Nat.le_of_ble_eq_true rfl) (sp_M_mix  (GCr.n ?_))
      (try simp only [mset_app, mset_mset, fup_app, aup_app, fup_fup, aup_aup, false_and, and_false, true_and, and_true, and_self, reduceIte, Nat.reduceEqDiff, reduceCtorEq, fup_10, fs_4_5, fs_4_6, fs_5_6])
      refine g_iinc (ls' := [_, _]) F a_M_digest_25 rfl rfl rfl ?_
      refine g_goto F a_M_digest_28 ?_
      exact GC.loc2 (ih (j + 1) _ _ (by omega) (by omega) (by omega) (by rw [he, hy]; rfl)) ⟨rfl, rfl, trivial⟩
set_option maxHeartbeats 2000000 in
theorem lp_M_dig2 {κ : Kx} {μ : MX} {Z : State → Prop} {m : Mem} {D : Int} (hS : okM D (m 10 0)) (hD : D ≤ 100000) (h7 : 0 ≤ (m 10 0).1 7 ∧ (m 10 0).1 7 ≤ 6) (h8 : 0 ≤ (m 10 0).1 8 ∧ (m 10 0).1 8 ≤ 6) (h9 : 0 ≤ (m 10 0).1 9 ∧ (m 10 0).1 9 ≤ 6) (h23 : 0 ≤ (m 10 0).1 23 ∧ (m 10 0).1 23 ≤ 8) (h18 : 0 ≤ (m 10 0).1 18 ∧ (m 10 0).1 18 ≤ 150) (c5 : ∀ k : Int, 0 ≤ k ∧ k < 18 → R32 ((m 10 0).2 5 k)) (c6 : ∀ k : Int, 0 ≤ k ∧ k < 24 → R32 ((m 10 0).2 6 k)) (c7 : ∀ k : Int, 0 ≤ k ∧ k < 24 → R32 ((m 10 0).2 7 k)) {h : Int} (k : ∀ e : Int, e = ndN (shM (m 10 0)) h 3 → GC κ μ Z 0 0 54 [some (.ref (ad κ 10 0)), none] [] (World κ (mset m 10 0 (fup (m 10 0).1 29 (e), (m 10 0).2)))) (F : Fx κ G_M_digest 2 0 0 μ) :
    ∀ (n : Nat) (j : Nat) (e y : Int), 3 < j + n → (j : Int) ≤ 3 → y = (j : Int) → e = ndN (shM (m 10 0)) h j →  GC κ μ Z 0 0 33 [some (.ref (ad κ 10 0)), some (vi y)] [] (World κ (mset m 10 0 (fup (m 10 0).1 29 (e), (m 10 0).2))) := by
  obtain ⟨s0, s1, s2, s3, s4, s5, hfg, hkd, hsh, hgl⟩ := id hS
  intro n
  induction n with
  | zero =>
    intro j e y hn hj hy he
    exact absurd hn (by omega)
  | succ n ih =>
    intro j e y hn hj hy he
    refine g_iload_n F a_M_digest_33 rfl ?_
    refine g_iconst F a_M_digest_34 ?_
    refine g_icmp_gt F (by first | omega | exact cntM_r hS hD h7 h8 h9 h23 h18 | exact nowS_r (okM_S hS) | exact c5 _ (by omega) | exact c6 _ (by omega) | exact c7 _ (by omega) | (have := hfg y (by omega); omega) | (have := hkd y (by omega); omega) | (have := hsh y (by omega); omega) | (have := hgl y (by omega); omega)) (by first | omega | exact cntM_r hS hD h7 h8 h9 h23 h18 | exact nowS_r (okM_S hS) | exact c5 _ (by omega) | exact c6 _ (by omega) | exact c7 _ (by omega) | (have := hfg y (by omega); omega) | (have := hkd y (by omega); omega) | (have := hsh y (by omega); omega) | (have := hgl y (by omega); omega)) a_M_digest_35 (fun h35 => ?_) (fun h35 => ?_)
    · obtain rfl : j = 3 := by omega
      exact GC.loc2 (k e he) ⟨rfl, trivial⟩
    · refine g_aload_n F a_M_digest_38 rfl ?_
      refine g_aload_n F a_M_digest_39 rfl ?_
      refine g_iload_n F a_M_digest_40 rfl ?_
      refine g_v1 F a_M_digest_41 vc_M_242 mk_M_nowOf ob_10 ck_10.1 rfl rfl (by decide) ⟨Nat.le_refl _, Nat.le_refl _⟩ rfl (Nat.le_of_ble_eq_true rfl) (sp_M_nowOf (D := D) (by exact hS) hD (by omega) (GCr.v ?_))
      (try simp only [mset_app, mset_mset, fup_app, aup_app, fup_fup, aup_aup, false_and, and_false, true_and, and_true, and_self, reduceIte, Nat.reduceEqDiff, reduceCtorEq, fup_10, fs_4_5, fs_4_6, fs_5_6])
      rw [now_29]
      refine g_i2l F (by first | omega | exact cntM_r hS hD h7 h8 h9 h23 h18 | exact nowS_r (okM_S hS) | exact c5 _ (by omega) | exact c6 _ (by omega) | exact c7 _ (by omega) | (have := hfg y (by omega); omega) | (have := hkd y (by omega); omega) | (have := hsh y (by omega); omega) | (have := hgl y (by omega); omega)) a_M_digest_44 ?_
      refine g_v1 F a_M_digest_45 vc_M_326 mk_M_mix ob_10 ck_10.1 rfl rfl (by decide) ⟨Nat.le_refl _, Nat.le_refl _⟩ rfl (Nat.le_of_ble_eq_true rfl) (sp_M_mix  (GCr.n ?_))
      (try simp only [mset_app, mset_mset, fup_app, aup_app, fup_fup, aup_aup, false_and, and_false, true_and, and_true, and_self, reduceIte, Nat.reduceEqDiff, reduceCtorEq, fup_10, fs_4_5, fs_4_6, fs_5_6])
      refine g_iinc (ls' := [_, _]) F a_M_digest_48 rfl rfl rfl ?_
      refine g_goto F a_M_digest_51 ?_
      exact GC.loc2 (ih (j + 1) _ _ (by omega) (by omega) (by omega) (by rw [he, hy]; rfl)) ⟨rfl, rfl, trivial⟩
set_option maxHeartbeats 2000000 in
theorem lp_M_dig3 {κ : Kx} {μ : MX} {Z : State → Prop} {m : Mem} {D : Int} (hS : okM D (m 10 0)) (hD : D ≤ 100000) (h7 : 0 ≤ (m 10 0).1 7 ∧ (m 10 0).1 7 ≤ 6) (h8 : 0 ≤ (m 10 0).1 8 ∧ (m 10 0).1 8 ≤ 6) (h9 : 0 ≤ (m 10 0).1 9 ∧ (m 10 0).1 9 ≤ 6) (h23 : 0 ≤ (m 10 0).1 23 ∧ (m 10 0).1 23 ≤ 8) (h18 : 0 ≤ (m 10 0).1 18 ∧ (m 10 0).1 18 ≤ 150) (c5 : ∀ k : Int, 0 ≤ k ∧ k < 18 → R32 ((m 10 0).2 5 k)) (c6 : ∀ k : Int, 0 ≤ k ∧ k < 24 → R32 ((m 10 0).2 6 k)) (c7 : ∀ k : Int, 0 ≤ k ∧ k < 24 → R32 ((m 10 0).2 7 k)) {h : Int} (k : ∀ e : Int, e = fgN (shM (m 10 0)) h 6 → GC κ μ Z 0 0 79 [some (.ref (ad κ 10 0)), none] [] (World κ (mset m 10 0 (fup (m 10 0).1 29 (e), (m 10 0).2)))) (F : Fx κ G_M_digest 2 0 0 μ) :
    ∀ (n : Nat) (j : Nat) (e y : Int), 6 < j + n → (j : Int) ≤ 6 → y = (j : Int) → e = fgN (shM (m 10 0)) h j →  GC κ μ Z 0 0 56 [some (.ref (ad κ 10 0)), some (vi y)] [] (World κ (mset m 10 0 (fup (m 10 0).1 29 (e), (m 10 0).2))) := by
  obtain ⟨s0, s1, s2, s3, s4, s5, hfg, hkd, hsh, hgl⟩ := id hS
  intro n
  induction n with
  | zero =>
    intro j e y hn hj hy he
    exact absurd hn (by omega)
  | succ n ih =>
    intro j e y hn hj hy he
    refine g_iload_n F a_M_digest_56 rfl ?_
    refine g_bipush F a_M_digest_57 (by decide) ?_
    refine g_icmp_ge F (by first | omega | exact cntM_r hS hD h7 h8 h9 h23 h18 | exact nowS_r (okM_S hS) | exact c5 _ (by omega) | exact c6 _ (by omega) | exact c7 _ (by omega) | (have := hfg y (by omega); omega) | (have := hkd y (by omega); omega) | (have := hsh y (by omega); omega) | (have := hgl y (by omega); omega)) (by first | omega | exact cntM_r hS hD h7 h8 h9 h23 h18 | exact nowS_r (okM_S hS) | exact c5 _ (by omega) | exact c6 _ (by omega) | exact c7 _ (by omega) | (have := hfg y (by omega); omega) | (have := hkd y (by omega); omega) | (have := hsh y (by omega); omega) | (have := hgl y (by omega); omega)) a_M_digest_59 (fun h59 => ?_) (fun h59 => ?_)
    · obtain rfl : j = 6 := by omega
      exact GC.loc2 (k e he) ⟨rfl, trivial⟩
    · refine g_aload_n F a_M_digest_62 rfl ?_
      refine g_aload_n F a_M_digest_63 rfl ?_
      refine g_get_10_13 F a_M_digest_64 fl_M_22 ?_
      (try simp only [mset_app, mset_mset, fup_app, aup_app, fup_fup, aup_aup, false_and, and_false, true_and, and_true, and_self, reduceIte, Nat.reduceEqDiff, reduceCtorEq, fup_10, fs_4_5, fs_4_6, fs_5_6])
      refine g_iload_n F a_M_digest_67 rfl ?_
      refine g_ild_10_4 F a_M_digest_68 (by omega) ?_
      (try simp only [mset_app, mset_mset, fup_app, aup_app, fup_fup, aup_aup, false_and, and_false, true_and, and_true, and_self, reduceIte, Nat.reduceEqDiff, reduceCtorEq, fup_10, fs_4_5, fs_4_6, fs_5_6])
      refine g_i2l F (by first | omega | exact cntM_r hS hD h7 h8 h9 h23 h18 | exact nowS_r (okM_S hS) | exact c5 _ (by omega) | exact c6 _ (by omega) | exact c7 _ (by omega) | (have := hfg y (by omega); omega) | (have := hkd y (by omega); omega) | (have := hsh y (by omega); omega) | (have := hgl y (by omega); omega)) a_M_digest_69 ?_
      refine g_v1 F a_M_digest_70 vc_M_326 mk_M_mix ob_10 ck_10.1 rfl rfl (by decide) ⟨Nat.le_refl _, Nat.le_refl _⟩ rfl (Nat.le_of_ble_eq_true rfl) (sp_M_mix  (GCr.n ?_))
      (try simp only [mset_app, mset_mset, fup_app, aup_app, fup_fup, aup_aup, false_and, and_false, true_and, and_true, and_self, reduceIte, Nat.reduceEqDiff, reduceCtorEq, fup_10, fs_4_5, fs_4_6, fs_5_6])
      refine g_iinc (ls' := [_, _]) F a_M_digest_73 rfl rfl rfl ?_
      refine g_goto F a_M_digest_76 ?_
      exact GC.loc2 (ih (j + 1) _ _ (by omega) (by omega) (by omega) (by rw [he, hy]; rfl)) ⟨rfl, rfl, trivial⟩
set_option maxHeartbeats 2000000 in
theorem lp_M_dig4 {κ : Kx} {μ : MX} {Z : State → Prop} {m : Mem} {D : Int} (hS : okM D (m 10 0)) (hD : D ≤ 100000) (h7 : 0 ≤ (m 10 0).1 7 ∧ (m 10 0).1 7 ≤ 6) (h8 : 0 ≤ (m 10 0).1 8 ∧ (m 10 0).1 8 ≤ 6) (h9 : 0 ≤ (m 10 0).1 9 ∧ (m 10 0).1 9 ≤ 6) (h23 : 0 ≤ (m 10 0).1 23 ∧ (m 10 0).1 23 ≤ 8) (h18 : 0 ≤ (m 10 0).1 18 ∧ (m 10 0).1 18 ≤ 150) (c5 : ∀ k : Int, 0 ≤ k ∧ k < 18 → R32 ((m 10 0).2 5 k)) (c6 : ∀ k : Int, 0 ≤ k ∧ k < 24 → R32 ((m 10 0).2 6 k)) (c7 : ∀ k : Int, 0 ≤ k ∧ k < 24 → R32 ((m 10 0).2 7 k)) {h : Int} (k : ∀ e : Int, e = mnN (shM (m 10 0)) h ((m 10 0).1 1).toNat → GC κ μ Z 0 0 117 [some (.ref (ad κ 10 0)), none] [] (World κ (mset m 10 0 (fup (m 10 0).1 29 (e), (m 10 0).2)))) (F : Fx κ G_M_digest 2 0 0 μ) :
    ∀ (n : Nat) (j : Nat) (e y : Int), (m 10 0).1 1 < j + n → (j : Int) ≤ (m 10 0).1 1 → y = (j : Int) → e = mnN (shM (m 10 0)) h j →  GC κ μ Z 0 0 81 [some (.ref (ad κ 10 0)), some (vi y)] [] (World κ (mset m 10 0 (fup (m 10 0).1 29 (e), (m 10 0).2))) := by
  obtain ⟨s0, s1, s2, s3, s4, s5, hfg, hkd, hsh, hgl⟩ := id hS
  intro n
  induction n with
  | zero =>
    intro j e y hn hj hy he
    exact absurd hn (by omega)
  | succ n ih =>
    intro j e y hn hj hy he
    refine g_iload_n F a_M_digest_81 rfl ?_
    refine g_aload_n F a_M_digest_82 rfl ?_
    refine g_get_10_1 F a_M_digest_83 fl_M_60 ?_
    (try simp only [mset_app, mset_mset, fup_app, aup_app, fup_fup, aup_aup, false_and, and_false, true_and, and_true, and_self, reduceIte, Nat.reduceEqDiff, reduceCtorEq, fup_10, fs_4_5, fs_4_6, fs_5_6])
    refine g_icmp_ge F (by first | omega | exact cntM_r hS hD h7 h8 h9 h23 h18 | exact nowS_r (okM_S hS) | exact c5 _ (by omega) | exact c6 _ (by omega) | exact c7 _ (by omega) | (have := hfg y (by omega); omega) | (have := hkd y (by omega); omega) | (have := hsh y (by omega); omega) | (have := hgl y (by omega); omega)) (by first | omega | exact cntM_r hS hD h7 h8 h9 h23 h18 | exact nowS_r (okM_S hS) | exact c5 _ (by omega) | exact c6 _ (by omega) | exact c7 _ (by omega) | (have := hfg y (by omega); omega) | (have := hkd y (by omega); omega) | (have := hsh y (by omega); omega) | (have := hgl y (by omega); omega)) a_M_digest_86 (fun h86 => ?_) (fun h86 => ?_)
    · obtain rfl : j = ((m 10 0).1 1).toNat := by omega
      exact GC.loc2 (k e he) ⟨rfl, trivial⟩
    · refine g_aload_n F a_M_digest_89 rfl ?_
      refine g_aload_n F a_M_digest_90 rfl ?_
      refine g_get_10_10 F a_M_digest_91 fl_M_13 ?_
      (try simp only [mset_app, mset_mset, fup_app, aup_app, fup_fup, aup_aup, false_and, and_false, true_and, and_true, and_self, reduceIte, Nat.reduceEqDiff, reduceCtorEq, fup_10, fs_4_5, fs_4_6, fs_5_6])
      refine g_iload_n F a_M_digest_94 rfl ?_
      refine g_ild_10_1 F a_M_digest_95 (by omega) ?_
      (try simp only [mset_app, mset_mset, fup_app, aup_app, fup_fup, aup_aup, false_and, and_false, true_and, and_true, and_self, reduceIte, Nat.reduceEqDiff, reduceCtorEq, fup_10, fs_4_5, fs_4_6, fs_5_6])
      refine g_i2l F (by first | omega | exact cntM_r hS hD h7 h8 h9 h23 h18 | exact nowS_r (okM_S hS) | exact c5 _ (by omega) | exact c6 _ (by omega) | exact c7 _ (by omega) | (have := hfg y (by omega); omega) | (have := hkd y (by omega); omega) | (have := hsh y (by omega); omega) | (have := hgl y (by omega); omega)) a_M_digest_96 ?_
      refine g_v1 F a_M_digest_97 vc_M_326 mk_M_mix ob_10 ck_10.1 rfl rfl (by decide) ⟨Nat.le_refl _, Nat.le_refl _⟩ rfl (Nat.le_of_ble_eq_true rfl) (sp_M_mix  (GCr.n ?_))
      (try simp only [mset_app, mset_mset, fup_app, aup_app, fup_fup, aup_aup, false_and, and_false, true_and, and_true, and_self, reduceIte, Nat.reduceEqDiff, reduceCtorEq, fup_10, fs_4_5, fs_4_6, fs_5_6])
      refine g_aload_n F a_M_digest_100 rfl ?_
      refine g_aload_n F a_M_digest_101 rfl ?_
      refine g_get_10_11 F a_M_digest_102 fl_M_16 ?_
      (try simp only [mset_app, mset_mset, fup_app, aup_app, fup_fup, aup_aup, false_and, and_false, true_and, and_true, and_self, reduceIte, Nat.reduceEqDiff, reduceCtorEq, fup_10, fs_4_5, fs_4_6, fs_5_6])
      refine g_iload_n F a_M_digest_105 rfl ?_
      refine g_ild_10_2 F a_M_digest_106 (by omega) ?_
      (try simp only [mset_app, mset_mset, fup_app, aup_app, fup_fup, aup_aup, false_and, and_false, true_and, and_true, and_self, reduceIte, Nat.reduceEqDiff, reduceCtorEq, fup_10, fs_4_5, fs_4_6, fs_5_6])
      refine g_i2l F (by first | omega | exact cntM_r hS hD h7 h8 h9 h23 h18 | exact nowS_r (okM_S hS) | exact c5 _ (by omega) | exact c6 _ (by omega) | exact c7 _ (by omega) | (have := hfg y (by omega); omega) | (have := hkd y (by omega); omega) | (have := hsh y (by omega); omega) | (have := hgl y (by omega); omega)) a_M_digest_107 ?_
      refine g_v1 F a_M_digest_108 vc_M_326 mk_M_mix ob_10 ck_10.1 rfl rfl (by decide) ⟨Nat.le_refl _, Nat.le_refl _⟩ rfl (Nat.le_of_ble_eq_true rfl) (sp_M_mix  (GCr.n ?_))
      (try simp only [mset_app, mset_mset, fup_app, aup_app, fup_fup, aup_aup, false_and, and_false, true_and, and_true, and_self, reduceIte, Nat.reduceEqDiff, reduceCtorEq, fup_10, fs_4_5, fs_4_6, fs_5_6])
      refine g_iinc (ls' := [_, _]) F a_M_digest_111 rfl rfl rfl ?_
      refine g_goto F a_M_digest_114 ?_
      exact GC.loc2 (ih (j + 1) _ _ (by omega) (by omega) (by omega) (by rw [he, hy]; rfl)) ⟨rfl, rfl, trivial⟩
set_option maxHeartbeats 2000000 in
theorem lp_M_dig5 {κ : Kx} {μ : MX} {Z : State → Prop} {m : Mem} {D : Int} (hS : okM D (m 10 0)) (hD : D ≤ 100000) (h7 : 0 ≤ (m 10 0).1 7 ∧ (m 10 0).1 7 ≤ 6) (h8 : 0 ≤ (m 10 0).1 8 ∧ (m 10 0).1 8 ≤ 6) (h9 : 0 ≤ (m 10 0).1 9 ∧ (m 10 0).1 9 ≤ 6) (h23 : 0 ≤ (m 10 0).1 23 ∧ (m 10 0).1 23 ≤ 8) (h18 : 0 ≤ (m 10 0).1 18 ∧ (m 10 0).1 18 ≤ 150) (c5 : ∀ k : Int, 0 ≤ k ∧ k < 18 → R32 ((m 10 0).2 5 k)) (c6 : ∀ k : Int, 0 ≤ k ∧ k < 24 → R32 ((m 10 0).2 6 k)) (c7 : ∀ k : Int, 0 ≤ k ∧ k < 24 → R32 ((m 10 0).2 7 k)) {h : Int} (k : ∀ e : Int, e = glN (shM (m 10 0)) h ((m 10 0).1 2).toNat → GC κ μ Z 0 0 144 [some (.ref (ad κ 10 0)), none] [] (World κ (mset m 10 0 (fup (m 10 0).1 29 (e), (m 10 0).2)))) (F : Fx κ G_M_digest 2 0 0 μ) :
    ∀ (n : Nat) (j : Nat) (e y : Int), (m 10 0).1 2 < j + n → (j : Int) ≤ (m 10 0).1 2 → y = (j : Int) → e = glN (shM (m 10 0)) h j →  GC κ μ Z 0 0 119 [some (.ref (ad κ 10 0)), some (vi y)] [] (World κ (mset m 10 0 (fup (m 10 0).1 29 (e), (m 10 0).2))) := by
  obtain ⟨s0, s1, s2, s3, s4, s5, hfg, hkd, hsh, hgl⟩ := id hS
  intro n
  induction n with
  | zero =>
    intro j e y hn hj hy he
    exact absurd hn (by omega)
  | succ n ih =>
    intro j e y hn hj hy he
    refine g_iload_n F a_M_digest_119 rfl ?_
    refine g_aload_n F a_M_digest_120 rfl ?_
    refine g_get_10_2 F a_M_digest_121 fl_M_64 ?_
    (try simp only [mset_app, mset_mset, fup_app, aup_app, fup_fup, aup_aup, false_and, and_false, true_and, and_true, and_self, reduceIte, Nat.reduceEqDiff, reduceCtorEq, fup_10, fs_4_5, fs_4_6, fs_5_6])
    refine g_icmp_ge F (by first | omega | exact cntM_r hS hD h7 h8 h9 h23 h18 | exact nowS_r (okM_S hS) | exact c5 _ (by omega) | exact c6 _ (by omega) | exact c7 _ (by omega) | (have := hfg y (by omega); omega) | (have := hkd y (by omega); omega) | (have := hsh y (by omega); omega) | (have := hgl y (by omega); omega)) (by first | omega | exact cntM_r hS hD h7 h8 h9 h23 h18 | exact nowS_r (okM_S hS) | exact c5 _ (by omega) | exact c6 _ (by omega) | exact c7 _ (by omega) | (have := hfg y (by omega); omega) | (have := hkd y (by omega); omega) | (have := hsh y (by omega); omega) | (have := hgl y (by omega); omega)) a_M_digest_124 (fun h124 => ?_) (fun h124 => ?_)
    · obtain rfl : j = ((m 10 0).1 2).toNat := by omega
      exact GC.loc2 (k e he) ⟨rfl, trivial⟩
    · refine g_aload_n F a_M_digest_127 rfl ?_
      refine g_aload_n F a_M_digest_128 rfl ?_
      refine g_get_10_12 F a_M_digest_129 fl_M_19 ?_
      (try simp only [mset_app, mset_mset, fup_app, aup_app, fup_fup, aup_aup, false_and, and_false, true_and, and_true, and_self, reduceIte, Nat.reduceEqDiff, reduceCtorEq, fup_10, fs_4_5, fs_4_6, fs_5_6])
      refine g_iload_n F a_M_digest_132 rfl ?_
      refine g_ild_10_3 F a_M_digest_133 (by omega) ?_
      (try simp only [mset_app, mset_mset, fup_app, aup_app, fup_fup, aup_aup, false_and, and_false, true_and, and_true, and_self, reduceIte, Nat.reduceEqDiff, reduceCtorEq, fup_10, fs_4_5, fs_4_6, fs_5_6])
      refine g_i2l F (by first | omega | exact cntM_r hS hD h7 h8 h9 h23 h18 | exact nowS_r (okM_S hS) | exact c5 _ (by omega) | exact c6 _ (by omega) | exact c7 _ (by omega) | (have := hfg y (by omega); omega) | (have := hkd y (by omega); omega) | (have := hsh y (by omega); omega) | (have := hgl y (by omega); omega)) a_M_digest_134 ?_
      refine g_v1 F a_M_digest_135 vc_M_326 mk_M_mix ob_10 ck_10.1 rfl rfl (by decide) ⟨Nat.le_refl _, Nat.le_refl _⟩ rfl (Nat.le_of_ble_eq_true rfl) (sp_M_mix  (GCr.n ?_))
      (try simp only [mset_app, mset_mset, fup_app, aup_app, fup_fup, aup_aup, false_and, and_false, true_and, and_true, and_self, reduceIte, Nat.reduceEqDiff, reduceCtorEq, fup_10, fs_4_5, fs_4_6, fs_5_6])
      refine g_iinc (ls' := [_, _]) F a_M_digest_138 rfl rfl rfl ?_
      refine g_goto F a_M_digest_141 ?_
      exact GC.loc2 (ih (j + 1) _ _ (by omega) (by omega) (by omega) (by rw [he, hy]; rfl)) ⟨rfl, rfl, trivial⟩
set_option maxHeartbeats 2000000 in
theorem lp_M_dig6 {κ : Kx} {μ : MX} {Z : State → Prop} {m : Mem} {D : Int} (hS : okM D (m 10 0)) (hD : D ≤ 100000) (h7 : 0 ≤ (m 10 0).1 7 ∧ (m 10 0).1 7 ≤ 6) (h8 : 0 ≤ (m 10 0).1 8 ∧ (m 10 0).1 8 ≤ 6) (h9 : 0 ≤ (m 10 0).1 9 ∧ (m 10 0).1 9 ≤ 6) (h23 : 0 ≤ (m 10 0).1 23 ∧ (m 10 0).1 23 ≤ 8) (h18 : 0 ≤ (m 10 0).1 18 ∧ (m 10 0).1 18 ≤ 150) (c5 : ∀ k : Int, 0 ≤ k ∧ k < 18 → R32 ((m 10 0).2 5 k)) (c6 : ∀ k : Int, 0 ≤ k ∧ k < 24 → R32 ((m 10 0).2 6 k)) (c7 : ∀ k : Int, 0 ≤ k ∧ k < 24 → R32 ((m 10 0).2 7 k)) {h : Int} (k : ∀ e : Int, e = sqN ((m 10 0).2 5) h (3 * (m 10 0).1 7).toNat → GC κ μ Z 0 0 173 [some (.ref (ad κ 10 0)), none] [] (World κ (mset m 10 0 (fup (m 10 0).1 29 (e), (m 10 0).2)))) (F : Fx κ G_M_digest 2 0 0 μ) :
    ∀ (n : Nat) (j : Nat) (e y : Int), 3 * (m 10 0).1 7 < j + n → (j : Int) ≤ 3 * (m 10 0).1 7 → y = (j : Int) → e = sqN ((m 10 0).2 5) h j →  GC κ μ Z 0 0 146 [some (.ref (ad κ 10 0)), some (vi y)] [] (World κ (mset m 10 0 (fup (m 10 0).1 29 (e), (m 10 0).2))) := by
  obtain ⟨s0, s1, s2, s3, s4, s5, hfg, hkd, hsh, hgl⟩ := id hS
  intro n
  induction n with
  | zero =>
    intro j e y hn hj hy he
    exact absurd hn (by omega)
  | succ n ih =>
    intro j e y hn hj hy he
    refine g_iload_n F a_M_digest_146 rfl ?_
    refine g_iconst F a_M_digest_147 ?_
    refine g_aload_n F a_M_digest_148 rfl ?_
    refine g_get_10_7 F a_M_digest_149 fl_M_79 ?_
    (try simp only [mset_app, mset_mset, fup_app, aup_app, fup_fup, aup_aup, false_and, and_false, true_and, and_true, and_self, reduceIte, Nat.reduceEqDiff, reduceCtorEq, fup_10, fs_4_5, fs_4_6, fs_5_6])
    refine g_imul F a_M_digest_152 ?_
    refine g_icmp_ge F (by first | omega | exact cntM_r hS hD h7 h8 h9 h23 h18 | exact nowS_r (okM_S hS) | exact c5 _ (by omega) | exact c6 _ (by omega) | exact c7 _ (by omega) | (have := hfg y (by omega); omega) | (have := hkd y (by omega); omega) | (have := hsh y (by omega); omega) | (have := hgl y (by omega); omega)) (by first | omega | exact cntM_r hS hD h7 h8 h9 h23 h18 | exact nowS_r (okM_S hS) | exact c5 _ (by omega) | exact c6 _ (by omega) | exact c7 _ (by omega) | (have := hfg y (by omega); omega) | (have := hkd y (by omega); omega) | (have := hsh y (by omega); omega) | (have := hgl y (by omega); omega)) a_M_digest_153 (fun h153 => ?_) (fun h153 => ?_)
    · obtain rfl : j = (3 * (m 10 0).1 7).toNat := by omega
      exact GC.loc2 (k e he) ⟨rfl, trivial⟩
    · refine g_aload_n F a_M_digest_156 rfl ?_
      refine g_aload_n F a_M_digest_157 rfl ?_
      refine g_get_10_14 F a_M_digest_158 fl_M_25 ?_
      (try simp only [mset_app, mset_mset, fup_app, aup_app, fup_fup, aup_aup, false_and, and_false, true_and, and_true, and_self, reduceIte, Nat.reduceEqDiff, reduceCtorEq, fup_10, fs_4_5, fs_4_6, fs_5_6])
      refine g_iload_n F a_M_digest_161 rfl ?_
      refine g_ild_10_5 F a_M_digest_162 (by omega) ?_
      (try simp only [mset_app, mset_mset, fup_app, aup_app, fup_fup, aup_aup, false_and, and_false, true_and, and_true, and_self, reduceIte, Nat.reduceEqDiff, reduceCtorEq, fup_10, fs_4_5, fs_4_6, fs_5_6])
      refine g_i2l F (by first | omega | exact cntM_r hS hD h7 h8 h9 h23 h18 | exact nowS_r (okM_S hS) | exact c5 _ (by omega) | exact c6 _ (by omega) | exact c7 _ (by omega) | (have := hfg y (by omega); omega) | (have := hkd y (by omega); omega) | (have := hsh y (by omega); omega) | (have := hgl y (by omega); omega)) a_M_digest_163 ?_
      refine g_v1 F a_M_digest_164 vc_M_326 mk_M_mix ob_10 ck_10.1 rfl rfl (by decide) ⟨Nat.le_refl _, Nat.le_refl _⟩ rfl (Nat.le_of_ble_eq_true rfl) (sp_M_mix  (GCr.n ?_))
      (try simp only [mset_app, mset_mset, fup_app, aup_app, fup_fup, aup_aup, false_and, and_false, true_and, and_true, and_self, reduceIte, Nat.reduceEqDiff, reduceCtorEq, fup_10, fs_4_5, fs_4_6, fs_5_6])
      refine g_iinc (ls' := [_, _]) F a_M_digest_167 rfl rfl rfl ?_
      refine g_goto F a_M_digest_170 ?_
      exact GC.loc2 (ih (j + 1) _ _ (by omega) (by omega) (by omega) (by rw [he, hy]; rfl)) ⟨rfl, rfl, trivial⟩
set_option maxHeartbeats 2000000 in
theorem lp_M_dig7 {κ : Kx} {μ : MX} {Z : State → Prop} {m : Mem} {D : Int} (hS : okM D (m 10 0)) (hD : D ≤ 100000) (h7 : 0 ≤ (m 10 0).1 7 ∧ (m 10 0).1 7 ≤ 6) (h8 : 0 ≤ (m 10 0).1 8 ∧ (m 10 0).1 8 ≤ 6) (h9 : 0 ≤ (m 10 0).1 9 ∧ (m 10 0).1 9 ≤ 6) (h23 : 0 ≤ (m 10 0).1 23 ∧ (m 10 0).1 23 ≤ 8) (h18 : 0 ≤ (m 10 0).1 18 ∧ (m 10 0).1 18 ≤ 150) (c5 : ∀ k : Int, 0 ≤ k ∧ k < 18 → R32 ((m 10 0).2 5 k)) (c6 : ∀ k : Int, 0 ≤ k ∧ k < 24 → R32 ((m 10 0).2 6 k)) (c7 : ∀ k : Int, 0 ≤ k ∧ k < 24 → R32 ((m 10 0).2 7 k)) {h : Int} (k : ∀ e : Int, e = sqN ((m 10 0).2 6) h (4 * (m 10 0).1 8).toNat → GC κ μ Z 0 0 202 [some (.ref (ad κ 10 0)), none] [] (World κ (mset m 10 0 (fup (m 10 0).1 29 (e), (m 10 0).2)))) (F : Fx κ G_M_digest 2 0 0 μ) :
    ∀ (n : Nat) (j : Nat) (e y : Int), 4 * (m 10 0).1 8 < j + n → (j : Int) ≤ 4 * (m 10 0).1 8 → y = (j : Int) → e = sqN ((m 10 0).2 6) h j →  GC κ μ Z 0 0 175 [some (.ref (ad κ 10 0)), some (vi y)] [] (World κ (mset m 10 0 (fup (m 10 0).1 29 (e), (m 10 0).2))) := by
  obtain ⟨s0, s1, s2, s3, s4, s5, hfg, hkd, hsh, hgl⟩ := id hS
  intro n
  induction n with
  | zero =>
    intro j e y hn hj hy he
    exact absurd hn (by omega)
  | succ n ih =>
    intro j e y hn hj hy he
    refine g_iload_n F a_M_digest_175 rfl ?_
    refine g_iconst F a_M_digest_176 ?_
    refine g_aload_n F a_M_digest_177 rfl ?_
    refine g_get_10_8 F a_M_digest_178 fl_M_82 ?_
    (try simp only [mset_app, mset_mset, fup_app, aup_app, fup_fup, aup_aup, false_and, and_false, true_and, and_true, and_self, reduceIte, Nat.reduceEqDiff, reduceCtorEq, fup_10, fs_4_5, fs_4_6, fs_5_6])
    refine g_imul F a_M_digest_181 ?_
    refine g_icmp_ge F (by first | omega | exact cntM_r hS hD h7 h8 h9 h23 h18 | exact nowS_r (okM_S hS) | exact c5 _ (by omega) | exact c6 _ (by omega) | exact c7 _ (by omega) | (have := hfg y (by omega); omega) | (have := hkd y (by omega); omega) | (have := hsh y (by omega); omega) | (have := hgl y (by omega); omega)) (by first | omega | exact cntM_r hS hD h7 h8 h9 h23 h18 | exact nowS_r (okM_S hS) | exact c5 _ (by omega) | exact c6 _ (by omega) | exact c7 _ (by omega) | (have := hfg y (by omega); omega) | (have := hkd y (by omega); omega) | (have := hsh y (by omega); omega) | (have := hgl y (by omega); omega)) a_M_digest_182 (fun h182 => ?_) (fun h182 => ?_)
    · obtain rfl : j = (4 * (m 10 0).1 8).toNat := by omega
      exact GC.loc2 (k e he) ⟨rfl, trivial⟩
    · refine g_aload_n F a_M_digest_185 rfl ?_
      refine g_aload_n F a_M_digest_186 rfl ?_
      refine g_get_10_15 F a_M_digest_187 fl_M_28 ?_
      (try simp only [mset_app, mset_mset, fup_app, aup_app, fup_fup, aup_aup, false_and, and_false, true_and, and_true, and_self, reduceIte, Nat.reduceEqDiff, reduceCtorEq, fup_10, fs_4_5, fs_4_6, fs_5_6])
      refine g_iload_n F a_M_digest_190 rfl ?_
      refine g_ild_10_6 F a_M_digest_191 (by omega) ?_
      (try simp only [mset_app, mset_mset, fup_app, aup_app, fup_fup, aup_aup, false_and, and_false, true_and, and_true, and_self, reduceIte, Nat.reduceEqDiff, reduceCtorEq, fup_10, fs_4_5, fs_4_6, fs_5_6])
      refine g_i2l F (by first | omega | exact cntM_r hS hD h7 h8 h9 h23 h18 | exact nowS_r (okM_S hS) | exact c5 _ (by omega) | exact c6 _ (by omega) | exact c7 _ (by omega) | (have := hfg y (by omega); omega) | (have := hkd y (by omega); omega) | (have := hsh y (by omega); omega) | (have := hgl y (by omega); omega)) a_M_digest_192 ?_
      refine g_v1 F a_M_digest_193 vc_M_326 mk_M_mix ob_10 ck_10.1 rfl rfl (by decide) ⟨Nat.le_refl _, Nat.le_refl _⟩ rfl (Nat.le_of_ble_eq_true rfl) (sp_M_mix  (GCr.n ?_))
      (try simp only [mset_app, mset_mset, fup_app, aup_app, fup_fup, aup_aup, false_and, and_false, true_and, and_true, and_self, reduceIte, Nat.reduceEqDiff, reduceCtorEq, fup_10, fs_4_5, fs_4_6, fs_5_6])
      refine g_iinc (ls' := [_, _]) F a_M_digest_196 rfl rfl rfl ?_
      refine g_goto F a_M_digest_199 ?_
      exact GC.loc2 (ih (j + 1) _ _ (by omega) (by omega) (by omega) (by rw [he, hy]; rfl)) ⟨rfl, rfl, trivial⟩
set_option maxHeartbeats 2000000 in
theorem lp_M_dig8 {κ : Kx} {μ : MX} {Z : State → Prop} {m : Mem} {D : Int} (hS : okM D (m 10 0)) (hD : D ≤ 100000) (h7 : 0 ≤ (m 10 0).1 7 ∧ (m 10 0).1 7 ≤ 6) (h8 : 0 ≤ (m 10 0).1 8 ∧ (m 10 0).1 8 ≤ 6) (h9 : 0 ≤ (m 10 0).1 9 ∧ (m 10 0).1 9 ≤ 6) (h23 : 0 ≤ (m 10 0).1 23 ∧ (m 10 0).1 23 ≤ 8) (h18 : 0 ≤ (m 10 0).1 18 ∧ (m 10 0).1 18 ≤ 150) (c5 : ∀ k : Int, 0 ≤ k ∧ k < 18 → R32 ((m 10 0).2 5 k)) (c6 : ∀ k : Int, 0 ≤ k ∧ k < 24 → R32 ((m 10 0).2 6 k)) (c7 : ∀ k : Int, 0 ≤ k ∧ k < 24 → R32 ((m 10 0).2 7 k)) {h : Int} (k : ∀ e : Int, e = sqN ((m 10 0).2 7) h (4 * (m 10 0).1 9).toNat → GC κ μ Z 0 0 231 [some (.ref (ad κ 10 0)), none] [] (World κ (mset m 10 0 (fup (m 10 0).1 29 (e), (m 10 0).2)))) (F : Fx κ G_M_digest 2 0 0 μ) :
    ∀ (n : Nat) (j : Nat) (e y : Int), 4 * (m 10 0).1 9 < j + n → (j : Int) ≤ 4 * (m 10 0).1 9 → y = (j : Int) → e = sqN ((m 10 0).2 7) h j →  GC κ μ Z 0 0 204 [some (.ref (ad κ 10 0)), some (vi y)] [] (World κ (mset m 10 0 (fup (m 10 0).1 29 (e), (m 10 0).2))) := by
  obtain ⟨s0, s1, s2, s3, s4, s5, hfg, hkd, hsh, hgl⟩ := id hS
  intro n
  induction n with
  | zero =>
    intro j e y hn hj hy he
    exact absurd hn (by omega)
  | succ n ih =>
    intro j e y hn hj hy he
    refine g_iload_n F a_M_digest_204 rfl ?_
    refine g_iconst F a_M_digest_205 ?_
    refine g_aload_n F a_M_digest_206 rfl ?_
    refine g_get_10_9 F a_M_digest_207 fl_M_85 ?_
    (try simp only [mset_app, mset_mset, fup_app, aup_app, fup_fup, aup_aup, false_and, and_false, true_and, and_true, and_self, reduceIte, Nat.reduceEqDiff, reduceCtorEq, fup_10, fs_4_5, fs_4_6, fs_5_6])
    refine g_imul F a_M_digest_210 ?_
    refine g_icmp_ge F (by first | omega | exact cntM_r hS hD h7 h8 h9 h23 h18 | exact nowS_r (okM_S hS) | exact c5 _ (by omega) | exact c6 _ (by omega) | exact c7 _ (by omega) | (have := hfg y (by omega); omega) | (have := hkd y (by omega); omega) | (have := hsh y (by omega); omega) | (have := hgl y (by omega); omega)) (by first | omega | exact cntM_r hS hD h7 h8 h9 h23 h18 | exact nowS_r (okM_S hS) | exact c5 _ (by omega) | exact c6 _ (by omega) | exact c7 _ (by omega) | (have := hfg y (by omega); omega) | (have := hkd y (by omega); omega) | (have := hsh y (by omega); omega) | (have := hgl y (by omega); omega)) a_M_digest_211 (fun h211 => ?_) (fun h211 => ?_)
    · obtain rfl : j = (4 * (m 10 0).1 9).toNat := by omega
      exact GC.loc2 (k e he) ⟨rfl, trivial⟩
    · refine g_aload_n F a_M_digest_214 rfl ?_
      refine g_aload_n F a_M_digest_215 rfl ?_
      refine g_get_10_16 F a_M_digest_216 fl_M_31 ?_
      (try simp only [mset_app, mset_mset, fup_app, aup_app, fup_fup, aup_aup, false_and, and_false, true_and, and_true, and_self, reduceIte, Nat.reduceEqDiff, reduceCtorEq, fup_10, fs_4_5, fs_4_6, fs_5_6])
      refine g_iload_n F a_M_digest_219 rfl ?_
      refine g_ild_10_7 F a_M_digest_220 (by omega) ?_
      (try simp only [mset_app, mset_mset, fup_app, aup_app, fup_fup, aup_aup, false_and, and_false, true_and, and_true, and_self, reduceIte, Nat.reduceEqDiff, reduceCtorEq, fup_10, fs_4_5, fs_4_6, fs_5_6])
      refine g_i2l F (by first | omega | exact cntM_r hS hD h7 h8 h9 h23 h18 | exact nowS_r (okM_S hS) | exact c5 _ (by omega) | exact c6 _ (by omega) | exact c7 _ (by omega) | (have := hfg y (by omega); omega) | (have := hkd y (by omega); omega) | (have := hsh y (by omega); omega) | (have := hgl y (by omega); omega)) a_M_digest_221 ?_
      refine g_v1 F a_M_digest_222 vc_M_326 mk_M_mix ob_10 ck_10.1 rfl rfl (by decide) ⟨Nat.le_refl _, Nat.le_refl _⟩ rfl (Nat.le_of_ble_eq_true rfl) (sp_M_mix  (GCr.n ?_))
      (try simp only [mset_app, mset_mset, fup_app, aup_app, fup_fup, aup_aup, false_and, and_false, true_and, and_true, and_self, reduceIte, Nat.reduceEqDiff, reduceCtorEq, fup_10, fs_4_5, fs_4_6, fs_5_6])
      refine g_iinc (ls' := [_, _]) F a_M_digest_225 rfl rfl rfl ?_
      refine g_goto F a_M_digest_228 ?_
      exact GC.loc2 (ih (j + 1) _ _ (by omega) (by omega) (by omega) (by rw [he, hy]; rfl)) ⟨rfl, rfl, trivial⟩
set_option maxHeartbeats 1000000 in
theorem sp_M_digest {κ : Kx} {Q : Option Value → (Heap → Prop) → Prop} {m : Mem} {D : Int} (hS : okM D (m 10 0)) (hD : D ≤ 100000) (h7 : 0 ≤ (m 10 0).1 7 ∧ (m 10 0).1 7 ≤ 6) (h8 : 0 ≤ (m 10 0).1 8 ∧ (m 10 0).1 8 ≤ 6) (h9 : 0 ≤ (m 10 0).1 9 ∧ (m 10 0).1 9 ≤ 6) (h23 : 0 ≤ (m 10 0).1 23 ∧ (m 10 0).1 23 ≤ 8) (h18 : 0 ≤ (m 10 0).1 18 ∧ (m 10 0).1 18 ≤ 150) (c5 : ∀ k : Int, 0 ≤ k ∧ k < 18 → R32 ((m 10 0).2 5 k)) (c6 : ∀ k : Int, 0 ≤ k ∧ k < 24 → R32 ((m 10 0).2 6 k)) (c7 : ∀ k : Int, 0 ≤ k ∧ k < 24 → R32 ((m 10 0).2 7 k)) (k : Q (some (vl (digM (m 10 0)))) (World κ (mset m 10 0 (fup (m 10 0).1 29 (digM (m 10 0)), (m 10 0).2)))) : GG κ G_M_digest 2 0 0 [.ref (ad κ 10 0)] (World κ m) Q := by
  obtain ⟨s0, s1, s2, s3, s4, s5, hfg, hkd, hsh, hgl⟩ := id hS
  refine GG.intro (ls := [some _, none]) (Nat.le_of_ble_eq_true rfl) rfl (fun μ F => ?_)
  refine g_aload_n F a_M_digest_0 rfl ?_
  refine g_ldc2 F a_M_digest_1 kl_M_324 ?_
  refine g_put_10_29 F a_M_digest_4 fl_M_321 ?_
  (try simp only [mset_app, mset_mset, fup_app, aup_app, fup_fup, aup_aup, false_and, and_false, true_and, and_true, and_self, reduceIte, Nat.reduceEqDiff, reduceCtorEq, fup_10, fs_4_5, fs_4_6, fs_5_6])
  refine g_iconst F a_M_digest_7 ?_
  refine g_istore_n (ls' := [_, _]) F a_M_digest_8 rfl rfl rfl ?_
  refine GC.loc2 (lp_M_dig1 hS hD h7 h8 h9 h23 h18 c5 c6 c7 (fun x1 e1 => ?_) F (9 + 1) 0 _ 0 (by omega) (by omega) rfl rfl) ⟨rfl, rfl, trivial⟩
  refine g_iconst F a_M_digest_31 ?_
  refine g_istore_n (ls' := [_, _]) F a_M_digest_32 rfl rfl rfl ?_
  refine GC.loc2 (lp_M_dig2 hS hD h7 h8 h9 h23 h18 c5 c6 c7 (h := x1) (fun x2 e2 => ?_) F (3 + 1) 0 _ 0 (by omega) (by omega) rfl rfl) ⟨rfl, rfl, trivial⟩
  refine g_iconst F a_M_digest_54 ?_
  refine g_istore_n (ls' := [_, _]) F a_M_digest_55 rfl rfl rfl ?_
  refine GC.loc2 (lp_M_dig3 hS hD h7 h8 h9 h23 h18 c5 c6 c7 (h := x2) (fun x3 e3 => ?_) F (6 + 1) 0 _ 0 (by omega) (by omega) rfl rfl) ⟨rfl, rfl, trivial⟩
  refine g_iconst F a_M_digest_79 ?_
  refine g_istore_n (ls' := [_, _]) F a_M_digest_80 rfl rfl rfl ?_
  refine GC.loc2 (lp_M_dig4 hS hD h7 h8 h9 h23 h18 c5 c6 c7 (h := x3) (fun x4 e4 => ?_) F (((m 10 0).1 1).toNat + 1) 0 _ 0 (by omega) (by omega) rfl rfl) ⟨rfl, rfl, trivial⟩
  refine g_iconst F a_M_digest_117 ?_
  refine g_istore_n (ls' := [_, _]) F a_M_digest_118 rfl rfl rfl ?_
  refine GC.loc2 (lp_M_dig5 hS hD h7 h8 h9 h23 h18 c5 c6 c7 (h := x4) (fun x5 e5 => ?_) F (((m 10 0).1 2).toNat + 1) 0 _ 0 (by omega) (by omega) rfl rfl) ⟨rfl, rfl, trivial⟩
  refine g_iconst F a_M_digest_144 ?_
  refine g_istore_n (ls' := [_, _]) F a_M_digest_145 rfl rfl rfl ?_
  refine GC.loc2 (lp_M_dig6 hS hD h7 h8 h9 h23 h18 c5 c6 c7 (h := x5) (fun x6 e6 => ?_) F ((3 * (m 10 0).1 7).toNat + 1) 0 _ 0 (by omega) (by omega) rfl rfl) ⟨rfl, rfl, trivial⟩
  refine g_iconst F a_M_digest_173 ?_
  refine g_istore_n (ls' := [_, _]) F a_M_digest_174 rfl rfl rfl ?_
  refine GC.loc2 (lp_M_dig7 hS hD h7 h8 h9 h23 h18 c5 c6 c7 (h := x6) (fun x7 e7 => ?_) F ((4 * (m 10 0).1 8).toNat + 1) 0 _ 0 (by omega) (by omega) rfl rfl) ⟨rfl, rfl, trivial⟩
  refine g_iconst F a_M_digest_202 ?_
  refine g_istore_n (ls' := [_, _]) F a_M_digest_203 rfl rfl rfl ?_
  refine GC.loc2 (lp_M_dig8 hS hD h7 h8 h9 h23 h18 c5 c6 c7 (h := x7) (fun x8 e8 => ?_) F ((4 * (m 10 0).1 9).toNat + 1) 0 _ 0 (by omega) (by omega) rfl rfl) ⟨rfl, rfl, trivial⟩
  refine g_aload_n F a_M_digest_231 rfl ?_
  refine g_aload_n F a_M_digest_232 rfl ?_
  refine g_get_10_25 F a_M_digest_233 fl_M_289 ?_
  (try simp only [mset_app, mset_mset, fup_app, aup_app, fup_fup, aup_aup, false_and, and_false, true_and, and_true, and_self, reduceIte, Nat.reduceEqDiff, reduceCtorEq, fup_10, fs_4_5, fs_4_6, fs_5_6])
  refine g_v1 F a_M_digest_236 vc_M_326 mk_M_mix ob_10 ck_10.1 rfl rfl (by decide) ⟨Nat.le_refl _, Nat.le_refl _⟩ rfl (Nat.le_of_ble_eq_true rfl) (sp_M_mix  (GCr.n ?_))
  (try simp only [mset_app, mset_mset, fup_app, aup_app, fup_fup, aup_aup, false_and, and_false, true_and, and_true, and_self, reduceIte, Nat.reduceEqDiff, reduceCtorEq, fup_10, fs_4_5, fs_4_6, fs_5_6])
  refine g_aload_n F a_M_digest_239 rfl ?_
  refine g_aload_n F a_M_digest_240 rfl ?_
  refine g_get_10_26 F a_M_digest_241 fl_M_46 ?_
  (try simp only [mset_app, mset_mset, fup_app, aup_app, fup_fup, aup_aup, false_and, and_false, true_and, and_true, and_self, reduceIte, Nat.reduceEqDiff, reduceCtorEq, fup_10, fs_4_5, fs_4_6, fs_5_6])
  refine g_v1 F a_M_digest_244 vc_M_326 mk_M_mix ob_10 ck_10.1 rfl rfl (by decide) ⟨Nat.le_refl _, Nat.le_refl _⟩ rfl (Nat.le_of_ble_eq_true rfl) (sp_M_mix  (GCr.n ?_))
  (try simp only [mset_app, mset_mset, fup_app, aup_app, fup_fup, aup_aup, false_and, and_false, true_and, and_true, and_self, reduceIte, Nat.reduceEqDiff, reduceCtorEq, fup_10, fs_4_5, fs_4_6, fs_5_6])
  refine g_aload_n F a_M_digest_247 rfl ?_
  refine g_get_10_29 F a_M_digest_248 fl_M_321 ?_
  (try simp only [mset_app, mset_mset, fup_app, aup_app, fup_fup, aup_aup, false_and, and_false, true_and, and_true, and_self, reduceIte, Nat.reduceEqDiff, reduceCtorEq, fup_10, fs_4_5, fs_4_6, fs_5_6])
  refine g_lret F a_M_digest_251 rfl ⟨Nat.le_refl _, Nat.le_refl _⟩ ?_
  refine ql (qw k ?_) ?_
  · rw [e8, e7, e6, e5, e4, e3, e2, e1]; rfl
  · rw [e8, e7, e6, e5, e4, e3, e2, e1]; rfl
theorem cpyI_00 (f g : Int → Int) (a b : Int) : cpyI f g a b ((0 : Nat) : Int) = g := by
  funext k
  unfold cpyI
  rw [if_neg (by omega)]
theorem cpy_up {f g : Int → Int} {sp dp p v : Int} {n : Nat} (hp : p = dp + n) (hv : v = f (sp + n)) : gup (cpyI f g sp dp n) p v = cpyI f g sp dp ((n + 1 : Nat) : Int) := by
  funext k
  unfold gup cpyI
  by_cases h : k = p
  · rw [if_pos h, if_pos (by omega), hv]
    congr 1
    omega
  · rw [if_neg h]
    by_cases h2 : dp ≤ k ∧ k < dp + (n : Int)
    · rw [if_pos h2, if_pos (by omega)]
    · rw [if_neg h2, if_neg (by omega)]
theorem cpy_sw {f g : Int → Int} {sp dp p v : Int} {n : Nat} (hp : p < dp ∨ dp + n ≤ p) : gup (cpyI f g sp dp n) p v = cpyI f (gup g p v) sp dp n := by
  funext k
  unfold gup cpyI
  by_cases h : k = p
  · rw [if_pos h, if_neg (by omega)]
    show v = if k = p then v else g k
    rw [if_pos h]
  · rw [if_neg h]
    split
    · rfl
    · show g k = if k = p then v else g k
      rw [if_neg h]
set_option maxHeartbeats 2000000 in
theorem lp_lay1 {κ : Kx} {μ : MX} {Z : State → Prop} {m : Mem} {j : Nat} {a : Int} (hj : 9 ≤ j ∧ j < 14) (hj10 : j ≠ 10) (ha : 0 ≤ a ∧ a + 180 ≤ alen 10 j) (hl : (alen 10 j : Int) ≤ 1000) (k : GC κ μ Z 0 0 118 [some (.ref (ad κ 10 0)), some (.ref (aa κ 10 0 j)), some (vi a), none] [] (World κ (mset m 10 0 ((m 10 0).1, aup (m 10 0).2 j (cpyI ((m 10 0).2 4) (cpyI ((m 10 0).2 1) ((m 10 0).2 j) 0 (a + 16) 6) 0 (a + 22) 6))))) (F : Fx κ G_M_layAll 1 0 0 μ) :
    ∀ (n : Nat) (t : Nat) (y : Int), 6 < t + n → t ≤ 6 → y = (t : Int) →  GC κ μ Z 0 0 78 [some (.ref (ad κ 10 0)), some (.ref (aa κ 10 0 j)), some (vi a), some (vi y)] [] (World κ (mset m 10 0 ((m 10 0).1, aup (m 10 0).2 j (cpyI ((m 10 0).2 4) (cpyI ((m 10 0).2 1) ((m 10 0).2 j) 0 (a + 16) t) 0 (a + 22) t)))) := by
  have q1 : ¬ 1 = j := by omega
  have q2 : ¬ 2 = j := by omega
  have q3 : ¬ 3 = j := by omega
  have q4 : ¬ 4 = j := by omega
  have q5 : ¬ 5 = j := by omega
  have q6 : ¬ 6 = j := by omega
  have q7 : ¬ 7 = j := by omega
  have q10 : ¬ 10 = j := by omega
  have p1 : ¬ j = 1 := by omega
  have p2 : ¬ j = 2 := by omega
  have p3 : ¬ j = 3 := by omega
  have p4 : ¬ j = 4 := by omega
  have p5 : ¬ j = 5 := by omega
  have p6 : ¬ j = 6 := by omega
  have p7 : ¬ j = 7 := by omega
  intro n
  induction n with
  | zero =>
    intro t y hn ht hy
    exact absurd hn (by omega)
  | succ n ih =>
    intro t y hn ht hy
    refine g_iload_n F a_M_layAll_78 rfl ?_
    refine g_bipush F a_M_layAll_79 (by decide) ?_
    refine g_icmp_ge F (by omega) (by omega) a_M_layAll_81 (fun h81 => ?_) (fun h81 => ?_)
    · obtain rfl : t = 6 := by omega
      exact GC.loc2 k ⟨rfl, rfl, rfl, trivial⟩
    · refine g_aload_n F a_M_layAll_84 rfl ?_
      refine g_iload_n F a_M_layAll_85 rfl ?_
      refine g_bipush F a_M_layAll_86 (by decide) ?_
      refine g_iadd F a_M_layAll_88 ?_
      refine g_iload_n F a_M_layAll_89 rfl ?_
      refine g_iadd F a_M_layAll_90 ?_
      refine g_aload_n F a_M_layAll_91 rfl ?_
      refine g_get_10_10 F a_M_layAll_92 fl_M_13 ?_
      (try simp only [mset_app, mset_mset, fup_app, aup_app, fup_fup, aup_aup, false_and, and_false, true_and, and_true, and_self, reduceIte, Nat.reduceEqDiff, reduceCtorEq, fup_10, fs_4_5, fs_4_6, fs_5_6, q1, q2, q3, q4, q5, q6, q7, q10, p1, p2, p3, p4, p5, p6, p7, hj10, as_1_4, as_6_7])
      refine g_iload_n F a_M_layAll_95 rfl ?_
      refine g_ild_10_1 F a_M_layAll_96 (by first | exact ⟨by omega, by omega, by omega⟩ | omega) ?_
      (try simp only [mset_app, mset_mset, fup_app, aup_app, fup_fup, aup_aup, false_and, and_false, true_and, and_true, and_self, reduceIte, Nat.reduceEqDiff, reduceCtorEq, fup_10, fs_4_5, fs_4_6, fs_5_6, q1, q2, q3, q4, q5, q6, q7, q10, p1, p2, p3, p4, p5, p6, p7, hj10, as_1_4, as_6_7])
      refine g_istM F a_M_layAll_97 (by first | exact ⟨by omega, by omega, by omega⟩ | omega) ?_
      (try simp only [mset_app, mset_mset, fup_app, aup_app, fup_fup, aup_aup, false_and, and_false, true_and, and_true, and_self, reduceIte, Nat.reduceEqDiff, reduceCtorEq, fup_10, fs_4_5, fs_4_6, fs_5_6, q1, q2, q3, q4, q5, q6, q7, q10, p1, p2, p3, p4, p5, p6, p7, hj10, as_1_4, as_6_7])
      refine g_aload_n F a_M_layAll_98 rfl ?_
      refine g_iload_n F a_M_layAll_99 rfl ?_
      refine g_bipush F a_M_layAll_100 (by decide) ?_
      refine g_iadd F a_M_layAll_102 ?_
      refine g_iload_n F a_M_layAll_103 rfl ?_
      refine g_iadd F a_M_layAll_104 ?_
      refine g_aload_n F a_M_layAll_105 rfl ?_
      refine g_get_10_13 F a_M_layAll_106 fl_M_22 ?_
      (try simp only [mset_app, mset_mset, fup_app, aup_app, fup_fup, aup_aup, false_and, and_false, true_and, and_true, and_self, reduceIte, Nat.reduceEqDiff, reduceCtorEq, fup_10, fs_4_5, fs_4_6, fs_5_6, q1, q2, q3, q4, q5, q6, q7, q10, p1, p2, p3, p4, p5, p6, p7, hj10, as_1_4, as_6_7])
      refine g_iload_n F a_M_layAll_109 rfl ?_
      refine g_ild_10_4 F a_M_layAll_110 (by first | exact ⟨by omega, by omega, by omega⟩ | omega) ?_
      (try simp only [mset_app, mset_mset, fup_app, aup_app, fup_fup, aup_aup, false_and, and_false, true_and, and_true, and_self, reduceIte, Nat.reduceEqDiff, reduceCtorEq, fup_10, fs_4_5, fs_4_6, fs_5_6, q1, q2, q3, q4, q5, q6, q7, q10, p1, p2, p3, p4, p5, p6, p7, hj10, as_1_4, as_6_7])
      refine g_istM F a_M_layAll_111 (by first | exact ⟨by omega, by omega, by omega⟩ | omega) ?_
      (try simp only [mset_app, mset_mset, fup_app, aup_app, fup_fup, aup_aup, false_and, and_false, true_and, and_true, and_self, reduceIte, Nat.reduceEqDiff, reduceCtorEq, fup_10, fs_4_5, fs_4_6, fs_5_6, q1, q2, q3, q4, q5, q6, q7, q10, p1, p2, p3, p4, p5, p6, p7, hj10, as_1_4, as_6_7])
      refine g_iinc (ls' := [_, _, _, _]) F a_M_layAll_112 rfl rfl rfl ?_
      refine g_goto F a_M_layAll_115 ?_
      rw [cpy_sw (f := ((m 10 0).2 4)) (dp := a + 22) (n := t) (by omega), cpy_up (f := ((m 10 0).2 1)) (dp := a + 16) (n := t) (by omega) (by rw [hy, Int.zero_add]), cpy_up (f := ((m 10 0).2 4)) (dp := a + 22) (n := t) (by omega) (by rw [hy, Int.zero_add])]
      exact GC.loc2 (ih (t + 1) _ (by omega) (by omega) (by omega)) ⟨rfl, rfl, rfl, rfl, trivial⟩
set_option maxHeartbeats 1000000 in
theorem tl_lay1 {κ : Kx} {μ : MX} {Z : State → Prop} {m : Mem} {j : Nat} {a : Int} (hj : 9 ≤ j ∧ j < 14) (hj10 : j ≠ 10) (ha : 0 ≤ a ∧ a + 180 ≤ alen 10 j) (hl : (alen 10 j : Int) ≤ 1000) (F : Fx κ G_M_layAll 1 0 0 μ) (k : GC κ μ Z 0 0 118 [some (.ref (ad κ 10 0)), some (.ref (aa κ 10 0 j)), some (vi a), none] [] (World κ (mset m 10 0 ((m 10 0).1, aup (m 10 0).2 j (cpyI ((m 10 0).2 4) (cpyI ((m 10 0).2 1) ((m 10 0).2 j) 0 (a + 16) 6) 0 (a + 22) 6))))) : GC κ μ Z 0 0 78 [some (.ref (ad κ 10 0)), some (.ref (aa κ 10 0 j)), some (vi a), some (vi 0)] [] (World κ m) := by
  have hz := lp_lay1 hj hj10 ha hl k F 7 0 0 (by decide) (by decide) rfl
  rw [cpyI_00, cpyI_00, aup_self, mset_self] at hz
  exact hz
set_option maxHeartbeats 2000000 in
theorem lp_lay2 {κ : Kx} {μ : MX} {Z : State → Prop} {m : Mem} {j : Nat} {a : Int} (hj : 9 ≤ j ∧ j < 14) (hj10 : j ≠ 10) (ha : 0 ≤ a ∧ a + 180 ≤ alen 10 j) (hl : (alen 10 j : Int) ≤ 1000) (k : GC κ μ Z 0 0 145 [some (.ref (ad κ 10 0)), some (.ref (aa κ 10 0 j)), some (vi a), none] [] (World κ (mset m 10 0 ((m 10 0).1, aup (m 10 0).2 j (cpyI ((m 10 0).2 3) ((m 10 0).2 j) 0 (a + 28) 3))))) (F : Fx κ G_M_layAll 1 0 0 μ) :
    ∀ (n : Nat) (t : Nat) (y : Int), 3 < t + n → t ≤ 3 → y = (t : Int) →  GC κ μ Z 0 0 120 [some (.ref (ad κ 10 0)), some (.ref (aa κ 10 0 j)), some (vi a), some (vi y)] [] (World κ (mset m 10 0 ((m 10 0).1, aup (m 10 0).2 j (cpyI ((m 10 0).2 3) ((m 10 0).2 j) 0 (a + 28) t)))) := by
  have q1 : ¬ 1 = j := by omega
  have q2 : ¬ 2 = j := by omega
  have q3 : ¬ 3 = j := by omega
  have q4 : ¬ 4 = j := by omega
  have q5 : ¬ 5 = j := by omega
  have q6 : ¬ 6 = j := by omega
  have q7 : ¬ 7 = j := by omega
  have q10 : ¬ 10 = j := by omega
  have p1 : ¬ j = 1 := by omega
  have p2 : ¬ j = 2 := by omega
  have p3 : ¬ j = 3 := by omega
  have p4 : ¬ j = 4 := by omega
  have p5 : ¬ j = 5 := by omega
  have p6 : ¬ j = 6 := by omega
  have p7 : ¬ j = 7 := by omega
  intro n
  induction n with
  | zero =>
    intro t y hn ht hy
    exact absurd hn (by omega)
  | succ n ih =>
    intro t y hn ht hy
    refine g_iload_n F a_M_layAll_120 rfl ?_
    refine g_iconst F a_M_layAll_121 ?_
    refine g_icmp_ge F (by omega) (by omega) a_M_layAll_122 (fun h122 => ?_) (fun h122 => ?_)
    · obtain rfl : t = 3 := by omega
      exact GC.loc2 k ⟨rfl, rfl, rfl, trivial⟩
    · refine g_aload_n F a_M_layAll_125 rfl ?_
      refine g_iload_n F a_M_layAll_126 rfl ?_
      refine g_bipush F a_M_layAll_127 (by decide) ?_
      refine g_iadd F a_M_layAll_129 ?_
      refine g_iload_n F a_M_layAll_130 rfl ?_
      refine g_iadd F a_M_layAll_131 ?_
      refine g_aload_n F a_M_layAll_132 rfl ?_
      refine g_get_10_12 F a_M_layAll_133 fl_M_19 ?_
      (try simp only [mset_app, mset_mset, fup_app, aup_app, fup_fup, aup_aup, false_and, and_false, true_and, and_true, and_self, reduceIte, Nat.reduceEqDiff, reduceCtorEq, fup_10, fs_4_5, fs_4_6, fs_5_6, q1, q2, q3, q4, q5, q6, q7, q10, p1, p2, p3, p4, p5, p6, p7, hj10, as_1_4, as_6_7])
      refine g_iload_n F a_M_layAll_136 rfl ?_
      refine g_ild_10_3 F a_M_layAll_137 (by first | exact ⟨by omega, by omega, by omega⟩ | omega) ?_
      (try simp only [mset_app, mset_mset, fup_app, aup_app, fup_fup, aup_aup, false_and, and_false, true_and, and_true, and_self, reduceIte, Nat.reduceEqDiff, reduceCtorEq, fup_10, fs_4_5, fs_4_6, fs_5_6, q1, q2, q3, q4, q5, q6, q7, q10, p1, p2, p3, p4, p5, p6, p7, hj10, as_1_4, as_6_7])
      refine g_istM F a_M_layAll_138 (by first | exact ⟨by omega, by omega, by omega⟩ | omega) ?_
      (try simp only [mset_app, mset_mset, fup_app, aup_app, fup_fup, aup_aup, false_and, and_false, true_and, and_true, and_self, reduceIte, Nat.reduceEqDiff, reduceCtorEq, fup_10, fs_4_5, fs_4_6, fs_5_6, q1, q2, q3, q4, q5, q6, q7, q10, p1, p2, p3, p4, p5, p6, p7, hj10, as_1_4, as_6_7])
      refine g_iinc (ls' := [_, _, _, _]) F a_M_layAll_139 rfl rfl rfl ?_
      refine g_goto F a_M_layAll_142 ?_
      rw [cpy_up (f := ((m 10 0).2 3)) (dp := a + 28) (n := t) (by omega) (by rw [hy, Int.zero_add])]
      exact GC.loc2 (ih (t + 1) _ (by omega) (by omega) (by omega)) ⟨rfl, rfl, rfl, rfl, trivial⟩
set_option maxHeartbeats 1000000 in
theorem tl_lay2 {κ : Kx} {μ : MX} {Z : State → Prop} {m : Mem} {j : Nat} {a : Int} (hj : 9 ≤ j ∧ j < 14) (hj10 : j ≠ 10) (ha : 0 ≤ a ∧ a + 180 ≤ alen 10 j) (hl : (alen 10 j : Int) ≤ 1000) (F : Fx κ G_M_layAll 1 0 0 μ) (k : GC κ μ Z 0 0 145 [some (.ref (ad κ 10 0)), some (.ref (aa κ 10 0 j)), some (vi a), none] [] (World κ (mset m 10 0 ((m 10 0).1, aup (m 10 0).2 j (cpyI ((m 10 0).2 3) ((m 10 0).2 j) 0 (a + 28) 3))))) : GC κ μ Z 0 0 120 [some (.ref (ad κ 10 0)), some (.ref (aa κ 10 0 j)), some (vi a), some (vi 0)] [] (World κ m) := by
  have hz := lp_lay2 hj hj10 ha hl k F 4 0 0 (by decide) (by decide) rfl
  rw [cpyI_00, aup_self, mset_self] at hz
  exact hz
set_option maxHeartbeats 2000000 in
theorem lp_lay3 {κ : Kx} {μ : MX} {Z : State → Prop} {m : Mem} {j : Nat} {a : Int} (hj : 9 ≤ j ∧ j < 14) (hj10 : j ≠ 10) (ha : 0 ≤ a ∧ a + 180 ≤ alen 10 j) (hl : (alen 10 j : Int) ≤ 1000) (k : GC κ μ Z 0 0 173 [some (.ref (ad κ 10 0)), some (.ref (aa κ 10 0 j)), some (vi a), none] [] (World κ (mset m 10 0 ((m 10 0).1, aup (m 10 0).2 j (cpyI ((m 10 0).2 5) ((m 10 0).2 j) 0 (a + 31) 18))))) (F : Fx κ G_M_layAll 1 0 0 μ) :
    ∀ (n : Nat) (t : Nat) (y : Int), 18 < t + n → t ≤ 18 → y = (t : Int) →  GC κ μ Z 0 0 147 [some (.ref (ad κ 10 0)), some (.ref (aa κ 10 0 j)), some (vi a), some (vi y)] [] (World κ (mset m 10 0 ((m 10 0).1, aup (m 10 0).2 j (cpyI ((m 10 0).2 5) ((m 10 0).2 j) 0 (a + 31) t)))) := by
  have q1 : ¬ 1 = j := by omega
  have q2 : ¬ 2 = j := by omega
  have q3 : ¬ 3 = j := by omega
  have q4 : ¬ 4 = j := by omega
  have q5 : ¬ 5 = j := by omega
  have q6 : ¬ 6 = j := by omega
  have q7 : ¬ 7 = j := by omega
  have q10 : ¬ 10 = j := by omega
  have p1 : ¬ j = 1 := by omega
  have p2 : ¬ j = 2 := by omega
  have p3 : ¬ j = 3 := by omega
  have p4 : ¬ j = 4 := by omega
  have p5 : ¬ j = 5 := by omega
  have p6 : ¬ j = 6 := by omega
  have p7 : ¬ j = 7 := by omega
  intro n
  induction n with
  | zero =>
    intro t y hn ht hy
    exact absurd hn (by omega)
  | succ n ih =>
    intro t y hn ht hy
    refine g_iload_n F a_M_layAll_147 rfl ?_
    refine g_bipush F a_M_layAll_148 (by decide) ?_
    refine g_icmp_ge F (by omega) (by omega) a_M_layAll_150 (fun h150 => ?_) (fun h150 => ?_)
    · obtain rfl : t = 18 := by omega
      exact GC.loc2 k ⟨rfl, rfl, rfl, trivial⟩
    · refine g_aload_n F a_M_layAll_153 rfl ?_
      refine g_iload_n F a_M_layAll_154 rfl ?_
      refine g_bipush F a_M_layAll_155 (by decide) ?_
      refine g_iadd F a_M_layAll_157 ?_
      refine g_iload_n F a_M_layAll_158 rfl ?_
      refine g_iadd F a_M_layAll_159 ?_
      refine g_aload_n F a_M_layAll_160 rfl ?_
      refine g_get_10_14 F a_M_layAll_161 fl_M_25 ?_
      (try simp only [mset_app, mset_mset, fup_app, aup_app, fup_fup, aup_aup, false_and, and_false, true_and, and_true, and_self, reduceIte, Nat.reduceEqDiff, reduceCtorEq, fup_10, fs_4_5, fs_4_6, fs_5_6, q1, q2, q3, q4, q5, q6, q7, q10, p1, p2, p3, p4, p5, p6, p7, hj10, as_1_4, as_6_7])
      refine g_iload_n F a_M_layAll_164 rfl ?_
      refine g_ild_10_5 F a_M_layAll_165 (by first | exact ⟨by omega, by omega, by omega⟩ | omega) ?_
      (try simp only [mset_app, mset_mset, fup_app, aup_app, fup_fup, aup_aup, false_and, and_false, true_and, and_true, and_self, reduceIte, Nat.reduceEqDiff, reduceCtorEq, fup_10, fs_4_5, fs_4_6, fs_5_6, q1, q2, q3, q4, q5, q6, q7, q10, p1, p2, p3, p4, p5, p6, p7, hj10, as_1_4, as_6_7])
      refine g_istM F a_M_layAll_166 (by first | exact ⟨by omega, by omega, by omega⟩ | omega) ?_
      (try simp only [mset_app, mset_mset, fup_app, aup_app, fup_fup, aup_aup, false_and, and_false, true_and, and_true, and_self, reduceIte, Nat.reduceEqDiff, reduceCtorEq, fup_10, fs_4_5, fs_4_6, fs_5_6, q1, q2, q3, q4, q5, q6, q7, q10, p1, p2, p3, p4, p5, p6, p7, hj10, as_1_4, as_6_7])
      refine g_iinc (ls' := [_, _, _, _]) F a_M_layAll_167 rfl rfl rfl ?_
      refine g_goto F a_M_layAll_170 ?_
      rw [cpy_up (f := ((m 10 0).2 5)) (dp := a + 31) (n := t) (by omega) (by rw [hy, Int.zero_add])]
      exact GC.loc2 (ih (t + 1) _ (by omega) (by omega) (by omega)) ⟨rfl, rfl, rfl, rfl, trivial⟩
set_option maxHeartbeats 1000000 in
theorem tl_lay3 {κ : Kx} {μ : MX} {Z : State → Prop} {m : Mem} {j : Nat} {a : Int} (hj : 9 ≤ j ∧ j < 14) (hj10 : j ≠ 10) (ha : 0 ≤ a ∧ a + 180 ≤ alen 10 j) (hl : (alen 10 j : Int) ≤ 1000) (F : Fx κ G_M_layAll 1 0 0 μ) (k : GC κ μ Z 0 0 173 [some (.ref (ad κ 10 0)), some (.ref (aa κ 10 0 j)), some (vi a), none] [] (World κ (mset m 10 0 ((m 10 0).1, aup (m 10 0).2 j (cpyI ((m 10 0).2 5) ((m 10 0).2 j) 0 (a + 31) 18))))) : GC κ μ Z 0 0 147 [some (.ref (ad κ 10 0)), some (.ref (aa κ 10 0 j)), some (vi a), some (vi 0)] [] (World κ m) := by
  have hz := lp_lay3 hj hj10 ha hl k F 19 0 0 (by decide) (by decide) rfl
  rw [cpyI_00, aup_self, mset_self] at hz
  exact hz
set_option maxHeartbeats 2000000 in
theorem lp_lay4 {κ : Kx} {μ : MX} {Z : State → Prop} {m : Mem} {j : Nat} {a : Int} (hj : 9 ≤ j ∧ j < 14) (hj10 : j ≠ 10) (ha : 0 ≤ a ∧ a + 180 ≤ alen 10 j) (hl : (alen 10 j : Int) ≤ 1000) (k : GC κ μ Z 0 0 215 [some (.ref (ad κ 10 0)), some (.ref (aa κ 10 0 j)), some (vi a), none] [] (World κ (mset m 10 0 ((m 10 0).1, aup (m 10 0).2 j (cpyI ((m 10 0).2 7) (cpyI ((m 10 0).2 6) ((m 10 0).2 j) 0 (a + 49) 24) 0 (a + 73) 24))))) (F : Fx κ G_M_layAll 1 0 0 μ) :
    ∀ (n : Nat) (t : Nat) (y : Int), 24 < t + n → t ≤ 24 → y = (t : Int) →  GC κ μ Z 0 0 175 [some (.ref (ad κ 10 0)), some (.ref (aa κ 10 0 j)), some (vi a), some (vi y)] [] (World κ (mset m 10 0 ((m 10 0).1, aup (m 10 0).2 j (cpyI ((m 10 0).2 7) (cpyI ((m 10 0).2 6) ((m 10 0).2 j) 0 (a + 49) t) 0 (a + 73) t)))) := by
  have q1 : ¬ 1 = j := by omega
  have q2 : ¬ 2 = j := by omega
  have q3 : ¬ 3 = j := by omega
  have q4 : ¬ 4 = j := by omega
  have q5 : ¬ 5 = j := by omega
  have q6 : ¬ 6 = j := by omega
  have q7 : ¬ 7 = j := by omega
  have q10 : ¬ 10 = j := by omega
  have p1 : ¬ j = 1 := by omega
  have p2 : ¬ j = 2 := by omega
  have p3 : ¬ j = 3 := by omega
  have p4 : ¬ j = 4 := by omega
  have p5 : ¬ j = 5 := by omega
  have p6 : ¬ j = 6 := by omega
  have p7 : ¬ j = 7 := by omega
  intro n
  induction n with
  | zero =>
    intro t y hn ht hy
    exact absurd hn (by omega)
  | succ n ih =>
    intro t y hn ht hy
    refine g_iload_n F a_M_layAll_175 rfl ?_
    refine g_bipush F a_M_layAll_176 (by decide) ?_
    refine g_icmp_ge F (by omega) (by omega) a_M_layAll_178 (fun h178 => ?_) (fun h178 => ?_)
    · obtain rfl : t = 24 := by omega
      exact GC.loc2 k ⟨rfl, rfl, rfl, trivial⟩
    · refine g_aload_n F a_M_layAll_181 rfl ?_
      refine g_iload_n F a_M_layAll_182 rfl ?_
      refine g_bipush F a_M_layAll_183 (by decide) ?_
      refine g_iadd F a_M_layAll_185 ?_
      refine g_iload_n F a_M_layAll_186 rfl ?_
      refine g_iadd F a_M_layAll_187 ?_
      refine g_aload_n F a_M_layAll_188 rfl ?_
      refine g_get_10_15 F a_M_layAll_189 fl_M_28 ?_
      (try simp only [mset_app, mset_mset, fup_app, aup_app, fup_fup, aup_aup, false_and, and_false, true_and, and_true, and_self, reduceIte, Nat.reduceEqDiff, reduceCtorEq, fup_10, fs_4_5, fs_4_6, fs_5_6, q1, q2, q3, q4, q5, q6, q7, q10, p1, p2, p3, p4, p5, p6, p7, hj10, as_1_4, as_6_7])
      refine g_iload_n F a_M_layAll_192 rfl ?_
      refine g_ild_10_6 F a_M_layAll_193 (by first | exact ⟨by omega, by omega, by omega⟩ | omega) ?_
      (try simp only [mset_app, mset_mset, fup_app, aup_app, fup_fup, aup_aup, false_and, and_false, true_and, and_true, and_self, reduceIte, Nat.reduceEqDiff, reduceCtorEq, fup_10, fs_4_5, fs_4_6, fs_5_6, q1, q2, q3, q4, q5, q6, q7, q10, p1, p2, p3, p4, p5, p6, p7, hj10, as_1_4, as_6_7])
      refine g_istM F a_M_layAll_194 (by first | exact ⟨by omega, by omega, by omega⟩ | omega) ?_
      (try simp only [mset_app, mset_mset, fup_app, aup_app, fup_fup, aup_aup, false_and, and_false, true_and, and_true, and_self, reduceIte, Nat.reduceEqDiff, reduceCtorEq, fup_10, fs_4_5, fs_4_6, fs_5_6, q1, q2, q3, q4, q5, q6, q7, q10, p1, p2, p3, p4, p5, p6, p7, hj10, as_1_4, as_6_7])
      refine g_aload_n F a_M_layAll_195 rfl ?_
      refine g_iload_n F a_M_layAll_196 rfl ?_
      refine g_bipush F a_M_layAll_197 (by decide) ?_
      refine g_iadd F a_M_layAll_199 ?_
      refine g_iload_n F a_M_layAll_200 rfl ?_
      refine g_iadd F a_M_layAll_201 ?_
      refine g_aload_n F a_M_layAll_202 rfl ?_
      refine g_get_10_16 F a_M_layAll_203 fl_M_31 ?_
      (try simp only [mset_app, mset_mset, fup_app, aup_app, fup_fup, aup_aup, false_and, and_false, true_and, and_true, and_self, reduceIte, Nat.reduceEqDiff, reduceCtorEq, fup_10, fs_4_5, fs_4_6, fs_5_6, q1, q2, q3, q4, q5, q6, q7, q10, p1, p2, p3, p4, p5, p6, p7, hj10, as_1_4, as_6_7])
      refine g_iload_n F a_M_layAll_206 rfl ?_
      refine g_ild_10_7 F a_M_layAll_207 (by first | exact ⟨by omega, by omega, by omega⟩ | omega) ?_
      (try simp only [mset_app, mset_mset, fup_app, aup_app, fup_fup, aup_aup, false_and, and_false, true_and, and_true, and_self, reduceIte, Nat.reduceEqDiff, reduceCtorEq, fup_10, fs_4_5, fs_4_6, fs_5_6, q1, q2, q3, q4, q5, q6, q7, q10, p1, p2, p3, p4, p5, p6, p7, hj10, as_1_4, as_6_7])
      refine g_istM F a_M_layAll_208 (by first | exact ⟨by omega, by omega, by omega⟩ | omega) ?_
      (try simp only [mset_app, mset_mset, fup_app, aup_app, fup_fup, aup_aup, false_and, and_false, true_and, and_true, and_self, reduceIte, Nat.reduceEqDiff, reduceCtorEq, fup_10, fs_4_5, fs_4_6, fs_5_6, q1, q2, q3, q4, q5, q6, q7, q10, p1, p2, p3, p4, p5, p6, p7, hj10, as_1_4, as_6_7])
      refine g_iinc (ls' := [_, _, _, _]) F a_M_layAll_209 rfl rfl rfl ?_
      refine g_goto F a_M_layAll_212 ?_
      rw [cpy_sw (f := ((m 10 0).2 7)) (dp := a + 73) (n := t) (by omega), cpy_up (f := ((m 10 0).2 6)) (dp := a + 49) (n := t) (by omega) (by rw [hy, Int.zero_add]), cpy_up (f := ((m 10 0).2 7)) (dp := a + 73) (n := t) (by omega) (by rw [hy, Int.zero_add])]
      exact GC.loc2 (ih (t + 1) _ (by omega) (by omega) (by omega)) ⟨rfl, rfl, rfl, rfl, trivial⟩
set_option maxHeartbeats 1000000 in
theorem tl_lay4 {κ : Kx} {μ : MX} {Z : State → Prop} {m : Mem} {j : Nat} {a : Int} (hj : 9 ≤ j ∧ j < 14) (hj10 : j ≠ 10) (ha : 0 ≤ a ∧ a + 180 ≤ alen 10 j) (hl : (alen 10 j : Int) ≤ 1000) (F : Fx κ G_M_layAll 1 0 0 μ) (k : GC κ μ Z 0 0 215 [some (.ref (ad κ 10 0)), some (.ref (aa κ 10 0 j)), some (vi a), none] [] (World κ (mset m 10 0 ((m 10 0).1, aup (m 10 0).2 j (cpyI ((m 10 0).2 7) (cpyI ((m 10 0).2 6) ((m 10 0).2 j) 0 (a + 49) 24) 0 (a + 73) 24))))) : GC κ μ Z 0 0 175 [some (.ref (ad κ 10 0)), some (.ref (aa κ 10 0 j)), some (vi a), some (vi 0)] [] (World κ m) := by
  have hz := lp_lay4 hj hj10 ha hl k F 25 0 0 (by decide) (by decide) rfl
  rw [cpyI_00, cpyI_00, aup_self, mset_self] at hz
  exact hz
set_option maxHeartbeats 2000000 in
theorem lp_lay5 {κ : Kx} {μ : MX} {Z : State → Prop} {m : Mem} {j : Nat} {a : Int} (hj : 9 ≤ j ∧ j < 14) (hj10 : j ≠ 10) (ha : 0 ≤ a ∧ a + 180 ≤ alen 10 j) (hl : (alen 10 j : Int) ≤ 1000) (k : GC κ μ Z 0 0 243 [some (.ref (ad κ 10 0)), some (.ref (aa κ 10 0 j)), some (vi a), none] [] (World κ (mset m 10 0 ((m 10 0).1, aup (m 10 0).2 j (cpyI ((m 10 0).2 10) ((m 10 0).2 j) 0 (a + 97) 72))))) (F : Fx κ G_M_layAll 1 0 0 μ) :
    ∀ (n : Nat) (t : Nat) (y : Int), 72 < t + n → t ≤ 72 → y = (t : Int) →  GC κ μ Z 0 0 217 [some (.ref (ad κ 10 0)), some (.ref (aa κ 10 0 j)), some (vi a), some (vi y)] [] (World κ (mset m 10 0 ((m 10 0).1, aup (m 10 0).2 j (cpyI ((m 10 0).2 10) ((m 10 0).2 j) 0 (a + 97) t)))) := by
  have q1 : ¬ 1 = j := by omega
  have q2 : ¬ 2 = j := by omega
  have q3 : ¬ 3 = j := by omega
  have q4 : ¬ 4 = j := by omega
  have q5 : ¬ 5 = j := by omega
  have q6 : ¬ 6 = j := by omega
  have q7 : ¬ 7 = j := by omega
  have q10 : ¬ 10 = j := by omega
  have p1 : ¬ j = 1 := by omega
  have p2 : ¬ j = 2 := by omega
  have p3 : ¬ j = 3 := by omega
  have p4 : ¬ j = 4 := by omega
  have p5 : ¬ j = 5 := by omega
  have p6 : ¬ j = 6 := by omega
  have p7 : ¬ j = 7 := by omega
  intro n
  induction n with
  | zero =>
    intro t y hn ht hy
    exact absurd hn (by omega)
  | succ n ih =>
    intro t y hn ht hy
    refine g_iload_n F a_M_layAll_217 rfl ?_
    refine g_bipush F a_M_layAll_218 (by decide) ?_
    refine g_icmp_ge F (by omega) (by omega) a_M_layAll_220 (fun h220 => ?_) (fun h220 => ?_)
    · obtain rfl : t = 72 := by omega
      exact GC.loc2 k ⟨rfl, rfl, rfl, trivial⟩
    · refine g_aload_n F a_M_layAll_223 rfl ?_
      refine g_iload_n F a_M_layAll_224 rfl ?_
      refine g_bipush F a_M_layAll_225 (by decide) ?_
      refine g_iadd F a_M_layAll_227 ?_
      refine g_iload_n F a_M_layAll_228 rfl ?_
      refine g_iadd F a_M_layAll_229 ?_
      refine g_aload_n F a_M_layAll_230 rfl ?_
      refine g_get_10_22 F a_M_layAll_231 fl_M_40 ?_
      (try simp only [mset_app, mset_mset, fup_app, aup_app, fup_fup, aup_aup, false_and, and_false, true_and, and_true, and_self, reduceIte, Nat.reduceEqDiff, reduceCtorEq, fup_10, fs_4_5, fs_4_6, fs_5_6, q1, q2, q3, q4, q5, q6, q7, q10, p1, p2, p3, p4, p5, p6, p7, hj10, as_1_4, as_6_7])
      refine g_iload_n F a_M_layAll_234 rfl ?_
      refine g_ild_10_10 F a_M_layAll_235 (by first | exact ⟨by omega, by omega, by omega⟩ | omega) ?_
      (try simp only [mset_app, mset_mset, fup_app, aup_app, fup_fup, aup_aup, false_and, and_false, true_and, and_true, and_self, reduceIte, Nat.reduceEqDiff, reduceCtorEq, fup_10, fs_4_5, fs_4_6, fs_5_6, q1, q2, q3, q4, q5, q6, q7, q10, p1, p2, p3, p4, p5, p6, p7, hj10, as_1_4, as_6_7])
      refine g_istM F a_M_layAll_236 (by first | exact ⟨by omega, by omega, by omega⟩ | omega) ?_
      (try simp only [mset_app, mset_mset, fup_app, aup_app, fup_fup, aup_aup, false_and, and_false, true_and, and_true, and_self, reduceIte, Nat.reduceEqDiff, reduceCtorEq, fup_10, fs_4_5, fs_4_6, fs_5_6, q1, q2, q3, q4, q5, q6, q7, q10, p1, p2, p3, p4, p5, p6, p7, hj10, as_1_4, as_6_7])
      refine g_iinc (ls' := [_, _, _, _]) F a_M_layAll_237 rfl rfl rfl ?_
      refine g_goto F a_M_layAll_240 ?_
      rw [cpy_up (f := ((m 10 0).2 10)) (dp := a + 97) (n := t) (by omega) (by rw [hy, Int.zero_add])]
      exact GC.loc2 (ih (t + 1) _ (by omega) (by omega) (by omega)) ⟨rfl, rfl, rfl, rfl, trivial⟩
set_option maxHeartbeats 1000000 in
theorem tl_lay5 {κ : Kx} {μ : MX} {Z : State → Prop} {m : Mem} {j : Nat} {a : Int} (hj : 9 ≤ j ∧ j < 14) (hj10 : j ≠ 10) (ha : 0 ≤ a ∧ a + 180 ≤ alen 10 j) (hl : (alen 10 j : Int) ≤ 1000) (F : Fx κ G_M_layAll 1 0 0 μ) (k : GC κ μ Z 0 0 243 [some (.ref (ad κ 10 0)), some (.ref (aa κ 10 0 j)), some (vi a), none] [] (World κ (mset m 10 0 ((m 10 0).1, aup (m 10 0).2 j (cpyI ((m 10 0).2 10) ((m 10 0).2 j) 0 (a + 97) 72))))) : GC κ μ Z 0 0 217 [some (.ref (ad κ 10 0)), some (.ref (aa κ 10 0 j)), some (vi a), some (vi 0)] [] (World κ m) := by
  have hz := lp_lay5 hj hj10 ha hl k F 73 0 0 (by decide) (by decide) rfl
  rw [cpyI_00, aup_self, mset_self] at hz
  exact hz
/-- all that an image keeps, laid into a row -/
def lyS (M : Rc) (f : Int → Int) (a : Int) : Int → Int := gup (gup (gup (gup (gup (gup (gup (lyI (shM M) f a) (a + 9) (M.1 1)) (a + 10) (M.1 2)) (a + 11) (M.1 3)) (a + 12) (M.1 7)) (a + 13) (M.1 8)) (a + 14) (M.1 9)) (a + 15) (M.1 23)
def lyA (M : Rc) (f : Int → Int) (a : Int) : Int → Int := cpyI (M.2 10) (cpyI (M.2 7) (cpyI (M.2 6) (cpyI (M.2 5) (cpyI (M.2 3) (cpyI (M.2 4) (cpyI (M.2 1) (lyS M f a) 0 (a + 16) 6) 0 (a + 22) 6) 0 (a + 28) 3) 0 (a + 31) 18) 0 (a + 49) 24) 0 (a + 73) 24) 0 (a + 97) 72
set_option maxHeartbeats 1000000 in
theorem sp_M_layAll {κ : Kx} {Q : Option Value → (Heap → Prop) → Prop} {m : Mem} {j : Nat} {a : Int} (hj : 9 ≤ j ∧ j < 14) (hj10 : j ≠ 10) (ha : 0 ≤ a ∧ a + 180 ≤ alen 10 j) (hl : (alen 10 j : Int) ≤ 1000) (k : Q none (World κ (mset m 10 0 ((m 10 0).1, aup (m 10 0).2 j (lyA (m 10 0) ((m 10 0).2 j) a))))) : GG κ G_M_layAll 1 0 0 [.ref (ad κ 10 0), .ref (aa κ 10 0 j), vi a] (World κ m) Q := by
  have q1 : ¬ 1 = j := by omega
  have q2 : ¬ 2 = j := by omega
  have q3 : ¬ 3 = j := by omega
  have q4 : ¬ 4 = j := by omega
  have q5 : ¬ 5 = j := by omega
  have q6 : ¬ 6 = j := by omega
  have q7 : ¬ 7 = j := by omega
  have q10 : ¬ 10 = j := by omega
  have p1 : ¬ j = 1 := by omega
  have p2 : ¬ j = 2 := by omega
  have p3 : ¬ j = 3 := by omega
  have p4 : ¬ j = 4 := by omega
  have p5 : ¬ j = 5 := by omega
  have p6 : ¬ j = 6 := by omega
  have p7 : ¬ j = 7 := by omega
  refine GG.intro (ls := [some _, some _, some _, none]) (Nat.le_of_ble_eq_true rfl) rfl (fun μ F => ?_)
  refine g_aload_n F a_M_layAll_0 rfl ?_
  refine g_aload_n F a_M_layAll_1 rfl ?_
  refine g_iload_n F a_M_layAll_2 rfl ?_
  refine g_v2 F a_M_layAll_3 vc_M_221 mk_M_lays ob_10 ck_10.1 rfl rfl (by decide) ⟨Nat.le_refl _, Nat.le_refl _⟩ rfl (Nat.le_of_ble_eq_true rfl) (sp_M_lays hj (by omega) hl (GCr.n ?_))
  (try simp only [mset_app, mset_mset, fup_app, aup_app, fup_fup, aup_aup, false_and, and_false, true_and, and_true, and_self, reduceIte, Nat.reduceEqDiff, reduceCtorEq, fup_10, fs_4_5, fs_4_6, fs_5_6, q1, q2, q3, q4, q5, q6, q7, q10, p1, p2, p3, p4, p5, p6, p7, hj10, as_1_4, as_6_7])
  refine g_aload_n F a_M_layAll_6 rfl ?_
  refine g_iload_n F a_M_layAll_7 rfl ?_
  refine g_bipush F a_M_layAll_8 (by decide) ?_
  refine g_iadd F a_M_layAll_10 ?_
  refine g_aload_n F a_M_layAll_11 rfl ?_
  refine g_get_10_1 F a_M_layAll_12 fl_M_60 ?_
  (try simp only [mset_app, mset_mset, fup_app, aup_app, fup_fup, aup_aup, false_and, and_false, true_and, and_true, and_self, reduceIte, Nat.reduceEqDiff, reduceCtorEq, fup_10, fs_4_5, fs_4_6, fs_5_6, q1, q2, q3, q4, q5, q6, q7, q10, p1, p2, p3, p4, p5, p6, p7, hj10, as_1_4, as_6_7])
  refine g_istM F a_M_layAll_15 ⟨by omega, by omega, by omega⟩ ?_
  (try simp only [mset_app, mset_mset, fup_app, aup_app, fup_fup, aup_aup, false_and, and_false, true_and, and_true, and_self, reduceIte, Nat.reduceEqDiff, reduceCtorEq, fup_10, fs_4_5, fs_4_6, fs_5_6, q1, q2, q3, q4, q5, q6, q7, q10, p1, p2, p3, p4, p5, p6, p7, hj10, as_1_4, as_6_7])
  refine g_aload_n F a_M_layAll_16 rfl ?_
  refine g_iload_n F a_M_layAll_17 rfl ?_
  refine g_bipush F a_M_layAll_18 (by decide) ?_
  refine g_iadd F a_M_layAll_20 ?_
  refine g_aload_n F a_M_layAll_21 rfl ?_
  refine g_get_10_2 F a_M_layAll_22 fl_M_64 ?_
  (try simp only [mset_app, mset_mset, fup_app, aup_app, fup_fup, aup_aup, false_and, and_false, true_and, and_true, and_self, reduceIte, Nat.reduceEqDiff, reduceCtorEq, fup_10, fs_4_5, fs_4_6, fs_5_6, q1, q2, q3, q4, q5, q6, q7, q10, p1, p2, p3, p4, p5, p6, p7, hj10, as_1_4, as_6_7])
  refine g_istM F a_M_layAll_25 ⟨by omega, by omega, by omega⟩ ?_
  (try simp only [mset_app, mset_mset, fup_app, aup_app, fup_fup, aup_aup, false_and, and_false, true_and, and_true, and_self, reduceIte, Nat.reduceEqDiff, reduceCtorEq, fup_10, fs_4_5, fs_4_6, fs_5_6, q1, q2, q3, q4, q5, q6, q7, q10, p1, p2, p3, p4, p5, p6, p7, hj10, as_1_4, as_6_7])
  refine g_aload_n F a_M_layAll_26 rfl ?_
  refine g_iload_n F a_M_layAll_27 rfl ?_
  refine g_bipush F a_M_layAll_28 (by decide) ?_
  refine g_iadd F a_M_layAll_30 ?_
  refine g_aload_n F a_M_layAll_31 rfl ?_
  refine g_get_10_3 F a_M_layAll_32 fl_M_67 ?_
  (try simp only [mset_app, mset_mset, fup_app, aup_app, fup_fup, aup_aup, false_and, and_false, true_and, and_true, and_self, reduceIte, Nat.reduceEqDiff, reduceCtorEq, fup_10, fs_4_5, fs_4_6, fs_5_6, q1, q2, q3, q4, q5, q6, q7, q10, p1, p2, p3, p4, p5, p6, p7, hj10, as_1_4, as_6_7])
  refine g_istM F a_M_layAll_35 ⟨by omega, by omega, by omega⟩ ?_
  (try simp only [mset_app, mset_mset, fup_app, aup_app, fup_fup, aup_aup, false_and, and_false, true_and, and_true, and_self, reduceIte, Nat.reduceEqDiff, reduceCtorEq, fup_10, fs_4_5, fs_4_6, fs_5_6, q1, q2, q3, q4, q5, q6, q7, q10, p1, p2, p3, p4, p5, p6, p7, hj10, as_1_4, as_6_7])
  refine g_aload_n F a_M_layAll_36 rfl ?_
  refine g_iload_n F a_M_layAll_37 rfl ?_
  refine g_bipush F a_M_layAll_38 (by decide) ?_
  refine g_iadd F a_M_layAll_40 ?_
  refine g_aload_n F a_M_layAll_41 rfl ?_
  refine g_get_10_7 F a_M_layAll_42 fl_M_79 ?_
  (try simp only [mset_app, mset_mset, fup_app, aup_app, fup_fup, aup_aup, false_and, and_false, true_and, and_true, and_self, reduceIte, Nat.reduceEqDiff, reduceCtorEq, fup_10, fs_4_5, fs_4_6, fs_5_6, q1, q2, q3, q4, q5, q6, q7, q10, p1, p2, p3, p4, p5, p6, p7, hj10, as_1_4, as_6_7])
  refine g_istM F a_M_layAll_45 ⟨by omega, by omega, by omega⟩ ?_
  (try simp only [mset_app, mset_mset, fup_app, aup_app, fup_fup, aup_aup, false_and, and_false, true_and, and_true, and_self, reduceIte, Nat.reduceEqDiff, reduceCtorEq, fup_10, fs_4_5, fs_4_6, fs_5_6, q1, q2, q3, q4, q5, q6, q7, q10, p1, p2, p3, p4, p5, p6, p7, hj10, as_1_4, as_6_7])
  refine g_aload_n F a_M_layAll_46 rfl ?_
  refine g_iload_n F a_M_layAll_47 rfl ?_
  refine g_bipush F a_M_layAll_48 (by decide) ?_
  refine g_iadd F a_M_layAll_50 ?_
  refine g_aload_n F a_M_layAll_51 rfl ?_
  refine g_get_10_8 F a_M_layAll_52 fl_M_82 ?_
  (try simp only [mset_app, mset_mset, fup_app, aup_app, fup_fup, aup_aup, false_and, and_false, true_and, and_true, and_self, reduceIte, Nat.reduceEqDiff, reduceCtorEq, fup_10, fs_4_5, fs_4_6, fs_5_6, q1, q2, q3, q4, q5, q6, q7, q10, p1, p2, p3, p4, p5, p6, p7, hj10, as_1_4, as_6_7])
  refine g_istM F a_M_layAll_55 ⟨by omega, by omega, by omega⟩ ?_
  (try simp only [mset_app, mset_mset, fup_app, aup_app, fup_fup, aup_aup, false_and, and_false, true_and, and_true, and_self, reduceIte, Nat.reduceEqDiff, reduceCtorEq, fup_10, fs_4_5, fs_4_6, fs_5_6, q1, q2, q3, q4, q5, q6, q7, q10, p1, p2, p3, p4, p5, p6, p7, hj10, as_1_4, as_6_7])
  refine g_aload_n F a_M_layAll_56 rfl ?_
  refine g_iload_n F a_M_layAll_57 rfl ?_
  refine g_bipush F a_M_layAll_58 (by decide) ?_
  refine g_iadd F a_M_layAll_60 ?_
  refine g_aload_n F a_M_layAll_61 rfl ?_
  refine g_get_10_9 F a_M_layAll_62 fl_M_85 ?_
  (try simp only [mset_app, mset_mset, fup_app, aup_app, fup_fup, aup_aup, false_and, and_false, true_and, and_true, and_self, reduceIte, Nat.reduceEqDiff, reduceCtorEq, fup_10, fs_4_5, fs_4_6, fs_5_6, q1, q2, q3, q4, q5, q6, q7, q10, p1, p2, p3, p4, p5, p6, p7, hj10, as_1_4, as_6_7])
  refine g_istM F a_M_layAll_65 ⟨by omega, by omega, by omega⟩ ?_
  (try simp only [mset_app, mset_mset, fup_app, aup_app, fup_fup, aup_aup, false_and, and_false, true_and, and_true, and_self, reduceIte, Nat.reduceEqDiff, reduceCtorEq, fup_10, fs_4_5, fs_4_6, fs_5_6, q1, q2, q3, q4, q5, q6, q7, q10, p1, p2, p3, p4, p5, p6, p7, hj10, as_1_4, as_6_7])
  refine g_aload_n F a_M_layAll_66 rfl ?_
  refine g_iload_n F a_M_layAll_67 rfl ?_
  refine g_bipush F a_M_layAll_68 (by decide) ?_
  refine g_iadd F a_M_layAll_70 ?_
  refine g_aload_n F a_M_layAll_71 rfl ?_
  refine g_get_10_23 F a_M_layAll_72 fl_M_88 ?_
  (try simp only [mset_app, mset_mset, fup_app, aup_app, fup_fup, aup_aup, false_and, and_false, true_and, and_true, and_self, reduceIte, Nat.reduceEqDiff, reduceCtorEq, fup_10, fs_4_5, fs_4_6, fs_5_6, q1, q2, q3, q4, q5, q6, q7, q10, p1, p2, p3, p4, p5, p6, p7, hj10, as_1_4, as_6_7])
  refine g_istM F a_M_layAll_75 ⟨by omega, by omega, by omega⟩ ?_
  (try simp only [mset_app, mset_mset, fup_app, aup_app, fup_fup, aup_aup, false_and, and_false, true_and, and_true, and_self, reduceIte, Nat.reduceEqDiff, reduceCtorEq, fup_10, fs_4_5, fs_4_6, fs_5_6, q1, q2, q3, q4, q5, q6, q7, q10, p1, p2, p3, p4, p5, p6, p7, hj10, as_1_4, as_6_7])
  refine g_iconst F a_M_layAll_76 ?_
  refine g_istore_n (ls' := [_, _, _, _]) F a_M_layAll_77 rfl rfl rfl ?_
  refine GC.loc2 (tl_lay1 hj hj10 ha hl F ?_) ⟨rfl, rfl, rfl, rfl, trivial⟩
  (try simp only [mset_app, mset_mset, fup_app, aup_app, fup_fup, aup_aup, false_and, and_false, true_and, and_true, and_self, reduceIte, Nat.reduceEqDiff, reduceCtorEq, fup_10, fs_4_5, fs_4_6, fs_5_6, q1, q2, q3, q4, q5, q6, q7, q10, p1, p2, p3, p4, p5, p6, p7, hj10, as_1_4, as_6_7])
  refine g_iconst F a_M_layAll_118 ?_
  refine g_istore_n (ls' := [_, _, _, _]) F a_M_layAll_119 rfl rfl rfl ?_
  refine GC.loc2 (tl_lay2 hj hj10 ha hl F ?_) ⟨rfl, rfl, rfl, rfl, trivial⟩
  (try simp only [mset_app, mset_mset, fup_app, aup_app, fup_fup, aup_aup, false_and, and_false, true_and, and_true, and_self, reduceIte, Nat.reduceEqDiff, reduceCtorEq, fup_10, fs_4_5, fs_4_6, fs_5_6, q1, q2, q3, q4, q5, q6, q7, q10, p1, p2, p3, p4, p5, p6, p7, hj10, as_1_4, as_6_7])
  refine g_iconst F a_M_layAll_145 ?_
  refine g_istore_n (ls' := [_, _, _, _]) F a_M_layAll_146 rfl rfl rfl ?_
  refine GC.loc2 (tl_lay3 hj hj10 ha hl F ?_) ⟨rfl, rfl, rfl, rfl, trivial⟩
  (try simp only [mset_app, mset_mset, fup_app, aup_app, fup_fup, aup_aup, false_and, and_false, true_and, and_true, and_self, reduceIte, Nat.reduceEqDiff, reduceCtorEq, fup_10, fs_4_5, fs_4_6, fs_5_6, q1, q2, q3, q4, q5, q6, q7, q10, p1, p2, p3, p4, p5, p6, p7, hj10, as_1_4, as_6_7])
  refine g_iconst F a_M_layAll_173 ?_
  refine g_istore_n (ls' := [_, _, _, _]) F a_M_layAll_174 rfl rfl rfl ?_
  refine GC.loc2 (tl_lay4 hj hj10 ha hl F ?_) ⟨rfl, rfl, rfl, rfl, trivial⟩
  (try simp only [mset_app, mset_mset, fup_app, aup_app, fup_fup, aup_aup, false_and, and_false, true_and, and_true, and_self, reduceIte, Nat.reduceEqDiff, reduceCtorEq, fup_10, fs_4_5, fs_4_6, fs_5_6, q1, q2, q3, q4, q5, q6, q7, q10, p1, p2, p3, p4, p5, p6, p7, hj10, as_1_4, as_6_7])
  refine g_iconst F a_M_layAll_215 ?_
  refine g_istore_n (ls' := [_, _, _, _]) F a_M_layAll_216 rfl rfl rfl ?_
  refine GC.loc2 (tl_lay5 hj hj10 ha hl F ?_) ⟨rfl, rfl, rfl, rfl, trivial⟩
  (try simp only [mset_app, mset_mset, fup_app, aup_app, fup_fup, aup_aup, false_and, and_false, true_and, and_true, and_self, reduceIte, Nat.reduceEqDiff, reduceCtorEq, fup_10, fs_4_5, fs_4_6, fs_5_6, q1, q2, q3, q4, q5, q6, q7, q10, p1, p2, p3, p4, p5, p6, p7, hj10, as_1_4, as_6_7])
  refine g_ret F a_M_layAll_243 rfl ⟨Nat.le_refl _, Nat.le_refl _⟩ ?_
  exact k
set_option maxHeartbeats 2000000 in
theorem lp_tak1 {κ : Kx} {μ : MX} {Z : State → Prop} {m : Mem} {j : Nat} {a : Int} (hj : 9 ≤ j ∧ j < 14) (hj10 : j ≠ 10) (ha : 0 ≤ a ∧ a + 180 ≤ alen 10 j) (hl : (alen 10 j : Int) ≤ 1000) (k : GC κ μ Z 0 0 118 [some (.ref (ad κ 10 0)), some (.ref (aa κ 10 0 j)), some (vi a), none] [] (World κ (mset m 10 0 ((m 10 0).1, aup (aup ((m 10 0).2) 1 (cpyI ((m 10 0).2 j) ((m 10 0).2 1) (a + 16) 0 6)) 4 (cpyI ((m 10 0).2 j) ((m 10 0).2 4) (a + 22) 0 6))))) (F : Fx κ G_M_takeAll 1 0 0 μ) :
    ∀ (n : Nat) (t : Nat) (y : Int), 6 < t + n → t ≤ 6 → y = (t : Int) →  GC κ μ Z 0 0 78 [some (.ref (ad κ 10 0)), some (.ref (aa κ 10 0 j)), some (vi a), some (vi y)] [] (World κ (mset m 10 0 ((m 10 0).1, aup (aup ((m 10 0).2) 1 (cpyI ((m 10 0).2 j) ((m 10 0).2 1) (a + 16) 0 t)) 4 (cpyI ((m 10 0).2 j) ((m 10 0).2 4) (a + 22) 0 t)))) := by
  have q1 : ¬ 1 = j := by omega
  have q2 : ¬ 2 = j := by omega
  have q3 : ¬ 3 = j := by omega
  have q4 : ¬ 4 = j := by omega
  have q5 : ¬ 5 = j := by omega
  have q6 : ¬ 6 = j := by omega
  have q7 : ¬ 7 = j := by omega
  have q10 : ¬ 10 = j := by omega
  have p1 : ¬ j = 1 := by omega
  have p2 : ¬ j = 2 := by omega
  have p3 : ¬ j = 3 := by omega
  have p4 : ¬ j = 4 := by omega
  have p5 : ¬ j = 5 := by omega
  have p6 : ¬ j = 6 := by omega
  have p7 : ¬ j = 7 := by omega
  intro n
  induction n with
  | zero =>
    intro t y hn ht hy
    exact absurd hn (by omega)
  | succ n ih =>
    intro t y hn ht hy
    refine g_iload_n F a_M_takeAll_78 rfl ?_
    refine g_bipush F a_M_takeAll_79 (by decide) ?_
    refine g_icmp_ge F (by omega) (by omega) a_M_takeAll_81 (fun h81 => ?_) (fun h81 => ?_)
    · obtain rfl : t = 6 := by omega
      exact GC.loc2 k ⟨rfl, rfl, rfl, trivial⟩
    · refine g_aload_n F a_M_takeAll_84 rfl ?_
      refine g_get_10_10 F a_M_takeAll_85 fl_M_13 ?_
      (try simp only [mset_app, mset_mset, fup_app, aup_app, fup_fup, aup_aup, false_and, and_false, true_and, and_true, and_self, reduceIte, Nat.reduceEqDiff, reduceCtorEq, fup_10, fs_4_5, fs_4_6, fs_5_6, q1, q2, q3, q4, q5, q6, q7, q10, p1, p2, p3, p4, p5, p6, p7, hj10, as_1_4, as_6_7])
      refine g_iload_n F a_M_takeAll_88 rfl ?_
      refine g_aload_n F a_M_takeAll_89 rfl ?_
      refine g_iload_n F a_M_takeAll_90 rfl ?_
      refine g_bipush F a_M_takeAll_91 (by decide) ?_
      refine g_iadd F a_M_takeAll_93 ?_
      refine g_iload_n F a_M_takeAll_94 rfl ?_
      refine g_iadd F a_M_takeAll_95 ?_
      refine g_ildM F a_M_takeAll_96 (by first | exact ⟨by omega, by omega, by omega⟩ | omega) ?_
      (try simp only [mset_app, mset_mset, fup_app, aup_app, fup_fup, aup_aup, false_and, and_false, true_and, and_true, and_self, reduceIte, Nat.reduceEqDiff, reduceCtorEq, fup_10, fs_4_5, fs_4_6, fs_5_6, q1, q2, q3, q4, q5, q6, q7, q10, p1, p2, p3, p4, p5, p6, p7, hj10, as_1_4, as_6_7])
      refine g_ist_10_1 F a_M_takeAll_97 (by first | exact ⟨by omega, by omega, by omega⟩ | omega) ?_
      (try simp only [mset_app, mset_mset, fup_app, aup_app, fup_fup, aup_aup, false_and, and_false, true_and, and_true, and_self, reduceIte, Nat.reduceEqDiff, reduceCtorEq, fup_10, fs_4_5, fs_4_6, fs_5_6, q1, q2, q3, q4, q5, q6, q7, q10, p1, p2, p3, p4, p5, p6, p7, hj10, as_1_4, as_6_7])
      refine g_aload_n F a_M_takeAll_98 rfl ?_
      refine g_get_10_13 F a_M_takeAll_99 fl_M_22 ?_
      (try simp only [mset_app, mset_mset, fup_app, aup_app, fup_fup, aup_aup, false_and, and_false, true_and, and_true, and_self, reduceIte, Nat.reduceEqDiff, reduceCtorEq, fup_10, fs_4_5, fs_4_6, fs_5_6, q1, q2, q3, q4, q5, q6, q7, q10, p1, p2, p3, p4, p5, p6, p7, hj10, as_1_4, as_6_7])
      refine g_iload_n F a_M_takeAll_102 rfl ?_
      refine g_aload_n F a_M_takeAll_103 rfl ?_
      refine g_iload_n F a_M_takeAll_104 rfl ?_
      refine g_bipush F a_M_takeAll_105 (by decide) ?_
      refine g_iadd F a_M_takeAll_107 ?_
      refine g_iload_n F a_M_takeAll_108 rfl ?_
      refine g_iadd F a_M_takeAll_109 ?_
      refine g_ildM F a_M_takeAll_110 (by first | exact ⟨by omega, by omega, by omega⟩ | omega) ?_
      (try simp only [mset_app, mset_mset, fup_app, aup_app, fup_fup, aup_aup, false_and, and_false, true_and, and_true, and_self, reduceIte, Nat.reduceEqDiff, reduceCtorEq, fup_10, fs_4_5, fs_4_6, fs_5_6, q1, q2, q3, q4, q5, q6, q7, q10, p1, p2, p3, p4, p5, p6, p7, hj10, as_1_4, as_6_7])
      refine g_ist_10_4 F a_M_takeAll_111 (by first | exact ⟨by omega, by omega, by omega⟩ | omega) ?_
      (try simp only [mset_app, mset_mset, fup_app, aup_app, fup_fup, aup_aup, false_and, and_false, true_and, and_true, and_self, reduceIte, Nat.reduceEqDiff, reduceCtorEq, fup_10, fs_4_5, fs_4_6, fs_5_6, q1, q2, q3, q4, q5, q6, q7, q10, p1, p2, p3, p4, p5, p6, p7, hj10, as_1_4, as_6_7])
      refine g_iinc (ls' := [_, _, _, _]) F a_M_takeAll_112 rfl rfl rfl ?_
      refine g_goto F a_M_takeAll_115 ?_
      rw [cpy_up (f := ((m 10 0).2 j)) (sp := a + 16) (dp := 0) (n := t) (by omega) (by rw [hy])]
      rw [cpy_up (f := ((m 10 0).2 j)) (sp := a + 22) (dp := 0) (n := t) (by omega) (by rw [hy])]
      exact GC.loc2 (ih (t + 1) _ (by omega) (by omega) (by omega)) ⟨rfl, rfl, rfl, rfl, trivial⟩
set_option maxHeartbeats 1000000 in
theorem tl_tak1 {κ : Kx} {μ : MX} {Z : State → Prop} {m : Mem} {j : Nat} {a : Int} (hj : 9 ≤ j ∧ j < 14) (hj10 : j ≠ 10) (ha : 0 ≤ a ∧ a + 180 ≤ alen 10 j) (hl : (alen 10 j : Int) ≤ 1000) (F : Fx κ G_M_takeAll 1 0 0 μ) (k : GC κ μ Z 0 0 118 [some (.ref (ad κ 10 0)), some (.ref (aa κ 10 0 j)), some (vi a), none] [] (World κ (mset m 10 0 ((m 10 0).1, aup (aup ((m 10 0).2) 1 (cpyI ((m 10 0).2 j) ((m 10 0).2 1) (a + 16) 0 6)) 4 (cpyI ((m 10 0).2 j) ((m 10 0).2 4) (a + 22) 0 6))))) : GC κ μ Z 0 0 78 [some (.ref (ad κ 10 0)), some (.ref (aa κ 10 0 j)), some (vi a), some (vi 0)] [] (World κ m) := by
  have hz := lp_tak1 hj hj10 ha hl k F 7 0 0 (by decide) (by decide) rfl
  rw [cpyI_00, cpyI_00, aup_self, aup_self, mset_self] at hz
  exact hz
set_option maxHeartbeats 2000000 in
theorem lp_tak2 {κ : Kx} {μ : MX} {Z : State → Prop} {m : Mem} {j : Nat} {a : Int} (hj : 9 ≤ j ∧ j < 14) (hj10 : j ≠ 10) (ha : 0 ≤ a ∧ a + 180 ≤ alen 10 j) (hl : (alen 10 j : Int) ≤ 1000) (k : GC κ μ Z 0 0 145 [some (.ref (ad κ 10 0)), some (.ref (aa κ 10 0 j)), some (vi a), none] [] (World κ (mset m 10 0 ((m 10 0).1, aup ((m 10 0).2) 3 (cpyI ((m 10 0).2 j) ((m 10 0).2 3) (a + 28) 0 3))))) (F : Fx κ G_M_takeAll 1 0 0 μ) :
    ∀ (n : Nat) (t : Nat) (y : Int), 3 < t + n → t ≤ 3 → y = (t : Int) →  GC κ μ Z 0 0 120 [some (.ref (ad κ 10 0)), some (.ref (aa κ 10 0 j)), some (vi a), some (vi y)] [] (World κ (mset m 10 0 ((m 10 0).1, aup ((m 10 0).2) 3 (cpyI ((m 10 0).2 j) ((m 10 0).2 3) (a + 28) 0 t)))) := by
  have q1 : ¬ 1 = j := by omega
  have q2 : ¬ 2 = j := by omega
  have q3 : ¬ 3 = j := by omega
  have q4 : ¬ 4 = j := by omega
  have q5 : ¬ 5 = j := by omega
  have q6 : ¬ 6 = j := by omega
  have q7 : ¬ 7 = j := by omega
  have q10 : ¬ 10 = j := by omega
  have p1 : ¬ j = 1 := by omega
  have p2 : ¬ j = 2 := by omega
  have p3 : ¬ j = 3 := by omega
  have p4 : ¬ j = 4 := by omega
  have p5 : ¬ j = 5 := by omega
  have p6 : ¬ j = 6 := by omega
  have p7 : ¬ j = 7 := by omega
  intro n
  induction n with
  | zero =>
    intro t y hn ht hy
    exact absurd hn (by omega)
  | succ n ih =>
    intro t y hn ht hy
    refine g_iload_n F a_M_takeAll_120 rfl ?_
    refine g_iconst F a_M_takeAll_121 ?_
    refine g_icmp_ge F (by omega) (by omega) a_M_takeAll_122 (fun h122 => ?_) (fun h122 => ?_)
    · obtain rfl : t = 3 := by omega
      exact GC.loc2 k ⟨rfl, rfl, rfl, trivial⟩
    · refine g_aload_n F a_M_takeAll_125 rfl ?_
      refine g_get_10_12 F a_M_takeAll_126 fl_M_19 ?_
      (try simp only [mset_app, mset_mset, fup_app, aup_app, fup_fup, aup_aup, false_and, and_false, true_and, and_true, and_self, reduceIte, Nat.reduceEqDiff, reduceCtorEq, fup_10, fs_4_5, fs_4_6, fs_5_6, q1, q2, q3, q4, q5, q6, q7, q10, p1, p2, p3, p4, p5, p6, p7, hj10, as_1_4, as_6_7])
      refine g_iload_n F a_M_takeAll_129 rfl ?_
      refine g_aload_n F a_M_takeAll_130 rfl ?_
      refine g_iload_n F a_M_takeAll_131 rfl ?_
      refine g_bipush F a_M_takeAll_132 (by decide) ?_
      refine g_iadd F a_M_takeAll_134 ?_
      refine g_iload_n F a_M_takeAll_135 rfl ?_
      refine g_iadd F a_M_takeAll_136 ?_
      refine g_ildM F a_M_takeAll_137 (by first | exact ⟨by omega, by omega, by omega⟩ | omega) ?_
      (try simp only [mset_app, mset_mset, fup_app, aup_app, fup_fup, aup_aup, false_and, and_false, true_and, and_true, and_self, reduceIte, Nat.reduceEqDiff, reduceCtorEq, fup_10, fs_4_5, fs_4_6, fs_5_6, q1, q2, q3, q4, q5, q6, q7, q10, p1, p2, p3, p4, p5, p6, p7, hj10, as_1_4, as_6_7])
      refine g_ist_10_3 F a_M_takeAll_138 (by first | exact ⟨by omega, by omega, by omega⟩ | omega) ?_
      (try simp only [mset_app, mset_mset, fup_app, aup_app, fup_fup, aup_aup, false_and, and_false, true_and, and_true, and_self, reduceIte, Nat.reduceEqDiff, reduceCtorEq, fup_10, fs_4_5, fs_4_6, fs_5_6, q1, q2, q3, q4, q5, q6, q7, q10, p1, p2, p3, p4, p5, p6, p7, hj10, as_1_4, as_6_7])
      refine g_iinc (ls' := [_, _, _, _]) F a_M_takeAll_139 rfl rfl rfl ?_
      refine g_goto F a_M_takeAll_142 ?_
      rw [cpy_up (f := ((m 10 0).2 j)) (sp := a + 28) (dp := 0) (n := t) (by omega) (by rw [hy])]
      exact GC.loc2 (ih (t + 1) _ (by omega) (by omega) (by omega)) ⟨rfl, rfl, rfl, rfl, trivial⟩
set_option maxHeartbeats 1000000 in
theorem tl_tak2 {κ : Kx} {μ : MX} {Z : State → Prop} {m : Mem} {j : Nat} {a : Int} (hj : 9 ≤ j ∧ j < 14) (hj10 : j ≠ 10) (ha : 0 ≤ a ∧ a + 180 ≤ alen 10 j) (hl : (alen 10 j : Int) ≤ 1000) (F : Fx κ G_M_takeAll 1 0 0 μ) (k : GC κ μ Z 0 0 145 [some (.ref (ad κ 10 0)), some (.ref (aa κ 10 0 j)), some (vi a), none] [] (World κ (mset m 10 0 ((m 10 0).1, aup ((m 10 0).2) 3 (cpyI ((m 10 0).2 j) ((m 10 0).2 3) (a + 28) 0 3))))) : GC κ μ Z 0 0 120 [some (.ref (ad κ 10 0)), some (.ref (aa κ 10 0 j)), some (vi a), some (vi 0)] [] (World κ m) := by
  have hz := lp_tak2 hj hj10 ha hl k F 4 0 0 (by decide) (by decide) rfl
  rw [cpyI_00, aup_self, mset_self] at hz
  exact hz
set_option maxHeartbeats 2000000 in
theorem lp_tak3 {κ : Kx} {μ : MX} {Z : State → Prop} {m : Mem} {j : Nat} {a : Int} (hj : 9 ≤ j ∧ j < 14) (hj10 : j ≠ 10) (ha : 0 ≤ a ∧ a + 180 ≤ alen 10 j) (hl : (alen 10 j : Int) ≤ 1000) (k : GC κ μ Z 0 0 173 [some (.ref (ad κ 10 0)), some (.ref (aa κ 10 0 j)), some (vi a), none] [] (World κ (mset m 10 0 ((m 10 0).1, aup ((m 10 0).2) 5 (cpyI ((m 10 0).2 j) ((m 10 0).2 5) (a + 31) 0 18))))) (F : Fx κ G_M_takeAll 1 0 0 μ) :
    ∀ (n : Nat) (t : Nat) (y : Int), 18 < t + n → t ≤ 18 → y = (t : Int) →  GC κ μ Z 0 0 147 [some (.ref (ad κ 10 0)), some (.ref (aa κ 10 0 j)), some (vi a), some (vi y)] [] (World κ (mset m 10 0 ((m 10 0).1, aup ((m 10 0).2) 5 (cpyI ((m 10 0).2 j) ((m 10 0).2 5) (a + 31) 0 t)))) := by
  have q1 : ¬ 1 = j := by omega
  have q2 : ¬ 2 = j := by omega
  have q3 : ¬ 3 = j := by omega
  have q4 : ¬ 4 = j := by omega
  have q5 : ¬ 5 = j := by omega
  have q6 : ¬ 6 = j := by omega
  have q7 : ¬ 7 = j := by omega
  have q10 : ¬ 10 = j := by omega
  have p1 : ¬ j = 1 := by omega
  have p2 : ¬ j = 2 := by omega
  have p3 : ¬ j = 3 := by omega
  have p4 : ¬ j = 4 := by omega
  have p5 : ¬ j = 5 := by omega
  have p6 : ¬ j = 6 := by omega
  have p7 : ¬ j = 7 := by omega
  intro n
  induction n with
  | zero =>
    intro t y hn ht hy
    exact absurd hn (by omega)
  | succ n ih =>
    intro t y hn ht hy
    refine g_iload_n F a_M_takeAll_147 rfl ?_
    refine g_bipush F a_M_takeAll_148 (by decide) ?_
    refine g_icmp_ge F (by omega) (by omega) a_M_takeAll_150 (fun h150 => ?_) (fun h150 => ?_)
    · obtain rfl : t = 18 := by omega
      exact GC.loc2 k ⟨rfl, rfl, rfl, trivial⟩
    · refine g_aload_n F a_M_takeAll_153 rfl ?_
      refine g_get_10_14 F a_M_takeAll_154 fl_M_25 ?_
      (try simp only [mset_app, mset_mset, fup_app, aup_app, fup_fup, aup_aup, false_and, and_false, true_and, and_true, and_self, reduceIte, Nat.reduceEqDiff, reduceCtorEq, fup_10, fs_4_5, fs_4_6, fs_5_6, q1, q2, q3, q4, q5, q6, q7, q10, p1, p2, p3, p4, p5, p6, p7, hj10, as_1_4, as_6_7])
      refine g_iload_n F a_M_takeAll_157 rfl ?_
      refine g_aload_n F a_M_takeAll_158 rfl ?_
      refine g_iload_n F a_M_takeAll_159 rfl ?_
      refine g_bipush F a_M_takeAll_160 (by decide) ?_
      refine g_iadd F a_M_takeAll_162 ?_
      refine g_iload_n F a_M_takeAll_163 rfl ?_
      refine g_iadd F a_M_takeAll_164 ?_
      refine g_ildM F a_M_takeAll_165 (by first | exact ⟨by omega, by omega, by omega⟩ | omega) ?_
      (try simp only [mset_app, mset_mset, fup_app, aup_app, fup_fup, aup_aup, false_and, and_false, true_and, and_true, and_self, reduceIte, Nat.reduceEqDiff, reduceCtorEq, fup_10, fs_4_5, fs_4_6, fs_5_6, q1, q2, q3, q4, q5, q6, q7, q10, p1, p2, p3, p4, p5, p6, p7, hj10, as_1_4, as_6_7])
      refine g_ist_10_5 F a_M_takeAll_166 (by first | exact ⟨by omega, by omega, by omega⟩ | omega) ?_
      (try simp only [mset_app, mset_mset, fup_app, aup_app, fup_fup, aup_aup, false_and, and_false, true_and, and_true, and_self, reduceIte, Nat.reduceEqDiff, reduceCtorEq, fup_10, fs_4_5, fs_4_6, fs_5_6, q1, q2, q3, q4, q5, q6, q7, q10, p1, p2, p3, p4, p5, p6, p7, hj10, as_1_4, as_6_7])
      refine g_iinc (ls' := [_, _, _, _]) F a_M_takeAll_167 rfl rfl rfl ?_
      refine g_goto F a_M_takeAll_170 ?_
      rw [cpy_up (f := ((m 10 0).2 j)) (sp := a + 31) (dp := 0) (n := t) (by omega) (by rw [hy])]
      exact GC.loc2 (ih (t + 1) _ (by omega) (by omega) (by omega)) ⟨rfl, rfl, rfl, rfl, trivial⟩
set_option maxHeartbeats 1000000 in
theorem tl_tak3 {κ : Kx} {μ : MX} {Z : State → Prop} {m : Mem} {j : Nat} {a : Int} (hj : 9 ≤ j ∧ j < 14) (hj10 : j ≠ 10) (ha : 0 ≤ a ∧ a + 180 ≤ alen 10 j) (hl : (alen 10 j : Int) ≤ 1000) (F : Fx κ G_M_takeAll 1 0 0 μ) (k : GC κ μ Z 0 0 173 [some (.ref (ad κ 10 0)), some (.ref (aa κ 10 0 j)), some (vi a), none] [] (World κ (mset m 10 0 ((m 10 0).1, aup ((m 10 0).2) 5 (cpyI ((m 10 0).2 j) ((m 10 0).2 5) (a + 31) 0 18))))) : GC κ μ Z 0 0 147 [some (.ref (ad κ 10 0)), some (.ref (aa κ 10 0 j)), some (vi a), some (vi 0)] [] (World κ m) := by
  have hz := lp_tak3 hj hj10 ha hl k F 19 0 0 (by decide) (by decide) rfl
  rw [cpyI_00, aup_self, mset_self] at hz
  exact hz
set_option maxHeartbeats 2000000 in
theorem lp_tak4 {κ : Kx} {μ : MX} {Z : State → Prop} {m : Mem} {j : Nat} {a : Int} (hj : 9 ≤ j ∧ j < 14) (hj10 : j ≠ 10) (ha : 0 ≤ a ∧ a + 180 ≤ alen 10 j) (hl : (alen 10 j : Int) ≤ 1000) (k : GC κ μ Z 0 0 215 [some (.ref (ad κ 10 0)), some (.ref (aa κ 10 0 j)), some (vi a), none] [] (World κ (mset m 10 0 ((m 10 0).1, aup (aup ((m 10 0).2) 6 (cpyI ((m 10 0).2 j) ((m 10 0).2 6) (a + 49) 0 24)) 7 (cpyI ((m 10 0).2 j) ((m 10 0).2 7) (a + 73) 0 24))))) (F : Fx κ G_M_takeAll 1 0 0 μ) :
    ∀ (n : Nat) (t : Nat) (y : Int), 24 < t + n → t ≤ 24 → y = (t : Int) →  GC κ μ Z 0 0 175 [some (.ref (ad κ 10 0)), some (.ref (aa κ 10 0 j)), some (vi a), some (vi y)] [] (World κ (mset m 10 0 ((m 10 0).1, aup (aup ((m 10 0).2) 6 (cpyI ((m 10 0).2 j) ((m 10 0).2 6) (a + 49) 0 t)) 7 (cpyI ((m 10 0).2 j) ((m 10 0).2 7) (a + 73) 0 t)))) := by
  have q1 : ¬ 1 = j := by omega
  have q2 : ¬ 2 = j := by omega
  have q3 : ¬ 3 = j := by omega
  have q4 : ¬ 4 = j := by omega
  have q5 : ¬ 5 = j := by omega
  have q6 : ¬ 6 = j := by omega
  have q7 : ¬ 7 = j := by omega
  have q10 : ¬ 10 = j := by omega
  have p1 : ¬ j = 1 := by omega
  have p2 : ¬ j = 2 := by omega
  have p3 : ¬ j = 3 := by omega
  have p4 : ¬ j = 4 := by omega
  have p5 : ¬ j = 5 := by omega
  have p6 : ¬ j = 6 := by omega
  have p7 : ¬ j = 7 := by omega
  intro n
  induction n with
  | zero =>
    intro t y hn ht hy
    exact absurd hn (by omega)
  | succ n ih =>
    intro t y hn ht hy
    refine g_iload_n F a_M_takeAll_175 rfl ?_
    refine g_bipush F a_M_takeAll_176 (by decide) ?_
    refine g_icmp_ge F (by omega) (by omega) a_M_takeAll_178 (fun h178 => ?_) (fun h178 => ?_)
    · obtain rfl : t = 24 := by omega
      exact GC.loc2 k ⟨rfl, rfl, rfl, trivial⟩
    · refine g_aload_n F a_M_takeAll_181 rfl ?_
      refine g_get_10_15 F a_M_takeAll_182 fl_M_28 ?_
      (try simp only [mset_app, mset_mset, fup_app, aup_app, fup_fup, aup_aup, false_and, and_false, true_and, and_true, and_self, reduceIte, Nat.reduceEqDiff, reduceCtorEq, fup_10, fs_4_5, fs_4_6, fs_5_6, q1, q2, q3, q4, q5, q6, q7, q10, p1, p2, p3, p4, p5, p6, p7, hj10, as_1_4, as_6_7])
      refine g_iload_n F a_M_takeAll_185 rfl ?_
      refine g_aload_n F a_M_takeAll_186 rfl ?_
      refine g_iload_n F a_M_takeAll_187 rfl ?_
      refine g_bipush F a_M_takeAll_188 (by decide) ?_
      refine g_iadd F a_M_takeAll_190 ?_
      refine g_iload_n F a_M_takeAll_191 rfl ?_
      refine g_iadd F a_M_takeAll_192 ?_
      refine g_ildM F a_M_takeAll_193 (by first | exact ⟨by omega, by omega, by omega⟩ | omega) ?_
      (try simp only [mset_app, mset_mset, fup_app, aup_app, fup_fup, aup_aup, false_and, and_false, true_and, and_true, and_self, reduceIte, Nat.reduceEqDiff, reduceCtorEq, fup_10, fs_4_5, fs_4_6, fs_5_6, q1, q2, q3, q4, q5, q6, q7, q10, p1, p2, p3, p4, p5, p6, p7, hj10, as_1_4, as_6_7])
      refine g_ist_10_6 F a_M_takeAll_194 (by first | exact ⟨by omega, by omega, by omega⟩ | omega) ?_
      (try simp only [mset_app, mset_mset, fup_app, aup_app, fup_fup, aup_aup, false_and, and_false, true_and, and_true, and_self, reduceIte, Nat.reduceEqDiff, reduceCtorEq, fup_10, fs_4_5, fs_4_6, fs_5_6, q1, q2, q3, q4, q5, q6, q7, q10, p1, p2, p3, p4, p5, p6, p7, hj10, as_1_4, as_6_7])
      refine g_aload_n F a_M_takeAll_195 rfl ?_
      refine g_get_10_16 F a_M_takeAll_196 fl_M_31 ?_
      (try simp only [mset_app, mset_mset, fup_app, aup_app, fup_fup, aup_aup, false_and, and_false, true_and, and_true, and_self, reduceIte, Nat.reduceEqDiff, reduceCtorEq, fup_10, fs_4_5, fs_4_6, fs_5_6, q1, q2, q3, q4, q5, q6, q7, q10, p1, p2, p3, p4, p5, p6, p7, hj10, as_1_4, as_6_7])
      refine g_iload_n F a_M_takeAll_199 rfl ?_
      refine g_aload_n F a_M_takeAll_200 rfl ?_
      refine g_iload_n F a_M_takeAll_201 rfl ?_
      refine g_bipush F a_M_takeAll_202 (by decide) ?_
      refine g_iadd F a_M_takeAll_204 ?_
      refine g_iload_n F a_M_takeAll_205 rfl ?_
      refine g_iadd F a_M_takeAll_206 ?_
      refine g_ildM F a_M_takeAll_207 (by first | exact ⟨by omega, by omega, by omega⟩ | omega) ?_
      (try simp only [mset_app, mset_mset, fup_app, aup_app, fup_fup, aup_aup, false_and, and_false, true_and, and_true, and_self, reduceIte, Nat.reduceEqDiff, reduceCtorEq, fup_10, fs_4_5, fs_4_6, fs_5_6, q1, q2, q3, q4, q5, q6, q7, q10, p1, p2, p3, p4, p5, p6, p7, hj10, as_1_4, as_6_7])
      refine g_ist_10_7 F a_M_takeAll_208 (by first | exact ⟨by omega, by omega, by omega⟩ | omega) ?_
      (try simp only [mset_app, mset_mset, fup_app, aup_app, fup_fup, aup_aup, false_and, and_false, true_and, and_true, and_self, reduceIte, Nat.reduceEqDiff, reduceCtorEq, fup_10, fs_4_5, fs_4_6, fs_5_6, q1, q2, q3, q4, q5, q6, q7, q10, p1, p2, p3, p4, p5, p6, p7, hj10, as_1_4, as_6_7])
      refine g_iinc (ls' := [_, _, _, _]) F a_M_takeAll_209 rfl rfl rfl ?_
      refine g_goto F a_M_takeAll_212 ?_
      rw [cpy_up (f := ((m 10 0).2 j)) (sp := a + 49) (dp := 0) (n := t) (by omega) (by rw [hy])]
      rw [cpy_up (f := ((m 10 0).2 j)) (sp := a + 73) (dp := 0) (n := t) (by omega) (by rw [hy])]
      exact GC.loc2 (ih (t + 1) _ (by omega) (by omega) (by omega)) ⟨rfl, rfl, rfl, rfl, trivial⟩
set_option maxHeartbeats 1000000 in
theorem tl_tak4 {κ : Kx} {μ : MX} {Z : State → Prop} {m : Mem} {j : Nat} {a : Int} (hj : 9 ≤ j ∧ j < 14) (hj10 : j ≠ 10) (ha : 0 ≤ a ∧ a + 180 ≤ alen 10 j) (hl : (alen 10 j : Int) ≤ 1000) (F : Fx κ G_M_takeAll 1 0 0 μ) (k : GC κ μ Z 0 0 215 [some (.ref (ad κ 10 0)), some (.ref (aa κ 10 0 j)), some (vi a), none] [] (World κ (mset m 10 0 ((m 10 0).1, aup (aup ((m 10 0).2) 6 (cpyI ((m 10 0).2 j) ((m 10 0).2 6) (a + 49) 0 24)) 7 (cpyI ((m 10 0).2 j) ((m 10 0).2 7) (a + 73) 0 24))))) : GC κ μ Z 0 0 175 [some (.ref (ad κ 10 0)), some (.ref (aa κ 10 0 j)), some (vi a), some (vi 0)] [] (World κ m) := by
  have hz := lp_tak4 hj hj10 ha hl k F 25 0 0 (by decide) (by decide) rfl
  rw [cpyI_00, cpyI_00, aup_self, aup_self, mset_self] at hz
  exact hz
set_option maxHeartbeats 2000000 in
theorem lp_tak5 {κ : Kx} {μ : MX} {Z : State → Prop} {m : Mem} {j : Nat} {a : Int} (hj : 9 ≤ j ∧ j < 14) (hj10 : j ≠ 10) (ha : 0 ≤ a ∧ a + 180 ≤ alen 10 j) (hl : (alen 10 j : Int) ≤ 1000) (k : GC κ μ Z 0 0 243 [some (.ref (ad κ 10 0)), some (.ref (aa κ 10 0 j)), some (vi a), none] [] (World κ (mset m 10 0 ((m 10 0).1, aup ((m 10 0).2) 10 (cpyI ((m 10 0).2 j) ((m 10 0).2 10) (a + 97) 0 72))))) (F : Fx κ G_M_takeAll 1 0 0 μ) :
    ∀ (n : Nat) (t : Nat) (y : Int), 72 < t + n → t ≤ 72 → y = (t : Int) →  GC κ μ Z 0 0 217 [some (.ref (ad κ 10 0)), some (.ref (aa κ 10 0 j)), some (vi a), some (vi y)] [] (World κ (mset m 10 0 ((m 10 0).1, aup ((m 10 0).2) 10 (cpyI ((m 10 0).2 j) ((m 10 0).2 10) (a + 97) 0 t)))) := by
  have q1 : ¬ 1 = j := by omega
  have q2 : ¬ 2 = j := by omega
  have q3 : ¬ 3 = j := by omega
  have q4 : ¬ 4 = j := by omega
  have q5 : ¬ 5 = j := by omega
  have q6 : ¬ 6 = j := by omega
  have q7 : ¬ 7 = j := by omega
  have q10 : ¬ 10 = j := by omega
  have p1 : ¬ j = 1 := by omega
  have p2 : ¬ j = 2 := by omega
  have p3 : ¬ j = 3 := by omega
  have p4 : ¬ j = 4 := by omega
  have p5 : ¬ j = 5 := by omega
  have p6 : ¬ j = 6 := by omega
  have p7 : ¬ j = 7 := by omega
  intro n
  induction n with
  | zero =>
    intro t y hn ht hy
    exact absurd hn (by omega)
  | succ n ih =>
    intro t y hn ht hy
    refine g_iload_n F a_M_takeAll_217 rfl ?_
    refine g_bipush F a_M_takeAll_218 (by decide) ?_
    refine g_icmp_ge F (by omega) (by omega) a_M_takeAll_220 (fun h220 => ?_) (fun h220 => ?_)
    · obtain rfl : t = 72 := by omega
      exact GC.loc2 k ⟨rfl, rfl, rfl, trivial⟩
    · refine g_aload_n F a_M_takeAll_223 rfl ?_
      refine g_get_10_22 F a_M_takeAll_224 fl_M_40 ?_
      (try simp only [mset_app, mset_mset, fup_app, aup_app, fup_fup, aup_aup, false_and, and_false, true_and, and_true, and_self, reduceIte, Nat.reduceEqDiff, reduceCtorEq, fup_10, fs_4_5, fs_4_6, fs_5_6, q1, q2, q3, q4, q5, q6, q7, q10, p1, p2, p3, p4, p5, p6, p7, hj10, as_1_4, as_6_7])
      refine g_iload_n F a_M_takeAll_227 rfl ?_
      refine g_aload_n F a_M_takeAll_228 rfl ?_
      refine g_iload_n F a_M_takeAll_229 rfl ?_
      refine g_bipush F a_M_takeAll_230 (by decide) ?_
      refine g_iadd F a_M_takeAll_232 ?_
      refine g_iload_n F a_M_takeAll_233 rfl ?_
      refine g_iadd F a_M_takeAll_234 ?_
      refine g_ildM F a_M_takeAll_235 (by first | exact ⟨by omega, by omega, by omega⟩ | omega) ?_
      (try simp only [mset_app, mset_mset, fup_app, aup_app, fup_fup, aup_aup, false_and, and_false, true_and, and_true, and_self, reduceIte, Nat.reduceEqDiff, reduceCtorEq, fup_10, fs_4_5, fs_4_6, fs_5_6, q1, q2, q3, q4, q5, q6, q7, q10, p1, p2, p3, p4, p5, p6, p7, hj10, as_1_4, as_6_7])
      refine g_ist_10_10 F a_M_takeAll_236 (by first | exact ⟨by omega, by omega, by omega⟩ | omega) ?_
      (try simp only [mset_app, mset_mset, fup_app, aup_app, fup_fup, aup_aup, false_and, and_false, true_and, and_true, and_self, reduceIte, Nat.reduceEqDiff, reduceCtorEq, fup_10, fs_4_5, fs_4_6, fs_5_6, q1, q2, q3, q4, q5, q6, q7, q10, p1, p2, p3, p4, p5, p6, p7, hj10, as_1_4, as_6_7])
      refine g_iinc (ls' := [_, _, _, _]) F a_M_takeAll_237 rfl rfl rfl ?_
      refine g_goto F a_M_takeAll_240 ?_
      rw [cpy_up (f := ((m 10 0).2 j)) (sp := a + 97) (dp := 0) (n := t) (by omega) (by rw [hy])]
      exact GC.loc2 (ih (t + 1) _ (by omega) (by omega) (by omega)) ⟨rfl, rfl, rfl, rfl, trivial⟩
set_option maxHeartbeats 1000000 in
theorem tl_tak5 {κ : Kx} {μ : MX} {Z : State → Prop} {m : Mem} {j : Nat} {a : Int} (hj : 9 ≤ j ∧ j < 14) (hj10 : j ≠ 10) (ha : 0 ≤ a ∧ a + 180 ≤ alen 10 j) (hl : (alen 10 j : Int) ≤ 1000) (F : Fx κ G_M_takeAll 1 0 0 μ) (k : GC κ μ Z 0 0 243 [some (.ref (ad κ 10 0)), some (.ref (aa κ 10 0 j)), some (vi a), none] [] (World κ (mset m 10 0 ((m 10 0).1, aup ((m 10 0).2) 10 (cpyI ((m 10 0).2 j) ((m 10 0).2 10) (a + 97) 0 72))))) : GC κ μ Z 0 0 217 [some (.ref (ad κ 10 0)), some (.ref (aa κ 10 0 j)), some (vi a), some (vi 0)] [] (World κ m) := by
  have hz := lp_tak5 hj hj10 ha hl k F 73 0 0 (by decide) (by decide) rfl
  rw [cpyI_00, aup_self, mset_self] at hz
  exact hz
theorem stM_A {M S : Rc} {j : Nat} (h : ¬ j = 2) : (stM M S).2 j = M.2 j := by
  show aup M.2 2 (S.2 2) j = M.2 j
  rw [aup_app, if_neg h]
def tkA (M : Rc) (g : Int → Int) (a : Int) : Rc := (fup (fup (fup (fup (fup (fup (fup (stM M (tkS g a (shM M))).1 1 (g (a + 9))) 2 (g (a + 10))) 3 (g (a + 11))) 7 (g (a + 12))) 8 (g (a + 13))) 9 (g (a + 14))) 23 (g (a + 15)), aup (aup (aup (aup (aup (aup (aup (stM M (tkS g a (shM M))).2 1 (cpyI g (M.2 1) (a + 16) 0 6)) 4 (cpyI g (M.2 4) (a + 22) 0 6)) 3 (cpyI g (M.2 3) (a + 28) 0 3)) 5 (cpyI g (M.2 5) (a + 31) 0 18)) 6 (cpyI g (M.2 6) (a + 49) 0 24)) 7 (cpyI g (M.2 7) (a + 73) 0 24)) 10 (cpyI g (M.2 10) (a + 97) 0 72))
set_option maxHeartbeats 1000000 in
theorem sp_M_takeAll {κ : Kx} {Q : Option Value → (Heap → Prop) → Prop} {m : Mem} {j : Nat} {a : Int} (hj : 9 ≤ j ∧ j < 14) (hj10 : j ≠ 10) (ha : 0 ≤ a ∧ a + 180 ≤ alen 10 j) (hl : (alen 10 j : Int) ≤ 1000) (k : Q none (World κ (mset m 10 0 (tkA (m 10 0) ((m 10 0).2 j) a)))) : GG κ G_M_takeAll 1 0 0 [.ref (ad κ 10 0), .ref (aa κ 10 0 j), vi a] (World κ m) Q := by
  have q1 : ¬ 1 = j := by omega
  have q2 : ¬ 2 = j := by omega
  have q3 : ¬ 3 = j := by omega
  have q4 : ¬ 4 = j := by omega
  have q5 : ¬ 5 = j := by omega
  have q6 : ¬ 6 = j := by omega
  have q7 : ¬ 7 = j := by omega
  have q10 : ¬ 10 = j := by omega
  have p1 : ¬ j = 1 := by omega
  have p2 : ¬ j = 2 := by omega
  have p3 : ¬ j = 3 := by omega
  have p4 : ¬ j = 4 := by omega
  have p5 : ¬ j = 5 := by omega
  have p6 : ¬ j = 6 := by omega
  have p7 : ¬ j = 7 := by omega
  refine GG.intro (ls := [some _, some _, some _, none]) (Nat.le_of_ble_eq_true rfl) rfl (fun μ F => ?_)
  refine g_aload_n F a_M_takeAll_0 rfl ?_
  refine g_aload_n F a_M_takeAll_1 rfl ?_
  refine g_iload_n F a_M_takeAll_2 rfl ?_
  refine g_v2 F a_M_takeAll_3 vc_M_239 mk_M_takes ob_10 ck_10.1 rfl rfl (by decide) ⟨Nat.le_refl _, Nat.le_refl _⟩ rfl (Nat.le_of_ble_eq_true rfl) (sp_M_takes hj (by omega) hl (GCr.n ?_))
  (try simp only [mset_app, mset_mset, fup_app, aup_app, fup_fup, aup_aup, false_and, and_false, true_and, and_true, and_self, reduceIte, Nat.reduceEqDiff, reduceCtorEq, fup_10, fs_4_5, fs_4_6, fs_5_6, q1, q2, q3, q4, q5, q6, q7, q10, p1, p2, p3, p4, p5, p6, p7, hj10, as_1_4, as_6_7, stM_A p2, stM_A (M := m 10 0) (j := 1) (by decide), stM_A (M := m 10 0) (j := 3) (by decide), stM_A (M := m 10 0) (j := 4) (by decide), stM_A (M := m 10 0) (j := 5) (by decide), stM_A (M := m 10 0) (j := 6) (by decide), stM_A (M := m 10 0) (j := 7) (by decide), stM_A (M := m 10 0) (j := 10) (by decide)])
  refine g_aload_n F a_M_takeAll_6 rfl ?_
  refine g_aload_n F a_M_takeAll_7 rfl ?_
  refine g_iload_n F a_M_takeAll_8 rfl ?_
  refine g_bipush F a_M_takeAll_9 (by decide) ?_
  refine g_iadd F a_M_takeAll_11 ?_
  refine g_ildM F a_M_takeAll_12 ⟨by omega, by omega, by omega⟩ ?_
  (try simp only [mset_app, mset_mset, fup_app, aup_app, fup_fup, aup_aup, false_and, and_false, true_and, and_true, and_self, reduceIte, Nat.reduceEqDiff, reduceCtorEq, fup_10, fs_4_5, fs_4_6, fs_5_6, q1, q2, q3, q4, q5, q6, q7, q10, p1, p2, p3, p4, p5, p6, p7, hj10, as_1_4, as_6_7, stM_A p2, stM_A (M := m 10 0) (j := 1) (by decide), stM_A (M := m 10 0) (j := 3) (by decide), stM_A (M := m 10 0) (j := 4) (by decide), stM_A (M := m 10 0) (j := 5) (by decide), stM_A (M := m 10 0) (j := 6) (by decide), stM_A (M := m 10 0) (j := 7) (by decide), stM_A (M := m 10 0) (j := 10) (by decide)])
  refine g_put_10_1 F a_M_takeAll_13 fl_M_60 ?_
  (try simp only [mset_app, mset_mset, fup_app, aup_app, fup_fup, aup_aup, false_and, and_false, true_and, and_true, and_self, reduceIte, Nat.reduceEqDiff, reduceCtorEq, fup_10, fs_4_5, fs_4_6, fs_5_6, q1, q2, q3, q4, q5, q6, q7, q10, p1, p2, p3, p4, p5, p6, p7, hj10, as_1_4, as_6_7, stM_A p2, stM_A (M := m 10 0) (j := 1) (by decide), stM_A (M := m 10 0) (j := 3) (by decide), stM_A (M := m 10 0) (j := 4) (by decide), stM_A (M := m 10 0) (j := 5) (by decide), stM_A (M := m 10 0) (j := 6) (by decide), stM_A (M := m 10 0) (j := 7) (by decide), stM_A (M := m 10 0) (j := 10) (by decide)])
  refine g_aload_n F a_M_takeAll_16 rfl ?_
  refine g_aload_n F a_M_takeAll_17 rfl ?_
  refine g_iload_n F a_M_takeAll_18 rfl ?_
  refine g_bipush F a_M_takeAll_19 (by decide) ?_
  refine g_iadd F a_M_takeAll_21 ?_
  refine g_ildM F a_M_takeAll_22 ⟨by omega, by omega, by omega⟩ ?_
  (try simp only [mset_app, mset_mset, fup_app, aup_app, fup_fup, aup_aup, false_and, and_false, true_and, and_true, and_self, reduceIte, Nat.reduceEqDiff, reduceCtorEq, fup_10, fs_4_5, fs_4_6, fs_5_6, q1, q2, q3, q4, q5, q6, q7, q10, p1, p2, p3, p4, p5, p6, p7, hj10, as_1_4, as_6_7, stM_A p2, stM_A (M := m 10 0) (j := 1) (by decide), stM_A (M := m 10 0) (j := 3) (by decide), stM_A (M := m 10 0) (j := 4) (by decide), stM_A (M := m 10 0) (j := 5) (by decide), stM_A (M := m 10 0) (j := 6) (by decide), stM_A (M := m 10 0) (j := 7) (by decide), stM_A (M := m 10 0) (j := 10) (by decide)])
  refine g_put_10_2 F a_M_takeAll_23 fl_M_64 ?_
  (try simp only [mset_app, mset_mset, fup_app, aup_app, fup_fup, aup_aup, false_and, and_false, true_and, and_true, and_self, reduceIte, Nat.reduceEqDiff, reduceCtorEq, fup_10, fs_4_5, fs_4_6, fs_5_6, q1, q2, q3, q4, q5, q6, q7, q10, p1, p2, p3, p4, p5, p6, p7, hj10, as_1_4, as_6_7, stM_A p2, stM_A (M := m 10 0) (j := 1) (by decide), stM_A (M := m 10 0) (j := 3) (by decide), stM_A (M := m 10 0) (j := 4) (by decide), stM_A (M := m 10 0) (j := 5) (by decide), stM_A (M := m 10 0) (j := 6) (by decide), stM_A (M := m 10 0) (j := 7) (by decide), stM_A (M := m 10 0) (j := 10) (by decide)])
  refine g_aload_n F a_M_takeAll_26 rfl ?_
  refine g_aload_n F a_M_takeAll_27 rfl ?_
  refine g_iload_n F a_M_takeAll_28 rfl ?_
  refine g_bipush F a_M_takeAll_29 (by decide) ?_
  refine g_iadd F a_M_takeAll_31 ?_
  refine g_ildM F a_M_takeAll_32 ⟨by omega, by omega, by omega⟩ ?_
  (try simp only [mset_app, mset_mset, fup_app, aup_app, fup_fup, aup_aup, false_and, and_false, true_and, and_true, and_self, reduceIte, Nat.reduceEqDiff, reduceCtorEq, fup_10, fs_4_5, fs_4_6, fs_5_6, q1, q2, q3, q4, q5, q6, q7, q10, p1, p2, p3, p4, p5, p6, p7, hj10, as_1_4, as_6_7, stM_A p2, stM_A (M := m 10 0) (j := 1) (by decide), stM_A (M := m 10 0) (j := 3) (by decide), stM_A (M := m 10 0) (j := 4) (by decide), stM_A (M := m 10 0) (j := 5) (by decide), stM_A (M := m 10 0) (j := 6) (by decide), stM_A (M := m 10 0) (j := 7) (by decide), stM_A (M := m 10 0) (j := 10) (by decide)])
  refine g_put_10_3 F a_M_takeAll_33 fl_M_67 ?_
  (try simp only [mset_app, mset_mset, fup_app, aup_app, fup_fup, aup_aup, false_and, and_false, true_and, and_true, and_self, reduceIte, Nat.reduceEqDiff, reduceCtorEq, fup_10, fs_4_5, fs_4_6, fs_5_6, q1, q2, q3, q4, q5, q6, q7, q10, p1, p2, p3, p4, p5, p6, p7, hj10, as_1_4, as_6_7, stM_A p2, stM_A (M := m 10 0) (j := 1) (by decide), stM_A (M := m 10 0) (j := 3) (by decide), stM_A (M := m 10 0) (j := 4) (by decide), stM_A (M := m 10 0) (j := 5) (by decide), stM_A (M := m 10 0) (j := 6) (by decide), stM_A (M := m 10 0) (j := 7) (by decide), stM_A (M := m 10 0) (j := 10) (by decide)])
  refine g_aload_n F a_M_takeAll_36 rfl ?_
  refine g_aload_n F a_M_takeAll_37 rfl ?_
  refine g_iload_n F a_M_takeAll_38 rfl ?_
  refine g_bipush F a_M_takeAll_39 (by decide) ?_
  refine g_iadd F a_M_takeAll_41 ?_
  refine g_ildM F a_M_takeAll_42 ⟨by omega, by omega, by omega⟩ ?_
  (try simp only [mset_app, mset_mset, fup_app, aup_app, fup_fup, aup_aup, false_and, and_false, true_and, and_true, and_self, reduceIte, Nat.reduceEqDiff, reduceCtorEq, fup_10, fs_4_5, fs_4_6, fs_5_6, q1, q2, q3, q4, q5, q6, q7, q10, p1, p2, p3, p4, p5, p6, p7, hj10, as_1_4, as_6_7, stM_A p2, stM_A (M := m 10 0) (j := 1) (by decide), stM_A (M := m 10 0) (j := 3) (by decide), stM_A (M := m 10 0) (j := 4) (by decide), stM_A (M := m 10 0) (j := 5) (by decide), stM_A (M := m 10 0) (j := 6) (by decide), stM_A (M := m 10 0) (j := 7) (by decide), stM_A (M := m 10 0) (j := 10) (by decide)])
  refine g_put_10_7 F a_M_takeAll_43 fl_M_79 ?_
  (try simp only [mset_app, mset_mset, fup_app, aup_app, fup_fup, aup_aup, false_and, and_false, true_and, and_true, and_self, reduceIte, Nat.reduceEqDiff, reduceCtorEq, fup_10, fs_4_5, fs_4_6, fs_5_6, q1, q2, q3, q4, q5, q6, q7, q10, p1, p2, p3, p4, p5, p6, p7, hj10, as_1_4, as_6_7, stM_A p2, stM_A (M := m 10 0) (j := 1) (by decide), stM_A (M := m 10 0) (j := 3) (by decide), stM_A (M := m 10 0) (j := 4) (by decide), stM_A (M := m 10 0) (j := 5) (by decide), stM_A (M := m 10 0) (j := 6) (by decide), stM_A (M := m 10 0) (j := 7) (by decide), stM_A (M := m 10 0) (j := 10) (by decide)])
  refine g_aload_n F a_M_takeAll_46 rfl ?_
  refine g_aload_n F a_M_takeAll_47 rfl ?_
  refine g_iload_n F a_M_takeAll_48 rfl ?_
  refine g_bipush F a_M_takeAll_49 (by decide) ?_
  refine g_iadd F a_M_takeAll_51 ?_
  refine g_ildM F a_M_takeAll_52 ⟨by omega, by omega, by omega⟩ ?_
  (try simp only [mset_app, mset_mset, fup_app, aup_app, fup_fup, aup_aup, false_and, and_false, true_and, and_true, and_self, reduceIte, Nat.reduceEqDiff, reduceCtorEq, fup_10, fs_4_5, fs_4_6, fs_5_6, q1, q2, q3, q4, q5, q6, q7, q10, p1, p2, p3, p4, p5, p6, p7, hj10, as_1_4, as_6_7, stM_A p2, stM_A (M := m 10 0) (j := 1) (by decide), stM_A (M := m 10 0) (j := 3) (by decide), stM_A (M := m 10 0) (j := 4) (by decide), stM_A (M := m 10 0) (j := 5) (by decide), stM_A (M := m 10 0) (j := 6) (by decide), stM_A (M := m 10 0) (j := 7) (by decide), stM_A (M := m 10 0) (j := 10) (by decide)])
  refine g_put_10_8 F a_M_takeAll_53 fl_M_82 ?_
  (try simp only [mset_app, mset_mset, fup_app, aup_app, fup_fup, aup_aup, false_and, and_false, true_and, and_true, and_self, reduceIte, Nat.reduceEqDiff, reduceCtorEq, fup_10, fs_4_5, fs_4_6, fs_5_6, q1, q2, q3, q4, q5, q6, q7, q10, p1, p2, p3, p4, p5, p6, p7, hj10, as_1_4, as_6_7, stM_A p2, stM_A (M := m 10 0) (j := 1) (by decide), stM_A (M := m 10 0) (j := 3) (by decide), stM_A (M := m 10 0) (j := 4) (by decide), stM_A (M := m 10 0) (j := 5) (by decide), stM_A (M := m 10 0) (j := 6) (by decide), stM_A (M := m 10 0) (j := 7) (by decide), stM_A (M := m 10 0) (j := 10) (by decide)])
  refine g_aload_n F a_M_takeAll_56 rfl ?_
  refine g_aload_n F a_M_takeAll_57 rfl ?_
  refine g_iload_n F a_M_takeAll_58 rfl ?_
  refine g_bipush F a_M_takeAll_59 (by decide) ?_
  refine g_iadd F a_M_takeAll_61 ?_
  refine g_ildM F a_M_takeAll_62 ⟨by omega, by omega, by omega⟩ ?_
  (try simp only [mset_app, mset_mset, fup_app, aup_app, fup_fup, aup_aup, false_and, and_false, true_and, and_true, and_self, reduceIte, Nat.reduceEqDiff, reduceCtorEq, fup_10, fs_4_5, fs_4_6, fs_5_6, q1, q2, q3, q4, q5, q6, q7, q10, p1, p2, p3, p4, p5, p6, p7, hj10, as_1_4, as_6_7, stM_A p2, stM_A (M := m 10 0) (j := 1) (by decide), stM_A (M := m 10 0) (j := 3) (by decide), stM_A (M := m 10 0) (j := 4) (by decide), stM_A (M := m 10 0) (j := 5) (by decide), stM_A (M := m 10 0) (j := 6) (by decide), stM_A (M := m 10 0) (j := 7) (by decide), stM_A (M := m 10 0) (j := 10) (by decide)])
  refine g_put_10_9 F a_M_takeAll_63 fl_M_85 ?_
  (try simp only [mset_app, mset_mset, fup_app, aup_app, fup_fup, aup_aup, false_and, and_false, true_and, and_true, and_self, reduceIte, Nat.reduceEqDiff, reduceCtorEq, fup_10, fs_4_5, fs_4_6, fs_5_6, q1, q2, q3, q4, q5, q6, q7, q10, p1, p2, p3, p4, p5, p6, p7, hj10, as_1_4, as_6_7, stM_A p2, stM_A (M := m 10 0) (j := 1) (by decide), stM_A (M := m 10 0) (j := 3) (by decide), stM_A (M := m 10 0) (j := 4) (by decide), stM_A (M := m 10 0) (j := 5) (by decide), stM_A (M := m 10 0) (j := 6) (by decide), stM_A (M := m 10 0) (j := 7) (by decide), stM_A (M := m 10 0) (j := 10) (by decide)])
  refine g_aload_n F a_M_takeAll_66 rfl ?_
  refine g_aload_n F a_M_takeAll_67 rfl ?_
  refine g_iload_n F a_M_takeAll_68 rfl ?_
  refine g_bipush F a_M_takeAll_69 (by decide) ?_
  refine g_iadd F a_M_takeAll_71 ?_
  refine g_ildM F a_M_takeAll_72 ⟨by omega, by omega, by omega⟩ ?_
  (try simp only [mset_app, mset_mset, fup_app, aup_app, fup_fup, aup_aup, false_and, and_false, true_and, and_true, and_self, reduceIte, Nat.reduceEqDiff, reduceCtorEq, fup_10, fs_4_5, fs_4_6, fs_5_6, q1, q2, q3, q4, q5, q6, q7, q10, p1, p2, p3, p4, p5, p6, p7, hj10, as_1_4, as_6_7, stM_A p2, stM_A (M := m 10 0) (j := 1) (by decide), stM_A (M := m 10 0) (j := 3) (by decide), stM_A (M := m 10 0) (j := 4) (by decide), stM_A (M := m 10 0) (j := 5) (by decide), stM_A (M := m 10 0) (j := 6) (by decide), stM_A (M := m 10 0) (j := 7) (by decide), stM_A (M := m 10 0) (j := 10) (by decide)])
  refine g_put_10_23 F a_M_takeAll_73 fl_M_88 ?_
  (try simp only [mset_app, mset_mset, fup_app, aup_app, fup_fup, aup_aup, false_and, and_false, true_and, and_true, and_self, reduceIte, Nat.reduceEqDiff, reduceCtorEq, fup_10, fs_4_5, fs_4_6, fs_5_6, q1, q2, q3, q4, q5, q6, q7, q10, p1, p2, p3, p4, p5, p6, p7, hj10, as_1_4, as_6_7, stM_A p2, stM_A (M := m 10 0) (j := 1) (by decide), stM_A (M := m 10 0) (j := 3) (by decide), stM_A (M := m 10 0) (j := 4) (by decide), stM_A (M := m 10 0) (j := 5) (by decide), stM_A (M := m 10 0) (j := 6) (by decide), stM_A (M := m 10 0) (j := 7) (by decide), stM_A (M := m 10 0) (j := 10) (by decide)])
  refine g_iconst F a_M_takeAll_76 ?_
  refine g_istore_n (ls' := [_, _, _, _]) F a_M_takeAll_77 rfl rfl rfl ?_
  refine GC.loc2 (tl_tak1 hj hj10 ha hl F ?_) ⟨rfl, rfl, rfl, rfl, trivial⟩
  (try simp only [mset_app, mset_mset, fup_app, aup_app, fup_fup, aup_aup, false_and, and_false, true_and, and_true, and_self, reduceIte, Nat.reduceEqDiff, reduceCtorEq, fup_10, fs_4_5, fs_4_6, fs_5_6, q1, q2, q3, q4, q5, q6, q7, q10, p1, p2, p3, p4, p5, p6, p7, hj10, as_1_4, as_6_7, stM_A p2, stM_A (M := m 10 0) (j := 1) (by decide), stM_A (M := m 10 0) (j := 3) (by decide), stM_A (M := m 10 0) (j := 4) (by decide), stM_A (M := m 10 0) (j := 5) (by decide), stM_A (M := m 10 0) (j := 6) (by decide), stM_A (M := m 10 0) (j := 7) (by decide), stM_A (M := m 10 0) (j := 10) (by decide)])
  refine g_iconst F a_M_takeAll_118 ?_
  refine g_istore_n (ls' := [_, _, _, _]) F a_M_takeAll_119 rfl rfl rfl ?_
  refine GC.loc2 (tl_tak2 hj hj10 ha hl F ?_) ⟨rfl, rfl, rfl, rfl, trivial⟩
  (try simp only [mset_app, mset_mset, fup_app, aup_app, fup_fup, aup_aup, false_and, and_false, true_and, and_true, and_self, reduceIte, Nat.reduceEqDiff, reduceCtorEq, fup_10, fs_4_5, fs_4_6, fs_5_6, q1, q2, q3, q4, q5, q6, q7, q10, p1, p2, p3, p4, p5, p6, p7, hj10, as_1_4, as_6_7, stM_A p2, stM_A (M := m 10 0) (j := 1) (by decide), stM_A (M := m 10 0) (j := 3) (by decide), stM_A (M := m 10 0) (j := 4) (by decide), stM_A (M := m 10 0) (j := 5) (by decide), stM_A (M := m 10 0) (j := 6) (by decide), stM_A (M := m 10 0) (j := 7) (by decide), stM_A (M := m 10 0) (j := 10) (by decide)])
  refine g_iconst F a_M_takeAll_145 ?_
  refine g_istore_n (ls' := [_, _, _, _]) F a_M_takeAll_146 rfl rfl rfl ?_
  refine GC.loc2 (tl_tak3 hj hj10 ha hl F ?_) ⟨rfl, rfl, rfl, rfl, trivial⟩
  (try simp only [mset_app, mset_mset, fup_app, aup_app, fup_fup, aup_aup, false_and, and_false, true_and, and_true, and_self, reduceIte, Nat.reduceEqDiff, reduceCtorEq, fup_10, fs_4_5, fs_4_6, fs_5_6, q1, q2, q3, q4, q5, q6, q7, q10, p1, p2, p3, p4, p5, p6, p7, hj10, as_1_4, as_6_7, stM_A p2, stM_A (M := m 10 0) (j := 1) (by decide), stM_A (M := m 10 0) (j := 3) (by decide), stM_A (M := m 10 0) (j := 4) (by decide), stM_A (M := m 10 0) (j := 5) (by decide), stM_A (M := m 10 0) (j := 6) (by decide), stM_A (M := m 10 0) (j := 7) (by decide), stM_A (M := m 10 0) (j := 10) (by decide)])
  refine g_iconst F a_M_takeAll_173 ?_
  refine g_istore_n (ls' := [_, _, _, _]) F a_M_takeAll_174 rfl rfl rfl ?_
  refine GC.loc2 (tl_tak4 hj hj10 ha hl F ?_) ⟨rfl, rfl, rfl, rfl, trivial⟩
  (try simp only [mset_app, mset_mset, fup_app, aup_app, fup_fup, aup_aup, false_and, and_false, true_and, and_true, and_self, reduceIte, Nat.reduceEqDiff, reduceCtorEq, fup_10, fs_4_5, fs_4_6, fs_5_6, q1, q2, q3, q4, q5, q6, q7, q10, p1, p2, p3, p4, p5, p6, p7, hj10, as_1_4, as_6_7, stM_A p2, stM_A (M := m 10 0) (j := 1) (by decide), stM_A (M := m 10 0) (j := 3) (by decide), stM_A (M := m 10 0) (j := 4) (by decide), stM_A (M := m 10 0) (j := 5) (by decide), stM_A (M := m 10 0) (j := 6) (by decide), stM_A (M := m 10 0) (j := 7) (by decide), stM_A (M := m 10 0) (j := 10) (by decide)])
  refine g_iconst F a_M_takeAll_215 ?_
  refine g_istore_n (ls' := [_, _, _, _]) F a_M_takeAll_216 rfl rfl rfl ?_
  refine GC.loc2 (tl_tak5 hj hj10 ha hl F ?_) ⟨rfl, rfl, rfl, rfl, trivial⟩
  (try simp only [mset_app, mset_mset, fup_app, aup_app, fup_fup, aup_aup, false_and, and_false, true_and, and_true, and_self, reduceIte, Nat.reduceEqDiff, reduceCtorEq, fup_10, fs_4_5, fs_4_6, fs_5_6, q1, q2, q3, q4, q5, q6, q7, q10, p1, p2, p3, p4, p5, p6, p7, hj10, as_1_4, as_6_7, stM_A p2, stM_A (M := m 10 0) (j := 1) (by decide), stM_A (M := m 10 0) (j := 3) (by decide), stM_A (M := m 10 0) (j := 4) (by decide), stM_A (M := m 10 0) (j := 5) (by decide), stM_A (M := m 10 0) (j := 6) (by decide), stM_A (M := m 10 0) (j := 7) (by decide), stM_A (M := m 10 0) (j := 10) (by decide)])
  refine g_ret F a_M_takeAll_243 rfl ⟨Nat.le_refl _, Nat.le_refl _⟩ ?_
  exact k
