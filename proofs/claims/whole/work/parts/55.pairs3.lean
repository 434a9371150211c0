/-! ===== class and model: images, reading ===== -/
theorem Img_g {S R0 R1 R2 P : Rc} {kA kM a : Int} {g g' : Int → Int} (h : Img S R0 R1 R2 P kA kM g a) (e : ∀ x : Int, a ≤ x ∧ x < a + 169 → g' x = g x) : Img S R0 R1 R2 P kA kM g' a :=
  ⟨h.1, h.2.1, fun k => let ⟨Mi, h1, h2⟩ := h.2.2 k; ⟨Mi, h1.same e, h2⟩⟩
theorem Zs_M {T M M' : Rc} (h : Zs T M) (e1 : M'.1 18 = M.1 18) (e2 : M'.2 8 = M.2 8) : Zs T M' := ⟨h.1.trans e1.symm, h.2.1.trans e2.symm, h.2.2⟩
theorem Fs_M {F M M' : Rc} (h : Fs F M) (e1 : M'.1 25 = M.1 25) (e2 : M'.1 26 = M.1 26) : Fs F M' := ⟨h.1.trans e1.symm, h.2.trans e2.symm⟩
theorem Ss_M {A M M' : Rc} (h : Ss A M) (e : M'.2 0 = M.2 0) : Ss A M' := by
  unfold Ss
  rw [e]
  exact h
theorem Img_M {S R0 R1 R2 P M M' : Rc} {kA k a : Int} (h : Img S R0 R1 R2 P kA (M.2 13 k) (M.2 12) a) (e1 : M'.2 12 = M.2 12) (e2 : M'.2 13 = M.2 13) : Img S R0 R1 R2 P kA (M'.2 13 k) (M'.2 12) a := by
  rw [e1, e2]
  exact h
theorem inv_FT {n : Nat} {m m2 : Mem} (h : Inv n m) (e : FT m m2) (hT : okS (1100 + 150 * ((n + 1 : Nat) : Int)) (m2 2 3)) (e0 : (m2 5 0).1 0 = (m 5 0).1 0) (e1 : (m2 5 0).2 0 = (m 5 0).2 0) : Inv (n + 1) m2 := by
  refine ⟨?_, hT, ?_, ?_, ?_, ?_, ?_⟩
  · rw [e 2 0 (by decide) (by decide), e 3 0 (by decide) (by decide), e 3 1 (by decide) (by decide), e 3 2 (by decide) (by decide), e 4 0 (by decide) (by decide), e 10 0 (by decide) (by decide)]
    exact h.c
  · rw [e 10 0 (by decide) (by decide)]
    unfold Zs
    rw [e0, e1]
    exact h.z
  · rw [e 9 0 (by decide) (by decide), e 10 0 (by decide) (by decide)]
    exact h.f
  · rw [e 0 0 (by decide) (by decide), e 10 0 (by decide) (by decide)]
    exact h.s
  · rw [e 2 1 (by decide) (by decide), e 3 3 (by decide) (by decide), e 3 4 (by decide) (by decide), e 3 5 (by decide) (by decide), e 4 1 (by decide) (by decide), e 0 0 (by decide) (by decide), e 10 0 (by decide) (by decide)]
    exact h.a
  · rw [e 2 2 (by decide) (by decide), e 3 6 (by decide) (by decide), e 3 7 (by decide) (by decide), e 3 8 (by decide) (by decide), e 4 2 (by decide) (by decide), e 0 0 (by decide) (by decide), e 10 0 (by decide) (by decide)]
    exact h.b
/-- an image laid -/
theorem img_new {S R0 R1 R2 P X0 X1 X2 YP YS M : Rc} {kA kM x : Int} {g0 f : Int → Int} (h : CR S R0 R1 R2 P M) (w : Img YS X0 X1 X2 YP kA kM g0 x) {a : Int} : Img S (fup X0.1 0 (R0.1 0), R0.2) (fup X1.1 0 (R1.1 0), R1.2) (fup X2.1 0 (R2.1 0), R2.2) P 1 1 (lyA M f a) a :=
  ⟨w.1, ⟨rfl, Or.inr rfl⟩, fun _ => ⟨M, HR_ly, CR_cp h w.1.1 w.1.2.1 w.1.2.2⟩⟩
theorem img_kp {S R0 R1 R2 P : Rc} {kA kM a : Int} {g : Int → Int} (h : Img S R0 R1 R2 P kA kM g a) : kA = kM ∧ R32 kA := by
  have := h.2.1.2
  exact ⟨h.2.1.1, by omega⟩
theorem img_take {S R0 R1 R2 P X0 X1 X2 M3 : Rc} {kA kM a : Int} {g : Int → Int} (h : Img S R0 R1 R2 P kA kM g a) (hk : kA ≠ 0) (w0 : X0.1 1 = 3) (w1 : X1.1 1 = 4) (w2 : X2.1 1 = 4) : CR S (fup X0.1 0 (R0.1 0), R0.2) (fup X1.1 0 (R1.1 0), R1.2) (fup X2.1 0 (R2.1 0), R2.2) P (tkA M3 g a) := by
  obtain ⟨Mi, h1, h2⟩ := h.2.2 (by have := h.2.1.2; omega)
  exact CR_kp (CR_cp h2 w0 w1 w2) (KP_tk h1)
set_option maxHeartbeats 1000000 in
theorem pr_image {κ : Kx} {n : Nat} {m : Mem} (h : Inv n m) (hn : n ≤ 600) {x : Int} (hx : R32 x) : PR κ n m vi G_A_image 3 [.ref (ad κ 0 0), vi x] G_M_image 2 [.ref (ad κ 10 0), vi x] := by
  have em := h.men
  have er := h.rds
  have eu := h.u
  have e7 := h.e7
  have e8 := h.e8
  have e9 := h.e9
  have z1 := h.z1
  have z2 := h.z2
  have ez := h.z.1
  have hm6 := h.S.2.2.2.2.1
  have hr3 := h.S.2.2.2.2.2.1
  have hdy := h.S.2.2.2.1
  have ed : (m 2 0).1 3 = (m 10 0).1 6 := h.l.1.2.2.2.1
  intro Q kk
  refine sp_A_image hx (fun cb => kk _ _ (fun Q2 k2 => ?_)) (fun i ei hi => kk _ _ (fun Q2 k2 => ?_))
  · exact sp_M_image (m := bmp m 9) hx (fun _ => k2 _ (inv_bad h)) (fun d => absurd d cb)
  · rcases (show i = 0 ∨ i = 1 by omega) with q | q
    · subst q
      obtain rfl : x = 0 := by omega
      refine sp_M_image (m := mset (cpS m (0 + 1) 0) 0 0 ((m 0 0).1, aup (m 0 0).2 1 (gup ((m 0 0).2 1) 0 1))) hx (fun d => absurd (by decide) d) (fun _ => k2 _ ⟨h.c, h.t2, h.z, h.f, h.s, ?_, ?_⟩)
      · exact img_new (M := keM (m 10 0) 0) (f := (m 10 0).2 12) (a := 180 * 0) h.c h.a
      · exact Img_g h.b (g' := lyA (keM (m 10 0) 0) ((m 10 0).2 12) (180 * 0)) (fun k hk => la_out (by omega))
    · subst q
      obtain rfl : x = 1 := by omega
      refine sp_M_image (m := mset (cpS m (1 + 1) 0) 0 0 ((m 0 0).1, aup (m 0 0).2 1 (gup ((m 0 0).2 1) 1 1))) hx (fun d => absurd (by decide) d) (fun _ => k2 _ ⟨h.c, h.t2, h.z, h.f, h.s, ?_, ?_⟩)
      · exact Img_g h.a (g' := lyA (keM (m 10 0) 1) ((m 10 0).2 12) (180 * 1)) (fun k hk => la_out (by omega))
      · exact img_new (M := keM (m 10 0) 1) (f := (m 10 0).2 12) (a := 180 * 1) h.c h.b
set_option maxHeartbeats 1000000 in
theorem pr_from {κ : Kx} {n : Nat} {m : Mem} (h : Inv n m) (hn : n ≤ 600) {x : Int} (hx : R32 x) : PR κ n m vi G_A_from 3 [.ref (ad κ 0 0), vi x] G_M_from 2 [.ref (ad κ 10 0), vi x] := by
  have em := h.men
  have er := h.rds
  have eu := h.u
  have e7 := h.e7
  have e8 := h.e8
  have e9 := h.e9
  have z1 := h.z1
  have z2 := h.z2
  have ez := h.z.1
  have hm6 := h.S.2.2.2.2.1
  have hr3 := h.S.2.2.2.2.2.1
  have hdy := h.S.2.2.2.1
  have ed : (m 2 0).1 3 = (m 10 0).1 6 := h.l.1.2.2.2.1
  intro Q kk
  obtain ⟨ka, ra⟩ := img_kp h.a
  obtain ⟨kb1, rb⟩ := img_kp h.b
  have hkp : ∀ x : Int, 0 ≤ x ∧ x ≤ 1 → R32 ((m 0 0).2 1 x) ∧ (m 0 0).2 1 x = (m 10 0).2 13 x := fun x hx => by
    rcases (show x = 0 ∨ x = 1 by omega) with q | q <;> subst q
    · exact ⟨ra, ka⟩
    · exact ⟨rb, kb1⟩
  have hkm : ∀ x : Int, 0 ≤ x ∧ x ≤ 1 → R32 ((m 10 0).2 13 x) := fun x hx => by rw [← (hkp x hx).2]; exact (hkp x hx).1
  refine sp_A_from (fun x hx => (hkp x hx).1) hx (fun cb => kk _ _ (fun Q2 k2 => ?_)) (fun i ei hi c0 => kk _ _ (fun Q2 k2 => ?_)) (fun i ei hi c0 => kk _ _ (fun Q2 k2 => ?_))
  · exact sp_M_from (m := bmp m 9) hkm hx (fun _ => k2 _ (inv_bad h)) (fun d _ => absurd d cb) (fun d _ => absurd d cb)
  · exact sp_M_from (m := bmp m 10) hkm hx (fun d => absurd (by omega) d) (fun _ _ => k2 _ (inv_no h)) (fun _ d => absurd ((hkp x (by omega)).2.symm.trans c0) d)
  · rcases (show i = 0 ∨ i = 1 by omega) with q | q
    · subst q
      obtain rfl : x = 0 := by omega
      exact sp_M_from (m := cpS m 0 (0 + 1)) hkm hx (fun d => absurd (by decide) d) (fun _ d => absurd (ka.trans d) c0) (fun _ _ => k2 _ ⟨img_take (M3 := m 10 0) (a := 0) h.a c0 h.r0.2.1 h.r1.2.1 h.r2.2.1, h.t2, h.z, h.f, h.s, h.a, h.b⟩)
    · subst q
      obtain rfl : x = 1 := by omega
      exact sp_M_from (m := cpS m 0 (1 + 1)) hkm hx (fun d => absurd (by decide) d) (fun _ d => absurd (kb1.trans d) c0) (fun _ _ => k2 _ ⟨img_take (M3 := m 10 0) (a := 180) h.b c0 h.r0.2.1 h.r1.2.1 h.r2.2.1, h.t2, h.z, h.f, h.s, h.a, h.b⟩)
set_option maxHeartbeats 1000000 in
theorem pr_read {κ : Kx} {n : Nat} {m : Mem} (h : Inv n m) (hn : n ≤ 600)  : PR κ n m vi G_A_read 8 [.ref (ad κ 0 0)] G_M_read 9 [.ref (ad κ 10 0)] := by
  have em := h.men
  have er := h.rds
  have eu := h.u
  have e7 := h.e7
  have e8 := h.e8
  have e9 := h.e9
  have z1 := h.z1
  have z2 := h.z2
  have ez := h.z.1
  have hm6 := h.S.2.2.2.2.1
  have hr3 := h.S.2.2.2.2.2.1
  have hdy := h.S.2.2.2.1
  have ed : (m 2 0).1 3 = (m 10 0).1 6 := h.l.1.2.2.2.1
  intro Q kk
  obtain ⟨z, ez0, hB⟩ := h.z.2.2
  have e8B : (m 10 0).2 8 = (m 5 0).2 0 := h.z.2.1.symm
  have e18 : (m 10 0).1 18 = (z : Int) := by rw [← ez]; exact ez0
  have hD : (1100 + 150 * (n : Int)) + 150 ≤ 100000 := by omega
  have hD2 : (1100 + 150 * (n : Int)) + 150 = 1100 + 150 * ((n + 1 : Nat) : Int) := by omega
  refine sp_A_read (z := z) hB ez0 h.t hD (fun m2 n9 S9 e1 e2 e3 e4 e5 e6 => kk _ _ (fun Q2 k2 => ?_)) (fun m2 x9 e1 e2 e4 e5 e6 => kk _ _ (fun Q2 k2 => ?_))
  · rw [hD2, ← e3] at e4
    have i2 := inv_FT h e2 e4 (e5.trans ez0.symm) e6
    have e10 : m2 10 0 = m 10 0 := e2 10 0 (by decide) (by decide)
    have hM2 : okM 999 (m2 10 0) := i2.M
    refine sp_M_read (m := mset (begM m2 ((m2 2 3).1 2)) 2 0 (m2 2 3)) (B := (m 5 0).2 0) (z := z) (S0 := m 2 3) hB (show (m2 10 0).2 8 = _ by rw [e10]; exact e8B) (show (m2 10 0).1 18 = _ by rw [e10]; exact e18) i2.M (by decide) (fun M' n8 S8 g1 g2 g3 g4 => ?_) (fun M' x8 g1 g2 => ?_)
    · rw [e1] at g1
      cases g1
      rw [← e3] at g2 e1
      have g4 : FRd (m2 10 0) M' := g4
      exact k2 _ ⟨CR_read i2.c (tell_day h.t e1) g2 g3 g4, i2.t, Zs_M i2.z g4.2.1.1 g4.2.2.2.1, Fs_M i2.f g4.2.1.2.1 g4.2.1.2.2, Ss_M i2.s g4.2.2.1, Img_M i2.a g4.2.2.2.2.1 g4.2.2.2.2.2.1, Img_M i2.b g4.2.2.2.2.1 g4.2.2.2.2.2.1⟩
    · rw [e1] at g1
      cases g1
  · rw [hD2] at e4
    have i2 := inv_FT h e2 e4 (e5.trans ez0.symm) e6
    have e10 : m2 10 0 = m 10 0 := e2 10 0 (by decide) (by decide)
    refine sp_M_read (m := m2) (B := (m 5 0).2 0) (z := z) (S0 := m 2 3) hB (show (m2 10 0).2 8 = _ by rw [e10]; exact e8B) (show (m2 10 0).1 18 = _ by rw [e10]; exact e18) i2.M (by decide) (fun M' n8 S8 g1 g2 g3 g4 => ?_) (fun M' x8 g1 g2 => ?_)
    · rw [e1] at g1
      cases g1
    · rw [e1] at g1
      cases g1
      exact k2 _ ⟨CR_kp i2.c g2.1, i2.t, Zs_M i2.z g2.2.1.1 g2.2.2.2.1, Fs_M i2.f g2.2.1.2.1 g2.2.1.2.2, Ss_M i2.s g2.2.2.1, Img_M i2.a g2.2.2.2.2.1 g2.2.2.2.2.2, Img_M i2.b g2.2.2.2.2.1 g2.2.2.2.2.2⟩
