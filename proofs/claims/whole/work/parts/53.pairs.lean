/-! ===== class and model, call by call ===== -/
/-- an image, there and here -/
def Img (S R0 R1 R2 P : Rc) (kA kM : Int) (g : Int → Int) (a : Int) : Prop := (R0.1 1 = 3 ∧ R1.1 1 = 4 ∧ R2.1 1 = 4) ∧ (kA = kM ∧ (kA = 0 ∨ kA = 1)) ∧ (kA = 1 → ∃ Mi : Rc, HR g a Mi ∧ CR S R0 R1 R2 P Mi)
def Zs (T M : Rc) : Prop := T.1 0 = M.1 18 ∧ T.2 0 = M.2 8 ∧ ∃ z : Nat, T.1 0 = (z : Int) ∧ okB (T.2 0) z
def Fs (F M : Rc) : Prop := F.1 0 = M.1 25 ∧ F.1 1 = M.1 26
def Ss (A M : Rc) : Prop := A.1 9 = M.2 0 0 ∧ A.1 10 = M.2 0 1 ∧ A.1 11 = M.2 0 2
/-- behind n calls -/
def Inv (n : Nat) (m : Mem) : Prop := CR (m 2 0) (m 3 0) (m 3 1) (m 3 2) (m 4 0) (m 10 0) ∧ okS (1100 + 150 * (n : Int)) (m 2 3) ∧ Zs (m 5 0) (m 10 0) ∧ Fs (m 9 0) (m 10 0) ∧ Ss (m 0 0) (m 10 0) ∧ Img (m 2 1) (m 3 3) (m 3 4) (m 3 5) (m 4 1) ((m 0 0).2 1 0) ((m 10 0).2 13 0) ((m 10 0).2 12) 0 ∧ Img (m 2 2) (m 3 6) (m 3 7) (m 3 8) (m 4 2) ((m 0 0).2 1 1) ((m 10 0).2 13 1) ((m 10 0).2 12) 180
section IV
variable {n : Nat} {m m' : Mem}
theorem Inv.c (h : Inv n m) : CR (m 2 0) (m 3 0) (m 3 1) (m 3 2) (m 4 0) (m 10 0) := h.1
theorem Inv.t (h : Inv n m) : okS (1100 + 150 * (n : Int)) (m 2 3) := h.2.1
theorem Inv.z (h : Inv n m) : Zs (m 5 0) (m 10 0) := h.2.2.1
theorem Inv.f (h : Inv n m) : Fs (m 9 0) (m 10 0) := h.2.2.2.1
theorem Inv.s (h : Inv n m) : Ss (m 0 0) (m 10 0) := h.2.2.2.2.1
theorem Inv.a (h : Inv n m) : Img (m 2 1) (m 3 3) (m 3 4) (m 3 5) (m 4 1) ((m 0 0).2 1 0) ((m 10 0).2 13 0) ((m 10 0).2 12) 0 := h.2.2.2.2.2.1
theorem Inv.b (h : Inv n m) : Img (m 2 2) (m 3 6) (m 3 7) (m 3 8) (m 4 2) ((m 0 0).2 1 1) ((m 10 0).2 13 1) ((m 10 0).2 12) 180 := h.2.2.2.2.2.2
theorem t_up {S : Rc} (h : okS (1100 + 150 * (n : Int)) S) : okS (1100 + 150 * ((n + 1 : Nat) : Int)) S := h.day (by have := h.2.2.2.1; omega)
theorem Inv.t2 (h : Inv n m) : okS (1100 + 150 * ((n + 1 : Nat) : Int)) (m 2 3) := t_up h.t
theorem inv_up (h : Inv n m) : Inv (n + 1) m := ⟨h.c, h.t2, h.z, h.f, h.s, h.a, h.b⟩
theorem inv_of (h : Inv n m) (e : ∀ c i : Nat, c ≠ 6 → ¬ (c = 2 ∧ 3 < i) → m' c i = m c i) : Inv n m' := by
  unfold Inv
  rw [e 2 0 (by decide) (by decide), e 2 1 (by decide) (by decide), e 2 2 (by decide) (by decide), e 2 3 (by decide) (by decide), e 3 0 (by decide) (by decide), e 3 1 (by decide) (by decide), e 3 2 (by decide) (by decide), e 3 3 (by decide) (by decide), e 3 4 (by decide) (by decide), e 3 5 (by decide) (by decide), e 3 6 (by decide) (by decide), e 3 7 (by decide) (by decide), e 3 8 (by decide) (by decide), e 4 0 (by decide) (by decide), e 4 1 (by decide) (by decide), e 4 2 (by decide) (by decide), e 5 0 (by decide) (by decide), e 9 0 (by decide) (by decide), e 0 0 (by decide) (by decide), e 10 0 (by decide) (by decide)]
  exact h
/-- a refusal, there and here -/
theorem inv_bad (h : Inv n m) : Inv (n + 1) (bmM (bmp m 9) 0) := ⟨h.c, h.t2, h.z, h.f, ⟨by show (m 0 0).1 9 + 1 = (m 10 0).2 0 0 + 1; rw [h.s.1], h.s.2.1, h.s.2.2⟩, h.a, h.b⟩
theorem inv_no (h : Inv n m) : Inv (n + 1) (bmM (bmp m 10) 1) := ⟨h.c, h.t2, h.z, h.f, ⟨h.s.1, by show (m 0 0).1 10 + 1 = (m 10 0).2 0 1 + 1; rw [h.s.2.1], h.s.2.2⟩, h.a, h.b⟩
theorem inv_full (h : Inv n m) : Inv (n + 1) (bmM (bmp m 11) 2) := ⟨h.c, h.t2, h.z, h.f, ⟨h.s.1, h.s.2.1, by show (m 0 0).1 11 + 1 = (m 10 0).2 0 2 + 1; rw [h.s.2.2]⟩, h.a, h.b⟩
theorem Inv.S (h : Inv n m) : okS 999 (m 2 0) := h.c.1.1
theorem Inv.M (h : Inv n m) : okM 999 (m 10 0) := h.c.1.2.1
theorem Inv.l (h : Inv n m) : lv (m 2 0) (shM (m 10 0)) := h.c.1.2.2
theorem Inv.men (h : Inv n m) : (m 2 0).1 4 = (m 10 0).1 1 := h.l.men
theorem Inv.rds (h : Inv n m) : (m 2 0).1 5 = (m 10 0).1 2 := h.l.rds
theorem Inv.r0 (h : Inv n m) : rok (m 3 0) (snM (m 10 0)) 3 := h.c.2.1
theorem Inv.r1 (h : Inv n m) : rok (m 3 1) (ntM (m 10 0)) 4 := h.c.2.2.1
theorem Inv.r2 (h : Inv n m) : rok (m 3 2) (mkM (m 10 0)) 4 := h.c.2.2.2.1
theorem Inv.p (h : Inv n m) : okP (m 4 0) := h.c.2.2.2.2.1
theorem Inv.u (h : Inv n m) : (m 4 0).1 0 = (m 10 0).1 23 := h.c.2.2.2.2.2.2.1
theorem Inv.u8 (h : Inv n m) : 0 ≤ (m 10 0).1 23 ∧ (m 10 0).1 23 ≤ 8 := by rw [← h.u]; exact h.p.1
theorem Inv.e7 (h : Inv n m) : (m 3 0).1 0 = (m 10 0).1 7 := h.r0.2.2.2.1.1.1
theorem Inv.e8 (h : Inv n m) : (m 3 1).1 0 = (m 10 0).1 8 := h.r1.2.2.2.1.1.1
theorem Inv.e9 (h : Inv n m) : (m 3 2).1 0 = (m 10 0).1 9 := h.r2.2.2.2.1.1.1
theorem Inv.n7 (h : Inv n m) : 0 ≤ (m 10 0).1 7 ∧ (m 10 0).1 7 ≤ 6 := h.r0.2.2.1.1
theorem Inv.n8 (h : Inv n m) : 0 ≤ (m 10 0).1 8 ∧ (m 10 0).1 8 ≤ 6 := h.r1.2.2.1.1
theorem Inv.n9 (h : Inv n m) : 0 ≤ (m 10 0).1 9 ∧ (m 10 0).1 9 ≤ 6 := h.r2.2.2.1.1
theorem rok.v {R V : Rc} (h : rok R V 4) : ∀ t : Int, 0 ≤ t ∧ t < V.1 0 → V.2 0 (t * 4 + 1) ≤ 90 := by
  intro t ht
  have e : R.1 0 = V.1 0 := h.2.2.2.1.1.1
  have hw := h.2.1
  rw [← h.2.2.2.1.2 t 1 (by omega) (by omega)]
  exact h.2.2.2.2 rfl t (by omega)
theorem Inv.z1 (h : Inv n m) : 0 ≤ (m 5 0).1 0 ∧ (m 5 0).1 0 ≤ 150 := by
  obtain ⟨z, e, hB⟩ := h.z.2.2
  have := hB.1
  omega
theorem Inv.z2 (h : Inv n m) : 0 ≤ (m 10 0).1 18 ∧ (m 10 0).1 18 ≤ 150 := by rw [← h.z.1]; exact h.z1
/-- how much is counted, there and here -/
theorem cnt_eq (h : Inv n m) (x : Int) : cntA m x = cntM (m 10 0) x := by
  unfold cntA cntM
  rw [h.men, h.rds, h.e7, h.e8, h.e9, h.u, h.z.1, ← h.men, sumN_lv h.l _ (fun k hk => by have := h.S.2.2.2.2.1; omega), h.l.1.2.2.2.1]
  rfl
theorem cd_eq (h : Inv n m) : ∀ k : Nat, cdN m k = cdM (m 10 0) k
  | 0 => rfl
  | k + 1 => by
    show 31 * cdN m k + cntA m k = 31 * cdM (m 10 0) k + cntM (m 10 0) k
    rw [cd_eq h k, cnt_eq h]
theorem dig_eq (h : Inv n m) : digA m = digM (m 10 0) := by
  unfold digA digM
  rw [cd_eq h, ndN_lv h.l, digS_lv h.l, sn_sq h.r0, fr_sq (n := (m 10 0).1 8) (g := (m 10 0).2 6) h.r1 rfl rfl, fr_sq (n := (m 10 0).1 9) (g := (m 10 0).2 7) h.r2 rfl rfl, h.f.1, h.f.2]
  rfl
end IV
/-- the call of the class, then that of the model: one answer, and they stand as before -/
def PR (κ : Kx) (n : Nat) (m : Mem) (W : Int → Value) (ΓA : Gm) (dA : Nat) (avA : List Value) (ΓM : Gm) (dM : Nat) (avM : List Value) : Prop := ∀ Q : Option Value → (Heap → Prop) → Prop, (∀ (z : Int) (m1 : Mem), (∀ Q2 : Option Value → (Heap → Prop) → Prop, (∀ m2 : Mem, Inv (n + 1) m2 → Q2 (some (W z)) (World κ m2)) → GG κ ΓM dM 0 0 avM (World κ m1) Q2) → Q (some (W z)) (World κ m1)) → GG κ ΓA dA 0 0 avA (World κ m) Q
set_option maxHeartbeats 1000000 in
theorem pr_angle {κ : Kx} {n : Nat} {m : Mem} (h : Inv n m) (hn : n ≤ 600) {x : Int} (hx : R32 x) : PR κ n m vi G_A_angle 2 [.ref (ad κ 0 0), vi x] G_M_angle 3 [.ref (ad κ 10 0), vi x] := by
  have em := h.men
  have er := h.rds
  have eu := h.u
  have e7 := h.e7
  have e8 := h.e8
  have e9 := h.e9
  have z1 := h.z1
  have z2 := h.z2
  have ez := h.z.1
  have hm6 := h.S.2.2.2.2.1
  have hr3 := h.S.2.2.2.2.2.1
  have hdy := h.S.2.2.2.1
  have ed : (m 2 0).1 3 = (m 10 0).1 6 := h.l.1.2.2.2.1
  intro Q kk
  refine sp_A_angle h.S (by decide) hx (fun cb => kk _ _ (fun Q2 k2 => ?_)) (fun c1 => kk _ _ (fun Q2 k2 => ?_))
  · (try rw [em] at cb)
    (try rw [er] at cb)
    exact sp_M_angle (m := bmp m 9) h.M (by decide) hx (fun _ => k2 _ (inv_bad h)) (fun d1 => absurd d1 cb)
  · have a1 := c1
    (try rw [em] at c1)
    (try rw [er] at c1)
    exact sp_M_angle (m := m) h.M (by decide) hx (fun d => absurd c1 d) (fun d1 => qv (k2 _ (inv_up h)) ((ang_lv h.l a1).symm))
set_option maxHeartbeats 1000000 in
theorem pr_reads {κ : Kx} {n : Nat} {m : Mem} (h : Inv n m) (hn : n ≤ 600) {x : Int} {y : Int} (hx : R32 x) (hy : R32 y) : PR κ n m vi G_A_reads 3 [.ref (ad κ 0 0), vi x, vi y] G_M_reads 4 [.ref (ad κ 10 0), vi x, vi y] := by
  have em := h.men
  have er := h.rds
  have eu := h.u
  have e7 := h.e7
  have e8 := h.e8
  have e9 := h.e9
  have z1 := h.z1
  have z2 := h.z2
  have ez := h.z.1
  have hm6 := h.S.2.2.2.2.1
  have hr3 := h.S.2.2.2.2.2.1
  have hdy := h.S.2.2.2.1
  have ed : (m 2 0).1 3 = (m 10 0).1 6 := h.l.1.2.2.2.1
  intro Q kk
  refine sp_A_reads h.S (by decide) hx hy (fun cb => kk _ _ (fun Q2 k2 => ?_)) (fun c1 c2 => kk _ _ (fun Q2 k2 => ?_))
  · (try rw [em] at cb)
    (try rw [er] at cb)
    exact sp_M_reads (m := bmp m 9) h.M (by decide) hx hy (fun _ => k2 _ (inv_bad h)) (fun d1 d2 => absurd ⟨d1.1, d1.2, d2⟩ cb)
  · have a1 := c1
    (try rw [em] at c1)
    (try rw [er] at c1)
    have a2 := c2
    (try rw [em] at c2)
    (try rw [er] at c2)
    exact sp_M_reads (m := m) h.M (by decide) hx hy (fun d => absurd ⟨c1.1, c1.2, c2⟩ d) (fun d1 d2 => qv (k2 _ (inv_up h)) ((sgt_lv h.l a1 a2).symm))
set_option maxHeartbeats 1000000 in
theorem pr_error {κ : Kx} {n : Nat} {m : Mem} (h : Inv n m) (hn : n ≤ 600) {x : Int} {y : Int} (hx : R32 x) (hy : R32 y) : PR κ n m vi G_A_error 2 [.ref (ad κ 0 0), vi x, vi y] G_M_error 5 [.ref (ad κ 10 0), vi x, vi y] := by
  have em := h.men
  have er := h.rds
  have eu := h.u
  have e7 := h.e7
  have e8 := h.e8
  have e9 := h.e9
  have z1 := h.z1
  have z2 := h.z2
  have ez := h.z.1
  have hm6 := h.S.2.2.2.2.1
  have hr3 := h.S.2.2.2.2.2.1
  have hdy := h.S.2.2.2.1
  have ed : (m 2 0).1 3 = (m 10 0).1 6 := h.l.1.2.2.2.1
  intro Q kk
  refine sp_A_error h.S (by decide) hx hy (fun cb => kk _ _ (fun Q2 k2 => ?_)) (fun c1 c2 => kk _ _ (fun Q2 k2 => ?_))
  · (try rw [em] at cb)
    (try rw [er] at cb)
    exact sp_M_error (m := bmp m 9) h.M (by decide) hx hy (fun _ => k2 _ (inv_bad h)) (fun d1 d2 => absurd ⟨d1, d2⟩ cb)
  · have a1 := c1
    (try rw [em] at c1)
    (try rw [er] at c1)
    have a2 := c2
    (try rw [em] at c2)
    (try rw [er] at c2)
    exact sp_M_error (m := m) h.M (by decide) hx hy (fun d => absurd ⟨c1, c2⟩ d) (fun d1 d2 => qv (k2 _ (inv_up h)) ((errS_lv h.l x y).symm))
set_option maxHeartbeats 1000000 in
theorem pr_of {κ : Kx} {n : Nat} {m : Mem} (h : Inv n m) (hn : n ≤ 600) {x : Int} {y : Int} (hx : R32 x) (hy : R32 y) : PR κ n m vi G_A_of 1 [.ref (ad κ 0 0), vi x, vi y] G_M_of 2 [.ref (ad κ 10 0), vi x, vi y] := by
  have em := h.men
  have er := h.rds
  have eu := h.u
  have e7 := h.e7
  have e8 := h.e8
  have e9 := h.e9
  have z1 := h.z1
  have z2 := h.z2
  have ez := h.z.1
  have hm6 := h.S.2.2.2.2.1
  have hr3 := h.S.2.2.2.2.2.1
  have hdy := h.S.2.2.2.1
  have ed : (m 2 0).1 3 = (m 10 0).1 6 := h.l.1.2.2.2.1
  intro Q kk
  refine sp_A_of h.S (by decide) hx hy (fun cb => kk _ _ (fun Q2 k2 => ?_)) (fun c1 c2 => kk _ _ (fun Q2 k2 => ?_))
  · (try rw [em] at cb)
    (try rw [er] at cb)
    exact sp_M_of (m := bmp m 9) h.M (by decide) hx hy (fun _ => k2 _ (inv_bad h)) (fun d1 d2 => absurd ⟨d1.1, d1.2, d2⟩ cb)
  · have a1 := c1
    (try rw [em] at c1)
    (try rw [er] at c1)
    have a2 := c2
    (try rw [em] at c2)
    (try rw [er] at c2)
    exact sp_M_of (m := m) h.M (by decide) hx hy (fun d => absurd ⟨c1.1, c1.2, c2⟩ d) (fun d1 d2 => qv (k2 _ (inv_up h)) (by rw [h.l.2.2.1 x a1, h.l.2.2.2.1 x a1]; rfl))
set_option maxHeartbeats 1000000 in
theorem pr_off {κ : Kx} {n : Nat} {m : Mem} (h : Inv n m) (hn : n ≤ 600)  : PR κ n m vi G_A_off 2 [.ref (ad κ 0 0)] G_M_off 2 [.ref (ad κ 10 0)] := by
  have em := h.men
  have er := h.rds
  have eu := h.u
  have e7 := h.e7
  have e8 := h.e8
  have e9 := h.e9
  have z1 := h.z1
  have z2 := h.z2
  have ez := h.z.1
  have hm6 := h.S.2.2.2.2.1
  have hr3 := h.S.2.2.2.2.2.1
  have hdy := h.S.2.2.2.1
  have ed : (m 2 0).1 3 = (m 10 0).1 6 := h.l.1.2.2.2.1
  intro Q kk
  refine sp_A_off h.S (by decide) (kk _ _ (fun Q2 k2 => ?_))
  exact sp_M_off (m := m) h.M (by decide) (qv (k2 _ (inv_up h)) (offS_lv h.l).symm)
set_option maxHeartbeats 1000000 in
theorem pr_now {κ : Kx} {n : Nat} {m : Mem} (h : Inv n m) (hn : n ≤ 600) {x : Int} (hx : R32 x) : PR κ n m vi G_A_now 1 [.ref (ad κ 0 0), vi x] G_M_now 2 [.ref (ad κ 10 0), vi x] := by
  have em := h.men
  have er := h.rds
  have eu := h.u
  have e7 := h.e7
  have e8 := h.e8
  have e9 := h.e9
  have z1 := h.z1
  have z2 := h.z2
  have ez := h.z.1
  have hm6 := h.S.2.2.2.2.1
  have hr3 := h.S.2.2.2.2.2.1
  have hdy := h.S.2.2.2.1
  have ed : (m 2 0).1 3 = (m 10 0).1 6 := h.l.1.2.2.2.1
  intro Q kk
  refine sp_A_now h.S (by decide) hx (fun cb => kk _ _ (fun Q2 k2 => ?_)) (fun c1 => kk _ _ (fun Q2 k2 => ?_))
  · (try rw [em] at cb)
    (try rw [er] at cb)
    exact sp_M_now (m := bmp m 9) h.M (by decide) hx (fun _ => k2 _ (inv_bad h)) (fun d1 => absurd d1 cb)
  · have a1 := c1
    (try rw [em] at c1)
    (try rw [er] at c1)
    exact sp_M_now (m := m) h.M (by decide) hx (fun d => absurd c1 d) (fun d1 => qv (k2 _ (inv_up h)) ((nowS_lv h.l x).symm))
set_option maxHeartbeats 1000000 in
theorem pr_best {κ : Kx} {n : Nat} {m : Mem} (h : Inv n m) (hn : n ≤ 600) {x : Int} {y : Int} {t : Int} (hx : R32 x) (hy : R32 y) (ht : R32 t) : PR κ n m vi G_A_best 3 [.ref (ad κ 0 0), vi x, vi y, vi t] G_M_best 5 [.ref (ad κ 10 0), vi x, vi y, vi t] := by
  have em := h.men
  have er := h.rds
  have eu := h.u
  have e7 := h.e7
  have e8 := h.e8
  have e9 := h.e9
  have z1 := h.z1
  have z2 := h.z2
  have ez := h.z.1
  have hm6 := h.S.2.2.2.2.1
  have hr3 := h.S.2.2.2.2.2.1
  have hdy := h.S.2.2.2.1
  have ed : (m 2 0).1 3 = (m 10 0).1 6 := h.l.1.2.2.2.1
  intro Q kk
  refine sp_A_best h.S (by decide) hx hy ht (fun cb => kk _ _ (fun Q2 k2 => ?_)) (fun c1 c2 c3 => kk _ _ (fun Q2 k2 => ?_))
  · (try rw [em] at cb)
    (try rw [er] at cb)
    exact sp_M_best (m := bmp m 9) h.M (by decide) hx hy ht (fun _ => k2 _ (inv_bad h)) (fun d1 d2 d3 => absurd ⟨d1, d2, d3⟩ cb)
  · have a1 := c1
    (try rw [em] at c1)
    (try rw [er] at c1)
    have a2 := c2
    (try rw [em] at c2)
    (try rw [er] at c2)
    have a3 := c3
    (try rw [em] at c3)
    (try rw [er] at c3)
    exact sp_M_best (m := m) h.M (by decide) hx hy ht (fun d => absurd ⟨c1, c2, c3⟩ d) (fun d1 d2 d3 => qv (k2 _ (inv_up h)) (by rw [best_eq h.S (by omega), loN_lv h.l, allN_lv h.l]))
set_option maxHeartbeats 1000000 in
theorem pr_fewest {κ : Kx} {n : Nat} {m : Mem} (h : Inv n m) (hn : n ≤ 600) {x : Int} {y : Int} (hx : R32 x) (hy : R32 y) : PR κ n m vi G_A_fewest 3 [.ref (ad κ 0 0), vi x, vi y] G_M_fewest 5 [.ref (ad κ 10 0), vi x, vi y] := by
  have em := h.men
  have er := h.rds
  have eu := h.u
  have e7 := h.e7
  have e8 := h.e8
  have e9 := h.e9
  have z1 := h.z1
  have z2 := h.z2
  have ez := h.z.1
  have hm6 := h.S.2.2.2.2.1
  have hr3 := h.S.2.2.2.2.2.1
  have hdy := h.S.2.2.2.1
  have ed : (m 2 0).1 3 = (m 10 0).1 6 := h.l.1.2.2.2.1
  intro Q kk
  refine sp_A_fewest h.S (by decide) hx hy (fun cb => kk _ _ (fun Q2 k2 => ?_)) (fun c1 c2 => kk _ _ (fun Q2 k2 => ?_))
  · (try rw [em] at cb)
    (try rw [er] at cb)
    exact sp_M_fewest (m := bmp m 9) h.M (by decide) hx hy (fun _ => k2 _ (inv_bad h)) (fun d1 d2 => absurd ⟨d1, d2⟩ cb)
  · have a1 := c1
    (try rw [em] at c1)
    (try rw [er] at c1)
    have a2 := c2
    (try rw [em] at c2)
    (try rw [er] at c2)
    exact sp_M_fewest (m := m) h.M (by decide) hx hy (fun d => absurd ⟨c1, c2⟩ d) (fun d1 d2 => qv (k2 _ (inv_up h)) (by rw [feN_lv h.l, allN_lv h.l]))
set_option maxHeartbeats 1000000 in
theorem pr_mutiny {κ : Kx} {n : Nat} {m : Mem} (h : Inv n m) (hn : n ≤ 600) {y : Int} (hy : R32 y) : PR κ n m vi G_A_mutiny 4 [.ref (ad κ 0 0), vi y] G_M_mutiny 4 [.ref (ad κ 10 0), vi y] := by
  have em := h.men
  have er := h.rds
  have eu := h.u
  have e7 := h.e7
  have e8 := h.e8
  have e9 := h.e9
  have z1 := h.z1
  have z2 := h.z2
  have ez := h.z.1
  have hm6 := h.S.2.2.2.2.1
  have hr3 := h.S.2.2.2.2.2.1
  have hdy := h.S.2.2.2.1
  have ed : (m 2 0).1 3 = (m 10 0).1 6 := h.l.1.2.2.2.1
  intro Q kk
  refine sp_A_mutiny h.S (by decide) hy (fun cb => kk _ _ (fun Q2 k2 => ?_)) (fun c1 => kk _ _ (fun Q2 k2 => ?_))
  · (try rw [em] at cb)
    (try rw [er] at cb)
    exact sp_M_mutiny (m := bmp m 9) h.M (by decide) hy (fun _ => k2 _ (inv_bad h)) (fun d1 => absurd d1 cb)
  · have a1 := c1
    (try rw [em] at c1)
    (try rw [er] at c1)
    exact sp_M_mutiny (m := m) h.M (by decide) hy (fun d => absurd c1 d) (fun d1 => qv (k2 _ (inv_up h)) (by rw [moN_lv h.l a1 _ (fun k hk => by omega), em]))
set_option maxHeartbeats 1000000 in
theorem pr_began {κ : Kx} {n : Nat} {m : Mem} (h : Inv n m) (hn : n ≤ 600) {x : Int} {t : Int} (hx : R32 x) (ht : R32 t) : PR κ n m vi G_A_began 4 [.ref (ad κ 0 0), vi x, vi t] G_M_began 3 [.ref (ad κ 10 0), vi x, vi t] := by
  have em := h.men
  have er := h.rds
  have eu := h.u
  have e7 := h.e7
  have e8 := h.e8
  have e9 := h.e9
  have z1 := h.z1
  have z2 := h.z2
  have ez := h.z.1
  have hm6 := h.S.2.2.2.2.1
  have hr3 := h.S.2.2.2.2.2.1
  have hdy := h.S.2.2.2.1
  have ed : (m 2 0).1 3 = (m 10 0).1 6 := h.l.1.2.2.2.1
  intro Q kk
  refine sp_A_began h.S (by decide) h.r0.1 hx ht (fun cb => kk _ _ (fun Q2 k2 => ?_)) (fun c1 c2 => kk _ _ (fun Q2 k2 => ?_))
  · (try rw [em] at cb)
    (try rw [er] at cb)
    exact sp_M_began (m := bmp m 9) h.M (by decide) h.r0.2.2.1 hx ht (fun _ => k2 _ (inv_bad h)) (fun d1 d2 => absurd ⟨d1, d2⟩ cb)
  · have a1 := c1
    (try rw [em] at c1)
    (try rw [er] at c1)
    have a2 := c2
    (try rw [em] at c2)
    (try rw [er] at c2)
    exact sp_M_began (m := m) h.M (by decide) h.r0.2.2.1 hx ht (fun d => absurd ⟨c1, c2⟩ d) (fun d1 d2 => qv (k2 _ (inv_up h)) ((begA_lv h.l h.r0.2.2.2.1 h.r0.2.1 a1 t).symm))
set_option maxHeartbeats 1000000 in
theorem pr_is {κ : Kx} {n : Nat} {m : Mem} (h : Inv n m) (hn : n ≤ 600) {x : Int} (hx : R32 x) : PR κ n m vi G_A_is 4 [.ref (ad κ 0 0), vi x] G_M_is 3 [.ref (ad κ 10 0), vi x] := by
  have em := h.men
  have er := h.rds
  have eu := h.u
  have e7 := h.e7
  have e8 := h.e8
  have e9 := h.e9
  have z1 := h.z1
  have z2 := h.z2
  have ez := h.z.1
  have hm6 := h.S.2.2.2.2.1
  have hr3 := h.S.2.2.2.2.2.1
  have hdy := h.S.2.2.2.1
  have ed : (m 2 0).1 3 = (m 10 0).1 6 := h.l.1.2.2.2.1
  intro Q kk
  refine sp_A_is h.S (by decide) hx h.r1.1 (h.r1.2.2.2.2 rfl) (fun cb => kk _ _ (fun Q2 k2 => ?_)) (fun c1 => kk _ _ (fun Q2 k2 => ?_))
  · (try rw [em] at cb)
    (try rw [er] at cb)
    exact sp_M_is (m := bmp m 9) h.M (by decide) h.r1.2.2.1 h.r1.v hx (fun _ => k2 _ (inv_bad h)) (fun d1 => absurd d1 cb)
  · have a1 := c1
    (try rw [em] at c1)
    (try rw [er] at c1)
    exact sp_M_is (m := m) h.M (by decide) h.r1.2.2.1 h.r1.v hx (fun d => absurd c1 d) (fun d1 => qv (k2 _ (inv_up h)) ((kfN_lr h.r1.2.2.2.1 h.r1.2.1 x 1 6).symm))
set_option maxHeartbeats 1000000 in
theorem pr_kinds {κ : Kx} {n : Nat} {m : Mem} (h : Inv n m) (hn : n ≤ 600) {x : Int} (hx : R32 x) : PR κ n m vi G_A_kinds 4 [.ref (ad κ 0 0), vi x] G_M_kinds 3 [.ref (ad κ 10 0), vi x] := by
  have em := h.men
  have er := h.rds
  have eu := h.u
  have e7 := h.e7
  have e8 := h.e8
  have e9 := h.e9
  have z1 := h.z1
  have z2 := h.z2
  have ez := h.z.1
  have hm6 := h.S.2.2.2.2.1
  have hr3 := h.S.2.2.2.2.2.1
  have hdy := h.S.2.2.2.1
  have ed : (m 2 0).1 3 = (m 10 0).1 6 := h.l.1.2.2.2.1
  intro Q kk
  refine sp_A_kinds h.S (by decide) hx h.r2.1 (h.r2.2.2.2.2 rfl) (fun cb => kk _ _ (fun Q2 k2 => ?_)) (fun c1 => kk _ _ (fun Q2 k2 => ?_))
  · (try rw [em] at cb)
    (try rw [er] at cb)
    exact sp_M_kinds (m := bmp m 9) h.M (by decide) h.r2.2.2.1 h.r2.v hx (fun _ => k2 _ (inv_bad h)) (fun d1 => absurd d1 cb)
  · have a1 := c1
    (try rw [em] at c1)
    (try rw [er] at c1)
    exact sp_M_kinds (m := m) h.M (by decide) h.r2.2.2.1 h.r2.v hx (fun d => absurd c1 d) (fun d1 => qv (k2 _ (inv_up h)) ((kfN_lr h.r2.2.2.2.1 h.r2.2.1 x 0 6).symm))
set_option maxHeartbeats 1000000 in
theorem pr_look {κ : Kx} {n : Nat} {m : Mem} (h : Inv n m) (hn : n ≤ 600) {x : Int} (hx : R32 x) : PR κ n m vi G_A_look 4 [.ref (ad κ 0 0), vi x] G_M_look 3 [.ref (ad κ 10 0), vi x] := by
  have em := h.men
  have er := h.rds
  have eu := h.u
  have e7 := h.e7
  have e8 := h.e8
  have e9 := h.e9
  have z1 := h.z1
  have z2 := h.z2
  have ez := h.z.1
  have hm6 := h.S.2.2.2.2.1
  have hr3 := h.S.2.2.2.2.2.1
  have hdy := h.S.2.2.2.1
  have ed : (m 2 0).1 3 = (m 10 0).1 6 := h.l.1.2.2.2.1
  intro Q kk
  refine sp_A_look h.S (by decide) hx h.r1.1 (h.r1.2.2.2.2 rfl) (fun cb => kk _ _ (fun Q2 k2 => ?_)) (fun c1 g8 => kk _ _ (fun Q2 k2 => ?_))
  · (try rw [em] at cb)
    (try rw [er] at cb)
    exact sp_M_look (m := bmp m 9) h.M (by decide) h.r1.2.2.1 h.r1.v hx (fun _ => k2 _ (inv_bad h)) (fun d1 => absurd d1 cb)
  · have a1 := c1
    (try rw [em] at c1)
    (try rw [er] at c1)
    exact sp_M_look (m := mset m 8 0 ((m 8 0).1, aup (m 8 0).2 0 g8)) h.M (by decide) h.r1.2.2.1 h.r1.v hx (fun d => absurd c1 d) (fun d1 => qv (k2 _ (inv_up h)) (congrArg lookA (kfN_lr h.r1.2.2.2.1 h.r1.2.1 x 1 6).symm))
set_option maxHeartbeats 1000000 in
theorem pr_ask {κ : Kx} {n : Nat} {m : Mem} (h : Inv n m) (hn : n ≤ 600) {x : Int} (hx : R32 x) : PR κ n m vi G_A_ask 4 [.ref (ad κ 0 0), vi x] G_M_ask 3 [.ref (ad κ 10 0), vi x] := by
  have em := h.men
  have er := h.rds
  have eu := h.u
  have e7 := h.e7
  have e8 := h.e8
  have e9 := h.e9
  have z1 := h.z1
  have z2 := h.z2
  have ez := h.z.1
  have hm6 := h.S.2.2.2.2.1
  have hr3 := h.S.2.2.2.2.2.1
  have hdy := h.S.2.2.2.1
  have ed : (m 2 0).1 3 = (m 10 0).1 6 := h.l.1.2.2.2.1
  intro Q kk
  refine sp_A_ask h.S (by decide) hx h.r2.1 (h.r2.2.2.2.2 rfl) (fun cb => kk _ _ (fun Q2 k2 => ?_)) (fun c1 g8 => kk _ _ (fun Q2 k2 => ?_))
  · (try rw [em] at cb)
    (try rw [er] at cb)
    exact sp_M_ask (m := bmp m 9) h.M (by decide) h.r2.2.2.1 h.r2.v hx (fun _ => k2 _ (inv_bad h)) (fun d1 => absurd d1 cb)
  · have a1 := c1
    (try rw [em] at c1)
    (try rw [er] at c1)
    exact sp_M_ask (m := mset m 8 0 ((m 8 0).1, aup (m 8 0).2 0 g8)) h.M (by decide) h.r2.2.2.1 h.r2.v hx (fun d => absurd c1 d) (fun d1 => qv (k2 _ (inv_up h)) (congrArg askA (kfN_lr h.r2.2.2.2.1 h.r2.2.1 x 0 6).symm))
set_option maxHeartbeats 1000000 in
theorem pr_count {κ : Kx} {n : Nat} {m : Mem} (h : Inv n m) (hn : n ≤ 600) {x : Int} (hx : R32 x) : PR κ n m vi G_A_count 1 [.ref (ad κ 0 0), vi x] G_M_count 2 [.ref (ad κ 10 0), vi x] := by
  have em := h.men
  have er := h.rds
  have eu := h.u
  have e7 := h.e7
  have e8 := h.e8
  have e9 := h.e9
  have z1 := h.z1
  have z2 := h.z2
  have ez := h.z.1
  have hm6 := h.S.2.2.2.2.1
  have hr3 := h.S.2.2.2.2.2.1
  have hdy := h.S.2.2.2.1
  have ed : (m 2 0).1 3 = (m 10 0).1 6 := h.l.1.2.2.2.1
  intro Q kk
  refine sp_A_count h.S (by decide) hx (fun cb => kk _ _ (fun Q2 k2 => ?_)) (fun c1 => kk _ _ (fun Q2 k2 => ?_))
  · (try rw [em] at cb)
    (try rw [er] at cb)
    exact sp_M_count (m := bmp m 9) h.M (by decide) hx (fun _ => k2 _ (inv_bad h)) (fun d1 => absurd d1 cb)
  · have a1 := c1
    (try rw [em] at c1)
    (try rw [er] at c1)
    exact sp_M_count (m := m) h.M (by decide) hx (fun d => absurd c1 d) (fun d1 => qv (k2 _ (inv_up h)) ((cnt_eq h x).symm))
set_option maxHeartbeats 1000000 in
theorem pr_then {κ : Kx} {n : Nat} {m : Mem} (h : Inv n m) (hn : n ≤ 600) {x : Int} {y : Int} {t : Int} (hx : R32 x) (hy : R32 y) (ht : R32 t) : PR κ n m vi G_A_then 3 [.ref (ad κ 0 0), vi x, vi y, vi t] G_M_then 6 [.ref (ad κ 10 0), vi x, vi y, vi t] := by
  have em := h.men
  have er := h.rds
  have eu := h.u
  have e7 := h.e7
  have e8 := h.e8
  have e9 := h.e9
  have z1 := h.z1
  have z2 := h.z2
  have ez := h.z.1
  have hm6 := h.S.2.2.2.2.1
  have hr3 := h.S.2.2.2.2.2.1
  have hdy := h.S.2.2.2.1
  have ed : (m 2 0).1 3 = (m 10 0).1 6 := h.l.1.2.2.2.1
  intro Q kk
  refine sp_A_then h.S (by decide) hx hy ht (fun cb => kk _ _ (fun Q2 k2 => ?_)) (fun c1 c2 c3 => kk _ _ (fun Q2 k2 => ?_))
  · (try rw [em] at cb)
    (try rw [er] at cb)
    exact sp_M_then (m := bmp m 9) h.M (by decide) hx hy ht (fun _ => k2 _ (inv_bad h)) (fun d1 d2 d3 g9 => absurd ⟨d1, d2, d3⟩ cb)
  · have a1 := c1
    (try rw [em] at c1)
    (try rw [er] at c1)
    have a2 := c2
    (try rw [em] at c2)
    (try rw [er] at c2)
    have a3 := c3
    (try rw [em] at c3)
    (try rw [er] at c3)
    exact sp_M_then (m := mset m 2 3 (saN (m 2 0) x y t.toNat)) h.M (by decide) hx hy ht (fun d => absurd ⟨c1, c2, c3⟩ d) (fun d1 d2 d3 g9 => qv (k2 _ (⟨h.c, (saN_ok h.S x y t.toNat).day (by have h9 := (saN_ok h.S x y t.toNat).2.2.2.1; omega), h.z, h.f, h.s, h.a, h.b⟩)) ((offS_lv (saN_lv h.l x y t.toNat)).symm))
set_option maxHeartbeats 1000000 in
theorem pr_when {κ : Kx} {n : Nat} {m : Mem} (h : Inv n m) (hn : n ≤ 600) {x : Int} {y : Int} (hx : R32 x) (hy : R32 y) : PR κ n m vi G_A_when 3 [.ref (ad κ 0 0), vi x, vi y] G_M_when 3 [.ref (ad κ 10 0), vi x, vi y] := by
  have em := h.men
  have er := h.rds
  have eu := h.u
  have e7 := h.e7
  have e8 := h.e8
  have e9 := h.e9
  have z1 := h.z1
  have z2 := h.z2
  have ez := h.z.1
  have hm6 := h.S.2.2.2.2.1
  have hr3 := h.S.2.2.2.2.2.1
  have hdy := h.S.2.2.2.1
  have ed : (m 2 0).1 3 = (m 10 0).1 6 := h.l.1.2.2.2.1
  intro Q kk
  refine sp_A_whenB h.S (by decide) hx hy (fun cb => kk _ _ (fun Q2 k2 => ?_)) (fun c1 c2 a8 ha8 => kk _ _ (fun Q2 k2 => ?_))
  · (try rw [em] at cb)
    (try rw [er] at cb)
    exact sp_M_when (m := bmp m 9) h.M (by decide) hx hy (fun _ => k2 _ (inv_bad h)) (fun d1 d2 g9 => absurd ⟨d1, d2⟩ cb)
  · have a1 := c1
    (try rw [em] at c1)
    (try rw [er] at c1)
    have a2 := c2
    (try rw [em] at c2)
    (try rw [er] at c2)
    exact sp_M_when (m := mset m 2 3 (saN (m 2 0) 0 (-1) a8)) h.M (by decide) hx hy (fun d => absurd ⟨c1, c2⟩ d) (fun d1 d2 g9 => qv (k2 _ (⟨h.c, (saN_ok h.S 0 (-1) a8).day (by have h9 := (saN_ok h.S 0 (-1) a8).2.2.2.1; omega), h.z, h.f, h.s, h.a, h.b⟩)) ((whN_lv h.l a1 y 61).symm))
set_option maxHeartbeats 1000000 in
theorem pr_voyages {κ : Kx} {n : Nat} {m : Mem} (h : Inv n m) (hn : n ≤ 600) {s : Int} {t : Int} (hs : R32 s) (ht : R32 t) : PR κ n m vi G_A_voyages 3 [.ref (ad κ 0 0), vi s, vi t] G_M_voyages 6 [.ref (ad κ 10 0), vi s, vi t] := by
  have em := h.men
  have er := h.rds
  have eu := h.u
  have e7 := h.e7
  have e8 := h.e8
  have e9 := h.e9
  have z1 := h.z1
  have z2 := h.z2
  have ez := h.z.1
  have hm6 := h.S.2.2.2.2.1
  have hr3 := h.S.2.2.2.2.2.1
  have hdy := h.S.2.2.2.1
  have ed : (m 2 0).1 3 = (m 10 0).1 6 := h.l.1.2.2.2.1
  intro Q kk
  refine sp_A_voyages h.S (by decide) hs ht (fun cb => kk _ _ (fun Q2 k2 => ?_)) (fun c1 c2 => kk _ _ (fun Q2 k2 => ?_))
  · (try rw [em] at cb)
    (try rw [er] at cb)
    exact sp_M_voyages (m := bmp m 9) h.M (by decide) hs ht (fun _ => k2 _ (inv_bad h)) (fun d1 d2 g9 => absurd ⟨d1, d2⟩ cb)
  · have a1 := c1
    (try rw [em] at c1)
    (try rw [er] at c1)
    have a2 := c2
    (try rw [em] at c2)
    (try rw [er] at c2)
    exact sp_M_voyages (m := mset m 2 3 (vyS (m 2 0) s t.toNat)) h.M (by decide) hs ht (fun d => absurd ⟨c1, c2⟩ d) (fun d1 d2 g9 => qv (k2 _ (⟨h.c, (vyS_ok h.S s t.toNat).day (by have h9 := (vyS_ok h.S s t.toNat).2.2.2.1; omega), h.z, h.f, h.s, h.a, h.b⟩)) ((vyZ_lv h.l s t.toNat).symm))
