/-! ===== class and model, call by call: what changes ===== -/
set_option maxHeartbeats 1000000 in
theorem pr_ship {κ : Kx} {n : Nat} {m : Mem} (h : Inv n m) (hn : n ≤ 600) {x : Int} (hx : R32 x) : PR κ n m vi G_A_ship 2 [.ref (ad κ 0 0), vi x] G_M_ship 1 [.ref (ad κ 10 0), vi x] := by
  have em := h.men
  have er := h.rds
  have eu := h.u
  have e7 := h.e7
  have e8 := h.e8
  have e9 := h.e9
  have z1 := h.z1
  have z2 := h.z2
  have ez := h.z.1
  have hm6 := h.S.2.2.2.2.1
  have hr3 := h.S.2.2.2.2.2.1
  have hdy := h.S.2.2.2.1
  have ed : (m 2 0).1 3 = (m 10 0).1 6 := h.l.1.2.2.2.1
  intro Q kk
  refine sp_A_ship hx (fun cb => kk _ _ (fun Q2 k2 => ?_)) (fun c1 => kk _ _ (fun Q2 k2 => ?_))
  · (try rw [em] at cb)
    (try rw [er] at cb)
    exact sp_M_ship (m := bmp m 9) hx (fun _ => k2 _ (inv_bad h)) (fun d1 => absurd d1 cb)
  · have a1 := c1
    (try rw [em] at c1)
    (try rw [er] at c1)
    exact sp_M_ship (m := begM m x) hx (fun d => absurd c1 d) (fun d1 => qv (k2 _ (⟨CR_beg h.c a1, h.t2, h.z, h.f, h.s, h.a, h.b⟩)) (em.symm))
set_option maxHeartbeats 1000000 in
theorem pr_fog {κ : Kx} {n : Nat} {m : Mem} (h : Inv n m) (hn : n ≤ 600) {x : Int} {y : Int} (hx : R32 x) (hy : R32 y) : PR κ n m vi G_A_fog 1 [.ref (ad κ 0 0), vi x, vi y] G_M_fog 1 [.ref (ad κ 10 0), vi x, vi y] := by
  have em := h.men
  have er := h.rds
  have eu := h.u
  have e7 := h.e7
  have e8 := h.e8
  have e9 := h.e9
  have z1 := h.z1
  have z2 := h.z2
  have ez := h.z.1
  have hm6 := h.S.2.2.2.2.1
  have hr3 := h.S.2.2.2.2.2.1
  have hdy := h.S.2.2.2.1
  have ed : (m 2 0).1 3 = (m 10 0).1 6 := h.l.1.2.2.2.1
  intro Q kk
  refine sp_A_fog h.S (by decide) hx hy (fun cb => kk _ _ (fun Q2 k2 => ?_)) (fun c1 c2 => kk _ _ (fun Q2 k2 => ?_))
  · (try rw [em] at cb)
    (try rw [er] at cb)
    exact sp_M_fog (m := bmp m 9) h.M (by decide) hx hy (fun _ => k2 _ (inv_bad h)) (fun d1 d2 => absurd ⟨d1, d2⟩ cb)
  · have a1 := c1
    (try rw [em] at c1)
    (try rw [er] at c1)
    have a2 := c2
    (try rw [em] at c2)
    (try rw [er] at c2)
    exact sp_M_fog (m := mset (mset m 2 0 ((m 2 0).1, aup (m 2 0).2 0 (gup ((m 2 0).2 0) x y))) 4 0 (fup (m 4 0).1 0 0, (m 4 0).2)) h.M (by decide) hx hy (fun d => absurd ⟨c1, c2⟩ d) (fun d1 d2 => qv (k2 _ (⟨CR_fog h.c c2, h.t2, h.z, h.f, h.s, h.a, h.b⟩)) ((h.l.2.1 x (by omega)).symm))
set_option maxHeartbeats 1000000 in
theorem pr_man {κ : Kx} {n : Nat} {m : Mem} (h : Inv n m) (hn : n ≤ 600) {x : Int} {y : Int} (hx : R32 x) (hy : R32 y) : PR κ n m vi G_A_man 1 [.ref (ad κ 0 0), vi x, vi y] G_M_man 1 [.ref (ad κ 10 0), vi x, vi y] := by
  have em := h.men
  have er := h.rds
  have eu := h.u
  have e7 := h.e7
  have e8 := h.e8
  have e9 := h.e9
  have z1 := h.z1
  have z2 := h.z2
  have ez := h.z.1
  have hm6 := h.S.2.2.2.2.1
  have hr3 := h.S.2.2.2.2.2.1
  have hdy := h.S.2.2.2.1
  have ed : (m 2 0).1 3 = (m 10 0).1 6 := h.l.1.2.2.2.1
  intro Q kk
  refine sp_A_man h.S (by decide) hx hy (fun cb => kk _ _ (fun Q2 k2 => ?_)) (fun c1 cf => kk _ _ (fun Q2 k2 => ?_)) (fun c1 cf => kk _ _ (fun Q2 k2 => ?_))
  · (try rw [em] at cb)
    (try rw [er] at cb)
    exact sp_M_man (m := bmp m 9) h.M (by decide) hx hy (fun _ => k2 _ (inv_bad h)) (fun d _ => absurd d cb) (fun d _ => absurd d cb)
  · have a1 := c1
    (try rw [em] at c1)
    (try rw [er] at c1)
    exact sp_M_man (m := bmp m 11) h.M (by decide) hx hy (fun d => absurd c1 d) (fun _ _ => k2 _ (inv_full h)) (fun _ d => absurd (show (m 10 0).1 1 < 6 from d) (by omega))
  · have a1 := c1
    (try rw [em] at c1)
    (try rw [er] at c1)
    exact sp_M_man (m := mset (zP m) 2 0 (addM (m 2 0) x y)) h.M (by decide) hx hy (fun d => absurd c1 d) (fun _ d => absurd (show 6 ≤ (m 10 0).1 1 from d) (by omega)) (fun _ _ => qv (k2 _ (⟨CR_man h.c cf c1.1 c1.2, h.t2, h.z, h.f, h.s, h.a, h.b⟩)) (em.symm))
set_option maxHeartbeats 1000000 in
theorem pr_reader {κ : Kx} {n : Nat} {m : Mem} (h : Inv n m) (hn : n ≤ 600) {x : Int} (hx : R32 x) : PR κ n m vi G_A_reader 1 [.ref (ad κ 0 0), vi x] G_M_reader 1 [.ref (ad κ 10 0), vi x] := by
  have em := h.men
  have er := h.rds
  have eu := h.u
  have e7 := h.e7
  have e8 := h.e8
  have e9 := h.e9
  have z1 := h.z1
  have z2 := h.z2
  have ez := h.z.1
  have hm6 := h.S.2.2.2.2.1
  have hr3 := h.S.2.2.2.2.2.1
  have hdy := h.S.2.2.2.1
  have ed : (m 2 0).1 3 = (m 10 0).1 6 := h.l.1.2.2.2.1
  intro Q kk
  refine sp_A_reader h.S (by decide) hx (fun cb => kk _ _ (fun Q2 k2 => ?_)) (fun c1 cf => kk _ _ (fun Q2 k2 => ?_)) (fun c1 cf => kk _ _ (fun Q2 k2 => ?_))
  · (try rw [em] at cb)
    (try rw [er] at cb)
    exact sp_M_reader (m := bmp m 9) h.M (by decide) hx (fun _ => k2 _ (inv_bad h)) (fun d _ => absurd d cb) (fun d _ => absurd d cb)
  · have a1 := c1
    (try rw [em] at c1)
    (try rw [er] at c1)
    exact sp_M_reader (m := bmp m 11) h.M (by decide) hx (fun d => absurd c1 d) (fun _ _ => k2 _ (inv_full h)) (fun _ d => absurd (show (m 10 0).1 2 < 3 from d) (by omega))
  · have a1 := c1
    (try rw [em] at c1)
    (try rw [er] at c1)
    exact sp_M_reader (m := mset (zP m) 2 0 (addG (m 2 0) x)) h.M (by decide) hx (fun d => absurd c1 d) (fun _ d => absurd (show 3 ≤ (m 10 0).1 2 from d) (by omega)) (fun _ _ => qv (k2 _ (⟨CR_reader h.c cf c1, h.t2, h.z, h.f, h.s, h.a, h.b⟩)) (er.symm))
set_option maxHeartbeats 1000000 in
theorem pr_seen {κ : Kx} {n : Nat} {m : Mem} (h : Inv n m) (hn : n ≤ 600) {x : Int} {y : Int} {t : Int} (hx : R32 x) (hy : R32 y) (ht : R32 t) : PR κ n m vi G_A_seen 2 [.ref (ad κ 0 0), vi x, vi y, vi t] G_M_seen 2 [.ref (ad κ 10 0), vi x, vi y, vi t] := by
  have em := h.men
  have er := h.rds
  have eu := h.u
  have e7 := h.e7
  have e8 := h.e8
  have e9 := h.e9
  have z1 := h.z1
  have z2 := h.z2
  have ez := h.z.1
  have hm6 := h.S.2.2.2.2.1
  have hr3 := h.S.2.2.2.2.2.1
  have hdy := h.S.2.2.2.1
  have ed : (m 2 0).1 3 = (m 10 0).1 6 := h.l.1.2.2.2.1
  intro Q kk
  refine sp_A_seen h.S (by decide) hx hy ht h.r0.1 (fun cb => kk _ _ (fun Q2 k2 => ?_)) (fun c1 cf => kk _ _ (fun Q2 k2 => ?_)) (fun c1 cf => kk _ _ (fun Q2 k2 => ?_))
  · (try rw [em] at cb)
    (try rw [er] at cb)
    exact sp_M_seen (m := bmp m 9) h.M (by decide) hx hy ht h.n7 (fun _ => k2 _ (inv_bad h)) (fun d _ => absurd d cb) (fun d _ => absurd d cb)
  · have a1 := c1
    (try rw [em] at c1)
    (try rw [er] at c1)
    exact sp_M_seen (m := bmp m 11) h.M (by decide) hx hy ht h.n7 (fun d => absurd c1 d) (fun _ _ => k2 _ (inv_full h)) (fun _ d => absurd (show (m 10 0).1 7 < 6 from d) (by omega))
  · have a1 := c1
    (try rw [em] at c1)
    (try rw [er] at c1)
    exact sp_M_seen (m := mset m 3 0 (addR (m 3 0) x y t 0)) h.M (by decide) hx hy ht h.n7 (fun d => absurd c1 d) (fun _ d => absurd (show (m 10 0).1 7 = 6 from d) (by omega)) (fun _ _ => qv (k2 _ (⟨CR_seen h.c cf (by omega) c1.2.1 (by omega), h.t2, h.z, h.f, h.s, h.a, h.b⟩)) (by rw [e7]; rfl))
set_option maxHeartbeats 1000000 in
theorem pr_note {κ : Kx} {n : Nat} {m : Mem} (h : Inv n m) (hn : n ≤ 600) {x : Int} {y : Int} {t : Int} {u : Int} (hx : R32 x) (hy : R32 y) (ht : R32 t) (hu : R32 u) : PR κ n m vi G_A_note 2 [.ref (ad κ 0 0), vi x, vi y, vi t, vi u] G_M_note 2 [.ref (ad κ 10 0), vi x, vi y, vi t, vi u] := by
  have em := h.men
  have er := h.rds
  have eu := h.u
  have e7 := h.e7
  have e8 := h.e8
  have e9 := h.e9
  have z1 := h.z1
  have z2 := h.z2
  have ez := h.z.1
  have hm6 := h.S.2.2.2.2.1
  have hr3 := h.S.2.2.2.2.2.1
  have hdy := h.S.2.2.2.1
  have ed : (m 2 0).1 3 = (m 10 0).1 6 := h.l.1.2.2.2.1
  intro Q kk
  refine sp_A_note h.S (by decide) hx hy ht hu h.r1.1 (fun cb => kk _ _ (fun Q2 k2 => ?_)) (fun c1 cf => kk _ _ (fun Q2 k2 => ?_)) (fun c1 cf => kk _ _ (fun Q2 k2 => ?_))
  · (try rw [em] at cb)
    (try rw [er] at cb)
    exact sp_M_note (m := bmp m 9) h.M (by decide) hx hy ht hu h.n8 (fun _ => k2 _ (inv_bad h)) (fun d _ => absurd d cb) (fun d _ => absurd d cb)
  · have a1 := c1
    (try rw [em] at c1)
    (try rw [er] at c1)
    exact sp_M_note (m := bmp m 11) h.M (by decide) hx hy ht hu h.n8 (fun d => absurd c1 d) (fun _ _ => k2 _ (inv_full h)) (fun _ d => absurd (show (m 10 0).1 8 < 6 from d) (by omega))
  · have a1 := c1
    (try rw [em] at c1)
    (try rw [er] at c1)
    exact sp_M_note (m := mset m 3 1 (addR (m 3 1) x y t u)) h.M (by decide) hx hy ht hu h.n8 (fun d => absurd c1 d) (fun _ d => absurd (show (m 10 0).1 8 = 6 from d) (by omega)) (fun _ _ => qv (k2 _ (⟨CR_note h.c cf (by omega) c1.2.1 c1.2.2.1 (by omega), h.t2, h.z, h.f, h.s, h.a, h.b⟩)) (by rw [e8]; rfl))
set_option maxHeartbeats 1000000 in
theorem pr_mark {κ : Kx} {n : Nat} {m : Mem} (h : Inv n m) (hn : n ≤ 600) {x : Int} {y : Int} {t : Int} {u : Int} (hx : R32 x) (hy : R32 y) (ht : R32 t) (hu : R32 u) : PR κ n m vi G_A_mark 2 [.ref (ad κ 0 0), vi x, vi y, vi t, vi u] G_M_mark 2 [.ref (ad κ 10 0), vi x, vi y, vi t, vi u] := by
  have em := h.men
  have er := h.rds
  have eu := h.u
  have e7 := h.e7
  have e8 := h.e8
  have e9 := h.e9
  have z1 := h.z1
  have z2 := h.z2
  have ez := h.z.1
  have hm6 := h.S.2.2.2.2.1
  have hr3 := h.S.2.2.2.2.2.1
  have hdy := h.S.2.2.2.1
  have ed : (m 2 0).1 3 = (m 10 0).1 6 := h.l.1.2.2.2.1
  intro Q kk
  refine sp_A_mark h.S (by decide) hx hy ht hu h.r2.1 (fun cb => kk _ _ (fun Q2 k2 => ?_)) (fun c1 cf => kk _ _ (fun Q2 k2 => ?_)) (fun c1 cf => kk _ _ (fun Q2 k2 => ?_))
  · (try rw [em] at cb)
    (try rw [er] at cb)
    exact sp_M_mark (m := bmp m 9) h.M (by decide) hx hy ht hu h.n9 (fun _ => k2 _ (inv_bad h)) (fun d _ => absurd d cb) (fun d _ => absurd d cb)
  · have a1 := c1
    (try rw [em] at c1)
    (try rw [er] at c1)
    exact sp_M_mark (m := bmp m 11) h.M (by decide) hx hy ht hu h.n9 (fun d => absurd c1 d) (fun _ _ => k2 _ (inv_full h)) (fun _ d => absurd (show (m 10 0).1 9 < 6 from d) (by omega))
  · have a1 := c1
    (try rw [em] at c1)
    (try rw [er] at c1)
    exact sp_M_mark (m := mset m 3 2 (addR (m 3 2) x y t u)) h.M (by decide) hx hy ht hu h.n9 (fun d => absurd c1 d) (fun _ d => absurd (show (m 10 0).1 9 = 6 from d) (by omega)) (fun _ _ => qv (k2 _ (⟨CR_mark h.c cf (by omega) c1.2.1 c1.2.2.1 (by omega), h.t2, h.z, h.f, h.s, h.a, h.b⟩)) (by rw [e9]; rfl))
set_option maxHeartbeats 1000000 in
theorem pr_noon {κ : Kx} {n : Nat} {m : Mem} (h : Inv n m) (hn : n ≤ 600) {x : Int} {y : Int} (hx : R32 x) (hy : R32 y) : PR κ n m vi G_A_noon 3 [.ref (ad κ 0 0), vi x, vi y] G_M_noon 6 [.ref (ad κ 10 0), vi x, vi y] := by
  have em := h.men
  have er := h.rds
  have eu := h.u
  have e7 := h.e7
  have e8 := h.e8
  have e9 := h.e9
  have z1 := h.z1
  have z2 := h.z2
  have ez := h.z.1
  have hm6 := h.S.2.2.2.2.1
  have hr3 := h.S.2.2.2.2.2.1
  have hdy := h.S.2.2.2.1
  have ed : (m 2 0).1 3 = (m 10 0).1 6 := h.l.1.2.2.2.1
  intro Q kk
  refine sp_A_noon h.S (by decide) h.p hx hy (fun cb => kk _ _ (fun Q2 k2 => ?_)) (fun c1 c2 cf => kk _ _ (fun Q2 k2 => ?_)) (fun c1 c2 cf => kk _ _ (fun Q2 k2 => ?_))
  · (try rw [em] at cb)
    (try rw [er] at cb)
    exact sp_M_noon (m := bmp m 9) h.M (by decide) h.u8 hx hy (fun _ => k2 _ (inv_bad h)) (fun d1 d2 _ => absurd ⟨d1, d2⟩ cb) (fun d1 d2 _ => absurd ⟨d1, d2⟩ cb)
  · have a1 := c1
    (try rw [em] at c1)
    (try rw [er] at c1)
    have a2 := c2
    (try rw [em] at c2)
    (try rw [er] at c2)
    exact sp_M_noon (m := bmp m 10) h.M (by decide) h.u8 hx hy (fun d => absurd ⟨c1, c2⟩ d) (fun _ _ _ => k2 _ (inv_no h)) (fun _ _ d => absurd (show (m 10 0).1 6 = 999 by omega) d)
  · have a1 := c1
    (try rw [em] at c1)
    (try rw [er] at c1)
    have a2 := c2
    (try rw [em] at c2)
    (try rw [er] at c2)
    exact sp_M_noon (m := mset (mset m 4 0 (pushP (m 4 0) (m 2 0))) 2 0 (sailS (m 2 0) x y)) h.M (by decide) h.u8 hx hy (fun d => absurd ⟨c1, c2⟩ d) (fun _ _ d => absurd (show (m 10 0).1 6 = 999 from d) (by omega)) (fun _ _ _ => qv (k2 _ ⟨CR_noon h.c cf, h.t2, by unfold nuM; split <;> exact h.z, by unfold nuM; split <;> exact h.f, by unfold nuM; split <;> exact h.s, by unfold nuM; split <;> exact h.a, by unfold nuM; split <;> exact h.b⟩) ((sail_lv h.l x y).1.1).symm)
set_option maxHeartbeats 1000000 in
theorem pr_deed {κ : Kx} {n : Nat} {m : Mem} (h : Inv n m) (hn : n ≤ 600) {x : Int} {y : Int} (hx : R32 x) (hy : R32 y) : PR κ n m vi G_A_deed 2 [.ref (ad κ 0 0), vi x, vi y] G_M_deed 2 [.ref (ad κ 10 0), vi x, vi y] := by
  have em := h.men
  have er := h.rds
  have eu := h.u
  have e7 := h.e7
  have e8 := h.e8
  have e9 := h.e9
  have z1 := h.z1
  have z2 := h.z2
  have ez := h.z.1
  have hm6 := h.S.2.2.2.2.1
  have hr3 := h.S.2.2.2.2.2.1
  have hdy := h.S.2.2.2.1
  have ed : (m 2 0).1 3 = (m 10 0).1 6 := h.l.1.2.2.2.1
  intro Q kk
  refine sp_A_deed h.S (by decide) h.p hx hy (fun cb => kk _ _ (fun Q2 k2 => ?_)) (fun c1 c2 => kk _ _ (fun Q2 k2 => ?_))
  · (try rw [em] at cb)
    (try rw [er] at cb)
    exact sp_M_deed (m := bmp m 9) h.M (by decide) h.u8 hx hy (fun _ => k2 _ (inv_bad h)) (fun d1 d2 => absurd ⟨d1, d2⟩ cb)
  · have a1 := c1
    (try rw [em] at c1)
    (try rw [er] at c1)
    have a2 := c2
    (try rw [em] at c2)
    (try rw [er] at c2)
    exact sp_M_deed (m := mset (mset m 4 0 (pushP (m 4 0) (m 2 0))) 2 0 (addH (m 2 0) x y)) h.M (by decide) h.u8 hx hy (fun d => absurd ⟨c1, c2⟩ d) (fun d1 d2 => qv (k2 _ (⟨CR_deed h.c a1 c2, h.t2, by unfold nuM; split <;> exact h.z, by unfold nuM; split <;> exact h.f, by unfold nuM; split <;> exact h.s, by unfold nuM; split <;> exact h.a, by unfold nuM; split <;> exact h.b⟩)) (congrArg (fun z => min (z + y) 90) (h.l.2.2.2.1 x a1).symm))
set_option maxHeartbeats 1000000 in
theorem pr_undo {κ : Kx} {n : Nat} {m : Mem} (h : Inv n m) (hn : n ≤ 600)  : PR κ n m vi G_A_undo 2 [.ref (ad κ 0 0)] G_M_undo 1 [.ref (ad κ 10 0)] := by
  have em := h.men
  have er := h.rds
  have eu := h.u
  have e7 := h.e7
  have e8 := h.e8
  have e9 := h.e9
  have z1 := h.z1
  have z2 := h.z2
  have ez := h.z.1
  have hm6 := h.S.2.2.2.2.1
  have hr3 := h.S.2.2.2.2.2.1
  have hdy := h.S.2.2.2.1
  have ed : (m 2 0).1 3 = (m 10 0).1 6 := h.l.1.2.2.2.1
  intro Q kk
  refine sp_A_undo h.S (by decide) h.p (fun cn => kk _ _ (fun Q2 k2 => ?_)) (fun c1 => kk _ _ (fun Q2 k2 => ?_))
  · exact sp_M_undo (m := bmp m 10) h.M (by decide) h.u8 (fun _ => k2 _ (inv_no h)) (fun d => absurd (show 1 ≤ (m 10 0).1 23 from d) (by omega))
  · exact sp_M_undo (m := mset (mset m 4 0 (fup (m 4 0).1 0 ((m 4 0).1 0 - 1), (m 4 0).2)) 2 0 (popS (m 4 0) (m 2 0))) h.M (by decide) h.u8 (fun d => absurd (show (m 10 0).1 23 = 0 from d) (by omega)) (fun _ => qv (k2 _ ⟨(CR_undo h.c c1).1, h.t2, h.z, h.f, h.s, h.a, h.b⟩) (CR_undo h.c c1).2.symm)
set_option maxHeartbeats 1000000 in
theorem pr_type {κ : Kx} {n : Nat} {m : Mem} (h : Inv n m) (hn : n ≤ 600) {x : Int} (hx : R32 x) : PR κ n m vi G_A_type 1 [.ref (ad κ 0 0), vi x] G_M_type 1 [.ref (ad κ 10 0), vi x] := by
  have em := h.men
  have er := h.rds
  have eu := h.u
  have e7 := h.e7
  have e8 := h.e8
  have e9 := h.e9
  have z1 := h.z1
  have z2 := h.z2
  have ez := h.z.1
  have hm6 := h.S.2.2.2.2.1
  have hr3 := h.S.2.2.2.2.2.1
  have hdy := h.S.2.2.2.1
  have ed : (m 2 0).1 3 = (m 10 0).1 6 := h.l.1.2.2.2.1
  intro Q kk
  obtain ⟨z, ez0, hB⟩ := h.z.2.2
  refine sp_A_type hx z1 (fun cb => kk _ _ (fun Q2 k2 => ?_)) (fun c1 cf => kk _ _ (fun Q2 k2 => ?_)) (fun c1 cf => kk _ _ (fun Q2 k2 => ?_))
  · exact sp_M_type (m := bmp m 9) hx z2 (fun _ => k2 _ (inv_bad h)) (fun d _ => absurd d cb) (fun d _ => absurd d cb)
  · exact sp_M_type (m := bmp m 11) hx z2 (fun d => absurd c1 d) (fun _ _ => k2 _ (inv_full h)) (fun _ d => absurd (show (m 10 0).1 18 < 150 from d) (by omega))
  · refine sp_M_type (m := mset m 5 0 (fup (m 5 0).1 0 ((m 5 0).1 0 + 1), aup (m 5 0).2 0 (gup ((m 5 0).2 0) ((m 5 0).1 0) x))) hx z2 (fun d => absurd c1 d) (fun _ d => absurd (show (m 10 0).1 18 = 150 from d) (by omega)) (fun _ _ => qv (k2 _ ⟨h.c, h.t2, ?_, h.f, h.s, h.a, h.b⟩) (by show (m 10 0).1 18 + 1 = _; rw [ez]))
    refine ⟨by show (m 5 0).1 0 + 1 = (m 10 0).1 18 + 1; rw [ez], ?_, z + 1, by show (m 5 0).1 0 + 1 = _; omega, by omega, fun k hk => ?_⟩
    · show gup ((m 5 0).2 0) ((m 5 0).1 0) x = gup ((m 10 0).2 8) ((m 10 0).1 18) x
      rw [h.z.2.1, ez]
    · show 0 ≤ gup ((m 5 0).2 0) ((m 5 0).1 0) x k ∧ gup ((m 5 0).2 0) ((m 5 0).1 0) x k ≤ 127
      by_cases e : k = (m 5 0).1 0
      · rw [e, gup_eq]; exact c1
      · rw [gup_ne e]; exact hB.2 k (by omega)
set_option maxHeartbeats 1000000 in
theorem pr_clear {κ : Kx} {n : Nat} {m : Mem} (h : Inv n m) (hn : n ≤ 600)  : PR κ n m vi G_A_clear 0 [.ref (ad κ 0 0)] G_M_clear 0 [.ref (ad κ 10 0)] := by
  have em := h.men
  have er := h.rds
  have eu := h.u
  have e7 := h.e7
  have e8 := h.e8
  have e9 := h.e9
  have z1 := h.z1
  have z2 := h.z2
  have ez := h.z.1
  have hm6 := h.S.2.2.2.2.1
  have hr3 := h.S.2.2.2.2.2.1
  have hdy := h.S.2.2.2.1
  have ed : (m 2 0).1 3 = (m 10 0).1 6 := h.l.1.2.2.2.1
  intro Q kk
  refine sp_A_clear (kk _ _ (fun Q2 k2 => ?_))
  refine sp_M_clear (m := mset m 5 0 (fup (m 5 0).1 0 0, (m 5 0).2)) (qv (k2 _ ⟨h.c, h.t2, ⟨rfl, h.z.2.1, 0, rfl, by decide, fun k hk => ?_⟩, h.f, h.s, h.a, h.b⟩) ez.symm)
  omega
set_option maxHeartbeats 1000000 in
theorem pr_forget {κ : Kx} {n : Nat} {m : Mem} (h : Inv n m) (hn : n ≤ 600) {x : Int} (hx : R32 x) : PR κ n m vi G_A_forget 1 [.ref (ad κ 0 0), vi x] G_M_forget 1 [.ref (ad κ 10 0), vi x] := by
  have em := h.men
  have er := h.rds
  have eu := h.u
  have e7 := h.e7
  have e8 := h.e8
  have e9 := h.e9
  have z1 := h.z1
  have z2 := h.z2
  have ez := h.z.1
  have hm6 := h.S.2.2.2.2.1
  have hr3 := h.S.2.2.2.2.2.1
  have hdy := h.S.2.2.2.1
  have ed : (m 2 0).1 3 = (m 10 0).1 6 := h.l.1.2.2.2.1
  intro Q kk
  refine sp_A_forget h.r0.1 h.r1.1 h.r2.1 hx (fun cb => kk _ _ (fun Q2 k2 => ?_)) (fun c => kk _ _ (fun Q2 k2 => ?_)) (fun c => kk _ _ (fun Q2 k2 => ?_)) (fun c => kk _ _ (fun Q2 k2 => ?_))
  · exact sp_M_forget (m := bmp m 9) hx (fun _ => k2 _ (inv_bad h)) (fun d => absurd (by omega) cb) (fun d => absurd (by omega) cb) (fun d => absurd (by omega) cb)
  · exact sp_M_forget (m := mset m 3 0 (fup (m 3 0).1 0 0, (m 3 0).2)) hx (fun d => absurd (by omega) d) (fun _ => qv (k2 _ ⟨CR_f0 h.c, h.t2, h.z, h.f, h.s, h.a, h.b⟩) e7.symm) (fun d => absurd d (by omega)) (fun d => absurd d (by omega))
  · exact sp_M_forget (m := mset m 3 1 (fup (m 3 1).1 0 0, (m 3 1).2)) hx (fun d => absurd (by omega) d) (fun d => absurd d (by omega)) (fun _ => qv (k2 _ ⟨CR_f1 h.c, h.t2, h.z, h.f, h.s, h.a, h.b⟩) e8.symm) (fun d => absurd d (by omega))
  · exact sp_M_forget (m := mset m 3 2 (fup (m 3 2).1 0 0, (m 3 2).2)) hx (fun d => absurd (by omega) d) (fun d => absurd d (by omega)) (fun d => absurd d (by omega)) (fun _ => qv (k2 _ ⟨CR_f2 h.c, h.t2, h.z, h.f, h.s, h.a, h.b⟩) e9.symm)
set_option maxHeartbeats 1000000 in
theorem pr_status {κ : Kx} {n : Nat} {m : Mem} (h : Inv n m) (hn : n ≤ 600) {x : Int} (hx : R32 x) : PR κ n m vi G_A_status 1 [.ref (ad κ 0 0), vi x] G_M_status 1 [.ref (ad κ 10 0), vi x] := by
  have em := h.men
  have er := h.rds
  have eu := h.u
  have e7 := h.e7
  have e8 := h.e8
  have e9 := h.e9
  have z1 := h.z1
  have z2 := h.z2
  have ez := h.z.1
  have hm6 := h.S.2.2.2.2.1
  have hr3 := h.S.2.2.2.2.2.1
  have hdy := h.S.2.2.2.1
  have ed : (m 2 0).1 3 = (m 10 0).1 6 := h.l.1.2.2.2.1
  intro Q kk
  refine sp_A_status hx (fun cb => kk _ _ (fun Q2 k2 => ?_)) (fun c => kk _ _ (fun Q2 k2 => ?_)) (fun c => kk _ _ (fun Q2 k2 => ?_)) (fun c => kk _ _ (fun Q2 k2 => ?_))
  · exact sp_M_status (m := bmp m 9) hx (fun _ => k2 _ (inv_bad h)) (fun d => absurd d cb)
  · exact sp_M_status (m := m) hx (fun d => absurd (by omega) d) (fun _ => qv (k2 _ (inv_up h)) (by rw [c]; exact h.s.1.symm))
  · exact sp_M_status (m := m) hx (fun d => absurd (by omega) d) (fun _ => qv (k2 _ (inv_up h)) (by rw [c]; exact h.s.2.1.symm))
  · exact sp_M_status (m := m) hx (fun d => absurd (by omega) d) (fun _ => qv (k2 _ (inv_up h)) (by rw [c]; exact h.s.2.2.symm))
set_option maxHeartbeats 1000000 in
theorem pr_part {κ : Kx} {n : Nat} {m : Mem} (h : Inv n m) (hn : n ≤ 600) {x : Int} (hx : R32 x) : PR κ n m vl G_A_part 1 [.ref (ad κ 0 0), vi x] G_M_part 1 [.ref (ad κ 10 0), vi x] := by
  have em := h.men
  have er := h.rds
  have eu := h.u
  have e7 := h.e7
  have e8 := h.e8
  have e9 := h.e9
  have z1 := h.z1
  have z2 := h.z2
  have ez := h.z.1
  have hm6 := h.S.2.2.2.2.1
  have hr3 := h.S.2.2.2.2.2.1
  have hdy := h.S.2.2.2.1
  have ed : (m 2 0).1 3 = (m 10 0).1 6 := h.l.1.2.2.2.1
  intro Q kk
  refine sp_A_part hx (fun cb => kk _ _ (fun Q2 k2 => ?_)) (fun c => kk _ _ (fun Q2 k2 => ?_)) (fun c => kk _ _ (fun Q2 k2 => ?_))
  · exact sp_M_part (m := bmp m 9) hx (fun _ => k2 _ (inv_bad h)) (fun d => absurd (Or.inl d) cb) (fun d => absurd (Or.inr d) cb)
  · exact sp_M_part (m := m) hx (fun d => absurd (Or.inl c) d) (fun _ => ql (k2 _ (inv_up h)) h.f.1.symm) (fun d => absurd d (by omega))
  · exact sp_M_part (m := m) hx (fun d => absurd (Or.inr c) d) (fun d => absurd d (by omega)) (fun _ => ql (k2 _ (inv_up h)) h.f.2.symm)
set_option maxHeartbeats 1000000 in
theorem pr_digest {κ : Kx} {n : Nat} {m : Mem} (h : Inv n m) (hn : n ≤ 600)  : PR κ n m vl G_A_digest 2 [.ref (ad κ 0 0)] G_M_digest 2 [.ref (ad κ 10 0)] := by
  have em := h.men
  have er := h.rds
  have eu := h.u
  have e7 := h.e7
  have e8 := h.e8
  have e9 := h.e9
  have z1 := h.z1
  have z2 := h.z2
  have ez := h.z.1
  have hm6 := h.S.2.2.2.2.1
  have hr3 := h.S.2.2.2.2.2.1
  have hdy := h.S.2.2.2.1
  have ed : (m 2 0).1 3 = (m 10 0).1 6 := h.l.1.2.2.2.1
  intro Q kk
  have o5 := h.r0.2.2.1.2.2
  have o6 := h.r1.2.2.1.2.2
  have o7 := h.r2.2.2.1.2.2
  refine sp_A_digest h.S (by decide) h.r0.1 h.r1.1 h.r2.1 h.p z1 (kk _ _ (fun Q2 k2 => ?_))
  refine sp_M_digest (m := m) h.M (by decide) h.n7 h.n8 h.n9 h.u8 z2 (fun k hk => ?_) (fun k hk => ?_) (fun k hk => ?_) (ql (k2 _ (inv_up h)) (dig_eq h).symm)
  · have h1 := o5 (k / 3 * 4 + k % 3) (by omega)
    have h1 : 0 ≤ (snM (m 10 0)).2 0 (k / 3 * 4 + k % 3) ∧ (snM (m 10 0)).2 0 (k / 3 * 4 + k % 3) ≤ 99 := h1
    rw [sn_c (by omega), show k / 3 * 3 + k % 3 = k by omega] at h1
    show R32 ((m 10 0).2 5 k)
    omega
  · have h1 : 0 ≤ (m 10 0).2 6 k ∧ (m 10 0).2 6 k ≤ 99 := o6 k hk
    show R32 ((m 10 0).2 6 k)
    omega
  · have h1 : 0 ≤ (m 10 0).2 7 k ∧ (m 10 0).2 7 k ≤ 99 := o7 k hk
    show R32 ((m 10 0).2 7 k)
    omega
set_option maxHeartbeats 1000000 in
theorem pr_watch {κ : Kx} {n : Nat} {m : Mem} (h : Inv n m) (hn : n ≤ 600) {x : Int} (hx : R32 x) : PR κ n m vi G_A_watch 21 [.ref (ad κ 0 0), vi x] G_M_watch 5 [.ref (ad κ 10 0), vi x] := by
  have em := h.men
  have er := h.rds
  have eu := h.u
  have e7 := h.e7
  have e8 := h.e8
  have e9 := h.e9
  have z1 := h.z1
  have z2 := h.z2
  have ez := h.z.1
  have hm6 := h.S.2.2.2.2.1
  have hr3 := h.S.2.2.2.2.2.1
  have hdy := h.S.2.2.2.1
  have ed : (m 2 0).1 3 = (m 10 0).1 6 := h.l.1.2.2.2.1
  intro Q kk
  have hB : (m 2 0).1 5 = (((m 2 0).1 5).toNat : Int) := by omega
  have hq : (m 2 0).1 4 = (((m 2 0).1 4).toNat : Int) := by omega
  refine sp_A_watch h.S (by decide) hx (fun c0 cb => kk _ _ (fun Q2 k2 => ?_)) (fun c1 => kk _ _ (fun Q2 k2 => ?_))
  · (try rw [em] at cb)
    exact sp_M_watch (m := bmp m 9) h.M (by decide) hx (er.symm.trans hB) (em.symm.trans hq) (fun _ _ => k2 _ (inv_bad h)) (fun d => d.elim (fun e => absurd e c0) (fun e => absurd e cb))
  · exact sp_M_watch (m := mset m 7 0 (waS (m 2 0) (m 7 0))) h.M (by decide) hx (er.symm.trans hB) (em.symm.trans hq) (fun d0 db => absurd c1 (fun c => c.elim d0 (fun e => db (by rw [em] at e; exact e)))) (fun _ => qv (k2 _ (inv_up h)) (by
      rw [watch_eq hB hq c1]
      exact (watM_lv h.l hB hq x).symm))
set_option maxHeartbeats 1000000 in
theorem pr_officers {κ : Kx} {n : Nat} {m : Mem} (h : Inv n m) (hn : n ≤ 600) {y : Int} {x : Int} (hy : R32 y) (hx : R32 x) : PR κ n m vi G_A_officers 5 [.ref (ad κ 0 0), vi y, vi x] G_M_officers 7 [.ref (ad κ 10 0), vi y, vi x] := by
  have em := h.men
  have er := h.rds
  have eu := h.u
  have e7 := h.e7
  have e8 := h.e8
  have e9 := h.e9
  have z1 := h.z1
  have z2 := h.z2
  have ez := h.z.1
  have hm6 := h.S.2.2.2.2.1
  have hr3 := h.S.2.2.2.2.2.1
  have hdy := h.S.2.2.2.1
  have ed : (m 2 0).1 3 = (m 10 0).1 6 := h.l.1.2.2.2.1
  intro Q kk
  refine sp_A_officers h.S (by decide) hx hy (fun cb => kk _ _ (fun Q2 k2 => ?_)) (fun c1 c2 => kk _ _ (fun Q2 k2 => ?_))
  · (try rw [em] at cb)
    (try rw [er] at cb)
    exact sp_M_officers (m := bmp m 9) h.M (by decide) hx hy (fun _ => k2 _ (inv_bad h)) (fun d1 d2 => absurd ⟨d1, d2⟩ cb)
  · have a1 := c1
    (try rw [em] at c1)
    (try rw [er] at c1)
    have a2 := c2
    (try rw [em] at c2)
    (try rw [er] at c2)
    exact sp_M_officers (m := m) h.M (by decide) hx hy (fun d => absurd ⟨c1, c2⟩ d) (fun d1 d2 => qv (k2 _ (inv_up h)) (by rw [← ttC_lv h.l, ← ttT_lv h.l, ← em, (ttT_t _).2 (-5)]))
set_option maxHeartbeats 1000000 in
theorem pr_cape {κ : Kx} {n : Nat} {m : Mem} (h : Inv n m) (hn : n ≤ 600) {x : Int} {y : Int} {t : Int} (hx : R32 x) (hy : R32 y) (ht : R32 t) : PR κ n m vi G_A_cape 21 [.ref (ad κ 0 0), vi x, vi y, vi t] G_M_cape 7 [.ref (ad κ 10 0), vi x, vi y, vi t] := by
  have em := h.men
  have er := h.rds
  have eu := h.u
  have e7 := h.e7
  have e8 := h.e8
  have e9 := h.e9
  have z1 := h.z1
  have z2 := h.z2
  have ez := h.z.1
  have hm6 := h.S.2.2.2.2.1
  have hr3 := h.S.2.2.2.2.2.1
  have hdy := h.S.2.2.2.1
  have ed : (m 2 0).1 3 = (m 10 0).1 6 := h.l.1.2.2.2.1
  intro Q kk
  have hB : (m 2 0).1 4 + 1 = (((m 2 0).1 4 + 1).toNat : Int) := by omega
  refine sp_A_cape h.S (by decide) hx hy ht (fun cb => kk _ _ (fun Q2 k2 => ?_)) (fun c1 c2 c3 m2 hf => kk _ _ (fun Q2 k2 => ?_))
  · (try rw [em] at cb)
    (try rw [er] at cb)
    exact sp_M_cape (m := bmp m 9) (B := ((m 2 0).1 4 + 1).toNat) h.M (by decide) (by rw [← hB, em]; rfl) hx hy ht (fun _ => k2 _ (inv_bad h)) (fun d1 d2 d3 => absurd ⟨d1, d2, d3⟩ cb)
  · have e10 : m2 10 0 = m 10 0 := hf 10 0 (by decide) (by decide)
    have a2 := c2
    rw [er, ← e10] at c2
    exact sp_M_cape (m := m2) (B := ((m 2 0).1 4 + 1).toNat) (by rw [e10]; exact h.M) (by decide) (by rw [e10, ← em]; exact hB) hx hy ht (fun d => absurd ⟨c1, c2, c3⟩ d) (fun _ _ _ g => qv (k2 _ (inv_up (m := m2) (inv_of h hf))) (by rw [e10, ← cpN_lv h.l]; exact (cape_eq h.S a2 hB c3).symm))
set_option maxHeartbeats 1000000 in
theorem pr_slips {κ : Kx} {n : Nat} {m : Mem} (h : Inv n m) (hn : n ≤ 600) {x : Int} {y : Int} {t : Int} (hx : R32 x) (hy : R32 y) (ht : R32 t) : PR κ n m vi G_A_slips 2 [.ref (ad κ 0 0), vi x, vi y, vi t] G_M_slips 5 [.ref (ad κ 10 0), vi x, vi y, vi t] := by
  have em := h.men
  have er := h.rds
  have eu := h.u
  have e7 := h.e7
  have e8 := h.e8
  have e9 := h.e9
  have z1 := h.z1
  have z2 := h.z2
  have ez := h.z.1
  have hm6 := h.S.2.2.2.2.1
  have hr3 := h.S.2.2.2.2.2.1
  have hdy := h.S.2.2.2.1
  have ed : (m 2 0).1 3 = (m 10 0).1 6 := h.l.1.2.2.2.1
  intro Q kk
  refine sp_A_slips h.S (by decide) hx hy ht (fun cb => kk _ _ (fun Q2 k2 => ?_)) (fun c1 c2 c3 hf => kk _ _ (fun Q2 k2 => ?_)) (fun c1 c2 c3 hf => kk _ _ (fun Q2 k2 => ?_))
  · (try rw [em] at cb)
    (try rw [er] at cb)
    exact sp_M_slips (m := bmp m 9) h.M (by decide) hx hy ht (fun _ => k2 _ (inv_bad h)) (fun d1 d2 d3 => absurd ⟨d1, d2, d3⟩ cb)
  · have a1 := c1
    rw [em] at c1
    rw [er] at c2
    have e := slip_fog (e := errS (shM (m 10 0)) x y) (by omega) c1 c3
    have hg : decide (fogB (shM (m 10 0))) = true := decide_eq_true ((fog_lv h.l).mp hf)
    refine sp_M_slips (m := mset m 9 0 (fup (fup (m 9 0).1 0 1) 1 1, (m 9 0).2)) h.M (by decide) hx hy ht (fun d => absurd ⟨c1, c2, c3⟩ d) (fun _ _ _ => k2 _ ⟨h.c, h.t2, h.z, ⟨?_, ?_⟩, h.s, h.a, h.b⟩)
    · show 1 = smN x t (errS (shM (m 10 0)) x y) (decide (fogB (shM (m 10 0)))) ((m 10 0).1 1).toNat (x.toNat + 1) / (Nat.gcd (smN x t (errS (shM (m 10 0)) x y) (decide (fogB (shM (m 10 0)))) ((m 10 0).1 1).toNat (x.toNat + 1)).toNat (wlN x ((m 10 0).1 1).toNat).toNat : Nat)
      rw [hg]
      exact e.1.symm
    · show 1 = wlN x ((m 10 0).1 1).toNat / (Nat.gcd (smN x t (errS (shM (m 10 0)) x y) (decide (fogB (shM (m 10 0)))) ((m 10 0).1 1).toNat (x.toNat + 1)).toNat (wlN x ((m 10 0).1 1).toNat).toNat : Nat)
      rw [hg]
      exact e.2.symm
  · rw [em] at c1
    rw [er] at c2
    have e := slip_eq (e := errS (shM (m 10 0)) x y) (by omega) c1 c3
    have hg : decide (fogB (shM (m 10 0))) = false := decide_eq_false (fun g => hf ((fog_lv h.l).mpr g))
    refine sp_M_slips (m := mset m 9 0 (fup (fup (m 9 0).1 0 (slA (bc x) (-errS (m 2 0) x y) t)) 1 (slB (bc x) (-errS (m 2 0) x y) t), (m 9 0).2)) h.M (by decide) hx hy ht (fun d => absurd ⟨c1, c2, c3⟩ d) (fun _ _ _ => k2 _ ⟨h.c, h.t2, h.z, ⟨?_, ?_⟩, h.s, h.a, h.b⟩)
    · show slA (bc x) (-errS (m 2 0) x y) t = smN x t (errS (shM (m 10 0)) x y) (decide (fogB (shM (m 10 0)))) ((m 10 0).1 1).toNat (x.toNat + 1) / (Nat.gcd (smN x t (errS (shM (m 10 0)) x y) (decide (fogB (shM (m 10 0)))) ((m 10 0).1 1).toNat (x.toNat + 1)).toNat (wlN x ((m 10 0).1 1).toNat).toNat : Nat)
      rw [hg, errS_lv h.l]
      exact e.1
    · show slB (bc x) (-errS (m 2 0) x y) t = wlN x ((m 10 0).1 1).toNat / (Nat.gcd (smN x t (errS (shM (m 10 0)) x y) (decide (fogB (shM (m 10 0)))) ((m 10 0).1 1).toNat (x.toNat + 1)).toNat (wlN x ((m 10 0).1 1).toNat).toNat : Nat)
      rw [hg, errS_lv h.l]
      exact e.2
