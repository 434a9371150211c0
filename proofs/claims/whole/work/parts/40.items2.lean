/-- what no item touches -/
def FRm (M M' : Rc) : Prop := M'.1 7 = M.1 7 ∧ M'.1 8 = M.1 8 ∧ M'.1 9 = M.1 9 ∧ M'.1 18 = M.1 18 ∧ M'.1 25 = M.1 25 ∧ M'.1 26 = M.1 26 ∧ M'.2 0 = M.2 0 ∧ M'.2 5 = M.2 5 ∧ M'.2 6 = M.2 6 ∧ M'.2 7 = M.2 7 ∧ M'.2 8 = M.2 8 ∧ M'.2 9 = M.2 9 ∧ M'.2 10 = M.2 10 ∧ M'.2 11 = M.2 11 ∧ M'.2 12 = M.2 12 ∧ M'.2 13 = M.2 13
theorem FRm.rfl {M : Rc} : FRm M M := ⟨Eq.refl _, Eq.refl _, Eq.refl _, Eq.refl _, Eq.refl _, Eq.refl _, Eq.refl _, Eq.refl _, Eq.refl _, Eq.refl _, Eq.refl _, Eq.refl _, Eq.refl _, Eq.refl _, Eq.refl _, Eq.refl _⟩
theorem FRm.trans {M M1 M2 : Rc} (h : FRm M M1) (g : FRm M1 M2) : FRm M M2 := ⟨(g.1).trans (h.1), (g.2.1).trans (h.2.1), (g.2.2.1).trans (h.2.2.1), (g.2.2.2.1).trans (h.2.2.2.1), (g.2.2.2.2.1).trans (h.2.2.2.2.1), (g.2.2.2.2.2.1).trans (h.2.2.2.2.2.1), (g.2.2.2.2.2.2.1).trans (h.2.2.2.2.2.2.1), (g.2.2.2.2.2.2.2.1).trans (h.2.2.2.2.2.2.2.1), (g.2.2.2.2.2.2.2.2.1).trans (h.2.2.2.2.2.2.2.2.1), (g.2.2.2.2.2.2.2.2.2.1).trans (h.2.2.2.2.2.2.2.2.2.1), (g.2.2.2.2.2.2.2.2.2.2.1).trans (h.2.2.2.2.2.2.2.2.2.2.1), (g.2.2.2.2.2.2.2.2.2.2.2.1).trans (h.2.2.2.2.2.2.2.2.2.2.2.1), (g.2.2.2.2.2.2.2.2.2.2.2.2.1).trans (h.2.2.2.2.2.2.2.2.2.2.2.2.1), (g.2.2.2.2.2.2.2.2.2.2.2.2.2.1).trans (h.2.2.2.2.2.2.2.2.2.2.2.2.2.1), (g.2.2.2.2.2.2.2.2.2.2.2.2.2.2.1).trans (h.2.2.2.2.2.2.2.2.2.2.2.2.2.2.1), (g.2.2.2.2.2.2.2.2.2.2.2.2.2.2.2).trans (h.2.2.2.2.2.2.2.2.2.2.2.2.2.2.2)⟩
def gs (m : Nat) : Nat := if m = 4 then 0 else if m = 5 then 1 else if m = 3 then 2 else if m = 6 then 3 else if m = 1 then 4 else if m = 2 then 5 else m - 94
theorem gs_sg (n : Nat) : gs (sg n) = n := by
  match n with
  | 0 => rfl
  | 1 => rfl
  | 2 => rfl
  | 3 => rfl
  | 4 => rfl
  | 5 => rfl
  | n + 6 =>
    show gs (n + 100) = n + 6
    unfold gs
    rw [if_neg (by omega), if_neg (by omega), if_neg (by omega), if_neg (by omega), if_neg (by omega), if_neg (by omega)]
    omega
def tas (m : Nat) : Nat := if m = 4 then 0 else if m = 1 then 1 else if m = 2 then 2 else if m = 3 then 3 else m - 96
theorem tas_ta (n : Nat) : tas (ta n) = n := by
  match n with
  | 0 => rfl
  | 1 => rfl
  | 2 => rfl
  | 3 => rfl
  | n + 4 =>
    show tas (n + 100) = n + 4
    unfold tas
    rw [if_neg (by omega), if_neg (by omega), if_neg (by omega), if_neg (by omega)]
    omega
theorem sh_f {f : Nat → Int} {A : Nat → Int → Int} {k : Nat} {v : Int} : shM (fup f (sg k) v, A) = (fup (shM (f, A)).1 k v, (shM (f, A)).2) := by
  apply Prod.ext
  · funext n
    show fup f (sg k) v (sg n) = fup (fun k => f (sg k)) k v n
    rw [fup_app, fup_app]
    by_cases e : n = k
    · rw [if_pos e, if_pos (by rw [e])]
    · rw [if_neg e, if_neg (fun q => e (by rw [← gs_sg n, ← gs_sg k, q]))]
  · rfl
theorem sh_a {f : Nat → Int} {A : Nat → Int → Int} {j : Nat} {g : Int → Int} : shM (f, aup A (ta j) g) = ((shM (f, A)).1, aup (shM (f, A)).2 j g) := by
  apply Prod.ext
  · rfl
  · funext n
    show aup A (ta j) g (ta n) = aup (fun j => A (ta j)) j g n
    rw [aup_app, aup_app]
    by_cases e : n = j
    · rw [if_pos e, if_pos (by rw [e])]
    · rw [if_neg e, if_neg (fun q => e (by rw [← tas_ta n, ← tas_ta j, q]))]
theorem sh_am (M : Rc) (a b : Int) : shM (amM M a b) = addM (shM M) a b := by
  unfold amM
  rw [sh_fup (by decide)]
  exact (sh_f (k := 4)).trans (by
    rw [show (aup (aup M.2 1 (gup (M.2 1) (M.1 1) a)) 2 (gup (M.2 2) (M.1 1) b)) = aup (aup M.2 (ta 1) (gup (M.2 1) (M.1 1) a)) (ta 2) (gup (M.2 2) (M.1 1) b) from rfl, sh_a, sh_a]
    rfl)
theorem sh_ag (M : Rc) (a : Int) : shM (agM M a) = addG (shM M) a := by
  unfold agM
  rw [sh_fup (by decide)]
  exact (sh_f (k := 5)).trans (by
    rw [show aup M.2 3 (gup (M.2 3) (M.1 2) a) = aup M.2 (ta 3) (gup (M.2 3) (M.1 2) a) from rfl, sh_a]
    rfl)
theorem sh_ah (M : Rc) (x n : Int) : shM (M.1, aup M.2 2 (gup (M.2 2) x (min (M.2 2 x + n) 90))) = addH (shM M) x n := sh_a (j := 2)
theorem sh_fog (M : Rc) (x v : Int) : shM (M.1, aup M.2 4 (gup (M.2 4) x v)) = ((shM M).1, aup (shM M).2 0 (gup ((shM M).2 0) x v)) := sh_a (j := 0)
theorem sh_19 {f : Nat → Int} {A : Nat → Int → Int} {v : Int} : shM (fup f 19 v, A) = shM (f, A) := sh_fup (by decide)
theorem sh_20 {f : Nat → Int} {A : Nat → Int → Int} {v : Int} : shM (fup f 20 v, A) = shM (f, A) := sh_fup (by decide)
theorem okM_19 {D : Int} {M : Rc} {a : Int} (h : okM D M) : okM D (fup M.1 19 a, M.2) := h
theorem okM_1920 {D : Int} {M : Rc} {a b : Int} (h : okM D M) : okM D (fup (fup M.1 19 a) 20 b, M.2) := h
/-- what an item answers, the model's -/
def RM (κ : Kx) (Q : Option Value → (Heap → Prop) → Prop) (m : Mem) (z : Nat) (res : Rs) : Prop :=
  (∀ (M' : Rc) (q : Nat) (S' : Rc), res = .inr (q, S') → M'.1 19 = (q : Int) → q ≤ z → shM M' = S' → FRm (m 10 0) M' → Q (some (vi 1)) (World κ (mset m 10 0 M'))) ∧
  (∀ (M' : Rc) (e : Nat), res = .inl e → M'.1 19 = (e : Int) → FRm (m 10 0) M' → Q (some (vi 0)) (World κ (mset m 10 0 M')))
set_option maxHeartbeats 1000000 in
theorem sp_M_readsMan {κ : Kx} {Q : Option Value → (Heap → Prop) → Prop} {m : Mem} {B : Int → Int} {z p : Nat} (hB0 : okB B z) (hpz : p ≤ z) (hb : (m 10 0).2 8 = B) (h18 : (m 10 0).1 18 = (z : Int)) {D : Int} (hS : okM D (m 10 0)) (hD : D ≤ 100000) (h19 : (m 10 0).1 19 = (p : Int)) (hm6 : (m 10 0).1 1 < 6) (hQ : RM κ Q m z (iMan B z p (shM (m 10 0)))) : GG κ G_M_readsMan 3 0 0 [.ref (ad κ 10 0)] (World κ m) Q := by
  have hz150 := hB0.1
  have hhr := hrB_r (p := p) hB0
  obtain ⟨s0, s1, s2, s3, s4, s5, hfg, hkd, hsh, hgl⟩ := id hS
  have her := lE_r (B := B) hpz
  have her2 := lE_r (B := B) her.2
  have her3 := lE_r (B := B) her2.2
  refine GG.intro (ls := [some _, none, none]) (Nat.le_of_ble_eq_true rfl) rfl (fun μ F => ?_)
  refine g_aload_n F a_M_readsMan_0 rfl ?_
  refine g_iconst F a_M_readsMan_1 ?_
  refine g_iconst F a_M_readsMan_2 ?_
  refine g_v2 F a_M_readsMan_3 vc_M_138 mk_M_number ob_10 ck_10.1 rfl rfl (by decide) ⟨Nat.le_refl _, Nat.le_refl _⟩ rfl (Nat.le_of_ble_eq_true rfl) (sp_M_number hB0 (p := p) hpz (by exact hb) (by exact h18) h19 (by decide) (by decide) (fun q3 => GCr.v ?_) (fun g3 => GCr.v ?_))
  · refine g_ifne1 F a_M_readsMan_6 ?_
    refine g_aload_n F a_M_readsMan_11 rfl ?_
    refine g_get_10_20 F a_M_readsMan_12 fl_M_135 ?_
    (try simp only [mset_app, mset_mset, fup_app, aup_app, fup_fup, aup_aup, false_and, and_false, true_and, and_true, and_self, reduceIte, Nat.reduceEqDiff, reduceCtorEq, fup_10, fs_4_5, fs_4_6, fs_5_6, fs_19_20])
    refine g_istore_n (ls' := [_, _, _]) F a_M_readsMan_15 rfl rfl rfl ?_
    refine g_aload_n F a_M_readsMan_16 rfl ?_
    refine g_iconst F a_M_readsMan_17 ?_
    refine g_bipush F a_M_readsMan_18 (by decide) ?_
    refine g_v2 F a_M_readsMan_20 vc_M_138 mk_M_number ob_10 ck_10.1 rfl rfl (by decide) ⟨Nat.le_refl _, Nat.le_refl _⟩ rfl (Nat.le_of_ble_eq_true rfl) (sp_M_number hB0 (p := lE B z p) her.2 (by exact hb) (by exact h18) rfl (by decide) (by decide) (fun q20 => GCr.v ?_) (fun g20 => GCr.v ?_))
    · refine g_ifne1 F a_M_readsMan_23 ?_
      refine g_aload_n F a_M_readsMan_28 rfl ?_
      refine g_get_10_20 F a_M_readsMan_29 fl_M_135 ?_
      (try simp only [mset_app, mset_mset, fup_app, aup_app, fup_fup, aup_aup, false_and, and_false, true_and, and_true, and_self, reduceIte, Nat.reduceEqDiff, reduceCtorEq, fup_10, fs_4_5, fs_4_6, fs_5_6, fs_19_20])
      refine g_istore_n (ls' := [_, _, _]) F a_M_readsMan_32 rfl rfl rfl ?_
      refine g_aload_n F a_M_readsMan_33 rfl ?_
      refine g_v0 F a_M_readsMan_34 vc_M_142 mk_M_ends ob_10 ck_10.1 rfl rfl (by decide) ⟨Nat.le_refl _, Nat.le_refl _⟩ rfl (Nat.le_of_ble_eq_true rfl) (sp_M_ends hB0 (p := lE B z (lE B z p)) her2.2 (by exact hb) (by exact h18) rfl (fun q34 => GCr.v ?_) (fun g34 => GCr.v ?_))
      · refine g_ifne1 F a_M_readsMan_37 ?_
        refine g_aload_n F a_M_readsMan_42 rfl ?_
        refine g_iload_n F a_M_readsMan_43 rfl ?_
        refine g_iload_n F a_M_readsMan_44 rfl ?_
        refine g_v2 F a_M_readsMan_45 vc_M_102 mk_M_addMan ob_10 ck_10.1 rfl rfl (by decide) ⟨Nat.le_refl _, Nat.le_refl _⟩ rfl (Nat.le_of_ble_eq_true rfl) (sp_M_addMan (by show 0 ≤ (m 10 0).1 1 ∧ (m 10 0).1 1 < 6; omega) (GCr.v ?_))
        (try simp only [mset_app, mset_mset, fup_app, aup_app, fup_fup, aup_aup, false_and, and_false, true_and, and_true, and_self, reduceIte, Nat.reduceEqDiff, reduceCtorEq, fup_10, fs_4_5, fs_4_6, fs_5_6, fs_19_20])
        refine g_pop F a_M_readsMan_48 rfl ?_
        refine g_iconst F a_M_readsMan_49 ?_
        refine g_zret F a_M_readsMan_50 rfl rfl ⟨Nat.le_refl _, Nat.le_refl _⟩ ?_
        exact hQ.1 _ (lE B z (lE B z (lE B z p))) (addM (shM (m 10 0)) (lV B z p) (lV B z (lE B z p))) (by unfold iMan; rw [if_pos q3, if_pos q20]; unfold finB; rw [if_pos q34]) rfl her3.2 (by rw [sh_am, sh_20, sh_19]) ⟨rfl, rfl, rfl, rfl, rfl, rfl, rfl, rfl, rfl, rfl, rfl, rfl, rfl, rfl, rfl, rfl⟩
      · refine g_ifne0 F a_M_readsMan_37 ?_
        refine g_iconst F a_M_readsMan_40 ?_
        refine g_zret F a_M_readsMan_41 rfl rfl ⟨Nat.le_refl _, Nat.le_refl _⟩ ?_
        exact hQ.2 _ (lS B z (lE B z (lE B z p))) (by unfold iMan; rw [if_pos q3, if_pos q20]; unfold finB; rw [if_neg g34]) rfl ⟨rfl, rfl, rfl, rfl, rfl, rfl, rfl, rfl, rfl, rfl, rfl, rfl, rfl, rfl, rfl, rfl⟩
    · refine g_ifne0 F a_M_readsMan_23 ?_
      refine g_iconst F a_M_readsMan_26 ?_
      refine g_zret F a_M_readsMan_27 rfl rfl ⟨Nat.le_refl _, Nat.le_refl _⟩ ?_
      exact hQ.2 _ (lS B z (lE B z p)) (by unfold iMan; rw [if_pos q3, if_neg g20]) rfl ⟨rfl, rfl, rfl, rfl, rfl, rfl, rfl, rfl, rfl, rfl, rfl, rfl, rfl, rfl, rfl, rfl⟩
  · refine g_ifne0 F a_M_readsMan_6 ?_
    refine g_iconst F a_M_readsMan_9 ?_
    refine g_zret F a_M_readsMan_10 rfl rfl ⟨Nat.le_refl _, Nat.le_refl _⟩ ?_
    exact hQ.2 _ (lS B z (p)) (by unfold iMan; rw [if_neg g3]) rfl ⟨rfl, rfl, rfl, rfl, rfl, rfl, rfl, rfl, rfl, rfl, rfl, rfl, rfl, rfl, rfl, rfl⟩
set_option maxHeartbeats 1000000 in
theorem sp_M_readsReader {κ : Kx} {Q : Option Value → (Heap → Prop) → Prop} {m : Mem} {B : Int → Int} {z p : Nat} (hB0 : okB B z) (hpz : p ≤ z) (hb : (m 10 0).2 8 = B) (h18 : (m 10 0).1 18 = (z : Int)) {D : Int} (hS : okM D (m 10 0)) (hD : D ≤ 100000) (h19 : (m 10 0).1 19 = (p : Int)) (hm6 : (m 10 0).1 2 < 3) (hQ : RM κ Q m z (iRd B z p (shM (m 10 0)))) : GG κ G_M_readsReader 3 0 0 [.ref (ad κ 10 0)] (World κ m) Q := by
  have hz150 := hB0.1
  have hhr := hrB_r (p := p) hB0
  obtain ⟨s0, s1, s2, s3, s4, s5, hfg, hkd, hsh, hgl⟩ := id hS
  have her := lE_r (B := B) hpz
  have her2 := lE_r (B := B) her.2
  have her3 := lE_r (B := B) her2.2
  refine GG.intro (ls := [some _, none]) (Nat.le_of_ble_eq_true rfl) rfl (fun μ F => ?_)
  refine g_aload_n F a_M_readsReader_0 rfl ?_
  refine g_iconst F a_M_readsReader_1 ?_
  refine g_iconst F a_M_readsReader_2 ?_
  refine g_v2 F a_M_readsReader_3 vc_M_138 mk_M_number ob_10 ck_10.1 rfl rfl (by decide) ⟨Nat.le_refl _, Nat.le_refl _⟩ rfl (Nat.le_of_ble_eq_true rfl) (sp_M_number hB0 (p := p) hpz (by exact hb) (by exact h18) h19 (by decide) (by decide) (fun q3 => GCr.v ?_) (fun g3 => GCr.v ?_))
  · refine g_ifne1 F a_M_readsReader_6 ?_
    refine g_aload_n F a_M_readsReader_11 rfl ?_
    refine g_get_10_20 F a_M_readsReader_12 fl_M_135 ?_
    (try simp only [mset_app, mset_mset, fup_app, aup_app, fup_fup, aup_aup, false_and, and_false, true_and, and_true, and_self, reduceIte, Nat.reduceEqDiff, reduceCtorEq, fup_10, fs_4_5, fs_4_6, fs_5_6, fs_19_20])
    refine g_istore_n (ls' := [_, _]) F a_M_readsReader_15 rfl rfl rfl ?_
    refine g_aload_n F a_M_readsReader_16 rfl ?_
    refine g_v0 F a_M_readsReader_17 vc_M_142 mk_M_ends ob_10 ck_10.1 rfl rfl (by decide) ⟨Nat.le_refl _, Nat.le_refl _⟩ rfl (Nat.le_of_ble_eq_true rfl) (sp_M_ends hB0 (p := lE B z p) her.2 (by exact hb) (by exact h18) rfl (fun q17 => GCr.v ?_) (fun g17 => GCr.v ?_))
    · refine g_ifne1 F a_M_readsReader_20 ?_
      refine g_aload_n F a_M_readsReader_25 rfl ?_
      refine g_iload_n F a_M_readsReader_26 rfl ?_
      refine g_v1 F a_M_readsReader_27 vc_M_106 mk_M_addReader ob_10 ck_10.1 rfl rfl (by decide) ⟨Nat.le_refl _, Nat.le_refl _⟩ rfl (Nat.le_of_ble_eq_true rfl) (sp_M_addReader (by show 0 ≤ (m 10 0).1 2 ∧ (m 10 0).1 2 < 3; omega) (GCr.v ?_))
      (try simp only [mset_app, mset_mset, fup_app, aup_app, fup_fup, aup_aup, false_and, and_false, true_and, and_true, and_self, reduceIte, Nat.reduceEqDiff, reduceCtorEq, fup_10, fs_4_5, fs_4_6, fs_5_6, fs_19_20])
      refine g_pop F a_M_readsReader_30 rfl ?_
      refine g_iconst F a_M_readsReader_31 ?_
      refine g_zret F a_M_readsReader_32 rfl rfl ⟨Nat.le_refl _, Nat.le_refl _⟩ ?_
      exact hQ.1 _ (lE B z (lE B z p)) (addG (shM (m 10 0)) (lV B z p)) (by unfold iRd; rw [if_pos q3]; unfold finB; rw [if_pos q17]) rfl her2.2 (by rw [sh_ag, sh_20, sh_19]) ⟨rfl, rfl, rfl, rfl, rfl, rfl, rfl, rfl, rfl, rfl, rfl, rfl, rfl, rfl, rfl, rfl⟩
    · refine g_ifne0 F a_M_readsReader_20 ?_
      refine g_iconst F a_M_readsReader_23 ?_
      refine g_zret F a_M_readsReader_24 rfl rfl ⟨Nat.le_refl _, Nat.le_refl _⟩ ?_
      exact hQ.2 _ (lS B z (lE B z p)) (by unfold iRd; rw [if_pos q3]; unfold finB; rw [if_neg g17]) rfl ⟨rfl, rfl, rfl, rfl, rfl, rfl, rfl, rfl, rfl, rfl, rfl, rfl, rfl, rfl, rfl, rfl⟩
  · refine g_ifne0 F a_M_readsReader_6 ?_
    refine g_iconst F a_M_readsReader_9 ?_
    refine g_zret F a_M_readsReader_10 rfl rfl ⟨Nat.le_refl _, Nat.le_refl _⟩ ?_
    exact hQ.2 _ (lS B z (p)) (by unfold iRd; rw [if_neg g3]) rfl ⟨rfl, rfl, rfl, rfl, rfl, rfl, rfl, rfl, rfl, rfl, rfl, rfl, rfl, rfl, rfl, rfl⟩
set_option maxHeartbeats 1000000 in
theorem sp_M_readsDeed {κ : Kx} {Q : Option Value → (Heap → Prop) → Prop} {m : Mem} {B : Int → Int} {z p : Nat} (hB0 : okB B z) (hpz : p ≤ z) (hb : (m 10 0).2 8 = B) (h18 : (m 10 0).1 18 = (z : Int)) {D : Int} (hS : okM D (m 10 0)) (hD : D ≤ 100000) (h19 : (m 10 0).1 19 = (p : Int)) (hQ : RM κ Q m z (iDeed B z p (shM (m 10 0)))) : GG κ G_M_readsDeed 3 0 0 [.ref (ad κ 10 0)] (World κ m) Q := by
  have hz150 := hB0.1
  have hhr := hrB_r (p := p) hB0
  obtain ⟨s0, s1, s2, s3, s4, s5, hfg, hkd, hsh, hgl⟩ := id hS
  have her := lE_r (B := B) hpz
  have her2 := lE_r (B := B) her.2
  have her3 := lE_r (B := B) her2.2
  refine GG.intro (ls := [some _, none]) (Nat.le_of_ble_eq_true rfl) rfl (fun μ F => ?_)
  refine g_aload_n F a_M_readsDeed_0 rfl ?_
  refine g_iconst F a_M_readsDeed_1 ?_
  refine g_aload_n F a_M_readsDeed_2 rfl ?_
  refine g_get_10_1 F a_M_readsDeed_3 fl_M_60 ?_
  (try simp only [mset_app, mset_mset, fup_app, aup_app, fup_fup, aup_aup, false_and, and_false, true_and, and_true, and_self, reduceIte, Nat.reduceEqDiff, reduceCtorEq, fup_10, fs_4_5, fs_4_6, fs_5_6, fs_19_20, Int.min_comm 90])
  refine g_iconst F a_M_readsDeed_6 ?_
  refine g_isub F a_M_readsDeed_7 ?_
  refine g_v2 F a_M_readsDeed_8 vc_M_138 mk_M_number ob_10 ck_10.1 rfl rfl (by decide) ⟨Nat.le_refl _, Nat.le_refl _⟩ rfl (Nat.le_of_ble_eq_true rfl) (sp_M_number hB0 (p := p) hpz (by exact hb) (by exact h18) h19 (by decide) (by show -1 ≤ (m 10 0).1 1 - 1 ∧ (m 10 0).1 1 - 1 ≤ 100; omega) (fun q8 => GCr.v ?_) (fun g8 => GCr.v ?_))
  · refine g_ifne1 F a_M_readsDeed_11 ?_
    refine g_aload_n F a_M_readsDeed_16 rfl ?_
    refine g_get_10_20 F a_M_readsDeed_17 fl_M_135 ?_
    (try simp only [mset_app, mset_mset, fup_app, aup_app, fup_fup, aup_aup, false_and, and_false, true_and, and_true, and_self, reduceIte, Nat.reduceEqDiff, reduceCtorEq, fup_10, fs_4_5, fs_4_6, fs_5_6, fs_19_20, Int.min_comm 90])
    refine g_istore_n (ls' := [_, _]) F a_M_readsDeed_20 rfl rfl rfl ?_
    refine g_aload_n F a_M_readsDeed_21 rfl ?_
    refine g_iconst F a_M_readsDeed_22 ?_
    refine g_bipush F a_M_readsDeed_23 (by decide) ?_
    refine g_v2 F a_M_readsDeed_25 vc_M_138 mk_M_number ob_10 ck_10.1 rfl rfl (by decide) ⟨Nat.le_refl _, Nat.le_refl _⟩ rfl (Nat.le_of_ble_eq_true rfl) (sp_M_number hB0 (p := lE B z p) her.2 (by exact hb) (by exact h18) rfl (by decide) (by decide) (fun q25 => GCr.v ?_) (fun g25 => GCr.v ?_))
    · refine g_ifne1 F a_M_readsDeed_28 ?_
      refine g_aload_n F a_M_readsDeed_33 rfl ?_
      refine g_get_10_11 F a_M_readsDeed_34 fl_M_16 ?_
      (try simp only [mset_app, mset_mset, fup_app, aup_app, fup_fup, aup_aup, false_and, and_false, true_and, and_true, and_self, reduceIte, Nat.reduceEqDiff, reduceCtorEq, fup_10, fs_4_5, fs_4_6, fs_5_6, fs_19_20, Int.min_comm 90])
      refine g_iload_n F a_M_readsDeed_37 rfl ?_
      refine g_bipush F a_M_readsDeed_38 (by decide) ?_
      refine g_aload_n F a_M_readsDeed_40 rfl ?_
      refine g_get_10_11 F a_M_readsDeed_41 fl_M_16 ?_
      (try simp only [mset_app, mset_mset, fup_app, aup_app, fup_fup, aup_aup, false_and, and_false, true_and, and_true, and_self, reduceIte, Nat.reduceEqDiff, reduceCtorEq, fup_10, fs_4_5, fs_4_6, fs_5_6, fs_19_20, Int.min_comm 90])
      refine g_iload_n F a_M_readsDeed_44 rfl ?_
      refine g_ild_10_2 F a_M_readsDeed_45 (by have := q8.2; omega) ?_
      (try simp only [mset_app, mset_mset, fup_app, aup_app, fup_fup, aup_aup, false_and, and_false, true_and, and_true, and_self, reduceIte, Nat.reduceEqDiff, reduceCtorEq, fup_10, fs_4_5, fs_4_6, fs_5_6, fs_19_20, Int.min_comm 90])
      refine g_aload_n F a_M_readsDeed_46 rfl ?_
      refine g_get_10_20 F a_M_readsDeed_47 fl_M_135 ?_
      (try simp only [mset_app, mset_mset, fup_app, aup_app, fup_fup, aup_aup, false_and, and_false, true_and, and_true, and_self, reduceIte, Nat.reduceEqDiff, reduceCtorEq, fup_10, fs_4_5, fs_4_6, fs_5_6, fs_19_20, Int.min_comm 90])
      refine g_iadd F a_M_readsDeed_50 ?_
      refine g_s2 F a_M_readsDeed_51 sc_M_146 mk_M_lesser rfl (by decide) ⟨Nat.le_refl _, Nat.le_refl _⟩ rfl (Nat.le_of_ble_eq_true rfl) (sp_M_lesser (by omega) (by have h9 := hsh (lV B z p) (by have := q8.2.1; have := q8.2.2; omega); have := q25.2; omega) (GCr.v ?_))
      (try simp only [mset_app, mset_mset, fup_app, aup_app, fup_fup, aup_aup, false_and, and_false, true_and, and_true, and_self, reduceIte, Nat.reduceEqDiff, reduceCtorEq, fup_10, fs_4_5, fs_4_6, fs_5_6, fs_19_20, Int.min_comm 90])
      refine g_ist_10_2 F a_M_readsDeed_54 (by have := q8.2; omega) ?_
      (try simp only [mset_app, mset_mset, fup_app, aup_app, fup_fup, aup_aup, false_and, and_false, true_and, and_true, and_self, reduceIte, Nat.reduceEqDiff, reduceCtorEq, fup_10, fs_4_5, fs_4_6, fs_5_6, fs_19_20, Int.min_comm 90])
      refine g_aload_n F a_M_readsDeed_55 rfl ?_
      refine g_v0 F a_M_readsDeed_56 vc_M_142 mk_M_ends ob_10 ck_10.1 rfl rfl (by decide) ⟨Nat.le_refl _, Nat.le_refl _⟩ rfl (Nat.le_of_ble_eq_true rfl) (sp_M_ends hB0 (p := lE B z (lE B z p)) her2.2 (by exact hb) (by exact h18) rfl (fun q56 => GCr.v ?_) (fun g56 => GCr.v ?_))
      · refine g_zret F a_M_readsDeed_59 rfl rfl ⟨Nat.le_refl _, Nat.le_refl _⟩ ?_
        exact hQ.1 _ (lE B z (lE B z (lE B z p))) (addH (shM (m 10 0)) (lV B z p) (lV B z (lE B z p))) (by unfold iDeed; rw [if_pos (show nB B z 0 ((shM (m 10 0)).1 4 - 1) p from q8), if_pos q25]; unfold finB; rw [if_pos q56]) rfl her3.2 (by rw [sh_19]; show shM (fup (fup (m 10 0).1 19 _) 20 _, aup (m 10 0).2 2 _) = _; rw [sh_20, sh_19]; exact sh_ah _ _ _) ⟨rfl, rfl, rfl, rfl, rfl, rfl, rfl, rfl, rfl, rfl, rfl, rfl, rfl, rfl, rfl, rfl⟩
      · refine g_zret F a_M_readsDeed_59 rfl rfl ⟨Nat.le_refl _, Nat.le_refl _⟩ ?_
        exact hQ.2 _ (lS B z (lE B z (lE B z p))) (by unfold iDeed; rw [if_pos (show nB B z 0 ((shM (m 10 0)).1 4 - 1) p from q8), if_pos q25]; unfold finB; rw [if_neg g56]) rfl ⟨rfl, rfl, rfl, rfl, rfl, rfl, rfl, rfl, rfl, rfl, rfl, rfl, rfl, rfl, rfl, rfl⟩
    · refine g_ifne0 F a_M_readsDeed_28 ?_
      refine g_iconst F a_M_readsDeed_31 ?_
      refine g_zret F a_M_readsDeed_32 rfl rfl ⟨Nat.le_refl _, Nat.le_refl _⟩ ?_
      exact hQ.2 _ (lS B z (lE B z p)) (by unfold iDeed; rw [if_pos (show nB B z 0 ((shM (m 10 0)).1 4 - 1) p from q8), if_neg g25]) rfl ⟨rfl, rfl, rfl, rfl, rfl, rfl, rfl, rfl, rfl, rfl, rfl, rfl, rfl, rfl, rfl, rfl⟩
  · refine g_ifne0 F a_M_readsDeed_11 ?_
    refine g_iconst F a_M_readsDeed_14 ?_
    refine g_zret F a_M_readsDeed_15 rfl rfl ⟨Nat.le_refl _, Nat.le_refl _⟩ ?_
    exact hQ.2 _ (lS B z (p)) (by unfold iDeed; rw [if_neg (show ¬ nB B z 0 ((shM (m 10 0)).1 4 - 1) p from g8)]) rfl ⟨rfl, rfl, rfl, rfl, rfl, rfl, rfl, rfl, rfl, rfl, rfl, rfl, rfl, rfl, rfl, rfl⟩
theorem nB_i {B : Int → Int} {z : Nat} {lo hi : Int} {p : Nat} (h : p ≤ z) : nB B z lo hi (lS B z p) ↔ nB B z lo hi p := by
  unfold nB
  rw [lK_i h, lV_i h]
theorem lSE {B : Int → Int} {z p : Nat} (h : p ≤ z) : hrB B z (lS B z p) = 59 ↔ lK B z p = 3 := (lK_3 h).symm
set_option maxHeartbeats 2000000 in
theorem lp_M_fog {κ : Kx} {μ : MX} {Q : Option Value → (Heap → Prop) → Prop} {m : Mem} {B : Int → Int} {z : Nat} {D : Int} {res : Rs} (hB0 : okB B z) (hD : D ≤ 100000) (hQ : RM κ Q m z res)  (F : Fx κ G_M_readsFog 3 0 0 μ) :
    ∀ (n : Nat) (f a : Nat) (M1 : Rc) (x : Int), f < n → f ≤ 6 → x = 6 - (f : Int) → a ≤ z → okM D M1 → M1.2 8 = B → M1.1 18 = (z : Int) → M1.1 19 = (lS B z a : Nat) → fgL B z f a (shM M1) = res → FRm (m 10 0) M1 →  GC κ μ (ZZ κ μ 0 0 Q) 0 0 6 [some (.ref (ad κ 10 0)), some (vi x)] [] (World κ (mset m 10 0 M1)) := by
  intro n
  induction n with
  | zero =>
    intro f a M1 x hn hf hx ha hS1 hb1 h181 h191 hres hF
    exact absurd hn (by omega)
  | succ n ih =>
    intro f a M1 x hn hf hx ha hS1 hb1 h181 h191 hres hF
    obtain ⟨s0, s1, s2, s3, s4, s5, hfg, hkd, hsh, hgl⟩ := id hS1
    have hsl : lS B z a ≤ z := (lS_r (B := B) ha).2
    refine g_iload_n F a_M_readsFog_6 rfl ?_
    refine g_if_eq F (by first | omega | (have h9 := hrB_r (p := lS B z a) hB0; omega)) a_M_readsFog_7 (fun h7 => ?_) (fun h7 => ?_)
    · refine g_iload_n F a_M_readsFog_19 rfl ?_
      refine g_bipush F a_M_readsFog_20 (by decide) ?_
      refine g_icmp_eq F (by first | omega | (have h9 := hrB_r (p := lS B z a) hB0; omega)) (by first | omega | (have h9 := hrB_r (p := lS B z a) hB0; omega)) a_M_readsFog_22 (fun h22 => ?_) (fun h22 => ?_)
      · refine g_iconst F a_M_readsFog_34 ?_
        refine g_zret F a_M_readsFog_35 rfl rfl ⟨Nat.le_refl _, Nat.le_refl _⟩ ?_
        exfalso; omega
      · refine g_aload_n F a_M_readsFog_25 rfl ?_
        refine g_iconst F a_M_readsFog_26 ?_
        refine g_iconst F a_M_readsFog_27 ?_
        refine g_v2 F a_M_readsFog_28 vc_M_138 mk_M_number ob_10 ck_10.1 rfl rfl (by decide) ⟨Nat.le_refl _, Nat.le_refl _⟩ rfl (Nat.le_of_ble_eq_true rfl) (sp_M_number hB0 (p := lS B z a) hsl (by rw [mset_same]; exact hb1) (by rw [mset_same]; exact h181) (by rw [mset_same]; exact h191) (by decide) (by decide) (fun q28 => GCr.v ?_) (fun g28 => GCr.v ?_))
        · refine g_ifne1 F a_M_readsFog_31 ?_
          refine g_aload_n F a_M_readsFog_36 rfl ?_
          refine g_get_10_13 F a_M_readsFog_37 fl_M_22 ?_
          (try simp only [mset_same, mset_mset, fup_app, aup_app, fup_fup, aup_aup, false_and, and_false, true_and, and_true, and_self, reduceIte, Nat.reduceEqDiff, reduceCtorEq, fup_10, fs_4_5, fs_4_6, fs_5_6, fs_19_20])
          refine g_iload_n F a_M_readsFog_40 rfl ?_
          refine g_aload_n F a_M_readsFog_41 rfl ?_
          refine g_get_10_20 F a_M_readsFog_42 fl_M_135 ?_
          (try simp only [mset_same, mset_mset, fup_app, aup_app, fup_fup, aup_aup, false_and, and_false, true_and, and_true, and_self, reduceIte, Nat.reduceEqDiff, reduceCtorEq, fup_10, fs_4_5, fs_4_6, fs_5_6, fs_19_20])
          refine g_ist_10_4 F a_M_readsFog_45 (by omega) ?_
          (try simp only [mset_same, mset_mset, fup_app, aup_app, fup_fup, aup_aup, false_and, and_false, true_and, and_true, and_self, reduceIte, Nat.reduceEqDiff, reduceCtorEq, fup_10, fs_4_5, fs_4_6, fs_5_6, fs_19_20])
          refine g_iinc (ls' := [_, _]) F a_M_readsFog_46 rfl rfl rfl ?_
          refine g_aload_n F a_M_readsFog_49 rfl ?_
          refine g_v0 F a_M_readsFog_50 vc_M_129 mk_M_skip ob_10 ck_10.1 rfl rfl (by decide) ⟨Nat.le_refl _, Nat.le_refl _⟩ rfl (Nat.le_of_ble_eq_true rfl) (sp_M_skip hB0 (p := lE B z (lS B z a)) (lE_r (B := B) hsl).2 (by exact hb1) (by exact h181) rfl (GCr.n ?_))
          (try simp only [mset_same, mset_mset, fup_app, aup_app, fup_fup, aup_aup, false_and, and_false, true_and, and_true, and_self, reduceIte, Nat.reduceEqDiff, reduceCtorEq, fup_10, fs_4_5, fs_4_6, fs_5_6, fs_19_20])
          refine g_goto F a_M_readsFog_53 ?_
          obtain ⟨f, rfl⟩ : ∃ f0 : Nat, f = f0 + 1 := ⟨f - 1, by omega⟩
          have hab : lE B z (lS B z a) = lE B z a := lE_i ha
          have hvb : lV B z (lS B z a) = lV B z a := lV_i ha
          have hnb := (nB_i ha).mp q28
          rw [hab, hvb]
          refine GC.loc2 (ih f (lE B z a) _ _ (by omega) (by omega) (by omega) (lE_r (B := B) ha).2 ?_ (by exact hb1) (by exact h181) rfl ?_ (hF.trans ⟨rfl, rfl, rfl, rfl, rfl, rfl, rfl, rfl, rfl, rfl, rfl, rfl, rfl, rfl, rfl, rfl⟩)) ⟨rfl, rfl, trivial⟩
          · exact ⟨s0, s1, s2, s3, s4, s5, gup_in hfg hnb.2, hkd, hsh, hgl⟩
          · rw [← hres]
            conv => rhs; unfold fgL
            rw [if_neg (by first | (intro q; exact absurd q.1 (by omega)) | (intro q; exact absurd ((lSE ha).mpr q.2) (by omega))), if_pos hnb, show (5 - (f : Int)) = x by omega]
            show fgL B z f (lE B z a) (shM (fup (fup M1.1 19 _) 20 _, aup M1.2 4 _)) = _
            rw [sh_20, sh_19]
            exact congrArg (fgL B z f (lE B z a)) (sh_fog M1 x (lV B z a))
        · refine g_ifne0 F a_M_readsFog_31 ?_
          refine g_iconst F a_M_readsFog_34 ?_
          refine g_zret F a_M_readsFog_35 rfl rfl ⟨Nat.le_refl _, Nat.le_refl _⟩ ?_
          (try simp only [mset_same, mset_mset])
          obtain ⟨f, rfl⟩ : ∃ f0 : Nat, f = f0 + 1 := ⟨f - 1, by omega⟩
          have hres2 : res = .inl (lS B z (lS B z a)) := by
            rw [← hres, lS_i ha]
            unfold fgL
            rw [if_neg (by first | (intro q; exact absurd q.1 (by omega)) | (intro q; exact absurd ((lSE ha).mpr q.2) (by omega))), if_neg (fun q => g28 ((nB_i ha).mpr q))]
          exact hQ.2 _ _ hres2 rfl (hF.trans ⟨rfl, rfl, rfl, rfl, rfl, rfl, rfl, rfl, rfl, rfl, rfl, rfl, rfl, rfl, rfl, rfl⟩)
    · refine g_aload_n F a_M_readsFog_10 rfl ?_
      refine g_v0 F a_M_readsFog_11 vc_M_116 mk_M_here ob_10 ck_10.1 rfl rfl (by decide) ⟨Nat.le_refl _, Nat.le_refl _⟩ rfl (Nat.le_of_ble_eq_true rfl) (sp_M_here hB0 (p := lS B z a) hsl (by rw [mset_same]; exact hb1) (by rw [mset_same]; exact h181) (by rw [mset_same]; exact h191) (GCr.v ?_))
      (try simp only [mset_same, mset_mset, fup_app, aup_app, fup_fup, aup_aup, false_and, and_false, true_and, and_true, and_self, reduceIte, Nat.reduceEqDiff, reduceCtorEq, fup_10, fs_4_5, fs_4_6, fs_5_6, fs_19_20])
      refine g_bipush F a_M_readsFog_14 (by decide) ?_
      refine g_icmp_eq F (by first | omega | (have h9 := hrB_r (p := lS B z a) hB0; omega)) (by first | omega | (have h9 := hrB_r (p := lS B z a) hB0; omega)) a_M_readsFog_16 (fun h16 => ?_) (fun h16 => ?_)
      · refine g_aload_n F a_M_readsFog_56 rfl ?_
        refine g_v0 F a_M_readsFog_57 vc_M_142 mk_M_ends ob_10 ck_10.1 rfl rfl (by decide) ⟨Nat.le_refl _, Nat.le_refl _⟩ rfl (Nat.le_of_ble_eq_true rfl) (sp_M_ends hB0 (p := lS B z a) hsl (by rw [mset_same]; exact hb1) (by rw [mset_same]; exact h181) (by rw [mset_same]; exact h191) (fun q57 => GCr.v ?_) (fun g57 => GCr.v ?_))
        · refine g_zret F a_M_readsFog_60 rfl rfl ⟨Nat.le_refl _, Nat.le_refl _⟩ ?_
          (try simp only [mset_same, mset_mset])
          have hk3 : lK B z a = 3 := (lSE ha).mp (by omega)
          have hres2 : res = .inr (lE B z (lS B z a), shM M1) := by
            rw [← hres, lE_i ha]
            cases f with
            | zero => unfold fgL finB; rw [if_pos hk3]
            | succ f => unfold fgL finB; rw [if_pos ⟨by omega, hk3⟩, if_pos hk3]
          exact hQ.1 _ _ _ hres2 rfl (lE_r (B := B) hsl).2 sh_19 (hF.trans ⟨rfl, rfl, rfl, rfl, rfl, rfl, rfl, rfl, rfl, rfl, rfl, rfl, rfl, rfl, rfl, rfl⟩)
        · refine g_zret F a_M_readsFog_60 rfl rfl ⟨Nat.le_refl _, Nat.le_refl _⟩ ?_
          have hk3 : lK B z a = 3 := (lSE ha).mp (by omega)
          exact absurd ((lK_i ha).trans hk3) g57
      · refine g_iload_n F a_M_readsFog_19 rfl ?_
        refine g_bipush F a_M_readsFog_20 (by decide) ?_
        refine g_icmp_eq F (by first | omega | (have h9 := hrB_r (p := lS B z a) hB0; omega)) (by first | omega | (have h9 := hrB_r (p := lS B z a) hB0; omega)) a_M_readsFog_22 (fun h22 => ?_) (fun h22 => ?_)
        · refine g_iconst F a_M_readsFog_34 ?_
          refine g_zret F a_M_readsFog_35 rfl rfl ⟨Nat.le_refl _, Nat.le_refl _⟩ ?_
          have hres2 : res = .inl (lS B z a) := by
            rw [← hres, show f = 0 by omega]
            unfold fgL finB
            rw [if_neg (by intro q; exact absurd ((lSE ha).mpr q) (by omega))]
          exact hQ.2 _ _ hres2 h191 hF
        · refine g_aload_n F a_M_readsFog_25 rfl ?_
          refine g_iconst F a_M_readsFog_26 ?_
          refine g_iconst F a_M_readsFog_27 ?_
          refine g_v2 F a_M_readsFog_28 vc_M_138 mk_M_number ob_10 ck_10.1 rfl rfl (by decide) ⟨Nat.le_refl _, Nat.le_refl _⟩ rfl (Nat.le_of_ble_eq_true rfl) (sp_M_number hB0 (p := lS B z a) hsl (by rw [mset_same]; exact hb1) (by rw [mset_same]; exact h181) (by rw [mset_same]; exact h191) (by decide) (by decide) (fun q28 => GCr.v ?_) (fun g28 => GCr.v ?_))
          · refine g_ifne1 F a_M_readsFog_31 ?_
            refine g_aload_n F a_M_readsFog_36 rfl ?_
            refine g_get_10_13 F a_M_readsFog_37 fl_M_22 ?_
            (try simp only [mset_same, mset_mset, fup_app, aup_app, fup_fup, aup_aup, false_and, and_false, true_and, and_true, and_self, reduceIte, Nat.reduceEqDiff, reduceCtorEq, fup_10, fs_4_5, fs_4_6, fs_5_6, fs_19_20])
            refine g_iload_n F a_M_readsFog_40 rfl ?_
            refine g_aload_n F a_M_readsFog_41 rfl ?_
            refine g_get_10_20 F a_M_readsFog_42 fl_M_135 ?_
            (try simp only [mset_same, mset_mset, fup_app, aup_app, fup_fup, aup_aup, false_and, and_false, true_and, and_true, and_self, reduceIte, Nat.reduceEqDiff, reduceCtorEq, fup_10, fs_4_5, fs_4_6, fs_5_6, fs_19_20])
            refine g_ist_10_4 F a_M_readsFog_45 (by omega) ?_
            (try simp only [mset_same, mset_mset, fup_app, aup_app, fup_fup, aup_aup, false_and, and_false, true_and, and_true, and_self, reduceIte, Nat.reduceEqDiff, reduceCtorEq, fup_10, fs_4_5, fs_4_6, fs_5_6, fs_19_20])
            refine g_iinc (ls' := [_, _]) F a_M_readsFog_46 rfl rfl rfl ?_
            refine g_aload_n F a_M_readsFog_49 rfl ?_
            refine g_v0 F a_M_readsFog_50 vc_M_129 mk_M_skip ob_10 ck_10.1 rfl rfl (by decide) ⟨Nat.le_refl _, Nat.le_refl _⟩ rfl (Nat.le_of_ble_eq_true rfl) (sp_M_skip hB0 (p := lE B z (lS B z a)) (lE_r (B := B) hsl).2 (by exact hb1) (by exact h181) rfl (GCr.n ?_))
            (try simp only [mset_same, mset_mset, fup_app, aup_app, fup_fup, aup_aup, false_and, and_false, true_and, and_true, and_self, reduceIte, Nat.reduceEqDiff, reduceCtorEq, fup_10, fs_4_5, fs_4_6, fs_5_6, fs_19_20])
            refine g_goto F a_M_readsFog_53 ?_
            obtain ⟨f, rfl⟩ : ∃ f0 : Nat, f = f0 + 1 := ⟨f - 1, by omega⟩
            have hab : lE B z (lS B z a) = lE B z a := lE_i ha
            have hvb : lV B z (lS B z a) = lV B z a := lV_i ha
            have hnb := (nB_i ha).mp q28
            rw [hab, hvb]
            refine GC.loc2 (ih f (lE B z a) _ _ (by omega) (by omega) (by omega) (lE_r (B := B) ha).2 ?_ (by exact hb1) (by exact h181) rfl ?_ (hF.trans ⟨rfl, rfl, rfl, rfl, rfl, rfl, rfl, rfl, rfl, rfl, rfl, rfl, rfl, rfl, rfl, rfl⟩)) ⟨rfl, rfl, trivial⟩
            · exact ⟨s0, s1, s2, s3, s4, s5, gup_in hfg hnb.2, hkd, hsh, hgl⟩
            · rw [← hres]
              conv => rhs; unfold fgL
              rw [if_neg (by first | (intro q; exact absurd q.1 (by omega)) | (intro q; exact absurd ((lSE ha).mpr q.2) (by omega))), if_pos hnb, show (5 - (f : Int)) = x by omega]
              show fgL B z f (lE B z a) (shM (fup (fup M1.1 19 _) 20 _, aup M1.2 4 _)) = _
              rw [sh_20, sh_19]
              exact congrArg (fgL B z f (lE B z a)) (sh_fog M1 x (lV B z a))
          · refine g_ifne0 F a_M_readsFog_31 ?_
            refine g_iconst F a_M_readsFog_34 ?_
            refine g_zret F a_M_readsFog_35 rfl rfl ⟨Nat.le_refl _, Nat.le_refl _⟩ ?_
            (try simp only [mset_same, mset_mset])
            obtain ⟨f, rfl⟩ : ∃ f0 : Nat, f = f0 + 1 := ⟨f - 1, by omega⟩
            have hres2 : res = .inl (lS B z (lS B z a)) := by
              rw [← hres, lS_i ha]
              unfold fgL
              rw [if_neg (by first | (intro q; exact absurd q.1 (by omega)) | (intro q; exact absurd ((lSE ha).mpr q.2) (by omega))), if_neg (fun q => g28 ((nB_i ha).mpr q))]
            exact hQ.2 _ _ hres2 rfl (hF.trans ⟨rfl, rfl, rfl, rfl, rfl, rfl, rfl, rfl, rfl, rfl, rfl, rfl, rfl, rfl, rfl, rfl⟩)
set_option maxHeartbeats 1000000 in
theorem sp_M_readsFog {κ : Kx} {Q : Option Value → (Heap → Prop) → Prop} {m : Mem} {B : Int → Int} {z p : Nat} (hB0 : okB B z) (hpz : p ≤ z) (hb : (m 10 0).2 8 = B) (h18 : (m 10 0).1 18 = (z : Int)) {D : Int} (hS : okM D (m 10 0)) (hD : D ≤ 100000) (h19 : (m 10 0).1 19 = (p : Int)) (hQ : RM κ Q m z (fgL B z 6 p (shM (m 10 0)))) : GG κ G_M_readsFog 3 0 0 [.ref (ad κ 10 0)] (World κ m) Q := by
  have hz150 := hB0.1
  have hhr := hrB_r (p := p) hB0
  obtain ⟨s0, s1, s2, s3, s4, s5, hfg, hkd, hsh, hgl⟩ := id hS
  have her := lE_r (B := B) hpz
  have her2 := lE_r (B := B) her.2
  have her3 := lE_r (B := B) her2.2
  refine GG.intro (ls := [some _, none]) (Nat.le_of_ble_eq_true rfl) rfl (fun μ F => ?_)
  refine g_iconst F a_M_readsFog_0 ?_
  refine g_istore_n (ls' := [_, _]) F a_M_readsFog_1 rfl rfl rfl ?_
  refine g_aload_n F a_M_readsFog_2 rfl ?_
  refine g_v0 F a_M_readsFog_3 vc_M_129 mk_M_skip ob_10 ck_10.1 rfl rfl (by decide) ⟨Nat.le_refl _, Nat.le_refl _⟩ rfl (Nat.le_of_ble_eq_true rfl) (sp_M_skip hB0 hpz hb h18 h19 (GCr.n ?_))
  exact GC.loc2 (lp_M_fog hB0 hD hQ F 7 6 p _ 0 (by decide) (by decide) (by decide) hpz (okM_19 hS) (by exact hb) (by exact h18) rfl (by rw [sh_19]) ⟨rfl, rfl, rfl, rfl, rfl, rfl, rfl, rfl, rfl, rfl, rfl, rfl, rfl, rfl, rfl, rfl⟩) ⟨rfl, rfl, trivial⟩
theorem bcs_dec : ∀ t : Nat, t < 64 → ∀ v : Nat, v < 6 → ¬ (t : Int) / 2 ^ v % 2 = 1 → bc (bOr (t : Int) (bShl 1 (v : Int))) = bc (t : Int) + 1 := by decide +kernel
theorem bcs {t v : Int} {n : Nat} (ht : 0 ≤ t ∧ t < 64) (hv : v = n) (hn : n < 6) (h : ¬ t / 2 ^ n % 2 = 1) : bc (bOr t (bShl 1 v)) = bc t + 1 := by
  have := bcs_dec t.toNat (by omega) n hn
  rw [Int.toNat_of_nonneg ht.1] at this
  rw [hv]
  exact this h
set_option maxHeartbeats 2000000 in
theorem lp_M_noon {κ : Kx} {μ : MX} {Q : Option Value → (Heap → Prop) → Prop} {m : Mem} {B : Int → Int} {z : Nat} {D : Int} {res : Rs} (hB0 : okB B z) (hD : D ≤ 100000) (hQ : RM κ Q m z res) {S0 : Rc} {r : Int} (hr : 0 ≤ r ∧ r < S0.1 5)  (F : Fx κ G_M_readsNoon 6 0 0 μ) :
    ∀ (n : Nat) (f a : Nat) (M1 : Rc) (t : Int), f < n → f ≤ 6 → bc t = 6 - (f : Int) → a ≤ z → okM D M1 → M1.2 8 = B → M1.1 18 = (z : Int) → M1.1 19 = (lS B z a : Nat) → shM M1 = S0 → nnL B z S0 r f t a = res → FRm (m 10 0) M1 → 0 ≤ t ∧ t < 64 →  GC κ μ (ZZ κ μ 0 0 Q) 0 0 27 [some (.ref (ad κ 10 0)), some (vi r), some (vi t), none] [] (World κ (mset m 10 0 M1)) := by
  intro n
  induction n with
  | zero =>
    intro f a M1 t hn hf hx ha hS1 hb1 h181 h191 hsh1 hres hF htt
    exact absurd hn (by omega)
  | succ n ih =>
    intro f a M1 t hn hf hx ha hS1 hb1 h181 h191 hsh1 hres hF htt
    obtain ⟨s0, s1, s2, s3, s4, s5, hfg, hkd, hsh, hgl⟩ := id hS1
    have hsl : lS B z a ≤ z := (lS_r (B := B) ha).2
    have hr1 : 0 ≤ r ∧ r < M1.1 2 := by rw [← hsh1] at hr; exact hr
    have hv6 : nB B z 0 (M1.1 1 - 1) (lS B z a) → (lV B z (lS B z a)).toNat < 6 := fun q => by
      have h9 := q.2.2
      omega
    refine g_aload_n F a_M_readsNoon_27 rfl ?_
    refine g_v0 F a_M_readsNoon_28 vc_M_116 mk_M_here ob_10 ck_10.1 rfl rfl (by decide) ⟨Nat.le_refl _, Nat.le_refl _⟩ rfl (Nat.le_of_ble_eq_true rfl) (sp_M_here hB0 (p := lS B z a) hsl (by rw [mset_same]; exact hb1) (by rw [mset_same]; exact h181) (by rw [mset_same]; exact h191) (GCr.v ?_))
    (try simp only [mset_same, mset_mset, fup_app, aup_app, fup_fup, aup_aup, false_and, and_false, true_and, and_true, and_self, reduceIte, Nat.reduceEqDiff, reduceCtorEq, fup_10, fs_4_5, fs_4_6, fs_5_6, fs_19_20])
    refine g_bipush F a_M_readsNoon_31 (by decide) ?_
    refine g_icmp_eq F (by first | omega | (have h9 := hrB_r (p := lS B z a) hB0; omega) | (have h9 := bc_r htt; omega)) (by first | omega | (have h9 := hrB_r (p := lS B z a) hB0; omega) | (have h9 := bc_r htt; omega)) a_M_readsNoon_33 (fun h33 => ?_) (fun h33 => ?_)
    · refine g_aload_n F a_M_readsNoon_100 rfl ?_
      refine g_iload_n F a_M_readsNoon_101 rfl ?_
      refine g_iload_n F a_M_readsNoon_102 rfl ?_
      refine g_v2 F a_M_readsNoon_103 vc_M_155 mk_M_measures ob_10 ck_10.1 rfl rfl (by decide) ⟨Nat.le_refl _, Nat.le_refl _⟩ rfl (Nat.le_of_ble_eq_true rfl) (sp_M_measures (D := D) (by rw [mset_same]; exact hS1) hD htt (by rw [mset_same]; exact hr1) (GCr.n ?_))
      (try simp only [mset_same, mset_mset, fup_app, aup_app, fup_fup, aup_aup, false_and, and_false, true_and, and_true, and_self, reduceIte, Nat.reduceEqDiff, reduceCtorEq, fup_10, fs_4_5, fs_4_6, fs_5_6, fs_19_20])
      refine g_aload_n F a_M_readsNoon_106 rfl ?_
      refine g_v0 F a_M_readsNoon_107 vc_M_142 mk_M_ends ob_10 ck_10.1 rfl rfl (by decide) ⟨Nat.le_refl _, Nat.le_refl _⟩ rfl (Nat.le_of_ble_eq_true rfl) (sp_M_ends hB0 (p := lS B z a) hsl (by exact hb1) (by exact h181) (by exact h191) (fun q107 => GCr.v ?_) (fun g107 => GCr.v ?_))
      · refine g_zret F a_M_readsNoon_110 rfl rfl ⟨Nat.le_refl _, Nat.le_refl _⟩ ?_
        (try simp only [mset_same, mset_mset])
        have hk3 : lK B z a = 3 := (lSE ha).mp (by assumption)
        have hres2 : res = .inr (lE B z (lS B z a), sailS S0 t r) := by
          rw [← hres, lE_i ha]
          cases f with
          | zero => unfold nnL finB; rw [if_pos hk3]
          | succ f => unfold nnL finB; rw [if_pos hk3, if_pos hk3]
        exact hQ.1 _ _ _ hres2 rfl (lE_r (B := B) hsl).2 (by rw [sh_19, ← hsh1]; exact shM_st (sail_sam _ _ _)) (hF.trans ⟨rfl, rfl, rfl, rfl, rfl, rfl, rfl, rfl, rfl, rfl, rfl, rfl, rfl, rfl, rfl, rfl⟩)
      · refine g_zret F a_M_readsNoon_110 rfl rfl ⟨Nat.le_refl _, Nat.le_refl _⟩ ?_
        have hk3 : lK B z a = 3 := (lSE ha).mp (by assumption)
        exact absurd ((lK_i ha).trans hk3) g107
    · refine g_aload_n F a_M_readsNoon_36 rfl ?_
      refine g_get_10_19 F a_M_readsNoon_37 fl_M_113 ?_
      (try simp only [mset_same, mset_mset, fup_app, aup_app, fup_fup, aup_aup, false_and, and_false, true_and, and_true, and_self, reduceIte, Nat.reduceEqDiff, reduceCtorEq, fup_10, fs_4_5, fs_4_6, fs_5_6, fs_19_20])
      refine g_istore_n (ls' := [_, _, _, _]) F a_M_readsNoon_40 rfl rfl rfl ?_
      refine g_iload_n F a_M_readsNoon_41 rfl ?_
      refine g_s1 F a_M_readsNoon_42 sc_M_149 mk_M_bits rfl (by decide) ⟨Nat.le_refl _, Nat.le_refl _⟩ rfl (Nat.le_of_ble_eq_true rfl) (sp_M_bits htt (GCr.v ?_))
      (try simp only [mset_same, mset_mset, fup_app, aup_app, fup_fup, aup_aup, false_and, and_false, true_and, and_true, and_self, reduceIte, Nat.reduceEqDiff, reduceCtorEq, fup_10, fs_4_5, fs_4_6, fs_5_6, fs_19_20])
      refine g_bipush F a_M_readsNoon_45 (by decide) ?_
      refine g_icmp_eq F (by first | omega | (have h9 := hrB_r (p := lS B z a) hB0; omega) | (have h9 := bc_r htt; omega)) (by first | omega | (have h9 := hrB_r (p := lS B z a) hB0; omega) | (have h9 := bc_r htt; omega)) a_M_readsNoon_47 (fun h47 => ?_) (fun h47 => ?_)
      · refine g_iconst F a_M_readsNoon_64 ?_
        refine g_zret F a_M_readsNoon_65 rfl rfl ⟨Nat.le_refl _, Nat.le_refl _⟩ ?_
        have hres2 : res = .inl (lS B z a) := by
          rw [← hres, show f = 0 by omega]
          unfold nnL finB
          rw [if_neg (show ¬ lK B z a = 3 from fun q => absurd ((lSE ha).mpr q) (by assumption))]
        exact hQ.2 _ _ hres2 h191 hF
      · refine g_aload_n F a_M_readsNoon_50 rfl ?_
        refine g_iconst F a_M_readsNoon_51 ?_
        refine g_aload_n F a_M_readsNoon_52 rfl ?_
        refine g_get_10_1 F a_M_readsNoon_53 fl_M_60 ?_
        (try simp only [mset_same, mset_mset, fup_app, aup_app, fup_fup, aup_aup, false_and, and_false, true_and, and_true, and_self, reduceIte, Nat.reduceEqDiff, reduceCtorEq, fup_10, fs_4_5, fs_4_6, fs_5_6, fs_19_20])
        refine g_iconst F a_M_readsNoon_56 ?_
        refine g_isub F a_M_readsNoon_57 ?_
        refine g_v2 F a_M_readsNoon_58 vc_M_138 mk_M_number ob_10 ck_10.1 rfl rfl (by decide) ⟨Nat.le_refl _, Nat.le_refl _⟩ rfl (Nat.le_of_ble_eq_true rfl) (sp_M_number hB0 (p := lS B z a) hsl (by rw [mset_same]; exact hb1) (by rw [mset_same]; exact h181) (by rw [mset_same]; exact h191) (by decide) (by omega) (fun q58 => GCr.v ?_) (fun g58 => GCr.v ?_))
        · refine g_ifne1 F a_M_readsNoon_61 ?_
          refine g_iload_n F a_M_readsNoon_66 rfl ?_
          refine g_aload_n F a_M_readsNoon_67 rfl ?_
          refine g_get_10_20 F a_M_readsNoon_68 fl_M_135 ?_
          (try simp only [mset_same, mset_mset, fup_app, aup_app, fup_fup, aup_aup, false_and, and_false, true_and, and_true, and_self, reduceIte, Nat.reduceEqDiff, reduceCtorEq, fup_10, fs_4_5, fs_4_6, fs_5_6, fs_19_20])
          refine g_s2 F a_M_readsNoon_71 sc_M_152 mk_M_has rfl (by decide) ⟨Nat.le_refl _, Nat.le_refl _⟩ rfl (Nat.le_of_ble_eq_true rfl) (sp_M_has (n := (lV B z (lS B z a)).toNat) htt (by have := q58.2.1; omega) (hv6 q58) (fun c71 => GCr.v ?_) (fun c71 => GCr.v ?_))
          · refine g_ifeq1 F a_M_readsNoon_74 ?_
            refine g_aload_n F a_M_readsNoon_77 rfl ?_
            refine g_iload_n F a_M_readsNoon_78 rfl ?_
            refine g_put_10_19 F a_M_readsNoon_79 fl_M_113 ?_
            (try simp only [mset_same, mset_mset, fup_app, aup_app, fup_fup, aup_aup, false_and, and_false, true_and, and_true, and_self, reduceIte, Nat.reduceEqDiff, reduceCtorEq, fup_10, fs_4_5, fs_4_6, fs_5_6, fs_19_20])
            refine g_iconst F a_M_readsNoon_82 ?_
            refine g_zret F a_M_readsNoon_83 rfl rfl ⟨Nat.le_refl _, Nat.le_refl _⟩ ?_
            (try simp only [mset_same, mset_mset])
            obtain ⟨f, rfl⟩ : ∃ f0 : Nat, f = f0 + 1 := ⟨f - 1, by have := bc_r htt; omega⟩
            have hvb : lV B z (lS B z a) = lV B z a := lV_i ha
            have q9 := (nB_i ha).mp q58
            have hvr : 0 ≤ lV B z a ∧ lV B z a < 6 := by
              have h9 := hv6 q58
              rw [hvb] at h9
              have := q9.2.1
              omega
            have hbn : bAnd (bShr t (lV B z a)) 1 ≠ 0 := by
              rw [bit_eq htt hvr, ← hvb]
              omega
            have hm1 : lV B z a < S0.1 4 := by
              have h9 := q9.2.2
              rw [← hsh1]
              show lV B z a < M1.1 1
              omega
            have hres2 : res = .inl (lS B z a) := by
              rw [← hres]
              unfold nnL
              rw [if_neg (show ¬ lK B z a = 3 from fun q => absurd ((lSE ha).mpr q) (by assumption)), if_pos ⟨q9.1, hm1, hbn⟩]
            exact hQ.2 _ _ hres2 h191 (hF.trans ⟨rfl, rfl, rfl, rfl, rfl, rfl, rfl, rfl, rfl, rfl, rfl, rfl, rfl, rfl, rfl, rfl⟩)
          · refine g_ifeq0 F a_M_readsNoon_74 ?_
            refine g_iload_n F a_M_readsNoon_84 rfl ?_
            refine g_iconst F a_M_readsNoon_85 ?_
            refine g_aload_n F a_M_readsNoon_86 rfl ?_
            refine g_get_10_20 F a_M_readsNoon_87 fl_M_135 ?_
            (try simp only [mset_same, mset_mset, fup_app, aup_app, fup_fup, aup_aup, false_and, and_false, true_and, and_true, and_self, reduceIte, Nat.reduceEqDiff, reduceCtorEq, fup_10, fs_4_5, fs_4_6, fs_5_6, fs_19_20])
            refine g_ishl F a_M_readsNoon_90 ?_
            refine g_ior F a_M_readsNoon_91 ?_
            refine g_istore_n (ls' := [_, _, _, _]) F a_M_readsNoon_92 rfl rfl rfl ?_
            refine g_aload_n F a_M_readsNoon_93 rfl ?_
            refine g_v0 F a_M_readsNoon_94 vc_M_129 mk_M_skip ob_10 ck_10.1 rfl rfl (by decide) ⟨Nat.le_refl _, Nat.le_refl _⟩ rfl (Nat.le_of_ble_eq_true rfl) (sp_M_skip hB0 (p := lE B z (lS B z a)) (lE_r (B := B) hsl).2 (by exact hb1) (by exact h181) rfl (GCr.n ?_))
            (try simp only [mset_same, mset_mset, fup_app, aup_app, fup_fup, aup_aup, false_and, and_false, true_and, and_true, and_self, reduceIte, Nat.reduceEqDiff, reduceCtorEq, fup_10, fs_4_5, fs_4_6, fs_5_6, fs_19_20])
            refine g_goto F a_M_readsNoon_97 ?_
            obtain ⟨f, rfl⟩ : ∃ f0 : Nat, f = f0 + 1 := ⟨f - 1, by have := bc_r htt; omega⟩
            have hab : lE B z (lS B z a) = lE B z a := lE_i ha
            have hvb : lV B z (lS B z a) = lV B z a := lV_i ha
            have hnb : nB B z 0 ((shM M1).1 4 - 1) a := by
              have q9 := (nB_i ha).mp q58
              exact q9
            have hvr : 0 ≤ lV B z a ∧ lV B z a < 6 := by
              have h9 := hv6 q58
              rw [hvb] at h9
              have := hnb.2.1
              omega
            have hbc : bc (bOr t (bShl 1 (lV B z a))) = bc t + 1 := bcs htt (n := (lV B z (lS B z a)).toNat) (by rw [hvb]; omega) (hv6 q58) c71
            have hbn : bAnd (bShr t (lV B z a)) 1 = 0 := by
              rw [bit_eq htt hvr, ← hvb]
              omega
            rw [hab, hvb]
            refine GC.loc2 (ih f (lE B z a) _ _ (by omega) (by omega) (by omega) (lE_r (B := B) ha).2 ?_ (by exact hb1) (by exact h181) rfl (by rw [sh_20, sh_19]; exact hsh1) ?_ (hF.trans ⟨rfl, rfl, rfl, rfl, rfl, rfl, rfl, rfl, rfl, rfl, rfl, rfl, rfl, rfl, rfl, rfl⟩) (orsh htt hvr)) ⟨rfl, rfl, rfl, trivial⟩
            · exact ⟨s0, s1, s2, s3, s4, s5, hfg, hkd, hsh, hgl⟩
            · rw [← hres]
              conv => rhs; unfold nnL
              rw [if_neg (show ¬ lK B z a = 3 from fun q => absurd ((lSE ha).mpr q) (by assumption)), if_neg (fun q => q.2.2 hbn), if_pos (by rw [← hsh1]; exact hnb)]
        · refine g_ifne0 F a_M_readsNoon_61 ?_
          refine g_iconst F a_M_readsNoon_64 ?_
          refine g_zret F a_M_readsNoon_65 rfl rfl ⟨Nat.le_refl _, Nat.le_refl _⟩ ?_
          (try simp only [mset_same, mset_mset])
          obtain ⟨f, rfl⟩ : ∃ f0 : Nat, f = f0 + 1 := ⟨f - 1, by have := bc_r htt; omega⟩
          have hres2 : res = .inl (lS B z (lS B z a)) := by
            rw [← hres, lS_i ha]
            have g9 : ¬ nB B z 0 (S0.1 4 - 1) a := fun q => g58 ((nB_i ha).mpr (by rw [← hsh1] at q; exact q))
            unfold nnL
            rw [if_neg (show ¬ lK B z a = 3 from fun q => absurd ((lSE ha).mpr q) (by assumption))]
            rw [if_neg g9]
            split <;> rfl
          exact hQ.2 _ _ hres2 rfl (hF.trans ⟨rfl, rfl, rfl, rfl, rfl, rfl, rfl, rfl, rfl, rfl, rfl, rfl, rfl, rfl, rfl, rfl⟩)
set_option maxHeartbeats 1000000 in
theorem sp_M_readsNoon {κ : Kx} {Q : Option Value → (Heap → Prop) → Prop} {m : Mem} {B : Int → Int} {z p : Nat} (hB0 : okB B z) (hpz : p ≤ z) (hb : (m 10 0).2 8 = B) (h18 : (m 10 0).1 18 = (z : Int)) {D : Int} (hS : okM D (m 10 0)) (hD : D ≤ 100000) (h19 : (m 10 0).1 19 = (p : Int)) (hQ : RM κ Q m z (iNoon B z p (shM (m 10 0)))) : GG κ G_M_readsNoon 6 0 0 [.ref (ad κ 10 0)] (World κ m) Q := by
  have hz150 := hB0.1
  have hhr := hrB_r (p := p) hB0
  obtain ⟨s0, s1, s2, s3, s4, s5, hfg, hkd, hsh, hgl⟩ := id hS
  have her := lE_r (B := B) hpz
  have her2 := lE_r (B := B) her.2
  have her3 := lE_r (B := B) her2.2
  refine GG.intro (ls := [some _, none, none, none]) (Nat.le_of_ble_eq_true rfl) rfl (fun μ F => ?_)
  refine g_aload_n F a_M_readsNoon_0 rfl ?_
  refine g_iconst F a_M_readsNoon_1 ?_
  refine g_aload_n F a_M_readsNoon_2 rfl ?_
  refine g_get_10_2 F a_M_readsNoon_3 fl_M_64 ?_
  (try simp only [mset_app, mset_mset, fup_app, aup_app, fup_fup, aup_aup, false_and, and_false, true_and, and_true, and_self, reduceIte, Nat.reduceEqDiff, reduceCtorEq, fup_10, fs_4_5, fs_4_6, fs_5_6, fs_19_20])
  refine g_iconst F a_M_readsNoon_6 ?_
  refine g_isub F a_M_readsNoon_7 ?_
  refine g_v2 F a_M_readsNoon_8 vc_M_138 mk_M_number ob_10 ck_10.1 rfl rfl (by decide) ⟨Nat.le_refl _, Nat.le_refl _⟩ rfl (Nat.le_of_ble_eq_true rfl) (sp_M_number hB0 (p := p) hpz (by exact hb) (by exact h18) h19 (by decide) (by show -1 ≤ (m 10 0).1 2 - 1 ∧ (m 10 0).1 2 - 1 ≤ 100; omega) (fun q8 => GCr.v ?_) (fun g8 => GCr.v ?_))
  · refine g_ifne1 F a_M_readsNoon_11 ?_
    refine g_aload_n F a_M_readsNoon_16 rfl ?_
    refine g_get_10_20 F a_M_readsNoon_17 fl_M_135 ?_
    (try simp only [mset_app, mset_mset, fup_app, aup_app, fup_fup, aup_aup, false_and, and_false, true_and, and_true, and_self, reduceIte, Nat.reduceEqDiff, reduceCtorEq, fup_10, fs_4_5, fs_4_6, fs_5_6, fs_19_20])
    refine g_istore_n (ls' := [_, _, _, _]) F a_M_readsNoon_20 rfl rfl rfl ?_
    refine g_iconst F a_M_readsNoon_21 ?_
    refine g_istore_n (ls' := [_, _, _, _]) F a_M_readsNoon_22 rfl rfl rfl ?_
    refine g_aload_n F a_M_readsNoon_23 rfl ?_
    refine g_v0 F a_M_readsNoon_24 vc_M_129 mk_M_skip ob_10 ck_10.1 rfl rfl (by decide) ⟨Nat.le_refl _, Nat.le_refl _⟩ rfl (Nat.le_of_ble_eq_true rfl) (sp_M_skip hB0 (p := lE B z p) her.2 (by exact hb) (by exact h18) rfl (GCr.n ?_))
    (try simp only [mset_app, mset_mset, fup_app, aup_app, fup_fup, aup_aup, false_and, and_false, true_and, and_true, and_self, reduceIte, Nat.reduceEqDiff, reduceCtorEq, fup_10, fs_4_5, fs_4_6, fs_5_6, fs_19_20])
    refine GC.loc2 (lp_M_noon (S0 := shM (m 10 0)) (r := lV B z p) hB0 hD hQ ⟨q8.2.1, by have h9 := q8.2.2; show lV B z p < (m 10 0).1 2; omega⟩ F 7 6 (lE B z p) _ 0 (by decide) (by decide) (by decide) her.2 (okM_1920 hS) (by exact hb) (by exact h18) rfl (by rw [sh_20, sh_19]) ?_ ⟨rfl, rfl, rfl, rfl, rfl, rfl, rfl, rfl, rfl, rfl, rfl, rfl, rfl, rfl, rfl, rfl⟩ (by decide)) ⟨rfl, rfl, rfl, trivial⟩
    unfold iNoon
    rw [if_pos (show nB B z 0 ((shM (m 10 0)).1 5 - 1) p from q8)]
  · refine g_ifne0 F a_M_readsNoon_11 ?_
    refine g_iconst F a_M_readsNoon_14 ?_
    refine g_zret F a_M_readsNoon_15 rfl rfl ⟨Nat.le_refl _, Nat.le_refl _⟩ ?_
    exact hQ.2 _ (lS B z (p)) (by unfold iNoon; rw [if_neg (show ¬ nB B z 0 ((shM (m 10 0)).1 5 - 1) p from g8)]) rfl ⟨rfl, rfl, rfl, rfl, rfl, rfl, rfl, rfl, rfl, rfl, rfl, rfl, rfl, rfl, rfl, rfl⟩
