/-- what a ship that is read leaves as it was -/
def FRc (M M' : Rc) : Prop := M'.1 18 = M.1 18 ∧ M'.1 25 = M.1 25 ∧ M'.1 26 = M.1 26 ∧ M'.2 0 = M.2 0 ∧ M'.2 5 = M.2 5 ∧ M'.2 6 = M.2 6 ∧ M'.2 7 = M.2 7 ∧ M'.2 8 = M.2 8 ∧ M'.2 9 = M.2 9 ∧ M'.2 10 = M.2 10 ∧ M'.2 11 = M.2 11 ∧ M'.2 12 = M.2 12 ∧ M'.2 13 = M.2 13
theorem FRc.trans {M M1 M2 : Rc} (h : FRc M M1) (g : FRc M1 M2) : FRc M M2 := ⟨(g.1).trans (h.1), (g.2.1).trans (h.2.1), (g.2.2.1).trans (h.2.2.1), (g.2.2.2.1).trans (h.2.2.2.1), (g.2.2.2.2.1).trans (h.2.2.2.2.1), (g.2.2.2.2.2.1).trans (h.2.2.2.2.2.1), (g.2.2.2.2.2.2.1).trans (h.2.2.2.2.2.2.1), (g.2.2.2.2.2.2.2.1).trans (h.2.2.2.2.2.2.2.1), (g.2.2.2.2.2.2.2.2.1).trans (h.2.2.2.2.2.2.2.2.1), (g.2.2.2.2.2.2.2.2.2.1).trans (h.2.2.2.2.2.2.2.2.2.1), (g.2.2.2.2.2.2.2.2.2.2.1).trans (h.2.2.2.2.2.2.2.2.2.2.1), (g.2.2.2.2.2.2.2.2.2.2.2.1).trans (h.2.2.2.2.2.2.2.2.2.2.2.1), (g.2.2.2.2.2.2.2.2.2.2.2.2).trans (h.2.2.2.2.2.2.2.2.2.2.2.2)⟩
theorem FRm.c {M M' : Rc} (h : FRm M M') : FRc M M' := ⟨h.2.2.2.1, h.2.2.2.2.1, h.2.2.2.2.2.1, h.2.2.2.2.2.2.1, h.2.2.2.2.2.2.2.1, h.2.2.2.2.2.2.2.2.1, h.2.2.2.2.2.2.2.2.2.1, h.2.2.2.2.2.2.2.2.2.2.1, h.2.2.2.2.2.2.2.2.2.2.2.1, h.2.2.2.2.2.2.2.2.2.2.2.2.1, h.2.2.2.2.2.2.2.2.2.2.2.2.2.1, h.2.2.2.2.2.2.2.2.2.2.2.2.2.2.1, h.2.2.2.2.2.2.2.2.2.2.2.2.2.2.2⟩
theorem FRm.q {M M' : Rc} (h : FRm M M') : M'.1 7 = M.1 7 ∧ M'.1 8 = M.1 8 ∧ M'.1 9 = M.1 9 := ⟨h.1, h.2.1, h.2.2.1⟩
theorem beg_lv (c : Int) (S0 M : Rc) : lv (begS c S0) (shM (bgM c M)) := by
  refine ⟨⟨rfl, rfl, rfl, rfl, rfl, rfl⟩, fun _ _ => rfl, fun x hx => ?_, fun x hx => ?_, fun x hx => ?_⟩
  · have hx : 0 ≤ x ∧ x < 0 := hx
    omega
  · have hx : 0 ≤ x ∧ x < 0 := hx
    omega
  · have hx : 0 ≤ x ∧ x < 0 := hx
    omega
theorem bg_ok {D c : Int} {M : Rc} (h : okM D M) (hc : 0 ≤ c ∧ c ≤ 9) : okM D (bgM c M) := by
  obtain ⟨s0, s1, s2, s3, s4, s5, hfg, hkd, hsh, hgl⟩ := id h
  exact ⟨(by decide : (0 : Int) ≤ 0 ∧ (0 : Int) < 100), (by decide : (0 : Int) ≤ 0 ∧ (0 : Int) < 100), hc, ⟨Int.le_refl 0, by show (0 : Int) ≤ D; omega⟩, (by decide : (0 : Int) ≤ 0 ∧ (0 : Int) ≤ 6), (by decide : (0 : Int) ≤ 0 ∧ (0 : Int) ≤ 3), fun _ _ => by show (0 : Int) ≤ 0 ∧ (0 : Int) ≤ 1; decide, hkd, hsh, hgl⟩
set_option maxHeartbeats 1000000 in
theorem sp_M_readsFirst {κ : Kx} {Q : Option Value → (Heap → Prop) → Prop} {m : Mem} {B : Int → Int} {z : Nat} (hB0 : okB B z) (hb : (m 10 0).2 8 = B) (h18 : (m 10 0).1 18 = (z : Int)) {D : Int} (hS : okM D (m 10 0)) (hD : D ≤ 100000) (h19 : (m 10 0).1 19 = ((0 : Nat) : Int)) (k1 : ∀ (M' : Rc) (q : Nat) (c : Int), (∀ S0 : Rc, item B z 0 true S0 = .inr (q, begS c S0)) → (∀ S0 : Rc, lv (begS c S0) (shM M')) → M'.1 19 = (q : Int) → q ≤ z → okM D M' → (M'.1 7 = 0 ∧ M'.1 8 = 0 ∧ M'.1 9 = 0) → FRc (m 10 0) M' → Q (some (vi 1)) (World κ (mset m 10 0 M'))) (k0 : ∀ (M' : Rc) (e : Nat), (∀ S0 : Rc, item B z 0 true S0 = .inl e) → M'.1 19 = (e : Int) → FRc (m 10 0) M' → Q (some (vi 0)) (World κ (mset m 10 0 M'))) : GG κ G_M_readsFirst 4 0 0 [.ref (ad κ 10 0)] (World κ m) Q := by
  have hz150 := hB0.1
  have h0 : lS B z (lS B z 0) = lS B z 0 := lS_i (Nat.zero_le z)
  have hlz : lS B z 0 ≤ z := (lS_r (B := B) (Nat.zero_le z)).2
  refine GG.intro (ls := [some _]) (Nat.le_of_ble_eq_true rfl) rfl (fun μ F => ?_)
  refine g_aload_n F a_M_readsFirst_0 rfl ?_
  refine g_v0 F a_M_readsFirst_1 vc_M_129 mk_M_skip ob_10 ck_10.1 rfl rfl (by decide) ⟨Nat.le_refl _, Nat.le_refl _⟩ rfl (Nat.le_of_ble_eq_true rfl) (sp_M_skip hB0 (Nat.zero_le z) hb h18 h19 (GCr.n ?_))
  (try simp only [mset_same, mset_mset, fup_app, aup_app, fup_fup, aup_aup, false_and, and_false, true_and, and_true, and_self, reduceIte, Nat.reduceEqDiff, reduceCtorEq, fup_10, fs_4_5, fs_4_6, fs_5_6, fs_19_20])
  refine g_aload_n F a_M_readsFirst_4 rfl ?_
  refine g_v0 F a_M_readsFirst_5 vc_M_159 mk_M_wordHere ob_10 ck_10.1 rfl rfl (by decide) ⟨Nat.le_refl _, Nat.le_refl _⟩ rfl (Nat.le_of_ble_eq_true rfl) (sp_M_wordHere hB0 (p := lS B z 0) hlz (by rw [mset_same]; exact hb) (by rw [mset_same]; exact h18) (by rw [mset_same]; rfl) (GCr.v ?_))
  (try simp only [mset_same, mset_mset, fup_app, aup_app, fup_fup, aup_aup, false_and, and_false, true_and, and_true, and_self, reduceIte, Nat.reduceEqDiff, reduceCtorEq, fup_10, fs_4_5, fs_4_6, fs_5_6, fs_19_20])
  rcases wh_c (B := B) h0 with h9 | h9 | h9 | h9 | h9 | h9 | h9
  · obtain ⟨hw9, hb9⟩ := h9
    rw [hw9]
    have hw0 : wB B z 0 0 = true := by rw [← wB_i (Nat.zero_le z)]; exact hb9
    have hle := (lE_r (B := B) (Nat.zero_le z)).2
    have hle2 := (lE_r (B := B) hle).2
    have hle3 := (lE_r (B := B) hle2).2
    have hpos : ((lS B z 0 : Nat) : Int) + 4 = (lE B z 0 : Nat) := by rw [← lE_i (Nat.zero_le z), wb_len h0 hb9]; rfl
    refine g_if_eq F (by decide) a_M_readsFirst_8 (fun h8 => ?_) (fun h8 => absurd rfl h8)
    refine g_aload_n F a_M_readsFirst_13 rfl ?_
    refine g_dup F a_M_readsFirst_14 rfl ?_
    refine g_get_10_19 F a_M_readsFirst_15 fl_M_113 ?_
    (try simp only [mset_same, mset_mset, fup_app, aup_app, fup_fup, aup_aup, false_and, and_false, true_and, and_true, and_self, reduceIte, Nat.reduceEqDiff, reduceCtorEq, fup_10, fs_4_5, fs_4_6, fs_5_6, fs_19_20])
    refine g_iconst F a_M_readsFirst_18 ?_
    refine g_iadd F a_M_readsFirst_19 ?_
    refine g_put_10_19 F a_M_readsFirst_20 fl_M_113 ?_
    (try simp only [mset_same, mset_mset, fup_app, aup_app, fup_fup, aup_aup, false_and, and_false, true_and, and_true, and_self, reduceIte, Nat.reduceEqDiff, reduceCtorEq, fup_10, fs_4_5, fs_4_6, fs_5_6, fs_19_20])
    refine g_aload_n F a_M_readsFirst_23 rfl ?_
    refine g_iconst F a_M_readsFirst_24 ?_
    refine g_bipush F a_M_readsFirst_25 (by decide) ?_
    refine g_v2 F a_M_readsFirst_27 vc_M_138 mk_M_number ob_10 ck_10.1 rfl rfl (by decide) ⟨Nat.le_refl _, Nat.le_refl _⟩ rfl (Nat.le_of_ble_eq_true rfl) (sp_M_number hB0 (p := lE B z 0) hle (by exact hb) (by exact h18) hpos (by decide) (by decide) (fun q27 => GCr.v ?_) (fun g27 => GCr.v ?_))
    · refine g_ifne1 F a_M_readsFirst_30 ?_
      refine g_aload_n F a_M_readsFirst_35 rfl ?_
      refine g_aload_n F a_M_readsFirst_36 rfl ?_
      refine g_get_10_20 F a_M_readsFirst_37 fl_M_135 ?_
      (try simp only [mset_same, mset_mset, fup_app, aup_app, fup_fup, aup_aup, false_and, and_false, true_and, and_true, and_self, reduceIte, Nat.reduceEqDiff, reduceCtorEq, fup_10, fs_4_5, fs_4_6, fs_5_6, fs_19_20])
      refine g_v1 F a_M_readsFirst_40 vc_M_56 mk_M_begin ob_10 ck_10.1 rfl rfl (by decide) ⟨Nat.le_refl _, Nat.le_refl _⟩ rfl (Nat.le_of_ble_eq_true rfl) (sp_M_begin  (GCr.n ?_))
      (try simp only [mset_same, mset_mset, fup_app, aup_app, fup_fup, aup_aup, false_and, and_false, true_and, and_true, and_self, reduceIte, Nat.reduceEqDiff, reduceCtorEq, fup_10, fs_4_5, fs_4_6, fs_5_6, fs_19_20])
      refine g_aload_n F a_M_readsFirst_43 rfl ?_
      refine g_v0 F a_M_readsFirst_44 vc_M_142 mk_M_ends ob_10 ck_10.1 rfl rfl (by decide) ⟨Nat.le_refl _, Nat.le_refl _⟩ rfl (Nat.le_of_ble_eq_true rfl) (sp_M_ends hB0 (p := lE B z (lE B z 0)) hle2 (by exact hb) (by exact h18) rfl (fun q44 => GCr.v ?_) (fun g44 => GCr.v ?_))
      · refine g_zret F a_M_readsFirst_47 rfl rfl ⟨Nat.le_refl _, Nat.le_refl _⟩ ?_
        (try simp only [mset_same, mset_mset, fup_fup])
        exact k1 _ (lE B z (lE B z (lE B z 0))) (lV B z (lE B z 0)) (fun S0 => by unfold item; rw [if_pos hw0, if_pos rfl]; unfold iShip; rw [if_pos q27]; unfold finB; rw [if_pos q44]) (fun S0 => by rw [sh_19]; exact beg_lv _ S0 _) rfl hle3 (okM_19 (bg_ok (okM_1920 hS) q27.2)) ⟨rfl, rfl, rfl⟩ ⟨rfl, rfl, rfl, rfl, rfl, rfl, rfl, rfl, rfl, rfl, rfl, rfl, rfl⟩
      · refine g_zret F a_M_readsFirst_47 rfl rfl ⟨Nat.le_refl _, Nat.le_refl _⟩ ?_
        (try simp only [mset_same, mset_mset, fup_fup])
        exact k0 _ (lS B z (lE B z (lE B z 0))) (fun S0 => by unfold item; rw [if_pos hw0, if_pos rfl]; unfold iShip; rw [if_pos q27]; unfold finB; rw [if_neg g44]) rfl ⟨rfl, rfl, rfl, rfl, rfl, rfl, rfl, rfl, rfl, rfl, rfl, rfl, rfl⟩
    · refine g_ifne0 F a_M_readsFirst_30 ?_
      refine g_iconst F a_M_readsFirst_33 ?_
      refine g_zret F a_M_readsFirst_34 rfl rfl ⟨Nat.le_refl _, Nat.le_refl _⟩ ?_
      (try simp only [mset_same, mset_mset, fup_fup])
      exact k0 _ (lS B z (lE B z 0)) (fun S0 => by unfold item; rw [if_pos hw0, if_pos rfl]; unfold iShip; rw [if_neg g27]) rfl ⟨rfl, rfl, rfl, rfl, rfl, rfl, rfl, rfl, rfl, rfl, rfl, rfl, rfl⟩
  · obtain ⟨hw9, hb9⟩ := h9
    rw [hw9]
    have wx9 : ¬ wB B z (lS B z 0) 0 = true := wb_x h0 (i := 1) (by decide) (by decide) (by decide) hb9
    refine g_if_eq F (by decide) a_M_readsFirst_8 (fun h8 => absurd h8 (by decide)) (fun h8 => ?_)
    refine g_iconst F a_M_readsFirst_11 ?_
    refine g_zret F a_M_readsFirst_12 rfl rfl ⟨Nat.le_refl _, Nat.le_refl _⟩ ?_
    (try simp only [mset_same, mset_mset, fup_fup])
    exact k0 _ (lS B z 0) (fun S0 => by unfold item; rw [if_neg (by rw [← wB_i (Nat.zero_le z)]; exact fun q => wx9 q), if_pos rfl]) rfl ⟨rfl, rfl, rfl, rfl, rfl, rfl, rfl, rfl, rfl, rfl, rfl, rfl, rfl⟩
  · obtain ⟨hw9, hb9⟩ := h9
    rw [hw9]
    have wx9 : ¬ wB B z (lS B z 0) 0 = true := wb_x h0 (i := 2) (by decide) (by decide) (by decide) hb9
    refine g_if_eq F (by decide) a_M_readsFirst_8 (fun h8 => absurd h8 (by decide)) (fun h8 => ?_)
    refine g_iconst F a_M_readsFirst_11 ?_
    refine g_zret F a_M_readsFirst_12 rfl rfl ⟨Nat.le_refl _, Nat.le_refl _⟩ ?_
    (try simp only [mset_same, mset_mset, fup_fup])
    exact k0 _ (lS B z 0) (fun S0 => by unfold item; rw [if_neg (by rw [← wB_i (Nat.zero_le z)]; exact fun q => wx9 q), if_pos rfl]) rfl ⟨rfl, rfl, rfl, rfl, rfl, rfl, rfl, rfl, rfl, rfl, rfl, rfl, rfl⟩
  · obtain ⟨hw9, hb9⟩ := h9
    rw [hw9]
    have wx9 : ¬ wB B z (lS B z 0) 0 = true := wb_x h0 (i := 3) (by decide) (by decide) (by decide) hb9
    refine g_if_eq F (by decide) a_M_readsFirst_8 (fun h8 => absurd h8 (by decide)) (fun h8 => ?_)
    refine g_iconst F a_M_readsFirst_11 ?_
    refine g_zret F a_M_readsFirst_12 rfl rfl ⟨Nat.le_refl _, Nat.le_refl _⟩ ?_
    (try simp only [mset_same, mset_mset, fup_fup])
    exact k0 _ (lS B z 0) (fun S0 => by unfold item; rw [if_neg (by rw [← wB_i (Nat.zero_le z)]; exact fun q => wx9 q), if_pos rfl]) rfl ⟨rfl, rfl, rfl, rfl, rfl, rfl, rfl, rfl, rfl, rfl, rfl, rfl, rfl⟩
  · obtain ⟨hw9, hb9⟩ := h9
    rw [hw9]
    have wx9 : ¬ wB B z (lS B z 0) 0 = true := wb_x h0 (i := 4) (by decide) (by decide) (by decide) hb9
    refine g_if_eq F (by decide) a_M_readsFirst_8 (fun h8 => absurd h8 (by decide)) (fun h8 => ?_)
    refine g_iconst F a_M_readsFirst_11 ?_
    refine g_zret F a_M_readsFirst_12 rfl rfl ⟨Nat.le_refl _, Nat.le_refl _⟩ ?_
    (try simp only [mset_same, mset_mset, fup_fup])
    exact k0 _ (lS B z 0) (fun S0 => by unfold item; rw [if_neg (by rw [← wB_i (Nat.zero_le z)]; exact fun q => wx9 q), if_pos rfl]) rfl ⟨rfl, rfl, rfl, rfl, rfl, rfl, rfl, rfl, rfl, rfl, rfl, rfl, rfl⟩
  · obtain ⟨hw9, hb9⟩ := h9
    rw [hw9]
    have wx9 : ¬ wB B z (lS B z 0) 0 = true := wb_x h0 (i := 5) (by decide) (by decide) (by decide) hb9
    refine g_if_eq F (by decide) a_M_readsFirst_8 (fun h8 => absurd h8 (by decide)) (fun h8 => ?_)
    refine g_iconst F a_M_readsFirst_11 ?_
    refine g_zret F a_M_readsFirst_12 rfl rfl ⟨Nat.le_refl _, Nat.le_refl _⟩ ?_
    (try simp only [mset_same, mset_mset, fup_fup])
    exact k0 _ (lS B z 0) (fun S0 => by unfold item; rw [if_neg (by rw [← wB_i (Nat.zero_le z)]; exact fun q => wx9 q), if_pos rfl]) rfl ⟨rfl, rfl, rfl, rfl, rfl, rfl, rfl, rfl, rfl, rfl, rfl, rfl, rfl⟩
  · obtain ⟨hw9, hb9⟩ := h9
    rw [hw9]
    have wx9 : ¬ wB B z (lS B z 0) 0 = true := hb9.1
    refine g_if_eq F (by decide) a_M_readsFirst_8 (fun h8 => absurd h8 (by decide)) (fun h8 => ?_)
    refine g_iconst F a_M_readsFirst_11 ?_
    refine g_zret F a_M_readsFirst_12 rfl rfl ⟨Nat.le_refl _, Nat.le_refl _⟩ ?_
    (try simp only [mset_same, mset_mset, fup_fup])
    exact k0 _ (lS B z 0) (fun S0 => by unfold item; rw [if_neg (by rw [← wB_i (Nat.zero_le z)]; exact fun q => wx9 q), if_pos rfl]) rfl ⟨rfl, rfl, rfl, rfl, rfl, rfl, rfl, rfl, rfl, rfl, rfl, rfl, rfl⟩
theorem lK_0 {B : Int → Int} {z p : Nat} : lK B z p = 0 ↔ z ≤ lS B z p := by
  unfold lK
  constructor
  · intro h
    split at h
    · assumption
    · split at h
      · omega
      · split at h
        · omega
        · split at h
          · split at h <;> omega
          · omega
  · intro h
    rw [if_pos h]
theorem tell_end {B : Int → Int} {z f k p : Nat} {S : Rc} (h : z ≤ lS B z p) (hk : 0 < k) : tellL B z (f + 1) k p S = .inr (k, S) := by
  unfold tellL
  rw [if_pos ⟨lK_0.mpr h, hk⟩]
theorem tell_go {B : Int → Int} {z f k p q : Nat} {S S' : Rc} (h : ¬ z ≤ lS B z p) (hk : 0 < k) (hi : item B z p false S = .inr (q, S')) : tellL B z (f + 1) k p S = tellL B z f (k + 1) q S' := by
  conv => lhs; unfold tellL
  rw [if_neg (fun q => h (lK_0.mp q.1)), decide_eq_false (by omega), hi]
theorem tell_bad {B : Int → Int} {z f k p e : Nat} {S : Rc} (h : ¬ z ≤ lS B z p) (hk : 0 < k) (hi : item B z p false S = .inl e) : tellL B z (f + 1) k p S = .inl e := by
  conv => lhs; unfold tellL
  rw [if_neg (fun q => h (lK_0.mp q.1)), decide_eq_false (by omega), hi]
theorem item_lr {B : Int → Int} {z p q : Nat} {S S1 S' : Rc} (h : lv S S1) (hi : item B z p false S1 = .inr (q, S')) : ∃ S2 : Rc, item B z p false S = .inr (q, S2) ∧ lv S2 S' := by
  have := item_lv (B := B) (z := z) h p
  rw [hi] at this
  cases e : item B z p false S with
  | inl e9 => rw [e] at this; exact this.elim
  | inr w =>
    rw [e] at this
    obtain ⟨w1, w2⟩ := w
    obtain ⟨g1, g2⟩ := this
    dsimp only at g1 g2
    exact ⟨w2, by rw [g1], g2⟩
theorem item_ll {B : Int → Int} {z p e : Nat} {S S1 : Rc} (h : lv S S1) (hi : item B z p false S1 = .inl e) : item B z p false S = .inl e := by
  have := item_lv (B := B) (z := z) h p
  rw [hi] at this
  cases e9 : item B z p false S with
  | inl e8 =>
    rw [e9] at this
    have this : e8 = e := this
    rw [this]
  | inr w => rw [e9] at this; exact this.elim
set_option maxHeartbeats 2000000 in
theorem lp_M_ship {κ : Kx} {μ : MX} {Q : Option Value → (Heap → Prop) → Prop} {m : Mem} {B : Int → Int} {z : Nat} {D : Int} {res : Rs} (hB0 : okB B z) (hD : D + 150 ≤ 100000) (k1 : ∀ (M' : Rc) (n : Nat) (S' : Rc), res = .inr (n, S') → lv S' (shM M') → okM (D + 150) M' → (M'.1 7 = 0 ∧ M'.1 8 = 0 ∧ M'.1 9 = 0) → FRc (m 10 0) M' → Q (some (vi n)) (World κ (mset m 10 0 M'))) (k0 : ∀ (M' : Rc) (e : Nat), res = .inl e → M'.1 19 = (e : Int) → FRc (m 10 0) M' → Q (some (vi (-1))) (World κ (mset m 10 0 M')))  (F : Fx κ G_M_readsShip 8 0 0 μ) :
    ∀ (n : Nat) (f k p : Nat) (M1 S1 : Rc) (x : Int), f < n → f + k = 150 → 0 < k → x = (k : Int) → p ≤ z → 3 * k ≤ p → M1.2 8 = B → M1.1 18 = (z : Int) → M1.1 19 = (lS B z p : Nat) → okM (D + k) M1 → lv S1 (shM M1) → (M1.1 7 = 0 ∧ M1.1 8 = 0 ∧ M1.1 9 = 0) → FRc (m 10 0) M1 → tellL B z f k p S1 = res →  GC κ μ (ZZ κ μ 0 0 Q) 0 0 20 [some (.ref (ad κ 10 0)), some (vi x)] [] (World κ (mset m 10 0 M1)) := by
  intro n
  induction n with
  | zero =>
    intro f k p M1 S1 x hn hf hk hx hp hp3 hb1 h181 h191 hS1 hlv hz7 hF hres
    exact absurd hn (by omega)
  | succ n ih =>
    intro f k p M1 S1 x hn hf hk hx hp hp3 hb1 h181 h191 hS1 hlv hz7 hF hres
    have hz150 := hB0.1
    have hlz : lS B z p ≤ z := (lS_r (B := B) hp).2
    obtain ⟨f, rfl⟩ : ∃ f0 : Nat, f = f0 + 1 := ⟨f - 1, by omega⟩
    refine g_aload_n F a_M_readsShip_20 rfl ?_
    refine g_get_10_19 F a_M_readsShip_21 fl_M_113 ?_
    (try simp only [mset_same, mset_mset, fup_app, aup_app, fup_fup, aup_aup, false_and, and_false, true_and, and_true, and_self, reduceIte, Nat.reduceEqDiff, reduceCtorEq, fup_10, fs_4_5, fs_4_6, fs_5_6, fs_19_20])
    refine g_aload_n F a_M_readsShip_24 rfl ?_
    refine g_get_10_18 F a_M_readsShip_25 fl_M_110 ?_
    (try simp only [mset_same, mset_mset, fup_app, aup_app, fup_fup, aup_aup, false_and, and_false, true_and, and_true, and_self, reduceIte, Nat.reduceEqDiff, reduceCtorEq, fup_10, fs_4_5, fs_4_6, fs_5_6, fs_19_20])
    refine g_icmp_ge F (by omega) (by omega) a_M_readsShip_28 (fun h28 => ?_) (fun h28 => ?_)
    · refine g_iload_n F a_M_readsShip_50 rfl ?_
      refine g_iret F a_M_readsShip_51 rfl ⟨Nat.le_refl _, Nat.le_refl _⟩ ?_
      exact qv (k1 M1 k S1 (by rw [← hres]; exact tell_end (by omega) hk) hlv (okS_M ((okM_S hS1).day (by have := (okM_S hS1).2.2.2.1; omega))) hz7 hF) hx
    · refine g_aload_n F a_M_readsShip_31 rfl ?_
      refine g_v0 F a_M_readsShip_32 vc_M_180 mk_M_readsItem ob_10 ck_10.1 rfl rfl (by decide) ⟨Nat.le_refl _, Nat.le_refl _⟩ rfl (Nat.le_of_ble_eq_true rfl) (sp_M_readsItem (m := mset m 10 0 M1) (B := B) (z := z) (p := lS B z p) (D := D + k) hB0 hlz (by rw [mset_same]; exact hb1) (by rw [mset_same]; exact h181) (by rw [mset_same]; exact hS1) (by omega) (by rw [mset_same]; exact h191) (lS_i hp) ⟨fun M9 q9 S9 e1 e2 e3 e4 e5 => GCr.v ?_, fun M9 q9 e1 e2 e5 => GCr.v ?_⟩)
      · rw [mset_same] at e1 e5
        rw [mset_mset]
        have hi9 : item B z p false (shM M1) = .inr (q9, S9) := by rw [← item_i hp]; exact e1
        obtain ⟨S2, hi2, hl2⟩ := item_lr hlv hi9
        have had := item_ad hp hi9
        have hb9 : M9.2 8 = B := (e5.2.2.2.2.2.2.2.2.2.2.1).trans hb1
        have h189 : M9.1 18 = (z : Int) := (e5.2.2.2.1).trans h181
        have hok9 := item_ok (okM_S hS1) hi9
        rw [← e4] at hl2 hok9
        refine g_ifne1 F a_M_readsShip_35 ?_
        refine g_iinc (ls' := [_, _]) F a_M_readsShip_40 rfl rfl rfl ?_
        refine g_aload_n F a_M_readsShip_43 rfl ?_
        refine g_v0 F a_M_readsShip_44 vc_M_129 mk_M_skip ob_10 ck_10.1 rfl rfl (by decide) ⟨Nat.le_refl _, Nat.le_refl _⟩ rfl (Nat.le_of_ble_eq_true rfl) (sp_M_skip hB0 (p := q9) e3 (by rw [mset_same]; exact hb9) (by rw [mset_same]; exact h189) (by rw [mset_same]; exact e2) (GCr.n ?_))
        (try simp only [mset_same, mset_mset, fup_app, aup_app, fup_fup, aup_aup, false_and, and_false, true_and, and_true, and_self, reduceIte, Nat.reduceEqDiff, reduceCtorEq, fup_10, fs_4_5, fs_4_6, fs_5_6, fs_19_20])
        refine g_goto F a_M_readsShip_47 ?_
        refine GC.loc2 (ih f (k + 1) q9 _ S2 _ (by omega) (by omega) (by omega) (by omega) e3 (by omega) (by exact hb9) (by exact h189) rfl (by
          rw [show (D + ((k + 1 : Nat) : Int)) = D + (k : Int) + 1 by omega]
          exact okM_19 (okS_M hok9)) (by rw [sh_19]; exact hl2) ?_ (hF.trans ((FRm.c e5).trans ⟨rfl, rfl, rfl, rfl, rfl, rfl, rfl, rfl, rfl, rfl, rfl, rfl, rfl⟩)) (by rw [← hres]; exact (tell_go (by omega) hk hi2).symm)) ⟨rfl, rfl, trivial⟩
        obtain ⟨z7, z8, z9⟩ := FRm.q e5
        exact ⟨z7.trans hz7.1, z8.trans hz7.2.1, z9.trans hz7.2.2⟩
      · rw [mset_same] at e1 e5
        rw [mset_mset]
        refine g_ifne0 F a_M_readsShip_35 ?_
        refine g_iconst F a_M_readsShip_38 ?_
        refine g_iret F a_M_readsShip_39 rfl ⟨Nat.le_refl _, Nat.le_refl _⟩ ?_
        have hi9 : item B z p false (shM M1) = .inl q9 := by rw [← item_i hp]; exact e1
        exact k0 M9 q9 (by rw [← hres]; exact tell_bad (by omega) hk (item_ll hlv hi9)) e2 (hF.trans (FRm.c e5))
set_option maxHeartbeats 1000000 in
theorem sp_M_readsShip {κ : Kx} {Q : Option Value → (Heap → Prop) → Prop} {m : Mem} {B : Int → Int} {z : Nat} {D : Int} {S0 : Rc} {res : Rs} (hB0 : okB B z) (hb : (m 10 0).2 8 = B) (h18 : (m 10 0).1 18 = (z : Int)) (hS : okM D (m 10 0)) (hD : D + 150 ≤ 100000) (hres : tellL B z 150 0 0 S0 = res) (k1 : ∀ (M' : Rc) (n : Nat) (S' : Rc), res = .inr (n, S') → lv S' (shM M') → okM (D + 150) M' → (M'.1 7 = 0 ∧ M'.1 8 = 0 ∧ M'.1 9 = 0) → FRc (m 10 0) M' → Q (some (vi n)) (World κ (mset m 10 0 M'))) (k0 : ∀ (M' : Rc) (e : Nat), res = .inl e → M'.1 19 = (e : Int) → FRc (m 10 0) M' → Q (some (vi (-1))) (World κ (mset m 10 0 M')))  : GG κ G_M_readsShip 8 0 0 [.ref (ad κ 10 0)] (World κ m) Q := by
  have hz150 := hB0.1
  refine GG.intro (ls := [some _, none]) (Nat.le_of_ble_eq_true rfl) rfl (fun μ F => ?_)
  refine g_aload_n F a_M_readsShip_0 rfl ?_
  refine g_iconst F a_M_readsShip_1 ?_
  refine g_put_10_19 F a_M_readsShip_2 fl_M_113 ?_
  (try simp only [mset_same, mset_mset, fup_app, aup_app, fup_fup, aup_aup, false_and, and_false, true_and, and_true, and_self, reduceIte, Nat.reduceEqDiff, reduceCtorEq, fup_10, fs_4_5, fs_4_6, fs_5_6, fs_19_20])
  refine g_aload_n F a_M_readsShip_5 rfl ?_
  refine g_v0 F a_M_readsShip_6 vc_M_177 mk_M_readsFirst ob_10 ck_10.1 rfl rfl (by decide) ⟨Nat.le_refl _, Nat.le_refl _⟩ rfl (Nat.le_of_ble_eq_true rfl) (sp_M_readsFirst (B := B) (z := z) (D := D) hB0 (by exact hb) (by exact h18) (okM_19 hS) (by omega) rfl (fun M9 q9 c9 e1 e2 e3 e4 e5 e6 e7 => GCr.v ?_) (fun M9 q9 e1 e2 e3 => GCr.v ?_))
  · rw [mset_same] at e7
    rw [mset_mset]
    have had := item_ad (Nat.zero_le z) (e1 S0)
    have hb9 : M9.2 8 = B := (e7.2.2.2.2.2.2.2.1).trans hb
    have h189 : M9.1 18 = (z : Int) := (e7.1).trans h18
    refine g_ifne1 F a_M_readsShip_9 ?_
    refine g_iconst F a_M_readsShip_14 ?_
    refine g_istore_n (ls' := [_, _]) F a_M_readsShip_15 rfl rfl rfl ?_
    refine g_aload_n F a_M_readsShip_16 rfl ?_
    refine g_v0 F a_M_readsShip_17 vc_M_129 mk_M_skip ob_10 ck_10.1 rfl rfl (by decide) ⟨Nat.le_refl _, Nat.le_refl _⟩ rfl (Nat.le_of_ble_eq_true rfl) (sp_M_skip hB0 (p := q9) e4 (by rw [mset_same]; exact hb9) (by rw [mset_same]; exact h189) (by rw [mset_same]; exact e3) (GCr.n ?_))
    (try simp only [mset_same, mset_mset, fup_app, aup_app, fup_fup, aup_aup, false_and, and_false, true_and, and_true, and_self, reduceIte, Nat.reduceEqDiff, reduceCtorEq, fup_10, fs_4_5, fs_4_6, fs_5_6, fs_19_20])
    refine GC.loc2 (lp_M_ship hB0 hD k1 k0 F 150 149 1 q9 _ (begS c9 S0) _ (by decide) (by decide) (by decide) rfl e4 (by omega) (by exact hb9) (by exact h189) rfl (okM_19 (okS_M ((okM_S e5).day (by have := (okM_S e5).2.2.2.1; omega)))) (by rw [sh_19]; exact e2 S0) ⟨e6.1, e6.2.1, e6.2.2⟩ (e7.trans ⟨rfl, rfl, rfl, rfl, rfl, rfl, rfl, rfl, rfl, rfl, rfl, rfl, rfl⟩) ?_) ⟨rfl, rfl, trivial⟩
    rw [← hres]
    conv => rhs; unfold tellL
    rw [if_neg (fun q => absurd q.2 (by decide)), decide_eq_true rfl, e1 S0]
  · rw [mset_same] at e3
    rw [mset_mset]
    refine g_ifne0 F a_M_readsShip_9 ?_
    refine g_iconst F a_M_readsShip_12 ?_
    refine g_iret F a_M_readsShip_13 rfl ⟨Nat.le_refl _, Nat.le_refl _⟩ ?_
    exact k0 M9 q9 (by
      rw [← hres]
      unfold tellL
      rw [if_neg (fun q => absurd q.2 (by decide)), decide_eq_true rfl, e1 S0]) e2 e3
