theorem lK_1 {B : Int → Int} {z p : Nat} (h0 : lS B z p = p) : lK B z p = 1 ↔ p < scn isL B z p := by
  unfold lK
  rw [h0]
  constructor
  · intro h
    split at h
    · omega
    · split at h
      · omega
      · split at h
        · rename_i h1 h2 h3
          rw [scn_hit (by omega) h3]
          have := scn_r isL B (n := z) (p := p + 1) (by omega)
          omega
        · split at h
          · split at h <;> omega
          · omega
  · intro h
    have h1 : p < z := by
      refine Nat.lt_of_not_le (fun q => ?_)
      rw [scn_stop q] at h
      omega
    have h2 : isL (B p) = true := by
      cases e : isL (B p) with
      | true => rfl
      | false => rw [scn_miss e] at h; omega
    have h3 : 97 ≤ B p ∧ B p ≤ 122 := of_decide_eq_true h2
    rw [if_neg (by omega), if_neg (by omega), if_pos h2]
theorem lE_1 {B : Int → Int} {z p : Nat} (h0 : lS B z p = p) (h : lK B z p = 1) : lE B z p = scn isL B z p := by
  have h4 := (lK_1 h0).mp h
  have h1 : p < z := by
    refine Nat.lt_of_not_le (fun q => ?_)
    rw [scn_stop q] at h4
    omega
  have h2 : isL (B p) = true := by
    cases e : isL (B p) with
    | true => rfl
    | false => rw [scn_miss e] at h4; omega
  have h3 : 97 ≤ B p ∧ B p ≤ 122 := of_decide_eq_true h2
  unfold lE
  rw [h0, if_neg (by omega), if_neg (by omega), if_pos h2]
theorem wb_0 {B : Int → Int} {z p : Nat} (h0 : lS B z p = p) : wB B z p 0 = true ↔ (scn isL B z p - p = 4 ∧ B ((p : Int) + 0) = 115 ∧ B ((p : Int) + 1) = 104 ∧ B ((p : Int) + 2) = 105 ∧ B ((p : Int) + 3) = 112) := by
  have e1 := lK_1 (B := B) h0
  have e2 := lE_1 (B := B) h0
  unfold wB
  rw [h0, show str_len.getD 0 0 = 4 from rfl, show lenI 0 = 4 from rfl, show wN B p 0 4 = ((((true && decide (B ((p : Int) + 0) = 115)) && decide (B ((p : Int) + 1) = 104)) && decide (B ((p : Int) + 2) = 105)) && decide (B ((p : Int) + 3) = 112)) from rfl]
  simp only [Bool.and_eq_true, decide_eq_true_eq, Bool.true_and, true_and]
  constructor
  · rintro ⟨k1, k2, k3⟩
    have := e1.mp k1
    rw [e2 k1] at k2
    omega
  · rintro ⟨k1, k2⟩
    have k3 := e1.mpr (by omega)
    refine ⟨k3, ?_, by omega⟩
    rw [e2 k3]
    omega
theorem wb_1 {B : Int → Int} {z p : Nat} (h0 : lS B z p = p) : wB B z p 1 = true ↔ (scn isL B z p - p = 3 ∧ B ((p : Int) + 0) = 102 ∧ B ((p : Int) + 1) = 111 ∧ B ((p : Int) + 2) = 103) := by
  have e1 := lK_1 (B := B) h0
  have e2 := lE_1 (B := B) h0
  unfold wB
  rw [h0, show str_len.getD 1 0 = 3 from rfl, show lenI 1 = 3 from rfl, show wN B p 1 3 = (((true && decide (B ((p : Int) + 0) = 102)) && decide (B ((p : Int) + 1) = 111)) && decide (B ((p : Int) + 2) = 103)) from rfl]
  simp only [Bool.and_eq_true, decide_eq_true_eq, Bool.true_and, true_and]
  constructor
  · rintro ⟨k1, k2, k3⟩
    have := e1.mp k1
    rw [e2 k1] at k2
    omega
  · rintro ⟨k1, k2⟩
    have k3 := e1.mpr (by omega)
    refine ⟨k3, ?_, by omega⟩
    rw [e2 k3]
    omega
theorem wb_2 {B : Int → Int} {z p : Nat} (h0 : lS B z p = p) : wB B z p 2 = true ↔ (scn isL B z p - p = 3 ∧ B ((p : Int) + 0) = 109 ∧ B ((p : Int) + 1) = 97 ∧ B ((p : Int) + 2) = 110) := by
  have e1 := lK_1 (B := B) h0
  have e2 := lE_1 (B := B) h0
  unfold wB
  rw [h0, show str_len.getD 2 0 = 3 from rfl, show lenI 2 = 3 from rfl, show wN B p 2 3 = (((true && decide (B ((p : Int) + 0) = 109)) && decide (B ((p : Int) + 1) = 97)) && decide (B ((p : Int) + 2) = 110)) from rfl]
  simp only [Bool.and_eq_true, decide_eq_true_eq, Bool.true_and, true_and]
  constructor
  · rintro ⟨k1, k2, k3⟩
    have := e1.mp k1
    rw [e2 k1] at k2
    omega
  · rintro ⟨k1, k2⟩
    have k3 := e1.mpr (by omega)
    refine ⟨k3, ?_, by omega⟩
    rw [e2 k3]
    omega
theorem wb_3 {B : Int → Int} {z p : Nat} (h0 : lS B z p = p) : wB B z p 3 = true ↔ (scn isL B z p - p = 6 ∧ B ((p : Int) + 0) = 114 ∧ B ((p : Int) + 1) = 101 ∧ B ((p : Int) + 2) = 97 ∧ B ((p : Int) + 3) = 100 ∧ B ((p : Int) + 4) = 101 ∧ B ((p : Int) + 5) = 114) := by
  have e1 := lK_1 (B := B) h0
  have e2 := lE_1 (B := B) h0
  unfold wB
  rw [h0, show str_len.getD 3 0 = 6 from rfl, show lenI 3 = 6 from rfl, show wN B p 3 6 = ((((((true && decide (B ((p : Int) + 0) = 114)) && decide (B ((p : Int) + 1) = 101)) && decide (B ((p : Int) + 2) = 97)) && decide (B ((p : Int) + 3) = 100)) && decide (B ((p : Int) + 4) = 101)) && decide (B ((p : Int) + 5) = 114)) from rfl]
  simp only [Bool.and_eq_true, decide_eq_true_eq, Bool.true_and, true_and]
  constructor
  · rintro ⟨k1, k2, k3⟩
    have := e1.mp k1
    rw [e2 k1] at k2
    omega
  · rintro ⟨k1, k2⟩
    have k3 := e1.mpr (by omega)
    refine ⟨k3, ?_, by omega⟩
    rw [e2 k3]
    omega
theorem wb_4 {B : Int → Int} {z p : Nat} (h0 : lS B z p = p) : wB B z p 4 = true ↔ (scn isL B z p - p = 4 ∧ B ((p : Int) + 0) = 100 ∧ B ((p : Int) + 1) = 101 ∧ B ((p : Int) + 2) = 101 ∧ B ((p : Int) + 3) = 100) := by
  have e1 := lK_1 (B := B) h0
  have e2 := lE_1 (B := B) h0
  unfold wB
  rw [h0, show str_len.getD 4 0 = 4 from rfl, show lenI 4 = 4 from rfl, show wN B p 4 4 = ((((true && decide (B ((p : Int) + 0) = 100)) && decide (B ((p : Int) + 1) = 101)) && decide (B ((p : Int) + 2) = 101)) && decide (B ((p : Int) + 3) = 100)) from rfl]
  simp only [Bool.and_eq_true, decide_eq_true_eq, Bool.true_and, true_and]
  constructor
  · rintro ⟨k1, k2, k3⟩
    have := e1.mp k1
    rw [e2 k1] at k2
    omega
  · rintro ⟨k1, k2⟩
    have k3 := e1.mpr (by omega)
    refine ⟨k3, ?_, by omega⟩
    rw [e2 k3]
    omega
theorem wb_5 {B : Int → Int} {z p : Nat} (h0 : lS B z p = p) : wB B z p 5 = true ↔ (scn isL B z p - p = 4 ∧ B ((p : Int) + 0) = 110 ∧ B ((p : Int) + 1) = 111 ∧ B ((p : Int) + 2) = 111 ∧ B ((p : Int) + 3) = 110) := by
  have e1 := lK_1 (B := B) h0
  have e2 := lE_1 (B := B) h0
  unfold wB
  rw [h0, show str_len.getD 5 0 = 4 from rfl, show lenI 5 = 4 from rfl, show wN B p 5 4 = ((((true && decide (B ((p : Int) + 0) = 110)) && decide (B ((p : Int) + 1) = 111)) && decide (B ((p : Int) + 2) = 111)) && decide (B ((p : Int) + 3) = 110)) from rfl]
  simp only [Bool.and_eq_true, decide_eq_true_eq, Bool.true_and, true_and]
  constructor
  · rintro ⟨k1, k2, k3⟩
    have := e1.mp k1
    rw [e2 k1] at k2
    omega
  · rintro ⟨k1, k2⟩
    have k3 := e1.mpr (by omega)
    refine ⟨k3, ?_, by omega⟩
    rw [e2 k3]
    omega
/-- which word it is -/
theorem wh_c {B : Int → Int} {z p : Nat} (h0 : lS B z p = p) : (whJ B p (scn isL B z p - p) = 0 ∧ wB B z p 0 = true) ∨ (whJ B p (scn isL B z p - p) = 1 ∧ wB B z p 1 = true) ∨ (whJ B p (scn isL B z p - p) = 2 ∧ wB B z p 2 = true) ∨ (whJ B p (scn isL B z p - p) = 3 ∧ wB B z p 3 = true) ∨ (whJ B p (scn isL B z p - p) = 4 ∧ wB B z p 4 = true) ∨ (whJ B p (scn isL B z p - p) = 5 ∧ wB B z p 5 = true) ∨ (whJ B p (scn isL B z p - p) = -1 ∧ ¬ wB B z p 0 = true ∧ ¬ wB B z p 1 = true ∧ ¬ wB B z p 2 = true ∧ ¬ wB B z p 3 = true ∧ ¬ wB B z p 4 = true ∧ ¬ wB B z p 5 = true) := by
  have e0 := wb_0 (B := B) h0
  have e1 := wb_1 (B := B) h0
  have e2 := wb_2 (B := B) h0
  have e3 := wb_3 (B := B) h0
  have e4 := wb_4 (B := B) h0
  have e5 := wb_5 (B := B) h0
  by_cases c0 : wB B z p 0 = true
  · exact Or.inl ⟨(wj_0 (e0.mp c0)).symm, c0⟩
  by_cases c1 : wB B z p 1 = true
  · exact Or.inr (Or.inl ⟨(wj_1 (e1.mp c1)).symm, c1⟩)
  by_cases c2 : wB B z p 2 = true
  · exact Or.inr (Or.inr (Or.inl ⟨(wj_2 (e2.mp c2)).symm, c2⟩))
  by_cases c3 : wB B z p 3 = true
  · exact Or.inr (Or.inr (Or.inr (Or.inl ⟨(wj_3 (e3.mp c3)).symm, c3⟩)))
  by_cases c4 : wB B z p 4 = true
  · exact Or.inr (Or.inr (Or.inr (Or.inr (Or.inl ⟨(wj_4 (e4.mp c4)).symm, c4⟩))))
  by_cases c5 : wB B z p 5 = true
  · exact Or.inr (Or.inr (Or.inr (Or.inr (Or.inr (Or.inl ⟨(wj_5 (e5.mp c5)).symm, c5⟩)))))
  exact Or.inr (Or.inr (Or.inr (Or.inr (Or.inr (Or.inr ⟨(wj_n (fun q => c0 (e0.mpr q)) (fun q => c1 (e1.mpr q)) (fun q => c2 (e2.mpr q)) (fun q => c3 (e3.mpr q)) (fun q => c4 (e4.mpr q)) (fun q => c5 (e5.mpr q))).symm, c0, c1, c2, c3, c4, c5⟩)))))
theorem wb_x {B : Int → Int} {z p i j : Nat} (h0 : lS B z p = p) (hi : i < 6) (hj : j < 6) (hij : i ≠ j) (h : wB B z p i = true) : ¬ wB B z p j = true := by
  have e0 := wb_0 (B := B) h0
  have e1 := wb_1 (B := B) h0
  have e2 := wb_2 (B := B) h0
  have e3 := wb_3 (B := B) h0
  have e4 := wb_4 (B := B) h0
  have e5 := wb_5 (B := B) h0
  intro g
  have hi' : i = 0 ∨ i = 1 ∨ i = 2 ∨ i = 3 ∨ i = 4 ∨ i = 5 := by omega
  have hj' : j = 0 ∨ j = 1 ∨ j = 2 ∨ j = 3 ∨ j = 4 ∨ j = 5 := by omega
  rcases hi' with rfl | rfl | rfl | rfl | rfl | rfl
  · have k0 := e0.mp h
    rcases hj' with rfl | rfl | rfl | rfl | rfl | rfl
    · exact hij rfl
    · have := e1.mp g; omega
    · have := e2.mp g; omega
    · have := e3.mp g; omega
    · have := e4.mp g; omega
    · have := e5.mp g; omega
  · have k1 := e1.mp h
    rcases hj' with rfl | rfl | rfl | rfl | rfl | rfl
    · have := e0.mp g; omega
    · exact hij rfl
    · have := e2.mp g; omega
    · have := e3.mp g; omega
    · have := e4.mp g; omega
    · have := e5.mp g; omega
  · have k2 := e2.mp h
    rcases hj' with rfl | rfl | rfl | rfl | rfl | rfl
    · have := e0.mp g; omega
    · have := e1.mp g; omega
    · exact hij rfl
    · have := e3.mp g; omega
    · have := e4.mp g; omega
    · have := e5.mp g; omega
  · have k3 := e3.mp h
    rcases hj' with rfl | rfl | rfl | rfl | rfl | rfl
    · have := e0.mp g; omega
    · have := e1.mp g; omega
    · have := e2.mp g; omega
    · exact hij rfl
    · have := e4.mp g; omega
    · have := e5.mp g; omega
  · have k4 := e4.mp h
    rcases hj' with rfl | rfl | rfl | rfl | rfl | rfl
    · have := e0.mp g; omega
    · have := e1.mp g; omega
    · have := e2.mp g; omega
    · have := e3.mp g; omega
    · exact hij rfl
    · have := e5.mp g; omega
  · have k5 := e5.mp h
    rcases hj' with rfl | rfl | rfl | rfl | rfl | rfl
    · have := e0.mp g; omega
    · have := e1.mp g; omega
    · have := e2.mp g; omega
    · have := e3.mp g; omega
    · have := e4.mp g; omega
    · exact hij rfl
theorem wb_len {B : Int → Int} {z p i : Nat} (h0 : lS B z p = p) (h : wB B z p i = true) : (lE B z p : Int) = p + lenI i := by
  unfold wB at h
  rw [h0] at h
  simp only [Bool.and_eq_true, decide_eq_true_eq] at h
  omega
theorem rm_19 {κ : Kx} {Q : Option Value → (Heap → Prop) → Prop} {m : Mem} {z : Nat} {res : Rs} {a : Int} (h : RM κ Q m z res) : RM κ Q (mset m 10 0 (fup (m 10 0).1 19 a, (m 10 0).2)) z res := by
  refine ⟨fun M' q S' e1 e2 e3 e4 e5 => ?_, fun M' e e1 e2 e5 => ?_⟩
  · rw [mset_mset]
    exact h.1 M' q S' e1 e2 e3 e4 (FRm.trans ⟨rfl, rfl, rfl, rfl, rfl, rfl, rfl, rfl, rfl, rfl, rfl, rfl, rfl, rfl, rfl, rfl⟩ e5)
  · rw [mset_mset]
    exact h.2 M' e e1 e2 (FRm.trans ⟨rfl, rfl, rfl, rfl, rfl, rfl, rfl, rfl, rfl, rfl, rfl, rfl, rfl, rfl, rfl, rfl⟩ e5)
theorem rm_r {κ : Kx} {Q : Option Value → (Heap → Prop) → Prop} {m : Mem} {z : Nat} {res res' : Rs} (h : RM κ Q m z res) (e : res = res') : RM κ Q m z res' := e ▸ h
theorem rm_k {κ : Kx} {μ : MX} {Z : State → Prop} {kc ks nx : Nat} {ls : List (Option Value)} {st : List Value} {m : Mem} {z : Nat} {res : Rs} (h : RM κ (GCr κ μ Z kc ks nx ls st) m z res) : RM κ (GCr κ μ Z kc ks nx ls st) m z res := h
set_option maxHeartbeats 1000000 in
theorem sp_M_readsItem {κ : Kx} {Q : Option Value → (Heap → Prop) → Prop} {m : Mem} {B : Int → Int} {z p : Nat} (hB0 : okB B z) (hpz : p ≤ z) (hb : (m 10 0).2 8 = B) (h18 : (m 10 0).1 18 = (z : Int)) {D : Int} (hS : okM D (m 10 0)) (hD : D ≤ 100000) (h19 : (m 10 0).1 19 = (p : Int)) (h0 : lS B z p = p) (hQ : RM κ Q m z (item B z p false (shM (m 10 0)))) : GG κ G_M_readsItem 7 0 0 [.ref (ad κ 10 0)] (World κ m) Q := by
  have hz150 := hB0.1
  have hhr := hrB_r (p := p) hB0
  obtain ⟨s0, s1, s2, s3, s4, s5, hfg, hkd, hsh, hgl⟩ := id hS
  have her := lE_r (B := B) hpz
  refine GG.intro (ls := [some _, none]) (Nat.le_of_ble_eq_true rfl) rfl (fun μ F => ?_)
  refine g_aload_n F a_M_readsItem_0 rfl ?_
  refine g_v0 F a_M_readsItem_1 vc_M_159 mk_M_wordHere ob_10 ck_10.1 rfl rfl (by decide) ⟨Nat.le_refl _, Nat.le_refl _⟩ rfl (Nat.le_of_ble_eq_true rfl) (sp_M_wordHere hB0 hpz hb h18 h19 (GCr.v ?_))
  rcases wh_c (B := B) h0 with h9 | h9 | h9 | h9 | h9 | h9 | h9
  · obtain ⟨hw9, hb9⟩ := h9
    rw [hw9]
    refine g_istore_n (ls' := [_, _]) F a_M_readsItem_4 rfl rfl rfl ?_
    refine g_iload_n F a_M_readsItem_5 rfl ?_
    refine g_iconst F a_M_readsItem_6 ?_
    refine g_icmp_lt F (by decide) (by decide) a_M_readsItem_7 (fun hz => ?_) (fun hz => absurd hz (by decide))
    refine g_iconst F a_M_readsItem_37 ?_
    refine g_zret F a_M_readsItem_38 rfl rfl ⟨Nat.le_refl _, Nat.le_refl _⟩ ?_
    exact qw (hQ.2 (m 10 0) (lS B z p) (by unfold item; rw [if_pos hb9, if_neg (by decide)]) (by rw [h0]; exact h19) FRm.rfl) (by rw [mset_self])
  · obtain ⟨hw9, hb9⟩ := h9
    rw [hw9]
    refine g_istore_n (ls' := [_, _]) F a_M_readsItem_4 rfl rfl rfl ?_
    refine g_iload_n F a_M_readsItem_5 rfl ?_
    refine g_iconst F a_M_readsItem_6 ?_
    refine g_icmp_lt F (by decide) (by decide) a_M_readsItem_7 (fun hz => absurd hz (by decide)) (fun hz => ?_)
    refine g_iload_n F a_M_readsItem_10 rfl ?_
    refine g_iconst F a_M_readsItem_11 ?_
    refine g_icmp_ne F (by decide) (by decide) a_M_readsItem_12 (fun hz => ?_) (fun hz => absurd hz (by decide))
    refine g_iload_n F a_M_readsItem_24 rfl ?_
    refine g_iconst F a_M_readsItem_25 ?_
    refine g_icmp_ne F (by decide) (by decide) a_M_readsItem_26 (fun hz => ?_) (fun hz => absurd hz (by decide))
    refine g_aload_n F a_M_readsItem_39 rfl ?_
    refine g_dup F a_M_readsItem_40 rfl ?_
    refine g_get_10_19 F a_M_readsItem_41 fl_M_113 ?_
    refine g_iload_n F a_M_readsItem_44 rfl ?_
    refine g_iconst F a_M_readsItem_45 ?_
    refine g_icmp_ge F (by decide) (by decide) a_M_readsItem_46 (fun hz => absurd hz (by decide)) (fun hz => ?_)
    refine g_iconst F a_M_readsItem_49 ?_
    refine g_goto F a_M_readsItem_50 ?_
    refine g_iadd F a_M_readsItem_64 ?_
    refine g_put_10_19 F a_M_readsItem_65 fl_M_113 ?_
    (try simp only [mset_app, mset_mset, fup_app, aup_app, fup_fup, aup_aup, false_and, and_false, true_and, and_true, and_self, reduceIte, Nat.reduceEqDiff, reduceCtorEq, fup_10, fs_4_5, fs_4_6, fs_5_6, fs_19_20])
    refine g_iload_n F a_M_readsItem_68 rfl ?_
    refine g_iconst F a_M_readsItem_69 ?_
    refine g_icmp_ne F (by decide) (by decide) a_M_readsItem_70 (fun hz => absurd hz (by decide)) (fun hz => ?_)
    refine g_aload_n F a_M_readsItem_73 rfl ?_
    refine g_v0 F a_M_readsItem_74 vc_M_162 mk_M_readsFog ob_10 ck_10.1 rfl rfl (by decide) ⟨Nat.le_refl _, Nat.le_refl _⟩ rfl (Nat.le_of_ble_eq_true rfl) (sp_M_readsFog (B := B) (z := z) (p := lE B z p) (D := D) hB0 her.2 (by exact hb) (by exact h18) (okM_19 hS) hD (by show (m 10 0).1 19 + 3 = _; rw [h19, wb_len h0 hb9]; rfl) ?_)
    refine rm_r (rm_19 (rm_r ?_ (show item B z p false (shM (m 10 0)) = fgL B z 6 (lE B z p) (shM (m 10 0)) by unfold item; rw [if_neg (wb_x h0 (i := 1) (j := 0) (by decide) (by decide) (by decide) hb9), if_neg (by decide), if_pos hb9]))) (by rw [mset_same, sh_19])
    refine ⟨fun M9 q9 S9 e1 e2 e3 e4 e5 => GCr.v ?_, fun M9 q9 e1 e2 e5 => GCr.v ?_⟩
    · refine g_goto F a_M_readsItem_77 ?_
      refine g_zret F a_M_readsItem_120 rfl rfl ⟨Nat.le_refl _, Nat.le_refl _⟩ ?_
      exact hQ.1 M9 q9 S9 e1 e2 e3 e4 e5
    · refine g_goto F a_M_readsItem_77 ?_
      refine g_zret F a_M_readsItem_120 rfl rfl ⟨Nat.le_refl _, Nat.le_refl _⟩ ?_
      exact hQ.2 M9 q9 e1 e2 e5
  · obtain ⟨hw9, hb9⟩ := h9
    rw [hw9]
    refine g_istore_n (ls' := [_, _]) F a_M_readsItem_4 rfl rfl rfl ?_
    refine g_iload_n F a_M_readsItem_5 rfl ?_
    refine g_iconst F a_M_readsItem_6 ?_
    refine g_icmp_lt F (by decide) (by decide) a_M_readsItem_7 (fun hz => absurd hz (by decide)) (fun hz => ?_)
    refine g_iload_n F a_M_readsItem_10 rfl ?_
    refine g_iconst F a_M_readsItem_11 ?_
    refine g_icmp_ne F (by decide) (by decide) a_M_readsItem_12 (fun hz => absurd hz (by decide)) (fun hz => ?_)
    refine g_aload_n F a_M_readsItem_15 rfl ?_
    refine g_get_10_1 F a_M_readsItem_16 fl_M_60 ?_
    refine g_bipush F a_M_readsItem_19 (by decide) ?_
    refine g_icmp_eq F (by omega) (by omega) a_M_readsItem_21 (fun h21 => ?_) (fun h21 => ?_)
    · refine g_iconst F a_M_readsItem_37 ?_
      refine g_zret F a_M_readsItem_38 rfl rfl ⟨Nat.le_refl _, Nat.le_refl _⟩ ?_
      exact qw (hQ.2 (m 10 0) (lS B z p) (by unfold item; rw [if_neg (wb_x h0 (i := 2) (j := 0) (by decide) (by decide) (by decide) hb9), if_neg (by decide), if_neg (wb_x h0 (i := 2) (j := 1) (by decide) (by decide) (by decide) hb9), if_pos hb9]; rw [if_neg (show ¬ (shM (m 10 0)).1 4 < 6 by show ¬ (m 10 0).1 1 < 6; omega)]) (by rw [h0]; exact h19) FRm.rfl) (by rw [mset_self])
    · refine g_iload_n F a_M_readsItem_24 rfl ?_
      refine g_iconst F a_M_readsItem_25 ?_
      refine g_icmp_ne F (by decide) (by decide) a_M_readsItem_26 (fun hz => ?_) (fun hz => absurd hz (by decide))
      refine g_aload_n F a_M_readsItem_39 rfl ?_
      refine g_dup F a_M_readsItem_40 rfl ?_
      refine g_get_10_19 F a_M_readsItem_41 fl_M_113 ?_
      refine g_iload_n F a_M_readsItem_44 rfl ?_
      refine g_iconst F a_M_readsItem_45 ?_
      refine g_icmp_ge F (by decide) (by decide) a_M_readsItem_46 (fun hz => absurd hz (by decide)) (fun hz => ?_)
      refine g_iconst F a_M_readsItem_49 ?_
      refine g_goto F a_M_readsItem_50 ?_
      refine g_iadd F a_M_readsItem_64 ?_
      refine g_put_10_19 F a_M_readsItem_65 fl_M_113 ?_
      (try simp only [mset_app, mset_mset, fup_app, aup_app, fup_fup, aup_aup, false_and, and_false, true_and, and_true, and_self, reduceIte, Nat.reduceEqDiff, reduceCtorEq, fup_10, fs_4_5, fs_4_6, fs_5_6, fs_19_20])
      refine g_iload_n F a_M_readsItem_68 rfl ?_
      refine g_iconst F a_M_readsItem_69 ?_
      refine g_icmp_ne F (by decide) (by decide) a_M_readsItem_70 (fun hz => ?_) (fun hz => absurd hz (by decide))
      refine g_iload_n F a_M_readsItem_80 rfl ?_
      refine g_iconst F a_M_readsItem_81 ?_
      refine g_icmp_ne F (by decide) (by decide) a_M_readsItem_82 (fun hz => absurd hz (by decide)) (fun hz => ?_)
      refine g_aload_n F a_M_readsItem_85 rfl ?_
      refine g_v0 F a_M_readsItem_86 vc_M_165 mk_M_readsMan ob_10 ck_10.1 rfl rfl (by decide) ⟨Nat.le_refl _, Nat.le_refl _⟩ rfl (Nat.le_of_ble_eq_true rfl) (sp_M_readsMan (B := B) (z := z) (p := lE B z p) (D := D) hB0 her.2 (by exact hb) (by exact h18) (okM_19 hS) hD (by show (m 10 0).1 19 + 3 = _; rw [h19, wb_len h0 hb9]; rfl) (by show (m 10 0).1 1 < 6; omega) ?_)
      refine rm_r (rm_19 (rm_r ?_ (show item B z p false (shM (m 10 0)) = iMan B z (lE B z p) (shM (m 10 0)) by unfold item; rw [if_neg (wb_x h0 (i := 2) (j := 0) (by decide) (by decide) (by decide) hb9), if_neg (by decide), if_neg (wb_x h0 (i := 2) (j := 1) (by decide) (by decide) (by decide) hb9), if_pos hb9]; rw [if_pos (show (shM (m 10 0)).1 4 < 6 by show (m 10 0).1 1 < 6; omega)]))) (by rw [mset_same, sh_19])
      refine ⟨fun M9 q9 S9 e1 e2 e3 e4 e5 => GCr.v ?_, fun M9 q9 e1 e2 e5 => GCr.v ?_⟩
      · refine g_goto F a_M_readsItem_89 ?_
        refine g_zret F a_M_readsItem_120 rfl rfl ⟨Nat.le_refl _, Nat.le_refl _⟩ ?_
        exact hQ.1 M9 q9 S9 e1 e2 e3 e4 e5
      · refine g_goto F a_M_readsItem_89 ?_
        refine g_zret F a_M_readsItem_120 rfl rfl ⟨Nat.le_refl _, Nat.le_refl _⟩ ?_
        exact hQ.2 M9 q9 e1 e2 e5
  · obtain ⟨hw9, hb9⟩ := h9
    rw [hw9]
    refine g_istore_n (ls' := [_, _]) F a_M_readsItem_4 rfl rfl rfl ?_
    refine g_iload_n F a_M_readsItem_5 rfl ?_
    refine g_iconst F a_M_readsItem_6 ?_
    refine g_icmp_lt F (by decide) (by decide) a_M_readsItem_7 (fun hz => absurd hz (by decide)) (fun hz => ?_)
    refine g_iload_n F a_M_readsItem_10 rfl ?_
    refine g_iconst F a_M_readsItem_11 ?_
    refine g_icmp_ne F (by decide) (by decide) a_M_readsItem_12 (fun hz => ?_) (fun hz => absurd hz (by decide))
    refine g_iload_n F a_M_readsItem_24 rfl ?_
    refine g_iconst F a_M_readsItem_25 ?_
    refine g_icmp_ne F (by decide) (by decide) a_M_readsItem_26 (fun hz => absurd hz (by decide)) (fun hz => ?_)
    refine g_aload_n F a_M_readsItem_29 rfl ?_
    refine g_get_10_2 F a_M_readsItem_30 fl_M_64 ?_
    refine g_iconst F a_M_readsItem_33 ?_
    refine g_icmp_ne F (by omega) (by omega) a_M_readsItem_34 (fun h34 => ?_) (fun h34 => ?_)
    · refine g_aload_n F a_M_readsItem_39 rfl ?_
      refine g_dup F a_M_readsItem_40 rfl ?_
      refine g_get_10_19 F a_M_readsItem_41 fl_M_113 ?_
      refine g_iload_n F a_M_readsItem_44 rfl ?_
      refine g_iconst F a_M_readsItem_45 ?_
      refine g_icmp_ge F (by decide) (by decide) a_M_readsItem_46 (fun hz => ?_) (fun hz => absurd hz (by decide))
      refine g_iload_n F a_M_readsItem_53 rfl ?_
      refine g_iconst F a_M_readsItem_54 ?_
      refine g_icmp_ne F (by decide) (by decide) a_M_readsItem_55 (fun hz => absurd hz (by decide)) (fun hz => ?_)
      refine g_bipush F a_M_readsItem_58 (by decide) ?_
      refine g_goto F a_M_readsItem_60 ?_
      refine g_iadd F a_M_readsItem_64 ?_
      refine g_put_10_19 F a_M_readsItem_65 fl_M_113 ?_
      (try simp only [mset_app, mset_mset, fup_app, aup_app, fup_fup, aup_aup, false_and, and_false, true_and, and_true, and_self, reduceIte, Nat.reduceEqDiff, reduceCtorEq, fup_10, fs_4_5, fs_4_6, fs_5_6, fs_19_20])
      refine g_iload_n F a_M_readsItem_68 rfl ?_
      refine g_iconst F a_M_readsItem_69 ?_
      refine g_icmp_ne F (by decide) (by decide) a_M_readsItem_70 (fun hz => ?_) (fun hz => absurd hz (by decide))
      refine g_iload_n F a_M_readsItem_80 rfl ?_
      refine g_iconst F a_M_readsItem_81 ?_
      refine g_icmp_ne F (by decide) (by decide) a_M_readsItem_82 (fun hz => ?_) (fun hz => absurd hz (by decide))
      refine g_iload_n F a_M_readsItem_92 rfl ?_
      refine g_iconst F a_M_readsItem_93 ?_
      refine g_icmp_ne F (by decide) (by decide) a_M_readsItem_94 (fun hz => absurd hz (by decide)) (fun hz => ?_)
      refine g_aload_n F a_M_readsItem_97 rfl ?_
      refine g_v0 F a_M_readsItem_98 vc_M_168 mk_M_readsReader ob_10 ck_10.1 rfl rfl (by decide) ⟨Nat.le_refl _, Nat.le_refl _⟩ rfl (Nat.le_of_ble_eq_true rfl) (sp_M_readsReader (B := B) (z := z) (p := lE B z p) (D := D) hB0 her.2 (by exact hb) (by exact h18) (okM_19 hS) hD (by show (m 10 0).1 19 + 6 = _; rw [h19, wb_len h0 hb9]; rfl) (by show (m 10 0).1 2 < 3; omega) ?_)
      refine rm_r (rm_19 (rm_r ?_ (show item B z p false (shM (m 10 0)) = iRd B z (lE B z p) (shM (m 10 0)) by unfold item; rw [if_neg (wb_x h0 (i := 3) (j := 0) (by decide) (by decide) (by decide) hb9), if_neg (by decide), if_neg (wb_x h0 (i := 3) (j := 1) (by decide) (by decide) (by decide) hb9), if_neg (wb_x h0 (i := 3) (j := 2) (by decide) (by decide) (by decide) hb9), if_pos hb9]; rw [if_pos (show (shM (m 10 0)).1 5 < 3 by show (m 10 0).1 2 < 3; omega)]))) (by rw [mset_same, sh_19])
      refine ⟨fun M9 q9 S9 e1 e2 e3 e4 e5 => GCr.v ?_, fun M9 q9 e1 e2 e5 => GCr.v ?_⟩
      · refine g_goto F a_M_readsItem_101 ?_
        refine g_zret F a_M_readsItem_120 rfl rfl ⟨Nat.le_refl _, Nat.le_refl _⟩ ?_
        exact hQ.1 M9 q9 S9 e1 e2 e3 e4 e5
      · refine g_goto F a_M_readsItem_101 ?_
        refine g_zret F a_M_readsItem_120 rfl rfl ⟨Nat.le_refl _, Nat.le_refl _⟩ ?_
        exact hQ.2 M9 q9 e1 e2 e5
    · refine g_iconst F a_M_readsItem_37 ?_
      refine g_zret F a_M_readsItem_38 rfl rfl ⟨Nat.le_refl _, Nat.le_refl _⟩ ?_
      exact qw (hQ.2 (m 10 0) (lS B z p) (by unfold item; rw [if_neg (wb_x h0 (i := 3) (j := 0) (by decide) (by decide) (by decide) hb9), if_neg (by decide), if_neg (wb_x h0 (i := 3) (j := 1) (by decide) (by decide) (by decide) hb9), if_neg (wb_x h0 (i := 3) (j := 2) (by decide) (by decide) (by decide) hb9), if_pos hb9]; rw [if_neg (show ¬ (shM (m 10 0)).1 5 < 3 by show ¬ (m 10 0).1 2 < 3; omega)]) (by rw [h0]; exact h19) FRm.rfl) (by rw [mset_self])
  · obtain ⟨hw9, hb9⟩ := h9
    rw [hw9]
    refine g_istore_n (ls' := [_, _]) F a_M_readsItem_4 rfl rfl rfl ?_
    refine g_iload_n F a_M_readsItem_5 rfl ?_
    refine g_iconst F a_M_readsItem_6 ?_
    refine g_icmp_lt F (by decide) (by decide) a_M_readsItem_7 (fun hz => absurd hz (by decide)) (fun hz => ?_)
    refine g_iload_n F a_M_readsItem_10 rfl ?_
    refine g_iconst F a_M_readsItem_11 ?_
    refine g_icmp_ne F (by decide) (by decide) a_M_readsItem_12 (fun hz => ?_) (fun hz => absurd hz (by decide))
    refine g_iload_n F a_M_readsItem_24 rfl ?_
    refine g_iconst F a_M_readsItem_25 ?_
    refine g_icmp_ne F (by decide) (by decide) a_M_readsItem_26 (fun hz => ?_) (fun hz => absurd hz (by decide))
    refine g_aload_n F a_M_readsItem_39 rfl ?_
    refine g_dup F a_M_readsItem_40 rfl ?_
    refine g_get_10_19 F a_M_readsItem_41 fl_M_113 ?_
    refine g_iload_n F a_M_readsItem_44 rfl ?_
    refine g_iconst F a_M_readsItem_45 ?_
    refine g_icmp_ge F (by decide) (by decide) a_M_readsItem_46 (fun hz => ?_) (fun hz => absurd hz (by decide))
    refine g_iload_n F a_M_readsItem_53 rfl ?_
    refine g_iconst F a_M_readsItem_54 ?_
    refine g_icmp_ne F (by decide) (by decide) a_M_readsItem_55 (fun hz => ?_) (fun hz => absurd hz (by decide))
    refine g_iconst F a_M_readsItem_63 ?_
    refine g_iadd F a_M_readsItem_64 ?_
    refine g_put_10_19 F a_M_readsItem_65 fl_M_113 ?_
    (try simp only [mset_app, mset_mset, fup_app, aup_app, fup_fup, aup_aup, false_and, and_false, true_and, and_true, and_self, reduceIte, Nat.reduceEqDiff, reduceCtorEq, fup_10, fs_4_5, fs_4_6, fs_5_6, fs_19_20])
    refine g_iload_n F a_M_readsItem_68 rfl ?_
    refine g_iconst F a_M_readsItem_69 ?_
    refine g_icmp_ne F (by decide) (by decide) a_M_readsItem_70 (fun hz => ?_) (fun hz => absurd hz (by decide))
    refine g_iload_n F a_M_readsItem_80 rfl ?_
    refine g_iconst F a_M_readsItem_81 ?_
    refine g_icmp_ne F (by decide) (by decide) a_M_readsItem_82 (fun hz => ?_) (fun hz => absurd hz (by decide))
    refine g_iload_n F a_M_readsItem_92 rfl ?_
    refine g_iconst F a_M_readsItem_93 ?_
    refine g_icmp_ne F (by decide) (by decide) a_M_readsItem_94 (fun hz => ?_) (fun hz => absurd hz (by decide))
    refine g_iload_n F a_M_readsItem_104 rfl ?_
    refine g_iconst F a_M_readsItem_105 ?_
    refine g_icmp_ne F (by decide) (by decide) a_M_readsItem_106 (fun hz => absurd hz (by decide)) (fun hz => ?_)
    refine g_aload_n F a_M_readsItem_109 rfl ?_
    refine g_v0 F a_M_readsItem_110 vc_M_171 mk_M_readsDeed ob_10 ck_10.1 rfl rfl (by decide) ⟨Nat.le_refl _, Nat.le_refl _⟩ rfl (Nat.le_of_ble_eq_true rfl) (sp_M_readsDeed (B := B) (z := z) (p := lE B z p) (D := D) hB0 her.2 (by exact hb) (by exact h18) (okM_19 hS) hD (by show (m 10 0).1 19 + 4 = _; rw [h19, wb_len h0 hb9]; rfl) ?_)
    refine rm_r (rm_19 (rm_r ?_ (show item B z p false (shM (m 10 0)) = iDeed B z (lE B z p) (shM (m 10 0)) by unfold item; rw [if_neg (wb_x h0 (i := 4) (j := 0) (by decide) (by decide) (by decide) hb9), if_neg (by decide), if_neg (wb_x h0 (i := 4) (j := 1) (by decide) (by decide) (by decide) hb9), if_neg (wb_x h0 (i := 4) (j := 2) (by decide) (by decide) (by decide) hb9), if_neg (wb_x h0 (i := 4) (j := 3) (by decide) (by decide) (by decide) hb9), if_pos hb9]))) (by rw [mset_same, sh_19])
    refine ⟨fun M9 q9 S9 e1 e2 e3 e4 e5 => GCr.v ?_, fun M9 q9 e1 e2 e5 => GCr.v ?_⟩
    · refine g_goto F a_M_readsItem_113 ?_
      refine g_zret F a_M_readsItem_120 rfl rfl ⟨Nat.le_refl _, Nat.le_refl _⟩ ?_
      exact hQ.1 M9 q9 S9 e1 e2 e3 e4 e5
    · refine g_goto F a_M_readsItem_113 ?_
      refine g_zret F a_M_readsItem_120 rfl rfl ⟨Nat.le_refl _, Nat.le_refl _⟩ ?_
      exact hQ.2 M9 q9 e1 e2 e5
  · obtain ⟨hw9, hb9⟩ := h9
    rw [hw9]
    refine g_istore_n (ls' := [_, _]) F a_M_readsItem_4 rfl rfl rfl ?_
    refine g_iload_n F a_M_readsItem_5 rfl ?_
    refine g_iconst F a_M_readsItem_6 ?_
    refine g_icmp_lt F (by decide) (by decide) a_M_readsItem_7 (fun hz => absurd hz (by decide)) (fun hz => ?_)
    refine g_iload_n F a_M_readsItem_10 rfl ?_
    refine g_iconst F a_M_readsItem_11 ?_
    refine g_icmp_ne F (by decide) (by decide) a_M_readsItem_12 (fun hz => ?_) (fun hz => absurd hz (by decide))
    refine g_iload_n F a_M_readsItem_24 rfl ?_
    refine g_iconst F a_M_readsItem_25 ?_
    refine g_icmp_ne F (by decide) (by decide) a_M_readsItem_26 (fun hz => ?_) (fun hz => absurd hz (by decide))
    refine g_aload_n F a_M_readsItem_39 rfl ?_
    refine g_dup F a_M_readsItem_40 rfl ?_
    refine g_get_10_19 F a_M_readsItem_41 fl_M_113 ?_
    refine g_iload_n F a_M_readsItem_44 rfl ?_
    refine g_iconst F a_M_readsItem_45 ?_
    refine g_icmp_ge F (by decide) (by decide) a_M_readsItem_46 (fun hz => ?_) (fun hz => absurd hz (by decide))
    refine g_iload_n F a_M_readsItem_53 rfl ?_
    refine g_iconst F a_M_readsItem_54 ?_
    refine g_icmp_ne F (by decide) (by decide) a_M_readsItem_55 (fun hz => ?_) (fun hz => absurd hz (by decide))
    refine g_iconst F a_M_readsItem_63 ?_
    refine g_iadd F a_M_readsItem_64 ?_
    refine g_put_10_19 F a_M_readsItem_65 fl_M_113 ?_
    (try simp only [mset_app, mset_mset, fup_app, aup_app, fup_fup, aup_aup, false_and, and_false, true_and, and_true, and_self, reduceIte, Nat.reduceEqDiff, reduceCtorEq, fup_10, fs_4_5, fs_4_6, fs_5_6, fs_19_20])
    refine g_iload_n F a_M_readsItem_68 rfl ?_
    refine g_iconst F a_M_readsItem_69 ?_
    refine g_icmp_ne F (by decide) (by decide) a_M_readsItem_70 (fun hz => ?_) (fun hz => absurd hz (by decide))
    refine g_iload_n F a_M_readsItem_80 rfl ?_
    refine g_iconst F a_M_readsItem_81 ?_
    refine g_icmp_ne F (by decide) (by decide) a_M_readsItem_82 (fun hz => ?_) (fun hz => absurd hz (by decide))
    refine g_iload_n F a_M_readsItem_92 rfl ?_
    refine g_iconst F a_M_readsItem_93 ?_
    refine g_icmp_ne F (by decide) (by decide) a_M_readsItem_94 (fun hz => ?_) (fun hz => absurd hz (by decide))
    refine g_iload_n F a_M_readsItem_104 rfl ?_
    refine g_iconst F a_M_readsItem_105 ?_
    refine g_icmp_ne F (by decide) (by decide) a_M_readsItem_106 (fun hz => ?_) (fun hz => absurd hz (by decide))
    refine g_aload_n F a_M_readsItem_116 rfl ?_
    refine g_v0 F a_M_readsItem_117 vc_M_174 mk_M_readsNoon ob_10 ck_10.1 rfl rfl (by decide) ⟨Nat.le_refl _, Nat.le_refl _⟩ rfl (Nat.le_of_ble_eq_true rfl) (sp_M_readsNoon (B := B) (z := z) (p := lE B z p) (D := D) hB0 her.2 (by exact hb) (by exact h18) (okM_19 hS) hD (by show (m 10 0).1 19 + 4 = _; rw [h19, wb_len h0 hb9]; rfl) ?_)
    refine rm_r (rm_19 (rm_r ?_ (show item B z p false (shM (m 10 0)) = iNoon B z (lE B z p) (shM (m 10 0)) by unfold item; rw [if_neg (wb_x h0 (i := 5) (j := 0) (by decide) (by decide) (by decide) hb9), if_neg (by decide), if_neg (wb_x h0 (i := 5) (j := 1) (by decide) (by decide) (by decide) hb9), if_neg (wb_x h0 (i := 5) (j := 2) (by decide) (by decide) (by decide) hb9), if_neg (wb_x h0 (i := 5) (j := 3) (by decide) (by decide) (by decide) hb9), if_neg (wb_x h0 (i := 5) (j := 4) (by decide) (by decide) (by decide) hb9), if_pos hb9]))) (by rw [mset_same, sh_19])
    refine ⟨fun M9 q9 S9 e1 e2 e3 e4 e5 => GCr.v ?_, fun M9 q9 e1 e2 e5 => GCr.v ?_⟩
    · refine g_zret F a_M_readsItem_120 rfl rfl ⟨Nat.le_refl _, Nat.le_refl _⟩ ?_
      exact hQ.1 M9 q9 S9 e1 e2 e3 e4 e5
    · refine g_zret F a_M_readsItem_120 rfl rfl ⟨Nat.le_refl _, Nat.le_refl _⟩ ?_
      exact hQ.2 M9 q9 e1 e2 e5
  · obtain ⟨hw9, hb9⟩ := h9
    rw [hw9]
    refine g_istore_n (ls' := [_, _]) F a_M_readsItem_4 rfl rfl rfl ?_
    refine g_iload_n F a_M_readsItem_5 rfl ?_
    refine g_iconst F a_M_readsItem_6 ?_
    refine g_icmp_lt F (by decide) (by decide) a_M_readsItem_7 (fun hz => ?_) (fun hz => absurd hz (by decide))
    refine g_iconst F a_M_readsItem_37 ?_
    refine g_zret F a_M_readsItem_38 rfl rfl ⟨Nat.le_refl _, Nat.le_refl _⟩ ?_
    exact qw (hQ.2 (m 10 0) (lS B z p) (by unfold item; rw [if_neg hb9.1, if_neg (by decide), if_neg hb9.2.1, if_neg hb9.2.2.1, if_neg hb9.2.2.2.1, if_neg hb9.2.2.2.2.1, if_neg hb9.2.2.2.2.2]) (by rw [h0]; exact h19) FRm.rfl) (by rw [mset_self])
