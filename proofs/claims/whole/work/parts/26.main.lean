theorem g_aald_0 {κ : Kx} {Γ : Gm} {d mc ms : Nat} {μ : MX} {Z : State → Prop} {kc ks pc nx : Nat} {ls : List (Option Value)} {st : List Value} {m : Mem} {x : Int} {j : Nat} (F : Fx κ Γ d mc ms μ) (hd : AT 1 Γ.2.1 pc .aaload nx) (hx : x = j ∧ j < 2) (k : GC κ μ Z kc ks nx ls (.ref (ad κ 1 (j + 1)) :: st) (World κ m)) : GC κ μ Z kc ks pc ls (vi x :: .ref (aa κ 0 0 0) :: st) (World κ m) := by
  obtain ⟨hd, rfl⟩ := hd
  intro H locs la hS hP hl
  have ha := wl_arr (κ := κ) (m := m) (c := 0) (i := 0) (j := 0) (by decide) (by decide)
  obtain ⟨g1, g2⟩ := vin (x := x) (n := 2) (by omega) (by omega) (by decide)
  refine va_aldq (D := kD κ) (cl := classes) F.1 F.2.1 F.2.2.2.2.2.2.2.2.1.1 hP (ao 0 0 0) 2 ha rfl g1 hd ?_
  rw [show (Int32.ofInt x).toNatClampNeg = j by omega]
  exact k H locs la hS hP hl
theorem g_bald {κ : Kx} {Γ : Gm} {d mc ms : Nat} {μ : MX} {Z : State → Prop} {kc ks pc nx : Nat} {ls : List (Option Value)} {st : List Value} {m : Mem} {x : Int} (F : Fx κ Γ d mc ms μ) (hd : AT 1 Γ.2.1 pc .baload nx) (hx : 0 ≤ x ∧ x < 2) (k : GC κ μ Z kc ks nx ls (vi ((m 0 0).2 1 x) :: st) (World κ m)) : GC κ μ Z kc ks pc ls (vi x :: .ref (aa κ 0 0 1) :: st) (World κ m) := by
  obtain ⟨hd, rfl⟩ := hd
  intro H locs la hS hP hl
  have ha := wl_arr (κ := κ) (m := m) (c := 0) (i := 0) (j := 1) (by decide) (by decide)
  obtain ⟨g1, g2⟩ := vin (x := x) (n := 2) hx.1 hx.2 (by decide)
  have h := va_zald (D := kD κ) (cl := classes) F.1 F.2.1 F.2.2.2.2.2.2.2.2.1.1 hP (ao 0 0 1) 1 ha rfl g1 hd (Q := Z) (l := mL μ) (e := mE μ) (R := mR μ) (args := mA μ) (m := mM μ) (below := mB μ) (meth := mMe μ) (locs := locs) (cells := kc) (slots := ks) (ls := la) (rest := st)
  rw [g2] at h
  exact h (k H locs la hS hP hl)
theorem g_bast {κ : Kx} {Γ : Gm} {d mc ms : Nat} {μ : MX} {Z : State → Prop} {kc ks pc nx : Nat} {ls : List (Option Value)} {st : List Value} {m : Mem} {x y : Int} (F : Fx κ Γ d mc ms μ) (hd : AT 1 Γ.2.1 pc .bastore nx) (hx : (0 ≤ x ∧ x < 2) ∧ y = 1) (k : GC κ μ Z kc ks nx ls st (World κ (mset m 0 0 ((m 0 0).1, aup (m 0 0).2 1 (gup ((m 0 0).2 1) x y))))) : GC κ μ Z kc ks pc ls (vi y :: vi x :: .ref (aa κ 0 0 1) :: st) (World κ m) := by
  obtain ⟨hd, rfl⟩ := hd
  obtain ⟨hx, rfl⟩ := hx
  intro H locs la hS hP hl
  have ha := wl_arr (κ := κ) (m := m) (c := 0) (i := 0) (j := 1) (by decide) (by decide)
  obtain ⟨g1, g2⟩ := vin (x := x) (n := 2) hx.1 hx.2 (by decide)
  refine va_zast (D := kD κ) (cl := classes) F.1 F.2.1 F.2.2.2.2.2.2.2.2.1.1 hP wl_D hS (ao 0 0 1) 1 ha rfl g1 hd (fun H1 locs1 hP1 _ hS1 => k H1 locs1 la hS1 ?_ hl)
  rw [wl_setA (g := gup ((m 0 0).2 1) x 1) (by decide) (by decide)] at hP1
  · exact hP1
  · show ((kZ κ, 2, Sum.inl (fun k : Nat => Int32.ofInt (gup ((m 0 0).2 1) x 1 k))) : ClassId × vp_A) = _
    congr 3
    funext n
    unfold upd gup
    by_cases hn : n = (Int32.ofInt x).toNatClampNeg
    · rw [if_pos hn, if_pos (by omega)]; rfl
    · rw [if_neg hn, if_neg (by omega)]
set_option maxHeartbeats 1000000 in
theorem sp_A_within {κ : Kx} {Q : Option Value → (Heap → Prop) → Prop} {P : Heap → Prop} {x a b : Int} (hx : R32 x) (ha : R32 a) (hb : R32 b) (k1 : a ≤ x ∧ x ≤ b → Q (some (vi 1)) P) (k0 : ¬ (a ≤ x ∧ x ≤ b) → Q (some (vi 0)) P) : GG κ G_A_within 0 0 0 [vi x, vi a, vi b] P Q := by
  refine GG.intro (ls := [some _, some _, some _]) (Nat.le_of_ble_eq_true rfl) rfl (fun μ F => ?_)
  refine g_iload_n F a_A_within_0 rfl ?_
  refine g_iload_n F a_A_within_1 rfl ?_
  refine g_icmp_lt F (by omega) (by omega) a_A_within_2 (fun h2 => ?_) (fun h2 => ?_)
  · refine g_iconst F a_A_within_14 ?_
    refine g_zret F a_A_within_15 rfl rfl ⟨Nat.le_refl _, Nat.le_refl _⟩ ?_
    first | exact k1 (by omega) | exact k0 (by omega)
  · refine g_iload_n F a_A_within_5 rfl ?_
    refine g_iload_n F a_A_within_6 rfl ?_
    refine g_icmp_gt F (by omega) (by omega) a_A_within_7 (fun h7 => ?_) (fun h7 => ?_)
    · refine g_iconst F a_A_within_14 ?_
      refine g_zret F a_A_within_15 rfl rfl ⟨Nat.le_refl _, Nat.le_refl _⟩ ?_
      first | exact k1 (by omega) | exact k0 (by omega)
    · refine g_iconst F a_A_within_10 ?_
      refine g_goto F a_A_within_11 ?_
      refine g_zret F a_A_within_15 rfl rfl ⟨Nat.le_refl _, Nat.le_refl _⟩ ?_
      first | exact k1 (by omega) | exact k0 (by omega)
set_option maxHeartbeats 1000000 in
theorem sp_A_bad {κ : Kx} {Q : Option Value → (Heap → Prop) → Prop} {m : Mem} {a : Int} (k : Q (some (vi a)) (World κ (mset m 0 0 (fup (m 0 0).1 9 ((m 0 0).1 9 + 1), (m 0 0).2)))) : GG κ G_A_bad 0 0 0 [.ref (ad κ 0 0), vi a] (World κ m) Q := by
  refine GG.intro (ls := [some _, some _]) (Nat.le_of_ble_eq_true rfl) rfl (fun μ F => ?_)
  refine g_aload_n F a_A_bad_0 rfl ?_
  refine g_dup F a_A_bad_1 rfl ?_
  refine g_get_0_9 F a_A_bad_2 fl_A_295 ?_
  refine g_iconst F a_A_bad_5 ?_
  refine g_iadd F a_A_bad_6 ?_
  refine g_put_0_9 F a_A_bad_7 fl_A_295 ?_
  (try simp only [mset_app, mset_mset, fup_app, aup_app, fup_fup, aup_aup, false_and, and_false, true_and, and_true, and_self, reduceIte, Nat.reduceEqDiff, reduceCtorEq, fup_10])
  refine g_iload_n F a_A_bad_10 rfl ?_
  refine g_iret F a_A_bad_11 rfl ⟨Nat.le_refl _, Nat.le_refl _⟩ ?_
  exact k
set_option maxHeartbeats 1000000 in
theorem sp_A_no {κ : Kx} {Q : Option Value → (Heap → Prop) → Prop} {m : Mem} (k : Q (some (vi (-3))) (World κ (mset m 0 0 (fup (m 0 0).1 10 ((m 0 0).1 10 + 1), (m 0 0).2)))) : GG κ G_A_no 0 0 0 [.ref (ad κ 0 0)] (World κ m) Q := by
  refine GG.intro (ls := [some _]) (Nat.le_of_ble_eq_true rfl) rfl (fun μ F => ?_)
  refine g_aload_n F a_A_no_0 rfl ?_
  refine g_dup F a_A_no_1 rfl ?_
  refine g_get_0_10 F a_A_no_2 fl_A_298 ?_
  refine g_iconst F a_A_no_5 ?_
  refine g_iadd F a_A_no_6 ?_
  refine g_put_0_10 F a_A_no_7 fl_A_298 ?_
  (try simp only [mset_app, mset_mset, fup_app, aup_app, fup_fup, aup_aup, false_and, and_false, true_and, and_true, and_self, reduceIte, Nat.reduceEqDiff, reduceCtorEq, fup_10])
  refine g_bipush F a_A_no_10 (by decide) ?_
  refine g_iret F a_A_no_12 rfl ⟨Nat.le_refl _, Nat.le_refl _⟩ ?_
  exact k
set_option maxHeartbeats 1000000 in
theorem sp_A_full {κ : Kx} {Q : Option Value → (Heap → Prop) → Prop} {m : Mem} (k : Q (some (vi (-4))) (World κ (mset m 0 0 (fup (m 0 0).1 11 ((m 0 0).1 11 + 1), (m 0 0).2)))) : GG κ G_A_full 0 0 0 [.ref (ad κ 0 0)] (World κ m) Q := by
  refine GG.intro (ls := [some _]) (Nat.le_of_ble_eq_true rfl) rfl (fun μ F => ?_)
  refine g_aload_n F a_A_full_0 rfl ?_
  refine g_dup F a_A_full_1 rfl ?_
  refine g_get_0_11 F a_A_full_2 fl_A_301 ?_
  refine g_iconst F a_A_full_5 ?_
  refine g_iadd F a_A_full_6 ?_
  refine g_put_0_11 F a_A_full_7 fl_A_301 ?_
  (try simp only [mset_app, mset_mset, fup_app, aup_app, fup_fup, aup_aup, false_and, and_false, true_and, and_true, and_self, reduceIte, Nat.reduceEqDiff, reduceCtorEq, fup_10])
  refine g_bipush F a_A_full_10 (by decide) ?_
  refine g_iret F a_A_full_12 rfl ⟨Nat.le_refl _, Nat.le_refl _⟩ ?_
  exact k
abbrev bmp (m : Mem) (k : Nat) : Mem := mset m 0 0 (fup (m 0 0).1 k ((m 0 0).1 k + 1), (m 0 0).2)
set_option maxHeartbeats 1000000 in
theorem sp_A_clear {κ : Kx} {Q : Option Value → (Heap → Prop) → Prop} {m : Mem} (k : Q (some (vi ((m 5 0).1 0))) (World κ (mset m 5 0 (fup (m 5 0).1 0 0, (m 5 0).2)))) : GG κ G_A_clear 0 0 0 [.ref (ad κ 0 0)] (World κ m) Q := by
  refine GG.intro (ls := [some _, none]) (Nat.le_of_ble_eq_true rfl) rfl (fun μ F => ?_)
  refine g_aload_n F a_A_clear_0 rfl ?_
  refine g_get_0_4 F a_A_clear_1 fl_A_34 ?_
  refine g_get_5_0 F a_A_clear_4 fl_A_112 ?_
  refine g_istore_n (ls' := [_, _]) F a_A_clear_7 rfl rfl rfl ?_
  refine g_aload_n F a_A_clear_8 rfl ?_
  refine g_get_0_4 F a_A_clear_9 fl_A_34 ?_
  refine g_iconst F a_A_clear_12 ?_
  refine g_put_5_0 F a_A_clear_13 fl_A_112 ?_
  (try simp only [mset_app, mset_mset, fup_app, aup_app, fup_fup, aup_aup, false_and, and_false, true_and, and_true, and_self, reduceIte, Nat.reduceEqDiff, reduceCtorEq, fup_10])
  refine g_iload_n F a_A_clear_16 rfl ?_
  refine g_iret F a_A_clear_17 rfl ⟨Nat.le_refl _, Nat.le_refl _⟩ ?_
  exact k
set_option maxHeartbeats 1000000 in
theorem sp_A_type {κ : Kx} {Q : Option Value → (Heap → Prop) → Prop} {m : Mem} {x : Int} (hx : R32 x) (hz : 0 ≤ (m 5 0).1 0 ∧ (m 5 0).1 0 ≤ 150) (kb : ¬ (0 ≤ x ∧ x ≤ 127) → Q (some (vi (-2))) (World κ (bmp m 9))) (kf : (0 ≤ x ∧ x ≤ 127) → (m 5 0).1 0 = 150 → Q (some (vi (-4))) (World κ (bmp m 11))) (k : (0 ≤ x ∧ x ≤ 127) → (m 5 0).1 0 < 150 → Q (some (vi ((m 5 0).1 0 + 1))) (World κ (mset m 5 0 (fup (m 5 0).1 0 ((m 5 0).1 0 + 1), aup (m 5 0).2 0 (gup ((m 5 0).2 0) ((m 5 0).1 0) x))))) : GG κ G_A_type 1 0 0 [.ref (ad κ 0 0), vi x] (World κ m) Q := by
  refine GG.intro (ls := [some _, some _]) (Nat.le_of_ble_eq_true rfl) rfl (fun μ F => ?_)
  refine g_iload_n F a_A_type_0 rfl ?_
  refine g_iconst F a_A_type_1 ?_
  refine g_bipush F a_A_type_2 (by decide) ?_
  refine g_s3 F a_A_type_4 sc_A_66 mk_A_within rfl (by decide) ⟨Nat.le_refl _, Nat.le_refl _⟩ rfl (Nat.le_of_ble_eq_true rfl) (sp_A_within (by omega) (by omega) (by omega) (fun c4 => GCr.v ?_) (fun c4 => GCr.v ?_))
  · refine g_ifne1 F a_A_type_7 ?_
    refine g_aload_n F a_A_type_17 rfl ?_
    refine g_get_0_4 F a_A_type_18 fl_A_34 ?_
    refine g_get_5_0 F a_A_type_21 fl_A_112 ?_
    refine g_sipush F a_A_type_24 (by decide) ?_
    refine g_icmp_lt F (by omega) (by omega) a_A_type_27 (fun h27 => ?_) (fun h27 => ?_)
    · refine g_aload_n F a_A_type_35 rfl ?_
      refine g_get_0_4 F a_A_type_36 fl_A_34 ?_
      refine g_iload_n F a_A_type_39 rfl ?_
      refine g_v1 F a_A_type_40 vc_A_113 mk_T_add ob_5 ck_5.1 rfl rfl (by decide) ⟨Nat.le_refl _, Nat.le_refl _⟩ rfl (Nat.le_of_ble_eq_true rfl) (sp_T_add (by omega) (GCr.v ?_))
      refine g_iret F a_A_type_43 rfl ⟨Nat.le_refl _, Nat.le_refl _⟩ ?_
      first | exact kb (by omega) | exact kf (by omega) (by omega) | exact k (by omega) (by omega)
    · refine g_aload_n F a_A_type_30 rfl ?_
      refine g_v0 F a_A_type_31 vc_A_98 mk_A_full ob_0 ck_0.1 rfl rfl (by decide) ⟨Nat.le_refl _, Nat.le_refl _⟩ rfl (Nat.le_of_ble_eq_true rfl) (sp_A_full  (GCr.v ?_))
      refine g_iret F a_A_type_34 rfl ⟨Nat.le_refl _, Nat.le_refl _⟩ ?_
      first | exact kb (by omega) | exact kf (by omega) (by omega) | exact k (by omega) (by omega)
  · refine g_ifne0 F a_A_type_7 ?_
    refine g_aload_n F a_A_type_10 rfl ?_
    refine g_bipush F a_A_type_11 (by decide) ?_
    refine g_v1 F a_A_type_13 vc_A_70 mk_A_bad ob_0 ck_0.1 rfl rfl (by decide) ⟨Nat.le_refl _, Nat.le_refl _⟩ rfl (Nat.le_of_ble_eq_true rfl) (sp_A_bad  (GCr.v ?_))
    refine g_iret F a_A_type_16 rfl ⟨Nat.le_refl _, Nat.le_refl _⟩ ?_
    first | exact kb (by omega) | exact kf (by omega) (by omega) | exact k (by omega) (by omega)
set_option maxHeartbeats 1000000 in
theorem sp_A_angle {κ : Kx} {Q : Option Value → (Heap → Prop) → Prop} {m : Mem} {D : Int} (hS : okS D (m 2 0)) (hD : D ≤ 100000) {x : Int} (hx : R32 x) (kb : ¬ (0 ≤ x ∧ x < (m 2 0).1 4) → Q (some (vi (-2))) (World κ (bmp m 9))) (k : 0 ≤ x ∧ x < (m 2 0).1 4 → Q (some (vi (ang (m 2 0) x))) (World κ m)) : GG κ G_A_angle 2 0 0 [.ref (ad κ 0 0), vi x] (World κ m) Q := by
  obtain ⟨s0, s1, s2, s3, s4, s5, hfg, hkd, hsh, hgl⟩ := id hS
  refine GG.intro (ls := [some _, some _]) (Nat.le_of_ble_eq_true rfl) rfl (fun μ F => ?_)
  refine g_aload_n F a_A_angle_0 rfl ?_
  refine g_get_0_0 F a_A_angle_1 fl_A_10 ?_
  refine g_get_1_0 F a_A_angle_4 fl_A_74 (by first | assumption | decide | omega) ?_
  refine g_iload_n F a_A_angle_7 rfl ?_
  refine g_v1 F a_A_angle_8 vc_A_150 mk_H_hasMan (ob_2 (by first | assumption | decide | omega)) ck_2.1 rfl rfl (by decide) ⟨Nat.le_refl _, Nat.le_refl _⟩ rfl (Nat.le_of_ble_eq_true rfl) (sp_H_hasMan (i := 0) (D := D) (by decide) hS hD (by omega) (fun c8 => GCr.v ?_) (fun c8 => GCr.v ?_))
  · refine g_ifne1 F a_A_angle_11 ?_
    refine g_aload_n F a_A_angle_21 rfl ?_
    refine g_get_0_0 F a_A_angle_22 fl_A_10 ?_
    refine g_get_1_0 F a_A_angle_25 fl_A_74 (by first | assumption | decide | omega) ?_
    refine g_iload_n F a_A_angle_28 rfl ?_
    refine g_v1 F a_A_angle_29 vc_A_172 mk_H_angleOf (ob_2 (by first | assumption | decide | omega)) ck_2.1 rfl rfl (by decide) ⟨Nat.le_refl _, Nat.le_refl _⟩ rfl (Nat.le_of_ble_eq_true rfl) (sp_H_angleOf (i := 0) (D := D) (by decide) hS hD (by omega) (GCr.v ?_))
    refine g_iret F a_A_angle_32 rfl ⟨Nat.le_refl _, Nat.le_refl _⟩ ?_
    first | exact kb (by omega) | exact qv (k (by omega)) (by rw [if_pos (by omega)])
  · refine g_ifne0 F a_A_angle_11 ?_
    refine g_aload_n F a_A_angle_14 rfl ?_
    refine g_bipush F a_A_angle_15 (by decide) ?_
    refine g_v1 F a_A_angle_17 vc_A_70 mk_A_bad ob_0 ck_0.1 rfl rfl (by decide) ⟨Nat.le_refl _, Nat.le_refl _⟩ rfl (Nat.le_of_ble_eq_true rfl) (sp_A_bad  (GCr.v ?_))
    refine g_iret F a_A_angle_20 rfl ⟨Nat.le_refl _, Nat.le_refl _⟩ ?_
    first | exact kb (by omega) | exact qv (k (by omega)) (by rw [if_pos (by omega)])
set_option maxHeartbeats 1000000 in
theorem sp_A_reads {κ : Kx} {Q : Option Value → (Heap → Prop) → Prop} {m : Mem} {D : Int} (hS : okS D (m 2 0)) (hD : D ≤ 100000) {x y : Int} (hx : R32 x) (hy : R32 y) (kb : ¬ (0 ≤ x ∧ x < (m 2 0).1 4 ∧ 0 ≤ y ∧ y < (m 2 0).1 5) → Q (some (vi (-2))) (World κ (bmp m 9))) (k : 0 ≤ x ∧ x < (m 2 0).1 4 → 0 ≤ y ∧ y < (m 2 0).1 5 → Q (some (vi (sgt (m 2 0) x y))) (World κ m)) : GG κ G_A_reads 3 0 0 [.ref (ad κ 0 0), vi x, vi y] (World κ m) Q := by
  obtain ⟨s0, s1, s2, s3, s4, s5, hfg, hkd, hsh, hgl⟩ := id hS
  refine GG.intro (ls := [some _, some _, some _]) (Nat.le_of_ble_eq_true rfl) rfl (fun μ F => ?_)
  refine g_aload_n F a_A_reads_0 rfl ?_
  refine g_get_0_0 F a_A_reads_1 fl_A_10 ?_
  refine g_get_1_0 F a_A_reads_4 fl_A_74 (by first | assumption | decide | omega) ?_
  refine g_iload_n F a_A_reads_7 rfl ?_
  refine g_v1 F a_A_reads_8 vc_A_150 mk_H_hasMan (ob_2 (by first | assumption | decide | omega)) ck_2.1 rfl rfl (by decide) ⟨Nat.le_refl _, Nat.le_refl _⟩ rfl (Nat.le_of_ble_eq_true rfl) (sp_H_hasMan (i := 0) (D := D) (by decide) hS hD (by omega) (fun c8 => GCr.v ?_) (fun c8 => GCr.v ?_))
  · refine g_ifeq1 F a_A_reads_11 ?_
    refine g_aload_n F a_A_reads_14 rfl ?_
    refine g_get_0_0 F a_A_reads_15 fl_A_10 ?_
    refine g_get_1_0 F a_A_reads_18 fl_A_74 (by first | assumption | decide | omega) ?_
    refine g_iload_n F a_A_reads_21 rfl ?_
    refine g_v1 F a_A_reads_22 vc_A_131 mk_H_hasReader (ob_2 (by first | assumption | decide | omega)) ck_2.1 rfl rfl (by decide) ⟨Nat.le_refl _, Nat.le_refl _⟩ rfl (Nat.le_of_ble_eq_true rfl) (sp_H_hasReader (i := 0) (D := D) (by decide) hS hD (by omega) (fun c22 => GCr.v ?_) (fun c22 => GCr.v ?_))
    · refine g_ifne1 F a_A_reads_25 ?_
      refine g_aload_n F a_A_reads_35 rfl ?_
      refine g_get_0_0 F a_A_reads_36 fl_A_10 ?_
      refine g_get_1_0 F a_A_reads_39 fl_A_74 (by first | assumption | decide | omega) ?_
      refine g_iload_n F a_A_reads_42 rfl ?_
      refine g_iload_n F a_A_reads_43 rfl ?_
      refine g_v2 F a_A_reads_44 vc_A_175 mk_H_sightOf (ob_2 (by first | assumption | decide | omega)) ck_2.1 rfl rfl (by decide) ⟨Nat.le_refl _, Nat.le_refl _⟩ rfl (Nat.le_of_ble_eq_true rfl) (sp_H_sightOf (i := 0) (D := D) (by decide) hS hD (by omega) (by omega) (GCr.v ?_))
      refine g_iret F a_A_reads_47 rfl ⟨Nat.le_refl _, Nat.le_refl _⟩ ?_
      first | exact kb (by omega) | exact qv (k (by omega) (by omega)) (by rw [if_pos (by omega)])
    · refine g_ifne0 F a_A_reads_25 ?_
      refine g_aload_n F a_A_reads_28 rfl ?_
      refine g_bipush F a_A_reads_29 (by decide) ?_
      refine g_v1 F a_A_reads_31 vc_A_70 mk_A_bad ob_0 ck_0.1 rfl rfl (by decide) ⟨Nat.le_refl _, Nat.le_refl _⟩ rfl (Nat.le_of_ble_eq_true rfl) (sp_A_bad  (GCr.v ?_))
      refine g_iret F a_A_reads_34 rfl ⟨Nat.le_refl _, Nat.le_refl _⟩ ?_
      first | exact kb (by omega) | exact qv (k (by omega) (by omega)) (by rw [if_pos (by omega)])
  · refine g_ifeq0 F a_A_reads_11 ?_
    refine g_aload_n F a_A_reads_28 rfl ?_
    refine g_bipush F a_A_reads_29 (by decide) ?_
    refine g_v1 F a_A_reads_31 vc_A_70 mk_A_bad ob_0 ck_0.1 rfl rfl (by decide) ⟨Nat.le_refl _, Nat.le_refl _⟩ rfl (Nat.le_of_ble_eq_true rfl) (sp_A_bad  (GCr.v ?_))
    refine g_iret F a_A_reads_34 rfl ⟨Nat.le_refl _, Nat.le_refl _⟩ ?_
    first | exact kb (by omega) | exact qv (k (by omega) (by omega)) (by rw [if_pos (by omega)])
set_option maxHeartbeats 1000000 in
theorem sp_A_error {κ : Kx} {Q : Option Value → (Heap → Prop) → Prop} {m : Mem} {D : Int} (hS : okS D (m 2 0)) (hD : D ≤ 100000) {x y : Int} (hx : R32 x) (hy : R32 y) (kb : ¬ ((0 ≤ x ∧ x < 2 ^ ((m 2 0).1 4).toNat) ∧ 0 ≤ y ∧ y < (m 2 0).1 5) → Q (some (vi (-1000))) (World κ (bmp m 9))) (k : (0 ≤ x ∧ x < 2 ^ ((m 2 0).1 4).toNat) → 0 ≤ y ∧ y < (m 2 0).1 5 → Q (some (vi (errS (m 2 0) x y))) (World κ m)) : GG κ G_A_error 2 0 0 [.ref (ad κ 0 0), vi x, vi y] (World κ m) Q := by
  obtain ⟨s0, s1, s2, s3, s4, s5, hfg, hkd, hsh, hgl⟩ := id hS
  have hset6 : (0 ≤ x ∧ x < 2 ^ ((m 2 0).1 4).toNat) → 0 ≤ x ∧ x < 64 := fun h => by have := p64 (n := ((m 2 0).1 4).toNat) (by omega); omega
  refine GG.intro (ls := [some _, some _, some _]) (Nat.le_of_ble_eq_true rfl) rfl (fun μ F => ?_)
  refine g_aload_n F a_A_error_0 rfl ?_
  refine g_get_0_0 F a_A_error_1 fl_A_10 ?_
  refine g_get_1_0 F a_A_error_4 fl_A_74 (by first | assumption | decide | omega) ?_
  refine g_iload_n F a_A_error_7 rfl ?_
  refine g_v1 F a_A_error_8 vc_A_127 mk_H_hasSet (ob_2 (by first | assumption | decide | omega)) ck_2.1 rfl rfl (by decide) ⟨Nat.le_refl _, Nat.le_refl _⟩ rfl (Nat.le_of_ble_eq_true rfl) (sp_H_hasSet (i := 0) (D := D) (by decide) hS hD (by omega) (fun c8 => GCr.v ?_) (fun c8 => GCr.v ?_))
  · refine g_ifeq1 F a_A_error_11 ?_
    refine g_aload_n F a_A_error_14 rfl ?_
    refine g_get_0_0 F a_A_error_15 fl_A_10 ?_
    refine g_get_1_0 F a_A_error_18 fl_A_74 (by first | assumption | decide | omega) ?_
    refine g_iload_n F a_A_error_21 rfl ?_
    refine g_v1 F a_A_error_22 vc_A_131 mk_H_hasReader (ob_2 (by first | assumption | decide | omega)) ck_2.1 rfl rfl (by decide) ⟨Nat.le_refl _, Nat.le_refl _⟩ rfl (Nat.le_of_ble_eq_true rfl) (sp_H_hasReader (i := 0) (D := D) (by decide) hS hD (by omega) (fun c22 => GCr.v ?_) (fun c22 => GCr.v ?_))
    · refine g_ifne1 F a_A_error_25 ?_
      refine g_aload_n F a_A_error_36 rfl ?_
      refine g_get_0_0 F a_A_error_37 fl_A_10 ?_
      refine g_get_1_0 F a_A_error_40 fl_A_74 (by first | assumption | decide | omega) ?_
      refine g_iload_n F a_A_error_43 rfl ?_
      refine g_iload_n F a_A_error_44 rfl ?_
      refine g_v2 F a_A_error_45 vc_A_178 mk_H_errorOf (ob_2 (by first | assumption | decide | omega)) ck_2.1 rfl rfl (by decide) ⟨Nat.le_refl _, Nat.le_refl _⟩ rfl (Nat.le_of_ble_eq_true rfl) (sp_H_errorOf (i := 0) (D := D) (by decide) hS hD (hset6 (by assumption)) (by omega) (GCr.v ?_))
      refine g_iret F a_A_error_48 rfl ⟨Nat.le_refl _, Nat.le_refl _⟩ ?_
      first | exact kb (fun q => absurd q.1 (by assumption)) | exact kb (fun q => absurd q.2 (by assumption)) | exact k (by assumption) (by assumption)
    · refine g_ifne0 F a_A_error_25 ?_
      refine g_aload_n F a_A_error_28 rfl ?_
      refine g_sipush F a_A_error_29 (by decide) ?_
      refine g_v1 F a_A_error_32 vc_A_70 mk_A_bad ob_0 ck_0.1 rfl rfl (by decide) ⟨Nat.le_refl _, Nat.le_refl _⟩ rfl (Nat.le_of_ble_eq_true rfl) (sp_A_bad  (GCr.v ?_))
      refine g_iret F a_A_error_35 rfl ⟨Nat.le_refl _, Nat.le_refl _⟩ ?_
      first | exact kb (fun q => absurd q.1 (by assumption)) | exact kb (fun q => absurd q.2 (by assumption)) | exact k (by assumption) (by assumption)
  · refine g_ifeq0 F a_A_error_11 ?_
    refine g_aload_n F a_A_error_28 rfl ?_
    refine g_sipush F a_A_error_29 (by decide) ?_
    refine g_v1 F a_A_error_32 vc_A_70 mk_A_bad ob_0 ck_0.1 rfl rfl (by decide) ⟨Nat.le_refl _, Nat.le_refl _⟩ rfl (Nat.le_of_ble_eq_true rfl) (sp_A_bad  (GCr.v ?_))
    refine g_iret F a_A_error_35 rfl ⟨Nat.le_refl _, Nat.le_refl _⟩ ?_
    first | exact kb (fun q => absurd q.1 (by assumption)) | exact kb (fun q => absurd q.2 (by assumption)) | exact k (by assumption) (by assumption)
set_option maxHeartbeats 1000000 in
theorem sp_A_off {κ : Kx} {Q : Option Value → (Heap → Prop) → Prop} {m : Mem} {D : Int} (hS : okS D (m 2 0)) (hD : D ≤ 100000) (k : Q (some (vi (offS (m 2 0)))) (World κ m)) : GG κ G_A_off 2 0 0 [.ref (ad κ 0 0)] (World κ m) Q := by
  obtain ⟨s0, s1, s2, s3, s4, s5, hfg, hkd, hsh, hgl⟩ := id hS
  refine GG.intro (ls := [some _]) (Nat.le_of_ble_eq_true rfl) rfl (fun μ F => ?_)
  refine g_aload_n F a_A_off_0 rfl ?_
  refine g_get_0_0 F a_A_off_1 fl_A_10 ?_
  refine g_get_1_0 F a_A_off_4 fl_A_74 (by first | assumption | decide | omega) ?_
  refine g_v0 F a_A_off_7 vc_A_181 mk_H_drift (ob_2 (by first | assumption | decide | omega)) ck_2.1 rfl rfl (by decide) ⟨Nat.le_refl _, Nat.le_refl _⟩ rfl (Nat.le_of_ble_eq_true rfl) (sp_H_drift (i := 0) (D := D) (by decide) hS hD (GCr.v ?_))
  refine g_iret F a_A_off_10 rfl ⟨Nat.le_refl _, Nat.le_refl _⟩ ?_
  exact k
set_option maxHeartbeats 1000000 in
theorem sp_A_of {κ : Kx} {Q : Option Value → (Heap → Prop) → Prop} {m : Mem} {D : Int} (hS : okS D (m 2 0)) (hD : D ≤ 100000) {x y : Int} (hx : R32 x) (hy : R32 y) (kb : ¬ (0 ≤ x ∧ x < (m 2 0).1 4 ∧ 0 ≤ y ∧ y ≤ 1) → Q (some (vi (-2))) (World κ (bmp m 9))) (k : 0 ≤ x ∧ x < (m 2 0).1 4 → 0 ≤ y ∧ y ≤ 1 → Q (some (vi (if y = 0 then (m 2 0).2 1 x else (m 2 0).2 2 x))) (World κ m)) : GG κ G_A_of 1 0 0 [.ref (ad κ 0 0), vi x, vi y] (World κ m) Q := by
  obtain ⟨s0, s1, s2, s3, s4, s5, hfg, hkd, hsh, hgl⟩ := id hS
  refine GG.intro (ls := [some _, some _, some _]) (Nat.le_of_ble_eq_true rfl) rfl (fun μ F => ?_)
  refine g_aload_n F a_A_of_0 rfl ?_
  refine g_get_0_0 F a_A_of_1 fl_A_10 ?_
  refine g_get_1_0 F a_A_of_4 fl_A_74 (by first | assumption | decide | omega) ?_
  refine g_iload_n F a_A_of_7 rfl ?_
  refine g_v1 F a_A_of_8 vc_A_150 mk_H_hasMan (ob_2 (by first | assumption | decide | omega)) ck_2.1 rfl rfl (by decide) ⟨Nat.le_refl _, Nat.le_refl _⟩ rfl (Nat.le_of_ble_eq_true rfl) (sp_H_hasMan (i := 0) (D := D) (by decide) hS hD (by omega) (fun c8 => GCr.v ?_) (fun c8 => GCr.v ?_))
  · refine g_ifeq1 F a_A_of_11 ?_
    refine g_iload_n F a_A_of_14 rfl ?_
    refine g_iconst F a_A_of_15 ?_
    refine g_iconst F a_A_of_16 ?_
    refine g_s3 F a_A_of_17 sc_A_66 mk_A_within rfl (by decide) ⟨Nat.le_refl _, Nat.le_refl _⟩ rfl (Nat.le_of_ble_eq_true rfl) (sp_A_within (by omega) (by omega) (by omega) (fun c17 => GCr.v ?_) (fun c17 => GCr.v ?_))
    · refine g_ifne1 F a_A_of_20 ?_
      refine g_iload_n F a_A_of_30 rfl ?_
      refine g_if_ne F (by omega) a_A_of_31 (fun h31 => ?_) (fun h31 => ?_)
      · refine g_aload_n F a_A_of_49 rfl ?_
        refine g_get_0_0 F a_A_of_50 fl_A_10 ?_
        refine g_get_1_0 F a_A_of_53 fl_A_74 (by first | assumption | decide | omega) ?_
        refine g_get_2_8 F a_A_of_56 fl_A_156 (by first | assumption | decide | omega) ?_
        refine g_iload_n F a_A_of_59 rfl ?_
        refine g_ild_2_2 F a_A_of_60 (by first | assumption | decide | omega) (by omega) ?_
        refine g_iret F a_A_of_61 rfl ⟨Nat.le_refl _, Nat.le_refl _⟩ ?_
        first | exact kb (by omega) | exact qv (k (by omega) (by omega)) (by first | rw [if_pos (by omega)] | rw [if_neg (by omega)])
      · refine g_aload_n F a_A_of_34 rfl ?_
        refine g_get_0_0 F a_A_of_35 fl_A_10 ?_
        refine g_get_1_0 F a_A_of_38 fl_A_74 (by first | assumption | decide | omega) ?_
        refine g_get_2_7 F a_A_of_41 fl_A_169 (by first | assumption | decide | omega) ?_
        refine g_iload_n F a_A_of_44 rfl ?_
        refine g_ild_2_1 F a_A_of_45 (by first | assumption | decide | omega) (by omega) ?_
        refine g_goto F a_A_of_46 ?_
        refine g_iret F a_A_of_61 rfl ⟨Nat.le_refl _, Nat.le_refl _⟩ ?_
        first | exact kb (by omega) | exact qv (k (by omega) (by omega)) (by first | rw [if_pos (by omega)] | rw [if_neg (by omega)])
    · refine g_ifne0 F a_A_of_20 ?_
      refine g_aload_n F a_A_of_23 rfl ?_
      refine g_bipush F a_A_of_24 (by decide) ?_
      refine g_v1 F a_A_of_26 vc_A_70 mk_A_bad ob_0 ck_0.1 rfl rfl (by decide) ⟨Nat.le_refl _, Nat.le_refl _⟩ rfl (Nat.le_of_ble_eq_true rfl) (sp_A_bad  (GCr.v ?_))
      refine g_iret F a_A_of_29 rfl ⟨Nat.le_refl _, Nat.le_refl _⟩ ?_
      first | exact kb (by omega) | exact qv (k (by omega) (by omega)) (by first | rw [if_pos (by omega)] | rw [if_neg (by omega)])
  · refine g_ifeq0 F a_A_of_11 ?_
    refine g_aload_n F a_A_of_23 rfl ?_
    refine g_bipush F a_A_of_24 (by decide) ?_
    refine g_v1 F a_A_of_26 vc_A_70 mk_A_bad ob_0 ck_0.1 rfl rfl (by decide) ⟨Nat.le_refl _, Nat.le_refl _⟩ rfl (Nat.le_of_ble_eq_true rfl) (sp_A_bad  (GCr.v ?_))
    refine g_iret F a_A_of_29 rfl ⟨Nat.le_refl _, Nat.le_refl _⟩ ?_
    first | exact kb (by omega) | exact qv (k (by omega) (by omega)) (by first | rw [if_pos (by omega)] | rw [if_neg (by omega)])
def zP (m : Mem) : Mem := mset m 4 0 (fup (m 4 0).1 0 0, (m 4 0).2)
def begM (m : Mem) (c : Int) : Mem := mset (mset (mset (mset (mset m 2 0 (begS c (m 2 0))) 3 0 (fup (m 3 0).1 0 0, (m 3 0).2)) 3 1 (fup (m 3 1).1 0 0, (m 3 1).2)) 3 2 (fup (m 3 2).1 0 0, (m 3 2).2)) 4 0 (fup (m 4 0).1 0 0, (m 4 0).2)
set_option maxHeartbeats 1000000 in
theorem sp_A_ship {κ : Kx} {Q : Option Value → (Heap → Prop) → Prop} {m : Mem} {x : Int} (hx : R32 x) (kb : ¬ (0 ≤ x ∧ x ≤ 9) → Q (some (vi (-2))) (World κ (bmp m 9))) (k : (0 ≤ x ∧ x ≤ 9) → Q (some (vi ((m 2 0).1 4))) (World κ (begM m x))) : GG κ G_A_ship 2 0 0 [.ref (ad κ 0 0), vi x] (World κ m) Q := by
  refine GG.intro (ls := [some _, some _, none]) (Nat.le_of_ble_eq_true rfl) rfl (fun μ F => ?_)
  refine g_iload_n F a_A_ship_0 rfl ?_
  refine g_iconst F a_A_ship_1 ?_
  refine g_bipush F a_A_ship_2 (by decide) ?_
  refine g_s3 F a_A_ship_4 sc_A_66 mk_A_within rfl (by decide) ⟨Nat.le_refl _, Nat.le_refl _⟩ rfl (Nat.le_of_ble_eq_true rfl) (sp_A_within (by omega) (by omega) (by omega) (fun c4 => GCr.v ?_) (fun c4 => GCr.v ?_))
  · refine g_ifne1 F a_A_ship_7 ?_
    refine g_aload_n F a_A_ship_17 rfl ?_
    refine g_get_0_0 F a_A_ship_18 fl_A_10 ?_
    refine g_get_1_0 F a_A_ship_21 fl_A_74 (by first | assumption | decide | omega) ?_
    refine g_get_2_4 F a_A_ship_24 fl_A_77 (by first | assumption | decide | omega) ?_
    refine g_istore_n (ls' := [_, _, _]) F a_A_ship_27 rfl rfl rfl ?_
    refine g_aload_n F a_A_ship_28 rfl ?_
    refine g_get_0_0 F a_A_ship_29 fl_A_10 ?_
    refine g_iload_n F a_A_ship_32 rfl ?_
    refine g_v1 F a_A_ship_33 vc_A_81 mk_S_begin (ob_1 (by first | assumption | decide | omega)) ck_1.1 rfl rfl (by decide) ⟨Nat.le_refl _, Nat.le_refl _⟩ rfl (Nat.le_of_ble_eq_true rfl) (sp_S_begin (i := 0) (by decide) (by omega) (GCr.n ?_))
    (try simp only [Nat.mul_zero])
    refine g_iload_n F a_A_ship_36 rfl ?_
    refine g_iret F a_A_ship_37 rfl ⟨Nat.le_refl _, Nat.le_refl _⟩ ?_
    first | exact kb (by omega) | exact k (by omega)
  · refine g_ifne0 F a_A_ship_7 ?_
    refine g_aload_n F a_A_ship_10 rfl ?_
    refine g_bipush F a_A_ship_11 (by decide) ?_
    refine g_v1 F a_A_ship_13 vc_A_70 mk_A_bad ob_0 ck_0.1 rfl rfl (by decide) ⟨Nat.le_refl _, Nat.le_refl _⟩ rfl (Nat.le_of_ble_eq_true rfl) (sp_A_bad  (GCr.v ?_))
    refine g_iret F a_A_ship_16 rfl ⟨Nat.le_refl _, Nat.le_refl _⟩ ?_
    first | exact kb (by omega) | exact k (by omega)
set_option maxHeartbeats 1000000 in
theorem sp_A_fog {κ : Kx} {Q : Option Value → (Heap → Prop) → Prop} {m : Mem} {D : Int} (hS : okS D (m 2 0)) (hD : D ≤ 100000) {x y : Int} (hx : R32 x) (hy : R32 y) (kb : ¬ ((0 ≤ x ∧ x ≤ 5) ∧ 0 ≤ y ∧ y ≤ 1) → Q (some (vi (-2))) (World κ (bmp m 9))) (k : (0 ≤ x ∧ x ≤ 5) → (0 ≤ y ∧ y ≤ 1) → Q (some (vi ((m 2 0).2 0 x))) (World κ (mset (mset m 2 0 ((m 2 0).1, aup (m 2 0).2 0 (gup ((m 2 0).2 0) x y))) 4 0 (fup (m 4 0).1 0 0, (m 4 0).2)))) : GG κ G_A_fog 1 0 0 [.ref (ad κ 0 0), vi x, vi y] (World κ m) Q := by
  obtain ⟨s0, s1, s2, s3, s4, s5, hfg, hkd, hsh, hgl⟩ := id hS
  refine GG.intro (ls := [some _, some _, some _, none]) (Nat.le_of_ble_eq_true rfl) rfl (fun μ F => ?_)
  refine g_iload_n F a_A_fog_0 rfl ?_
  refine g_iconst F a_A_fog_1 ?_
  refine g_iconst F a_A_fog_2 ?_
  refine g_s3 F a_A_fog_3 sc_A_66 mk_A_within rfl (by decide) ⟨Nat.le_refl _, Nat.le_refl _⟩ rfl (Nat.le_of_ble_eq_true rfl) (sp_A_within (by omega) (by omega) (by omega) (fun c3 => GCr.v ?_) (fun c3 => GCr.v ?_))
  · refine g_ifeq1 F a_A_fog_6 ?_
    refine g_iload_n F a_A_fog_9 rfl ?_
    refine g_iconst F a_A_fog_10 ?_
    refine g_iconst F a_A_fog_11 ?_
    refine g_s3 F a_A_fog_12 sc_A_66 mk_A_within rfl (by decide) ⟨Nat.le_refl _, Nat.le_refl _⟩ rfl (Nat.le_of_ble_eq_true rfl) (sp_A_within (by omega) (by omega) (by omega) (fun c12 => GCr.v ?_) (fun c12 => GCr.v ?_))
    · refine g_ifne1 F a_A_fog_15 ?_
      refine g_aload_n F a_A_fog_25 rfl ?_
      refine g_get_0_0 F a_A_fog_26 fl_A_10 ?_
      refine g_get_1_0 F a_A_fog_29 fl_A_74 (by first | assumption | decide | omega) ?_
      refine g_get_2_6 F a_A_fog_32 fl_A_85 (by first | assumption | decide | omega) ?_
      refine g_iload_n F a_A_fog_35 rfl ?_
      refine g_ild_2_0 F a_A_fog_36 (by first | assumption | decide | omega) (by omega) ?_
      refine g_istore_n (ls' := [_, _, _, _]) F a_A_fog_37 rfl rfl rfl ?_
      refine g_aload_n F a_A_fog_38 rfl ?_
      refine g_get_0_0 F a_A_fog_39 fl_A_10 ?_
      refine g_get_1_0 F a_A_fog_42 fl_A_74 (by first | assumption | decide | omega) ?_
      refine g_get_2_6 F a_A_fog_45 fl_A_85 (by first | assumption | decide | omega) ?_
      refine g_iload_n F a_A_fog_48 rfl ?_
      refine g_iload_n F a_A_fog_49 rfl ?_
      refine g_ist_2_0 F a_A_fog_50 (by first | assumption | decide | omega) (by omega) ?_
      (try simp only [mset_app, mset_mset, fup_app, aup_app, fup_fup, aup_aup, false_and, and_false, true_and, and_true, and_self, reduceIte, Nat.reduceEqDiff, reduceCtorEq, fup_10])
      refine g_aload_n F a_A_fog_51 rfl ?_
      refine g_get_0_0 F a_A_fog_52 fl_A_10 ?_
      (try simp only [mset_app, mset_mset, fup_app, aup_app, fup_fup, aup_aup, false_and, and_false, true_and, and_true, and_self, reduceIte, Nat.reduceEqDiff, reduceCtorEq, fup_10])
      refine g_get_1_4 F a_A_fog_55 fl_A_89 (by first | assumption | decide | omega) ?_
      (try simp only [mset_app, mset_mset, fup_app, aup_app, fup_fup, aup_aup, false_and, and_false, true_and, and_true, and_self, reduceIte, Nat.reduceEqDiff, reduceCtorEq, fup_10])
      refine g_iconst F a_A_fog_58 ?_
      refine g_put_4_0 F a_A_fog_59 fl_A_93 (by first | assumption | decide | omega) ?_
      (try simp only [mset_app, mset_mset, fup_app, aup_app, fup_fup, aup_aup, false_and, and_false, true_and, and_true, and_self, reduceIte, Nat.reduceEqDiff, reduceCtorEq, fup_10])
      refine g_iload_n F a_A_fog_62 rfl ?_
      refine g_iret F a_A_fog_63 rfl ⟨Nat.le_refl _, Nat.le_refl _⟩ ?_
      first | exact kb (by omega) | exact k (by omega) (by omega)
    · refine g_ifne0 F a_A_fog_15 ?_
      refine g_aload_n F a_A_fog_18 rfl ?_
      refine g_bipush F a_A_fog_19 (by decide) ?_
      refine g_v1 F a_A_fog_21 vc_A_70 mk_A_bad ob_0 ck_0.1 rfl rfl (by decide) ⟨Nat.le_refl _, Nat.le_refl _⟩ rfl (Nat.le_of_ble_eq_true rfl) (sp_A_bad  (GCr.v ?_))
      refine g_iret F a_A_fog_24 rfl ⟨Nat.le_refl _, Nat.le_refl _⟩ ?_
      first | exact kb (by omega) | exact k (by omega) (by omega)
  · refine g_ifeq0 F a_A_fog_6 ?_
    refine g_aload_n F a_A_fog_18 rfl ?_
    refine g_bipush F a_A_fog_19 (by decide) ?_
    refine g_v1 F a_A_fog_21 vc_A_70 mk_A_bad ob_0 ck_0.1 rfl rfl (by decide) ⟨Nat.le_refl _, Nat.le_refl _⟩ rfl (Nat.le_of_ble_eq_true rfl) (sp_A_bad  (GCr.v ?_))
    refine g_iret F a_A_fog_24 rfl ⟨Nat.le_refl _, Nat.le_refl _⟩ ?_
    first | exact kb (by omega) | exact k (by omega) (by omega)
set_option maxHeartbeats 1000000 in
theorem sp_A_man {κ : Kx} {Q : Option Value → (Heap → Prop) → Prop} {m : Mem} {D : Int} (hS : okS D (m 2 0)) (hD : D ≤ 100000) {x y : Int} (hx : R32 x) (hy : R32 y) (kb : ¬ ((0 ≤ x ∧ x ≤ 5) ∧ 0 ≤ y ∧ y ≤ 90) → Q (some (vi (-2))) (World κ (bmp m 9))) (kf : ((0 ≤ x ∧ x ≤ 5) ∧ 0 ≤ y ∧ y ≤ 90) → 6 ≤ (m 2 0).1 4 → Q (some (vi (-4))) (World κ (bmp m 11))) (k : ((0 ≤ x ∧ x ≤ 5) ∧ 0 ≤ y ∧ y ≤ 90) → (m 2 0).1 4 < 6 → Q (some (vi ((m 2 0).1 4))) (World κ (mset (zP m) 2 0 (addM (m 2 0) x y)))) : GG κ G_A_man 1 0 0 [.ref (ad κ 0 0), vi x, vi y] (World κ m) Q := by
  obtain ⟨s0, s1, s2, s3, s4, s5, hfg, hkd, hsh, hgl⟩ := id hS
  refine GG.intro (ls := [some _, some _, some _]) (Nat.le_of_ble_eq_true rfl) rfl (fun μ F => ?_)
  refine g_iload_n F a_A_man_0 rfl ?_
  refine g_iconst F a_A_man_1 ?_
  refine g_iconst F a_A_man_2 ?_
  refine g_s3 F a_A_man_3 sc_A_66 mk_A_within rfl (by decide) ⟨Nat.le_refl _, Nat.le_refl _⟩ rfl (Nat.le_of_ble_eq_true rfl) (sp_A_within (by omega) (by omega) (by omega) (fun c3 => GCr.v ?_) (fun c3 => GCr.v ?_))
  · refine g_ifeq1 F a_A_man_6 ?_
    refine g_iload_n F a_A_man_9 rfl ?_
    refine g_iconst F a_A_man_10 ?_
    refine g_bipush F a_A_man_11 (by decide) ?_
    refine g_s3 F a_A_man_13 sc_A_66 mk_A_within rfl (by decide) ⟨Nat.le_refl _, Nat.le_refl _⟩ rfl (Nat.le_of_ble_eq_true rfl) (sp_A_within (by omega) (by omega) (by omega) (fun c13 => GCr.v ?_) (fun c13 => GCr.v ?_))
    · refine g_ifne1 F a_A_man_16 ?_
      refine g_aload_n F a_A_man_26 rfl ?_
      refine g_get_0_0 F a_A_man_27 fl_A_10 ?_
      refine g_get_1_0 F a_A_man_30 fl_A_74 (by first | assumption | decide | omega) ?_
      refine g_get_2_4 F a_A_man_33 fl_A_77 (by first | assumption | decide | omega) ?_
      refine g_bipush F a_A_man_36 (by decide) ?_
      refine g_icmp_lt F (by omega) (by omega) a_A_man_38 (fun h38 => ?_) (fun h38 => ?_)
      · refine g_aload_n F a_A_man_46 rfl ?_
        refine g_get_0_0 F a_A_man_47 fl_A_10 ?_
        refine g_get_1_4 F a_A_man_50 fl_A_89 (by first | assumption | decide | omega) ?_
        refine g_iconst F a_A_man_53 ?_
        refine g_put_4_0 F a_A_man_54 fl_A_93 (by first | assumption | decide | omega) ?_
        (try simp only [mset_app, mset_mset, fup_app, aup_app, fup_fup, aup_aup, false_and, and_false, true_and, and_true, and_self, reduceIte, Nat.reduceEqDiff, reduceCtorEq, fup_10])
        refine g_aload_n F a_A_man_57 rfl ?_
        refine g_get_0_0 F a_A_man_58 fl_A_10 ?_
        (try simp only [mset_app, mset_mset, fup_app, aup_app, fup_fup, aup_aup, false_and, and_false, true_and, and_true, and_self, reduceIte, Nat.reduceEqDiff, reduceCtorEq, fup_10])
        refine g_get_1_0 F a_A_man_61 fl_A_74 (by first | assumption | decide | omega) ?_
        (try simp only [mset_app, mset_mset, fup_app, aup_app, fup_fup, aup_aup, false_and, and_false, true_and, and_true, and_self, reduceIte, Nat.reduceEqDiff, reduceCtorEq, fup_10])
        refine g_iload_n F a_A_man_64 rfl ?_
        refine g_iload_n F a_A_man_65 rfl ?_
        refine g_v2 F a_A_man_66 vc_A_102 mk_H_addMan (ob_2 (by first | assumption | decide | omega)) ck_2.1 rfl rfl (by decide) ⟨Nat.le_refl _, Nat.le_refl _⟩ rfl (Nat.le_of_ble_eq_true rfl) (sp_H_addMan (i := 0) (D := D) (by decide) (by exact hS) hD (show (m 2 0).1 4 < 6 by omega) (by omega) (by omega) (GCr.v ?_))
        (try simp only [mset_app, mset_mset, fup_app, aup_app, fup_fup, aup_aup, false_and, and_false, true_and, and_true, and_self, reduceIte, Nat.reduceEqDiff, reduceCtorEq, fup_10])
        refine g_iret F a_A_man_69 rfl ⟨Nat.le_refl _, Nat.le_refl _⟩ ?_
        first | exact kb (by omega) | exact kf (by omega) (by omega) | exact k (by omega) (by omega)
      · refine g_aload_n F a_A_man_41 rfl ?_
        refine g_v0 F a_A_man_42 vc_A_98 mk_A_full ob_0 ck_0.1 rfl rfl (by decide) ⟨Nat.le_refl _, Nat.le_refl _⟩ rfl (Nat.le_of_ble_eq_true rfl) (sp_A_full  (GCr.v ?_))
        refine g_iret F a_A_man_45 rfl ⟨Nat.le_refl _, Nat.le_refl _⟩ ?_
        first | exact kb (by omega) | exact kf (by omega) (by omega) | exact k (by omega) (by omega)
    · refine g_ifne0 F a_A_man_16 ?_
      refine g_aload_n F a_A_man_19 rfl ?_
      refine g_bipush F a_A_man_20 (by decide) ?_
      refine g_v1 F a_A_man_22 vc_A_70 mk_A_bad ob_0 ck_0.1 rfl rfl (by decide) ⟨Nat.le_refl _, Nat.le_refl _⟩ rfl (Nat.le_of_ble_eq_true rfl) (sp_A_bad  (GCr.v ?_))
      refine g_iret F a_A_man_25 rfl ⟨Nat.le_refl _, Nat.le_refl _⟩ ?_
      first | exact kb (by omega) | exact kf (by omega) (by omega) | exact k (by omega) (by omega)
  · refine g_ifeq0 F a_A_man_6 ?_
    refine g_aload_n F a_A_man_19 rfl ?_
    refine g_bipush F a_A_man_20 (by decide) ?_
    refine g_v1 F a_A_man_22 vc_A_70 mk_A_bad ob_0 ck_0.1 rfl rfl (by decide) ⟨Nat.le_refl _, Nat.le_refl _⟩ rfl (Nat.le_of_ble_eq_true rfl) (sp_A_bad  (GCr.v ?_))
    refine g_iret F a_A_man_25 rfl ⟨Nat.le_refl _, Nat.le_refl _⟩ ?_
    first | exact kb (by omega) | exact kf (by omega) (by omega) | exact k (by omega) (by omega)
set_option maxHeartbeats 1000000 in
theorem sp_A_reader {κ : Kx} {Q : Option Value → (Heap → Prop) → Prop} {m : Mem} {D : Int} (hS : okS D (m 2 0)) (hD : D ≤ 100000) {x : Int} (hx : R32 x) (kb : ¬ (0 ≤ x ∧ x ≤ 5) → Q (some (vi (-2))) (World κ (bmp m 9))) (kf : (0 ≤ x ∧ x ≤ 5) → 3 ≤ (m 2 0).1 5 → Q (some (vi (-4))) (World κ (bmp m 11))) (k : (0 ≤ x ∧ x ≤ 5) → (m 2 0).1 5 < 3 → Q (some (vi ((m 2 0).1 5))) (World κ (mset (zP m) 2 0 (addG (m 2 0) x)))) : GG κ G_A_reader 1 0 0 [.ref (ad κ 0 0), vi x] (World κ m) Q := by
  obtain ⟨s0, s1, s2, s3, s4, s5, hfg, hkd, hsh, hgl⟩ := id hS
  refine GG.intro (ls := [some _, some _]) (Nat.le_of_ble_eq_true rfl) rfl (fun μ F => ?_)
  refine g_iload_n F a_A_reader_0 rfl ?_
  refine g_iconst F a_A_reader_1 ?_
  refine g_iconst F a_A_reader_2 ?_
  refine g_s3 F a_A_reader_3 sc_A_66 mk_A_within rfl (by decide) ⟨Nat.le_refl _, Nat.le_refl _⟩ rfl (Nat.le_of_ble_eq_true rfl) (sp_A_within (by omega) (by omega) (by omega) (fun c3 => GCr.v ?_) (fun c3 => GCr.v ?_))
  · refine g_ifne1 F a_A_reader_6 ?_
    refine g_aload_n F a_A_reader_16 rfl ?_
    refine g_get_0_0 F a_A_reader_17 fl_A_10 ?_
    refine g_get_1_0 F a_A_reader_20 fl_A_74 (by first | assumption | decide | omega) ?_
    refine g_get_2_5 F a_A_reader_23 fl_A_106 (by first | assumption | decide | omega) ?_
    refine g_iconst F a_A_reader_26 ?_
    refine g_icmp_lt F (by omega) (by omega) a_A_reader_27 (fun h27 => ?_) (fun h27 => ?_)
    · refine g_aload_n F a_A_reader_35 rfl ?_
      refine g_get_0_0 F a_A_reader_36 fl_A_10 ?_
      refine g_get_1_4 F a_A_reader_39 fl_A_89 (by first | assumption | decide | omega) ?_
      refine g_iconst F a_A_reader_42 ?_
      refine g_put_4_0 F a_A_reader_43 fl_A_93 (by first | assumption | decide | omega) ?_
      (try simp only [mset_app, mset_mset, fup_app, aup_app, fup_fup, aup_aup, false_and, and_false, true_and, and_true, and_self, reduceIte, Nat.reduceEqDiff, reduceCtorEq, fup_10])
      refine g_aload_n F a_A_reader_46 rfl ?_
      refine g_get_0_0 F a_A_reader_47 fl_A_10 ?_
      (try simp only [mset_app, mset_mset, fup_app, aup_app, fup_fup, aup_aup, false_and, and_false, true_and, and_true, and_self, reduceIte, Nat.reduceEqDiff, reduceCtorEq, fup_10])
      refine g_get_1_0 F a_A_reader_50 fl_A_74 (by first | assumption | decide | omega) ?_
      (try simp only [mset_app, mset_mset, fup_app, aup_app, fup_fup, aup_aup, false_and, and_false, true_and, and_true, and_self, reduceIte, Nat.reduceEqDiff, reduceCtorEq, fup_10])
      refine g_iload_n F a_A_reader_53 rfl ?_
      refine g_v1 F a_A_reader_54 vc_A_109 mk_H_addReader (ob_2 (by first | assumption | decide | omega)) ck_2.1 rfl rfl (by decide) ⟨Nat.le_refl _, Nat.le_refl _⟩ rfl (Nat.le_of_ble_eq_true rfl) (sp_H_addReader (i := 0) (D := D) (by decide) (by exact hS) hD (show (m 2 0).1 5 < 3 by omega) (by omega) (GCr.v ?_))
      (try simp only [mset_app, mset_mset, fup_app, aup_app, fup_fup, aup_aup, false_and, and_false, true_and, and_true, and_self, reduceIte, Nat.reduceEqDiff, reduceCtorEq, fup_10])
      refine g_iret F a_A_reader_57 rfl ⟨Nat.le_refl _, Nat.le_refl _⟩ ?_
      first | exact kb (by omega) | exact kf (by omega) (by omega) | exact k (by omega) (by omega)
    · refine g_aload_n F a_A_reader_30 rfl ?_
      refine g_v0 F a_A_reader_31 vc_A_98 mk_A_full ob_0 ck_0.1 rfl rfl (by decide) ⟨Nat.le_refl _, Nat.le_refl _⟩ rfl (Nat.le_of_ble_eq_true rfl) (sp_A_full  (GCr.v ?_))
      refine g_iret F a_A_reader_34 rfl ⟨Nat.le_refl _, Nat.le_refl _⟩ ?_
      first | exact kb (by omega) | exact kf (by omega) (by omega) | exact k (by omega) (by omega)
  · refine g_ifne0 F a_A_reader_6 ?_
    refine g_aload_n F a_A_reader_9 rfl ?_
    refine g_bipush F a_A_reader_10 (by decide) ?_
    refine g_v1 F a_A_reader_12 vc_A_70 mk_A_bad ob_0 ck_0.1 rfl rfl (by decide) ⟨Nat.le_refl _, Nat.le_refl _⟩ rfl (Nat.le_of_ble_eq_true rfl) (sp_A_bad  (GCr.v ?_))
    refine g_iret F a_A_reader_15 rfl ⟨Nat.le_refl _, Nat.le_refl _⟩ ?_
    first | exact kb (by omega) | exact kf (by omega) (by omega) | exact k (by omega) (by omega)
set_option maxHeartbeats 1000000 in
theorem sp_A_noon {κ : Kx} {Q : Option Value → (Heap → Prop) → Prop} {m : Mem} {D : Int} (hS : okS D (m 2 0)) (hD : D ≤ 100000) (hP : okP (m 4 0)) {x y : Int} (hx : R32 x) (hy : R32 y) (kb : ¬ ((0 ≤ x ∧ x < 2 ^ ((m 2 0).1 4).toNat) ∧ 0 ≤ y ∧ y < (m 2 0).1 5) → Q (some (vi (-2))) (World κ (bmp m 9))) (kn : (0 ≤ x ∧ x < 2 ^ ((m 2 0).1 4).toNat) → (0 ≤ y ∧ y < (m 2 0).1 5) → 999 ≤ (m 2 0).1 3 → Q (some (vi (-3))) (World κ (bmp m 10))) (k : (0 ≤ x ∧ x < 2 ^ ((m 2 0).1 4).toNat) → (0 ≤ y ∧ y < (m 2 0).1 5) → (m 2 0).1 3 < 999 → Q (some (vi ((sailS (m 2 0) x y).1 0))) (World κ (mset (mset m 4 0 (pushP (m 4 0) (m 2 0))) 2 0 (sailS (m 2 0) x y)))) : GG κ G_A_noon 3 0 0 [.ref (ad κ 0 0), vi x, vi y] (World κ m) Q := by
  obtain ⟨s0, s1, s2, s3, s4, s5, hfg, hkd, hsh, hgl⟩ := id hS
  have hset6 : (0 ≤ x ∧ x < 2 ^ ((m 2 0).1 4).toNat) → 0 ≤ x ∧ x < 64 := fun h => by have := p64 (n := ((m 2 0).1 4).toNat) (by omega); omega
  refine GG.intro (ls := [some _, some _, some _, none]) (Nat.le_of_ble_eq_true rfl) rfl (fun μ F => ?_)
  refine g_aload_n F a_A_noon_0 rfl ?_
  refine g_get_0_0 F a_A_noon_1 fl_A_10 ?_
  refine g_get_1_0 F a_A_noon_4 fl_A_74 (by first | assumption | decide | omega) ?_
  refine g_astore_n (ls' := [_, _, _, _]) F a_A_noon_7 rfl rfl rfl ?_
  refine g_aload_n F a_A_noon_8 rfl ?_
  refine g_iload_n F a_A_noon_9 rfl ?_
  refine g_v1 F a_A_noon_10 vc_A_127 mk_H_hasSet (ob_2 (by first | assumption | decide | omega)) ck_2.1 rfl rfl (by decide) ⟨Nat.le_refl _, Nat.le_refl _⟩ rfl (Nat.le_of_ble_eq_true rfl) (sp_H_hasSet (i := 0) (D := D) (by decide) hS hD (by omega) (fun c10 => GCr.v ?_) (fun c10 => GCr.v ?_))
  · refine g_ifeq1 F a_A_noon_13 ?_
    refine g_aload_n F a_A_noon_16 rfl ?_
    refine g_iload_n F a_A_noon_17 rfl ?_
    refine g_v1 F a_A_noon_18 vc_A_131 mk_H_hasReader (ob_2 (by first | assumption | decide | omega)) ck_2.1 rfl rfl (by decide) ⟨Nat.le_refl _, Nat.le_refl _⟩ rfl (Nat.le_of_ble_eq_true rfl) (sp_H_hasReader (i := 0) (D := D) (by decide) hS hD (by omega) (fun c18 => GCr.v ?_) (fun c18 => GCr.v ?_))
    · refine g_ifne1 F a_A_noon_21 ?_
      refine g_aload_n F a_A_noon_31 rfl ?_
      refine g_get_2_3 F a_A_noon_32 fl_A_134 (by first | assumption | decide | omega) ?_
      refine g_sipush F a_A_noon_35 (by decide) ?_
      refine g_icmp_lt F (by omega) (by omega) a_A_noon_38 (fun h38 => ?_) (fun h38 => ?_)
      · refine g_aload_n F a_A_noon_46 rfl ?_
        refine g_get_0_0 F a_A_noon_47 fl_A_10 ?_
        refine g_get_1_4 F a_A_noon_50 fl_A_89 (by first | assumption | decide | omega) ?_
        refine g_aload_n F a_A_noon_53 rfl ?_
        refine g_v1 F a_A_noon_54 vc_A_140 mk_P_push (ob_4 (by first | assumption | decide | omega)) ck_4.1 rfl rfl (by decide) ⟨Nat.le_refl _, Nat.le_refl _⟩ rfl (Nat.le_of_ble_eq_true rfl) (sp_P_push (i := 0) (s := 0) (by decide) hP (by decide) (GCr.n ?_))
        (try simp only [mset_app, mset_mset, fup_app, aup_app, fup_fup, aup_aup, false_and, and_false, true_and, and_true, and_self, reduceIte, Nat.reduceEqDiff, reduceCtorEq, fup_10])
        refine g_aload_n F a_A_noon_57 rfl ?_
        refine g_iload_n F a_A_noon_58 rfl ?_
        refine g_iload_n F a_A_noon_59 rfl ?_
        refine g_v2 F a_A_noon_60 vc_A_143 mk_H_sail (ob_2 (by first | assumption | decide | omega)) ck_2.1 rfl rfl (by decide) ⟨Nat.le_refl _, Nat.le_refl _⟩ rfl (Nat.le_of_ble_eq_true rfl) (sp_H_sail (i := 0) (D := D) (by decide) (by exact hS) hD (hset6 (by assumption)) (by omega) (GCr.n ?_))
        (try simp only [mset_app, mset_mset, fup_app, aup_app, fup_fup, aup_aup, false_and, and_false, true_and, and_true, and_self, reduceIte, Nat.reduceEqDiff, reduceCtorEq, fup_10])
        refine g_aload_n F a_A_noon_63 rfl ?_
        refine g_get_2_0 F a_A_noon_64 fl_A_147 (by first | assumption | decide | omega) ?_
        (try simp only [mset_app, mset_mset, fup_app, aup_app, fup_fup, aup_aup, false_and, and_false, true_and, and_true, and_self, reduceIte, Nat.reduceEqDiff, reduceCtorEq, fup_10])
        refine g_iret F a_A_noon_67 rfl ⟨Nat.le_refl _, Nat.le_refl _⟩ ?_
        first | exact kb (fun q => absurd q.1 (by assumption)) | exact kb (fun q => absurd q.2 (by assumption)) | exact kn (by assumption) (by assumption) (by omega) | exact k (by assumption) (by assumption) (by omega)
      · refine g_aload_n F a_A_noon_41 rfl ?_
        refine g_v0 F a_A_noon_42 vc_A_137 mk_A_no ob_0 ck_0.1 rfl rfl (by decide) ⟨Nat.le_refl _, Nat.le_refl _⟩ rfl (Nat.le_of_ble_eq_true rfl) (sp_A_no  (GCr.v ?_))
        refine g_iret F a_A_noon_45 rfl ⟨Nat.le_refl _, Nat.le_refl _⟩ ?_
        first | exact kb (fun q => absurd q.1 (by assumption)) | exact kb (fun q => absurd q.2 (by assumption)) | exact kn (by assumption) (by assumption) (by omega) | exact k (by assumption) (by assumption) (by omega)
    · refine g_ifne0 F a_A_noon_21 ?_
      refine g_aload_n F a_A_noon_24 rfl ?_
      refine g_bipush F a_A_noon_25 (by decide) ?_
      refine g_v1 F a_A_noon_27 vc_A_70 mk_A_bad ob_0 ck_0.1 rfl rfl (by decide) ⟨Nat.le_refl _, Nat.le_refl _⟩ rfl (Nat.le_of_ble_eq_true rfl) (sp_A_bad  (GCr.v ?_))
      refine g_iret F a_A_noon_30 rfl ⟨Nat.le_refl _, Nat.le_refl _⟩ ?_
      first | exact kb (fun q => absurd q.1 (by assumption)) | exact kb (fun q => absurd q.2 (by assumption)) | exact kn (by assumption) (by assumption) (by omega) | exact k (by assumption) (by assumption) (by omega)
  · refine g_ifeq0 F a_A_noon_13 ?_
    refine g_aload_n F a_A_noon_24 rfl ?_
    refine g_bipush F a_A_noon_25 (by decide) ?_
    refine g_v1 F a_A_noon_27 vc_A_70 mk_A_bad ob_0 ck_0.1 rfl rfl (by decide) ⟨Nat.le_refl _, Nat.le_refl _⟩ rfl (Nat.le_of_ble_eq_true rfl) (sp_A_bad  (GCr.v ?_))
    refine g_iret F a_A_noon_30 rfl ⟨Nat.le_refl _, Nat.le_refl _⟩ ?_
    first | exact kb (fun q => absurd q.1 (by assumption)) | exact kb (fun q => absurd q.2 (by assumption)) | exact kn (by assumption) (by assumption) (by omega) | exact k (by assumption) (by assumption) (by omega)
set_option maxHeartbeats 1000000 in
theorem sp_A_deed {κ : Kx} {Q : Option Value → (Heap → Prop) → Prop} {m : Mem} {D : Int} (hS : okS D (m 2 0)) (hD : D ≤ 100000) (hP : okP (m 4 0)) {x y : Int} (hx : R32 x) (hy : R32 y) (kb : ¬ ((0 ≤ x ∧ x < (m 2 0).1 4) ∧ 1 ≤ y ∧ y ≤ 90) → Q (some (vi (-2))) (World κ (bmp m 9))) (k : (0 ≤ x ∧ x < (m 2 0).1 4) → (1 ≤ y ∧ y ≤ 90) → Q (some (vi (min ((m 2 0).2 2 x + y) 90))) (World κ (mset (mset m 4 0 (pushP (m 4 0) (m 2 0))) 2 0 (addH (m 2 0) x y)))) : GG κ G_A_deed 2 0 0 [.ref (ad κ 0 0), vi x, vi y] (World κ m) Q := by
  obtain ⟨s0, s1, s2, s3, s4, s5, hfg, hkd, hsh, hgl⟩ := id hS
  refine GG.intro (ls := [some _, some _, some _, none]) (Nat.le_of_ble_eq_true rfl) rfl (fun μ F => ?_)
  refine g_aload_n F a_A_deed_0 rfl ?_
  refine g_get_0_0 F a_A_deed_1 fl_A_10 ?_
  refine g_get_1_0 F a_A_deed_4 fl_A_74 (by first | assumption | decide | omega) ?_
  refine g_astore_n (ls' := [_, _, _, _]) F a_A_deed_7 rfl rfl rfl ?_
  refine g_aload_n F a_A_deed_8 rfl ?_
  refine g_iload_n F a_A_deed_9 rfl ?_
  refine g_v1 F a_A_deed_10 vc_A_150 mk_H_hasMan (ob_2 (by first | assumption | decide | omega)) ck_2.1 rfl rfl (by decide) ⟨Nat.le_refl _, Nat.le_refl _⟩ rfl (Nat.le_of_ble_eq_true rfl) (sp_H_hasMan (i := 0) (D := D) (by decide) hS hD (by omega) (fun c10 => GCr.v ?_) (fun c10 => GCr.v ?_))
  · refine g_ifeq1 F a_A_deed_13 ?_
    refine g_iload_n F a_A_deed_16 rfl ?_
    refine g_iconst F a_A_deed_17 ?_
    refine g_bipush F a_A_deed_18 (by decide) ?_
    refine g_s3 F a_A_deed_20 sc_A_66 mk_A_within rfl (by decide) ⟨Nat.le_refl _, Nat.le_refl _⟩ rfl (Nat.le_of_ble_eq_true rfl) (sp_A_within (by omega) (by omega) (by omega) (fun c20 => GCr.v ?_) (fun c20 => GCr.v ?_))
    · refine g_ifne1 F a_A_deed_23 ?_
      refine g_aload_n F a_A_deed_33 rfl ?_
      refine g_get_0_0 F a_A_deed_34 fl_A_10 ?_
      refine g_get_1_4 F a_A_deed_37 fl_A_89 (by first | assumption | decide | omega) ?_
      refine g_aload_n F a_A_deed_40 rfl ?_
      refine g_v1 F a_A_deed_41 vc_A_140 mk_P_push (ob_4 (by first | assumption | decide | omega)) ck_4.1 rfl rfl (by decide) ⟨Nat.le_refl _, Nat.le_refl _⟩ rfl (Nat.le_of_ble_eq_true rfl) (sp_P_push (i := 0) (s := 0) (by decide) hP (by decide) (GCr.n ?_))
      (try simp only [mset_app, mset_mset, fup_app, aup_app, fup_fup, aup_aup, false_and, and_false, true_and, and_true, and_self, reduceIte, Nat.reduceEqDiff, reduceCtorEq, fup_10])
      refine g_aload_n F a_A_deed_44 rfl ?_
      refine g_iload_n F a_A_deed_45 rfl ?_
      refine g_iload_n F a_A_deed_46 rfl ?_
      refine g_v2 F a_A_deed_47 vc_A_153 mk_H_addShame (ob_2 (by first | assumption | decide | omega)) ck_2.1 rfl rfl (by decide) ⟨Nat.le_refl _, Nat.le_refl _⟩ rfl (Nat.le_of_ble_eq_true rfl) (sp_H_addShame (i := 0) (D := D) (by decide) (by exact hS) hD (show 0 ≤ _ ∧ _ < (m 2 0).1 4 by omega) (by omega) (GCr.n ?_))
      (try simp only [mset_app, mset_mset, fup_app, aup_app, fup_fup, aup_aup, false_and, and_false, true_and, and_true, and_self, reduceIte, Nat.reduceEqDiff, reduceCtorEq, fup_10])
      refine g_aload_n F a_A_deed_50 rfl ?_
      refine g_get_2_8 F a_A_deed_51 fl_A_156 (by first | assumption | decide | omega) ?_
      (try simp only [mset_app, mset_mset, fup_app, aup_app, fup_fup, aup_aup, false_and, and_false, true_and, and_true, and_self, reduceIte, Nat.reduceEqDiff, reduceCtorEq, fup_10])
      refine g_iload_n F a_A_deed_54 rfl ?_
      refine g_ild_2_2 F a_A_deed_55 (by first | assumption | decide | omega) (by omega) ?_
      (try simp only [mset_app, mset_mset, fup_app, aup_app, fup_fup, aup_aup, false_and, and_false, true_and, and_true, and_self, reduceIte, Nat.reduceEqDiff, reduceCtorEq, fup_10])
      refine g_iret F a_A_deed_56 rfl ⟨Nat.le_refl _, Nat.le_refl _⟩ ?_
      first | exact kb (by omega) | exact qv (k (by omega) (by omega)) (by first | rfl | (unfold gup; rw [if_pos rfl]) | (simp [gup]))
    · refine g_ifne0 F a_A_deed_23 ?_
      refine g_aload_n F a_A_deed_26 rfl ?_
      refine g_bipush F a_A_deed_27 (by decide) ?_
      refine g_v1 F a_A_deed_29 vc_A_70 mk_A_bad ob_0 ck_0.1 rfl rfl (by decide) ⟨Nat.le_refl _, Nat.le_refl _⟩ rfl (Nat.le_of_ble_eq_true rfl) (sp_A_bad  (GCr.v ?_))
      refine g_iret F a_A_deed_32 rfl ⟨Nat.le_refl _, Nat.le_refl _⟩ ?_
      first | exact kb (by omega) | exact qv (k (by omega) (by omega)) (by first | rfl | (unfold gup; rw [if_pos rfl]) | (simp [gup]))
  · refine g_ifeq0 F a_A_deed_13 ?_
    refine g_aload_n F a_A_deed_26 rfl ?_
    refine g_bipush F a_A_deed_27 (by decide) ?_
    refine g_v1 F a_A_deed_29 vc_A_70 mk_A_bad ob_0 ck_0.1 rfl rfl (by decide) ⟨Nat.le_refl _, Nat.le_refl _⟩ rfl (Nat.le_of_ble_eq_true rfl) (sp_A_bad  (GCr.v ?_))
    refine g_iret F a_A_deed_32 rfl ⟨Nat.le_refl _, Nat.le_refl _⟩ ?_
    first | exact kb (by omega) | exact qv (k (by omega) (by omega)) (by first | rfl | (unfold gup; rw [if_pos rfl]) | (simp [gup]))
set_option maxHeartbeats 1000000 in
theorem sp_A_mutiny {κ : Kx} {Q : Option Value → (Heap → Prop) → Prop} {m : Mem} {D : Int} (hS : okS D (m 2 0)) (hD : D ≤ 100000) {y : Int} (hy : R32 y) (kb : ¬ (0 ≤ y ∧ y < (m 2 0).1 5) → Q (some (vi (-2))) (World κ (bmp m 9))) (k : (0 ≤ y ∧ y < (m 2 0).1 5) → Q (some (vi (moN (m 2 0) y ((m 2 0).1 4).toNat))) (World κ m)) : GG κ G_A_mutiny 4 0 0 [.ref (ad κ 0 0), vi y] (World κ m) Q := by
  obtain ⟨s0, s1, s2, s3, s4, s5, hfg, hkd, hsh, hgl⟩ := id hS
  refine GG.intro (ls := [some _, some _]) (Nat.le_of_ble_eq_true rfl) rfl (fun μ F => ?_)
  refine g_aload_n F a_A_mutiny_0 rfl ?_
  refine g_get_0_0 F a_A_mutiny_1 fl_A_10 ?_
  refine g_get_1_0 F a_A_mutiny_4 fl_A_74 (by first | assumption | decide | omega) ?_
  refine g_iload_n F a_A_mutiny_7 rfl ?_
  refine g_v1 F a_A_mutiny_8 vc_A_131 mk_H_hasReader (ob_2 (by first | assumption | decide | omega)) ck_2.1 rfl rfl (by decide) ⟨Nat.le_refl _, Nat.le_refl _⟩ rfl (Nat.le_of_ble_eq_true rfl) (sp_H_hasReader (i := 0) (D := D) (by decide) hS hD (by omega) (fun c8 => GCr.v ?_) (fun c8 => GCr.v ?_))
  · refine g_ifne1 F a_A_mutiny_11 ?_
    refine g_aload_n F a_A_mutiny_21 rfl ?_
    refine g_get_0_0 F a_A_mutiny_22 fl_A_10 ?_
    refine g_get_1_0 F a_A_mutiny_25 fl_A_74 (by first | assumption | decide | omega) ?_
    refine g_iload_n F a_A_mutiny_28 rfl ?_
    refine g_s2 F a_A_mutiny_29 sc_A_210 mk_X_mostAlike rfl (by decide) ⟨Nat.le_refl _, Nat.le_refl _⟩ rfl (Nat.le_of_ble_eq_true rfl) (sp_X_mostAlike (i := 0) (D := D) (by decide) hS hD (by omega) (GCr.v ?_))
    refine g_iret F a_A_mutiny_32 rfl ⟨Nat.le_refl _, Nat.le_refl _⟩ ?_
    first | exact kb (by omega) | exact k (by omega)
  · refine g_ifne0 F a_A_mutiny_11 ?_
    refine g_aload_n F a_A_mutiny_14 rfl ?_
    refine g_bipush F a_A_mutiny_15 (by decide) ?_
    refine g_v1 F a_A_mutiny_17 vc_A_70 mk_A_bad ob_0 ck_0.1 rfl rfl (by decide) ⟨Nat.le_refl _, Nat.le_refl _⟩ rfl (Nat.le_of_ble_eq_true rfl) (sp_A_bad  (GCr.v ?_))
    refine g_iret F a_A_mutiny_20 rfl ⟨Nat.le_refl _, Nat.le_refl _⟩ ?_
    first | exact kb (by omega) | exact k (by omega)
set_option maxHeartbeats 1000000 in
theorem sp_A_fewest {κ : Kx} {Q : Option Value → (Heap → Prop) → Prop} {m : Mem} {D : Int} (hS : okS D (m 2 0)) (hD : D ≤ 100000) {x y : Int} (hx : R32 x) (hy : R32 y) (kb : ¬ ((-99 ≤ x ∧ x ≤ 99) ∧ 0 ≤ y ∧ y < (m 2 0).1 5) → Q (some (vi (-2))) (World κ (bmp m 9))) (k : (-99 ≤ x ∧ x ≤ 99) → (0 ≤ y ∧ y < (m 2 0).1 5) → Q (some (vi (feN (m 2 0) x y (allN (m 2 0))))) (World κ m)) : GG κ G_A_fewest 3 0 0 [.ref (ad κ 0 0), vi x, vi y] (World κ m) Q := by
  obtain ⟨s0, s1, s2, s3, s4, s5, hfg, hkd, hsh, hgl⟩ := id hS
  refine GG.intro (ls := [some _, some _, some _]) (Nat.le_of_ble_eq_true rfl) rfl (fun μ F => ?_)
  refine g_iload_n F a_A_fewest_0 rfl ?_
  refine g_bipush F a_A_fewest_1 (by decide) ?_
  refine g_bipush F a_A_fewest_3 (by decide) ?_
  refine g_s3 F a_A_fewest_5 sc_A_66 mk_A_within rfl (by decide) ⟨Nat.le_refl _, Nat.le_refl _⟩ rfl (Nat.le_of_ble_eq_true rfl) (sp_A_within (by omega) (by omega) (by omega) (fun c5 => GCr.v ?_) (fun c5 => GCr.v ?_))
  · refine g_ifeq1 F a_A_fewest_8 ?_
    refine g_aload_n F a_A_fewest_11 rfl ?_
    refine g_get_0_0 F a_A_fewest_12 fl_A_10 ?_
    refine g_get_1_0 F a_A_fewest_15 fl_A_74 (by first | assumption | decide | omega) ?_
    refine g_iload_n F a_A_fewest_18 rfl ?_
    refine g_v1 F a_A_fewest_19 vc_A_131 mk_H_hasReader (ob_2 (by first | assumption | decide | omega)) ck_2.1 rfl rfl (by decide) ⟨Nat.le_refl _, Nat.le_refl _⟩ rfl (Nat.le_of_ble_eq_true rfl) (sp_H_hasReader (i := 0) (D := D) (by decide) hS hD (by omega) (fun c19 => GCr.v ?_) (fun c19 => GCr.v ?_))
    · refine g_ifne1 F a_A_fewest_22 ?_
      refine g_aload_n F a_A_fewest_32 rfl ?_
      refine g_get_0_0 F a_A_fewest_33 fl_A_10 ?_
      refine g_get_1_0 F a_A_fewest_36 fl_A_74 (by first | assumption | decide | omega) ?_
      refine g_iload_n F a_A_fewest_39 rfl ?_
      refine g_iload_n F a_A_fewest_40 rfl ?_
      refine g_s3 F a_A_fewest_41 sc_A_195 mk_X_fewestOff rfl (by decide) ⟨Nat.le_refl _, Nat.le_refl _⟩ rfl (Nat.le_of_ble_eq_true rfl) (sp_X_fewestOff (i := 0) (D := D) (by decide) hS hD (by omega) (by omega) (GCr.v ?_))
      refine g_iret F a_A_fewest_44 rfl ⟨Nat.le_refl _, Nat.le_refl _⟩ ?_
      first | exact kb (by omega) | exact k (by omega) (by omega)
    · refine g_ifne0 F a_A_fewest_22 ?_
      refine g_aload_n F a_A_fewest_25 rfl ?_
      refine g_bipush F a_A_fewest_26 (by decide) ?_
      refine g_v1 F a_A_fewest_28 vc_A_70 mk_A_bad ob_0 ck_0.1 rfl rfl (by decide) ⟨Nat.le_refl _, Nat.le_refl _⟩ rfl (Nat.le_of_ble_eq_true rfl) (sp_A_bad  (GCr.v ?_))
      refine g_iret F a_A_fewest_31 rfl ⟨Nat.le_refl _, Nat.le_refl _⟩ ?_
      first | exact kb (by omega) | exact k (by omega) (by omega)
  · refine g_ifeq0 F a_A_fewest_8 ?_
    refine g_aload_n F a_A_fewest_25 rfl ?_
    refine g_bipush F a_A_fewest_26 (by decide) ?_
    refine g_v1 F a_A_fewest_28 vc_A_70 mk_A_bad ob_0 ck_0.1 rfl rfl (by decide) ⟨Nat.le_refl _, Nat.le_refl _⟩ rfl (Nat.le_of_ble_eq_true rfl) (sp_A_bad  (GCr.v ?_))
    refine g_iret F a_A_fewest_31 rfl ⟨Nat.le_refl _, Nat.le_refl _⟩ ?_
    first | exact kb (by omega) | exact k (by omega) (by omega)
set_option maxHeartbeats 1000000 in
theorem sp_A_undo {κ : Kx} {Q : Option Value → (Heap → Prop) → Prop} {m : Mem} {D : Int} (hS : okS D (m 2 0)) (hD : D ≤ 100000) (hP : okP (m 4 0)) (kn : (m 4 0).1 0 = 0 → Q (some (vi (-3))) (World κ (bmp m 10))) (k : 1 ≤ (m 4 0).1 0 → Q (some (vi ((popS (m 4 0) (m 2 0)).1 3))) (World κ (mset (mset m 4 0 (fup (m 4 0).1 0 ((m 4 0).1 0 - 1), (m 4 0).2)) 2 0 (popS (m 4 0) (m 2 0))))) : GG κ G_A_undo 2 0 0 [.ref (ad κ 0 0)] (World κ m) Q := by
  obtain ⟨s0, s1, s2, s3, s4, s5, hfg, hkd, hsh, hgl⟩ := id hS
  have hp0 := hP.1
  refine GG.intro (ls := [some _]) (Nat.le_of_ble_eq_true rfl) rfl (fun μ F => ?_)
  refine g_aload_n F a_A_undo_0 rfl ?_
  refine g_get_0_0 F a_A_undo_1 fl_A_10 ?_
  refine g_get_1_4 F a_A_undo_4 fl_A_89 (by first | assumption | decide | omega) ?_
  refine g_get_4_0 F a_A_undo_7 fl_A_93 (by first | assumption | decide | omega) ?_
  refine g_if_gt F (by omega) a_A_undo_10 (fun h10 => ?_) (fun h10 => ?_)
  · refine g_aload_n F a_A_undo_18 rfl ?_
    refine g_get_0_0 F a_A_undo_19 fl_A_10 ?_
    refine g_get_1_4 F a_A_undo_22 fl_A_89 (by first | assumption | decide | omega) ?_
    refine g_aload_n F a_A_undo_25 rfl ?_
    refine g_get_0_0 F a_A_undo_26 fl_A_10 ?_
    refine g_get_1_0 F a_A_undo_29 fl_A_74 (by first | assumption | decide | omega) ?_
    refine g_v1 F a_A_undo_32 vc_A_159 mk_P_pop (ob_4 (by first | assumption | decide | omega)) ck_4.1 rfl rfl (by decide) ⟨Nat.le_refl _, Nat.le_refl _⟩ rfl (Nat.le_of_ble_eq_true rfl) (sp_P_pop (i := 0) (s := 0) (by decide) hP (by decide) (by omega) (GCr.n ?_))
    (try simp only [mset_app, mset_mset, fup_app, aup_app, fup_fup, aup_aup, false_and, and_false, true_and, and_true, and_self, reduceIte, Nat.reduceEqDiff, reduceCtorEq, fup_10])
    refine g_aload_n F a_A_undo_35 rfl ?_
    refine g_get_0_0 F a_A_undo_36 fl_A_10 ?_
    (try simp only [mset_app, mset_mset, fup_app, aup_app, fup_fup, aup_aup, false_and, and_false, true_and, and_true, and_self, reduceIte, Nat.reduceEqDiff, reduceCtorEq, fup_10])
    refine g_get_1_0 F a_A_undo_39 fl_A_74 (by first | assumption | decide | omega) ?_
    (try simp only [mset_app, mset_mset, fup_app, aup_app, fup_fup, aup_aup, false_and, and_false, true_and, and_true, and_self, reduceIte, Nat.reduceEqDiff, reduceCtorEq, fup_10])
    refine g_get_2_3 F a_A_undo_42 fl_A_134 (by first | assumption | decide | omega) ?_
    (try simp only [mset_app, mset_mset, fup_app, aup_app, fup_fup, aup_aup, false_and, and_false, true_and, and_true, and_self, reduceIte, Nat.reduceEqDiff, reduceCtorEq, fup_10])
    refine g_iret F a_A_undo_45 rfl ⟨Nat.le_refl _, Nat.le_refl _⟩ ?_
    first | exact kn (by omega) | exact k (by omega)
  · refine g_aload_n F a_A_undo_13 rfl ?_
    refine g_v0 F a_A_undo_14 vc_A_137 mk_A_no ob_0 ck_0.1 rfl rfl (by decide) ⟨Nat.le_refl _, Nat.le_refl _⟩ rfl (Nat.le_of_ble_eq_true rfl) (sp_A_no  (GCr.v ?_))
    refine g_iret F a_A_undo_17 rfl ⟨Nat.le_refl _, Nat.le_refl _⟩ ?_
    first | exact kn (by omega) | exact k (by omega)
set_option maxHeartbeats 1000000 in
theorem sp_A_best {κ : Kx} {Q : Option Value → (Heap → Prop) → Prop} {m : Mem} {D : Int} (hS : okS D (m 2 0)) (hD : D ≤ 100000) {x y t : Int} (hx : R32 x) (hy : R32 y) (ht : R32 t) (kb : ¬ ((0 ≤ x ∧ x ≤ (m 2 0).1 4) ∧ (0 ≤ y ∧ y < (m 2 0).1 5) ∧ 0 ≤ t ∧ t ≤ 1) → Q (some (vi (-2))) (World κ (bmp m 9))) (k : (0 ≤ x ∧ x ≤ (m 2 0).1 4) → (0 ≤ y ∧ y < (m 2 0).1 5) → (0 ≤ t ∧ t ≤ 1) → Q (some (vi (if t = 0 then (loN (m 2 0) x y (allN (m 2 0))).1 else farS (m 2 0) (loN (m 2 0) x y (allN (m 2 0))).1 y))) (World κ m)) : GG κ G_A_best 3 0 0 [.ref (ad κ 0 0), vi x, vi y, vi t] (World κ m) Q := by
  obtain ⟨s0, s1, s2, s3, s4, s5, hfg, hkd, hsh, hgl⟩ := id hS
  refine GG.intro (ls := [some _, some _, some _, some _, none, none]) (Nat.le_of_ble_eq_true rfl) rfl (fun μ F => ?_)
  refine g_aload_n F a_A_best_0 rfl ?_
  refine g_get_0_0 F a_A_best_1 fl_A_10 ?_
  refine g_get_1_0 F a_A_best_4 fl_A_74 (by first | assumption | decide | omega) ?_
  refine g_astore (ls' := [_, _, _, _, _, _]) F a_A_best_7 rfl rfl rfl ?_
  refine g_iload_n F a_A_best_9 rfl ?_
  refine g_iconst F a_A_best_10 ?_
  refine g_aload F a_A_best_11 rfl ?_
  refine g_get_2_4 F a_A_best_13 fl_A_77 (by first | assumption | decide | omega) ?_
  refine g_s3 F a_A_best_16 sc_A_66 mk_A_within rfl (by decide) ⟨Nat.le_refl _, Nat.le_refl _⟩ rfl (Nat.le_of_ble_eq_true rfl) (sp_A_within (by omega) (by omega) (by omega) (fun c16 => GCr.v ?_) (fun c16 => GCr.v ?_))
  · refine g_ifeq1 F a_A_best_19 ?_
    refine g_aload F a_A_best_22 rfl ?_
    refine g_iload_n F a_A_best_24 rfl ?_
    refine g_v1 F a_A_best_25 vc_A_131 mk_H_hasReader (ob_2 (by first | assumption | decide | omega)) ck_2.1 rfl rfl (by decide) ⟨Nat.le_refl _, Nat.le_refl _⟩ rfl (Nat.le_of_ble_eq_true rfl) (sp_H_hasReader (i := 0) (D := D) (by decide) hS hD (by omega) (fun c25 => GCr.v ?_) (fun c25 => GCr.v ?_))
    · refine g_ifeq1 F a_A_best_28 ?_
      refine g_iload_n F a_A_best_31 rfl ?_
      refine g_iconst F a_A_best_32 ?_
      refine g_iconst F a_A_best_33 ?_
      refine g_s3 F a_A_best_34 sc_A_66 mk_A_within rfl (by decide) ⟨Nat.le_refl _, Nat.le_refl _⟩ rfl (Nat.le_of_ble_eq_true rfl) (sp_A_within (by omega) (by omega) (by omega) (fun c34 => GCr.v ?_) (fun c34 => GCr.v ?_))
      · refine g_ifne1 F a_A_best_37 ?_
        refine g_aload F a_A_best_47 rfl ?_
        refine g_iload_n F a_A_best_49 rfl ?_
        refine g_iload_n F a_A_best_50 rfl ?_
        have hlo := loN_ok hS (nn := x) (r := y) (by omega)
        have hlf := loN_far hS x y (allN (m 2 0))
        have hal := allN_r hS
        refine g_s3 F a_A_best_51 sc_A_184 mk_X_leastOff rfl (by decide) ⟨Nat.le_refl _, Nat.le_refl _⟩ rfl (Nat.le_of_ble_eq_true rfl) (sp_X_leastOff (i := 0) (D := D) (by decide) hS hD (by omega) (by omega) (GCr.v ?_))
        refine g_istore (ls' := [_, _, _, _, _, _]) F a_A_best_54 rfl rfl rfl ?_
        refine g_iload_n F a_A_best_56 rfl ?_
        refine g_if_ne F (by omega) a_A_best_57 (fun h57 => ?_) (fun h57 => ?_)
        · refine g_aload F a_A_best_65 rfl ?_
          refine g_iload F a_A_best_67 rfl ?_
          refine g_iload_n F a_A_best_69 rfl ?_
          refine g_v2 F a_A_best_70 vc_A_178 mk_H_errorOf (ob_2 (by first | assumption | decide | omega)) ck_2.1 rfl rfl (by decide) ⟨Nat.le_refl _, Nat.le_refl _⟩ rfl (Nat.le_of_ble_eq_true rfl) (sp_H_errorOf (i := 0) (D := D) (by decide) hS hD (by omega) (by omega) (GCr.v ?_))
          refine g_s1 F a_A_best_73 sc_A_190 mk_J_abs rfl (by decide) ⟨Nat.le_refl _, Nat.le_refl _⟩ rfl (Nat.le_of_ble_eq_true rfl) (sp_J_abs (by have := errS_r hS (loN (m 2 0) x y (allN (m 2 0))).1 y; omega) (GCr.v ?_))
          refine g_iret F a_A_best_76 rfl ⟨Nat.le_refl _, Nat.le_refl _⟩ ?_
          first | exact kb (by omega) | exact qv (k (by omega) (by omega) (by omega)) (by first | (rw [if_pos (by omega)]; done) | (rw [if_neg (by omega)]; rfl))
        · refine g_iload F a_A_best_60 rfl ?_
          refine g_goto F a_A_best_62 ?_
          refine g_iret F a_A_best_76 rfl ⟨Nat.le_refl _, Nat.le_refl _⟩ ?_
          first | exact kb (by omega) | exact qv (k (by omega) (by omega) (by omega)) (by first | (rw [if_pos (by omega)]; done) | (rw [if_neg (by omega)]; rfl))
      · refine g_ifne0 F a_A_best_37 ?_
        refine g_aload_n F a_A_best_40 rfl ?_
        refine g_bipush F a_A_best_41 (by decide) ?_
        refine g_v1 F a_A_best_43 vc_A_70 mk_A_bad ob_0 ck_0.1 rfl rfl (by decide) ⟨Nat.le_refl _, Nat.le_refl _⟩ rfl (Nat.le_of_ble_eq_true rfl) (sp_A_bad  (GCr.v ?_))
        refine g_iret F a_A_best_46 rfl ⟨Nat.le_refl _, Nat.le_refl _⟩ ?_
        first | exact kb (by omega) | exact qv (k (by omega) (by omega) (by omega)) (by first | (rw [if_pos (by omega)]; done) | (rw [if_neg (by omega)]; rfl))
    · refine g_ifeq0 F a_A_best_28 ?_
      refine g_aload_n F a_A_best_40 rfl ?_
      refine g_bipush F a_A_best_41 (by decide) ?_
      refine g_v1 F a_A_best_43 vc_A_70 mk_A_bad ob_0 ck_0.1 rfl rfl (by decide) ⟨Nat.le_refl _, Nat.le_refl _⟩ rfl (Nat.le_of_ble_eq_true rfl) (sp_A_bad  (GCr.v ?_))
      refine g_iret F a_A_best_46 rfl ⟨Nat.le_refl _, Nat.le_refl _⟩ ?_
      first | exact kb (by omega) | exact qv (k (by omega) (by omega) (by omega)) (by first | (rw [if_pos (by omega)]; done) | (rw [if_neg (by omega)]; rfl))
  · refine g_ifeq0 F a_A_best_19 ?_
    refine g_aload_n F a_A_best_40 rfl ?_
    refine g_bipush F a_A_best_41 (by decide) ?_
    refine g_v1 F a_A_best_43 vc_A_70 mk_A_bad ob_0 ck_0.1 rfl rfl (by decide) ⟨Nat.le_refl _, Nat.le_refl _⟩ rfl (Nat.le_of_ble_eq_true rfl) (sp_A_bad  (GCr.v ?_))
    refine g_iret F a_A_best_46 rfl ⟨Nat.le_refl _, Nat.le_refl _⟩ ?_
    first | exact kb (by omega) | exact qv (k (by omega) (by omega) (by omega)) (by first | (rw [if_pos (by omega)]; done) | (rw [if_neg (by omega)]; rfl))
set_option maxHeartbeats 1000000 in
theorem sp_A_watch {κ : Kx} {Q : Option Value → (Heap → Prop) → Prop} {m : Mem} {D : Int} (hS : okS D (m 2 0)) (hD : D ≤ 100000) {x : Int} (hx : R32 x) (kb : ¬ x = -1 → ¬ (0 ≤ x ∧ x < (m 2 0).1 4) → Q (some (vi (-10))) (World κ (bmp m 9))) (k : x = -1 ∨ (0 ≤ x ∧ x < (m 2 0).1 4) → Q (some (vi (if x = -1 then (waS (m 2 0) (m 7 0)).1 3 else if (waS (m 2 0) (m 7 0)).1 3 = 0 then -6 else (waS (m 2 0) (m 7 0)).2 0 x))) (World κ (mset m 7 0 (waS (m 2 0) (m 7 0))))) : GG κ G_A_watch 21 0 0 [.ref (ad κ 0 0), vi x] (World κ m) Q := by
  obtain ⟨s0, s1, s2, s3, s4, s5, hfg, hkd, hsh, hgl⟩ := id hS
  refine GG.intro (ls := [some _, some _, none]) (Nat.le_of_ble_eq_true rfl) rfl (fun μ F => ?_)
  refine g_iload_n F a_A_watch_0 rfl ?_
  refine g_iconst F a_A_watch_1 ?_
  refine g_icmp_eq F (by first | omega | (have := wa_r hS (m 7 0); omega)) (by first | omega | (have := wa_r hS (m 7 0); omega)) a_A_watch_2 (fun h2 => ?_) (fun h2 => ?_)
  · refine g_aload_n F a_A_watch_26 rfl ?_
    refine g_get_0_6 F a_A_watch_27 fl_A_48 ?_
    refine g_aload_n F a_A_watch_30 rfl ?_
    refine g_get_0_0 F a_A_watch_31 fl_A_10 ?_
    refine g_get_1_0 F a_A_watch_34 fl_A_74 (by first | assumption | decide | omega) ?_
    refine g_v1 F a_A_watch_37 vc_A_204 mk_W_ways ob_7 ck_7.1 rfl rfl (by decide) ⟨Nat.le_refl _, Nat.le_refl _⟩ rfl (Nat.le_of_ble_eq_true rfl) (sp_W_ways (i := 0) (D := D) (by decide) hS hD (GCr.v ?_))
    refine g_istore_n (ls' := [_, _, _]) F a_A_watch_40 rfl rfl rfl ?_
    refine g_iload_n F a_A_watch_41 rfl ?_
    refine g_iconst F a_A_watch_42 ?_
    refine g_icmp_ne F (by first | omega | (have := wa_r hS (m 7 0); omega)) (by first | omega | (have := wa_r hS (m 7 0); omega)) a_A_watch_43 (fun h43 => ?_) (fun h43 => ?_)
    · refine g_iload_n F a_A_watch_48 rfl ?_
      refine g_if_ne F (by first | omega | (have := wa_r hS (m 7 0); omega)) a_A_watch_49 (fun h49 => ?_) (fun h49 => ?_)
      · refine g_aload_n F a_A_watch_57 rfl ?_
        refine g_get_0_6 F a_A_watch_58 fl_A_48 ?_
        refine g_get_7_0 F a_A_watch_61 fl_A_207 ?_
        refine g_iload_n F a_A_watch_64 rfl ?_
        refine g_ild_7_0 F a_A_watch_65 (by omega) ?_
        refine g_iret F a_A_watch_66 rfl ⟨Nat.le_refl _, Nat.le_refl _⟩ ?_
        first | exact kb (by omega) (by omega) | exact qv (k (by omega)) (by first | (rw [if_pos (by omega)]; done) | (rw [if_neg (by omega), if_pos (by omega)]; done) | (rw [if_neg (by omega), if_neg (by omega)]; done) | (rw [if_neg (by omega), if_neg (by omega)]; rfl))
      · refine g_bipush F a_A_watch_52 (by decide) ?_
        refine g_goto F a_A_watch_54 ?_
        refine g_iret F a_A_watch_66 rfl ⟨Nat.le_refl _, Nat.le_refl _⟩ ?_
        first | exact kb (by omega) (by omega) | exact qv (k (by omega)) (by first | (rw [if_pos (by omega)]; done) | (rw [if_neg (by omega), if_pos (by omega)]; done) | (rw [if_neg (by omega), if_neg (by omega)]; done) | (rw [if_neg (by omega), if_neg (by omega)]; rfl))
    · refine g_iload_n F a_A_watch_46 rfl ?_
      refine g_iret F a_A_watch_47 rfl ⟨Nat.le_refl _, Nat.le_refl _⟩ ?_
      first | exact kb (by omega) (by omega) | exact qv (k (by omega)) (by first | (rw [if_pos (by omega)]; done) | (rw [if_neg (by omega), if_pos (by omega)]; done) | (rw [if_neg (by omega), if_neg (by omega)]; done) | (rw [if_neg (by omega), if_neg (by omega)]; rfl))
  · refine g_aload_n F a_A_watch_5 rfl ?_
    refine g_get_0_0 F a_A_watch_6 fl_A_10 ?_
    refine g_get_1_0 F a_A_watch_9 fl_A_74 (by first | assumption | decide | omega) ?_
    refine g_iload_n F a_A_watch_12 rfl ?_
    refine g_v1 F a_A_watch_13 vc_A_150 mk_H_hasMan (ob_2 (by first | assumption | decide | omega)) ck_2.1 rfl rfl (by decide) ⟨Nat.le_refl _, Nat.le_refl _⟩ rfl (Nat.le_of_ble_eq_true rfl) (sp_H_hasMan (i := 0) (D := D) (by decide) hS hD (by omega) (fun c13 => GCr.v ?_) (fun c13 => GCr.v ?_))
    · refine g_ifne1 F a_A_watch_16 ?_
      refine g_aload_n F a_A_watch_26 rfl ?_
      refine g_get_0_6 F a_A_watch_27 fl_A_48 ?_
      refine g_aload_n F a_A_watch_30 rfl ?_
      refine g_get_0_0 F a_A_watch_31 fl_A_10 ?_
      refine g_get_1_0 F a_A_watch_34 fl_A_74 (by first | assumption | decide | omega) ?_
      refine g_v1 F a_A_watch_37 vc_A_204 mk_W_ways ob_7 ck_7.1 rfl rfl (by decide) ⟨Nat.le_refl _, Nat.le_refl _⟩ rfl (Nat.le_of_ble_eq_true rfl) (sp_W_ways (i := 0) (D := D) (by decide) hS hD (GCr.v ?_))
      refine g_istore_n (ls' := [_, _, _]) F a_A_watch_40 rfl rfl rfl ?_
      refine g_iload_n F a_A_watch_41 rfl ?_
      refine g_iconst F a_A_watch_42 ?_
      refine g_icmp_ne F (by first | omega | (have := wa_r hS (m 7 0); omega)) (by first | omega | (have := wa_r hS (m 7 0); omega)) a_A_watch_43 (fun h43 => ?_) (fun h43 => ?_)
      · refine g_iload_n F a_A_watch_48 rfl ?_
        refine g_if_ne F (by first | omega | (have := wa_r hS (m 7 0); omega)) a_A_watch_49 (fun h49 => ?_) (fun h49 => ?_)
        · refine g_aload_n F a_A_watch_57 rfl ?_
          refine g_get_0_6 F a_A_watch_58 fl_A_48 ?_
          refine g_get_7_0 F a_A_watch_61 fl_A_207 ?_
          refine g_iload_n F a_A_watch_64 rfl ?_
          refine g_ild_7_0 F a_A_watch_65 (by omega) ?_
          refine g_iret F a_A_watch_66 rfl ⟨Nat.le_refl _, Nat.le_refl _⟩ ?_
          first | exact kb (by omega) (by omega) | exact qv (k (by omega)) (by first | (rw [if_pos (by omega)]; done) | (rw [if_neg (by omega), if_pos (by omega)]; done) | (rw [if_neg (by omega), if_neg (by omega)]; done) | (rw [if_neg (by omega), if_neg (by omega)]; rfl))
        · refine g_bipush F a_A_watch_52 (by decide) ?_
          refine g_goto F a_A_watch_54 ?_
          refine g_iret F a_A_watch_66 rfl ⟨Nat.le_refl _, Nat.le_refl _⟩ ?_
          first | exact kb (by omega) (by omega) | exact qv (k (by omega)) (by first | (rw [if_pos (by omega)]; done) | (rw [if_neg (by omega), if_pos (by omega)]; done) | (rw [if_neg (by omega), if_neg (by omega)]; done) | (rw [if_neg (by omega), if_neg (by omega)]; rfl))
      · refine g_iload_n F a_A_watch_46 rfl ?_
        refine g_iret F a_A_watch_47 rfl ⟨Nat.le_refl _, Nat.le_refl _⟩ ?_
        first | exact kb (by omega) (by omega) | exact qv (k (by omega)) (by first | (rw [if_pos (by omega)]; done) | (rw [if_neg (by omega), if_pos (by omega)]; done) | (rw [if_neg (by omega), if_neg (by omega)]; done) | (rw [if_neg (by omega), if_neg (by omega)]; rfl))
    · refine g_ifne0 F a_A_watch_16 ?_
      refine g_aload_n F a_A_watch_19 rfl ?_
      refine g_bipush F a_A_watch_20 (by decide) ?_
      refine g_v1 F a_A_watch_22 vc_A_70 mk_A_bad ob_0 ck_0.1 rfl rfl (by decide) ⟨Nat.le_refl _, Nat.le_refl _⟩ rfl (Nat.le_of_ble_eq_true rfl) (sp_A_bad  (GCr.v ?_))
      refine g_iret F a_A_watch_25 rfl ⟨Nat.le_refl _, Nat.le_refl _⟩ ?_
      first | exact kb (by omega) (by omega) | exact qv (k (by omega)) (by first | (rw [if_pos (by omega)]; done) | (rw [if_neg (by omega), if_pos (by omega)]; done) | (rw [if_neg (by omega), if_neg (by omega)]; done) | (rw [if_neg (by omega), if_neg (by omega)]; rfl))
theorem rwT_r {S : Rc} {r k i c t : Int} (hi : 0 ≤ i ∧ i < 6) (ht : -1 ≤ t ∧ t ≤ 60) : ∀ n : Nat, n ≤ 6 → -1 ≤ rwT S r k i c t n ∧ rwT S r k i c t n ≤ 60
  | 0, _ => ht
  | n + 1, h => by
    have ih := rwT_r (S := S) (r := r) (k := k) (c := c) hi ht n (by omega)
    unfold rwT
    split <;> omega
theorem ttT_r {D : Int} {S : Rc} (h : okS D S) (r k : Int) : ∀ n : Nat, n ≤ 6 → -1 ≤ ttT S r k (-1) n ∧ ttT S r k (-1) n ≤ 60
  | 0, _ => (by decide : (-1 : Int) ≤ -1 ∧ (-1 : Int) ≤ 60)
  | n + 1, hn => by
    have ih := ttT_r h r k n (by omega)
    have h4 := h.2.2.2.2.1
    exact rwT_r (by omega) ih _ (by omega)
set_option maxHeartbeats 1000000 in
theorem sp_A_officers {κ : Kx} {Q : Option Value → (Heap → Prop) → Prop} {m : Mem} {D : Int} (hS : okS D (m 2 0)) (hD : D ≤ 100000) {x y : Int} (hx : R32 x) (hy : R32 y) (kb : ¬ ((0 ≤ y ∧ y < (m 2 0).1 5) ∧ -1 ≤ x) → Q (some (vi (-10))) (World κ (bmp m 9))) (k : (0 ≤ y ∧ y < (m 2 0).1 5) → -1 ≤ x → Q (some (vi (if x = -1 then ttC (m 2 0) y ((m 2 0).1 4).toNat else if ttT (m 2 0) y x (-1) ((m 2 0).1 4).toNat = -1 then -5 else ttT (m 2 0) y x (-1) ((m 2 0).1 4).toNat))) (World κ m)) : GG κ G_A_officers 5 0 0 [.ref (ad κ 0 0), vi y, vi x] (World κ m) Q := by
  obtain ⟨s0, s1, s2, s3, s4, s5, hfg, hkd, hsh, hgl⟩ := id hS
  refine GG.intro (ls := [some _, some _, some _, none]) (Nat.le_of_ble_eq_true rfl) rfl (fun μ F => ?_)
  refine g_aload_n F a_A_officers_0 rfl ?_
  refine g_get_0_0 F a_A_officers_1 fl_A_10 ?_
  refine g_get_1_0 F a_A_officers_4 fl_A_74 (by first | assumption | decide | omega) ?_
  refine g_iload_n F a_A_officers_7 rfl ?_
  refine g_v1 F a_A_officers_8 vc_A_131 mk_H_hasReader (ob_2 (by first | assumption | decide | omega)) ck_2.1 rfl rfl (by decide) ⟨Nat.le_refl _, Nat.le_refl _⟩ rfl (Nat.le_of_ble_eq_true rfl) (sp_H_hasReader (i := 0) (D := D) (by decide) hS hD (by omega) (fun c8 => GCr.v ?_) (fun c8 => GCr.v ?_))
  · refine g_ifeq1 F a_A_officers_11 ?_
    refine g_iload_n F a_A_officers_14 rfl ?_
    refine g_iconst F a_A_officers_15 ?_
    refine g_icmp_ge F (by first | omega | (have := ttT_r hS y x ((m 2 0).1 4).toNat (by omega); have := ttC_r hS y ((m 2 0).1 4).toNat; split <;> omega)) (by first | omega | (have := ttT_r hS y x ((m 2 0).1 4).toNat (by omega); have := ttC_r hS y ((m 2 0).1 4).toNat; split <;> omega)) a_A_officers_16 (fun h16 => ?_) (fun h16 => ?_)
    · refine g_aload_n F a_A_officers_26 rfl ?_
      refine g_get_0_0 F a_A_officers_27 fl_A_10 ?_
      refine g_get_1_0 F a_A_officers_30 fl_A_74 (by first | assumption | decide | omega) ?_
      refine g_iload_n F a_A_officers_33 rfl ?_
      refine g_iload_n F a_A_officers_34 rfl ?_
      refine g_s3 F a_A_officers_35 sc_A_255 mk_X_restingPairs rfl (by decide) ⟨Nat.le_refl _, Nat.le_refl _⟩ rfl (Nat.le_of_ble_eq_true rfl) (sp_X_restingPairs (i := 0) (D := D) (by decide) hS hD (by omega) (by omega) (GCr.v ?_))
      refine g_istore_n (ls' := [_, _, _, _]) F a_A_officers_38 rfl rfl rfl ?_
      refine g_iload_n F a_A_officers_39 rfl ?_
      refine g_iconst F a_A_officers_40 ?_
      refine g_icmp_ne F (by first | omega | (have := ttT_r hS y x ((m 2 0).1 4).toNat (by omega); have := ttC_r hS y ((m 2 0).1 4).toNat; split <;> omega)) (by first | omega | (have := ttT_r hS y x ((m 2 0).1 4).toNat (by omega); have := ttC_r hS y ((m 2 0).1 4).toNat; split <;> omega)) a_A_officers_41 (fun h41 => ?_) (fun h41 => ?_)
      · refine g_iload_n F a_A_officers_46 rfl ?_
        refine g_iconst F a_A_officers_47 ?_
        refine g_icmp_ne F (by first | omega | (have := ttT_r hS y x ((m 2 0).1 4).toNat (by omega); have := ttC_r hS y ((m 2 0).1 4).toNat; split <;> omega)) (by first | omega | (have := ttT_r hS y x ((m 2 0).1 4).toNat (by omega); have := ttC_r hS y ((m 2 0).1 4).toNat; split <;> omega)) a_A_officers_48 (fun h48 => ?_) (fun h48 => ?_)
        · refine g_iload_n F a_A_officers_56 rfl ?_
          refine g_iret F a_A_officers_57 rfl ⟨Nat.le_refl _, Nat.le_refl _⟩ ?_
          first | exact kb (by omega) | exact qv (k (by omega) (by omega)) (by rw [if_pos (by assumption), if_pos (by assumption)]) | exact qv (k (by omega) (by omega)) (by rw [if_neg (by assumption), if_pos (by rw [if_neg (by assumption)] at h48; exact h48)]) | exact qv (k (by omega) (by omega)) (by rw [if_neg (by assumption), if_neg (by assumption), if_neg (by rw [if_neg (by assumption)] at h48; exact h48)])
        · refine g_bipush F a_A_officers_51 (by decide) ?_
          refine g_goto F a_A_officers_53 ?_
          refine g_iret F a_A_officers_57 rfl ⟨Nat.le_refl _, Nat.le_refl _⟩ ?_
          first | exact kb (by omega) | exact qv (k (by omega) (by omega)) (by rw [if_pos (by assumption), if_pos (by assumption)]) | exact qv (k (by omega) (by omega)) (by rw [if_neg (by assumption), if_pos (by rw [if_neg (by assumption)] at h48; exact h48)]) | exact qv (k (by omega) (by omega)) (by rw [if_neg (by assumption), if_neg (by assumption), if_neg (by rw [if_neg (by assumption)] at h48; exact h48)])
      · refine g_iload_n F a_A_officers_44 rfl ?_
        refine g_iret F a_A_officers_45 rfl ⟨Nat.le_refl _, Nat.le_refl _⟩ ?_
        first | exact kb (by omega) | exact qv (k (by omega) (by omega)) (by rw [if_pos (by assumption), if_pos (by assumption)]) | exact qv (k (by omega) (by omega)) (by rw [if_neg (by assumption), if_pos (by rw [if_neg (by assumption)] at h48; exact h48)]) | exact qv (k (by omega) (by omega)) (by rw [if_neg (by assumption), if_neg (by assumption), if_neg (by rw [if_neg (by assumption)] at h48; exact h48)])
    · refine g_aload_n F a_A_officers_19 rfl ?_
      refine g_bipush F a_A_officers_20 (by decide) ?_
      refine g_v1 F a_A_officers_22 vc_A_70 mk_A_bad ob_0 ck_0.1 rfl rfl (by decide) ⟨Nat.le_refl _, Nat.le_refl _⟩ rfl (Nat.le_of_ble_eq_true rfl) (sp_A_bad  (GCr.v ?_))
      refine g_iret F a_A_officers_25 rfl ⟨Nat.le_refl _, Nat.le_refl _⟩ ?_
      first | exact kb (by omega) | exact qv (k (by omega) (by omega)) (by rw [if_pos (by assumption), if_pos (by assumption)]) | exact qv (k (by omega) (by omega)) (by rw [if_neg (by assumption), if_pos (by rw [if_neg (by assumption)] at h48; exact h48)]) | exact qv (k (by omega) (by omega)) (by rw [if_neg (by assumption), if_neg (by assumption), if_neg (by rw [if_neg (by assumption)] at h48; exact h48)])
  · refine g_ifeq0 F a_A_officers_11 ?_
    refine g_aload_n F a_A_officers_19 rfl ?_
    refine g_bipush F a_A_officers_20 (by decide) ?_
    refine g_v1 F a_A_officers_22 vc_A_70 mk_A_bad ob_0 ck_0.1 rfl rfl (by decide) ⟨Nat.le_refl _, Nat.le_refl _⟩ rfl (Nat.le_of_ble_eq_true rfl) (sp_A_bad  (GCr.v ?_))
    refine g_iret F a_A_officers_25 rfl ⟨Nat.le_refl _, Nat.le_refl _⟩ ?_
    first | exact kb (by omega) | exact qv (k (by omega) (by omega)) (by rw [if_pos (by assumption), if_pos (by assumption)]) | exact qv (k (by omega) (by omega)) (by rw [if_neg (by assumption), if_pos (by rw [if_neg (by assumption)] at h48; exact h48)]) | exact qv (k (by omega) (by omega)) (by rw [if_neg (by assumption), if_neg (by assumption), if_neg (by rw [if_neg (by assumption)] at h48; exact h48)])
set_option maxHeartbeats 1000000 in
theorem sp_A_seen {κ : Kx} {Q : Option Value → (Heap → Prop) → Prop} {m : Mem} {D : Int} (hS : okS D (m 2 0)) (hD : D ≤ 100000) {x y t : Int} (hx : R32 x) (hy : R32 y) (ht : R32 t) (hR : okR (m 3 0)) (kb : ¬ ((0 ≤ x ∧ x < (m 2 0).1 4) ∧ (0 ≤ y ∧ y ≤ 99) ∧ 0 ≤ t ∧ t ≤ 90) → Q (some (vi (-2))) (World κ (bmp m 9))) (kf : ((0 ≤ x ∧ x < (m 2 0).1 4) ∧ (0 ≤ y ∧ y ≤ 99) ∧ 0 ≤ t ∧ t ≤ 90) → 6 ≤ (m 3 0).1 0 → Q (some (vi (-4))) (World κ (bmp m 11))) (k : ((0 ≤ x ∧ x < (m 2 0).1 4) ∧ (0 ≤ y ∧ y ≤ 99) ∧ 0 ≤ t ∧ t ≤ 90) → (m 3 0).1 0 < 6 → Q (some (vi ((m 3 0).1 0 + 1))) (World κ (mset m 3 0 (addR (m 3 0) x y t 0)))) : GG κ G_A_seen 2 0 0 [.ref (ad κ 0 0), vi x, vi y, vi t] (World κ m) Q := by
  obtain ⟨s0, s1, s2, s3, s4, s5, hfg, hkd, hsh, hgl⟩ := id hS
  refine GG.intro (ls := [some _, some _, some _, some _]) (Nat.le_of_ble_eq_true rfl) rfl (fun μ F => ?_)
  refine g_aload_n F a_A_seen_0 rfl ?_
  refine g_get_0_0 F a_A_seen_1 fl_A_10 ?_
  refine g_get_1_0 F a_A_seen_4 fl_A_74 (by first | assumption | decide | omega) ?_
  refine g_iload_n F a_A_seen_7 rfl ?_
  refine g_v1 F a_A_seen_8 vc_A_150 mk_H_hasMan (ob_2 (by first | assumption | decide | omega)) ck_2.1 rfl rfl (by decide) ⟨Nat.le_refl _, Nat.le_refl _⟩ rfl (Nat.le_of_ble_eq_true rfl) (sp_H_hasMan (i := 0) (D := D) (by decide) hS hD (by omega) (fun c8 => GCr.v ?_) (fun c8 => GCr.v ?_))
  · refine g_ifeq1 F a_A_seen_11 ?_
    refine g_iload_n F a_A_seen_14 rfl ?_
    refine g_iconst F a_A_seen_15 ?_
    refine g_bipush F a_A_seen_16 (by decide) ?_
    refine g_s3 F a_A_seen_18 sc_A_66 mk_A_within rfl (by decide) ⟨Nat.le_refl _, Nat.le_refl _⟩ rfl (Nat.le_of_ble_eq_true rfl) (sp_A_within (by omega) (by omega) (by omega) (fun c18 => GCr.v ?_) (fun c18 => GCr.v ?_))
    · refine g_ifeq1 F a_A_seen_21 ?_
      refine g_iload_n F a_A_seen_24 rfl ?_
      refine g_iconst F a_A_seen_25 ?_
      refine g_bipush F a_A_seen_26 (by decide) ?_
      refine g_s3 F a_A_seen_28 sc_A_66 mk_A_within rfl (by decide) ⟨Nat.le_refl _, Nat.le_refl _⟩ rfl (Nat.le_of_ble_eq_true rfl) (sp_A_within (by omega) (by omega) (by omega) (fun c28 => GCr.v ?_) (fun c28 => GCr.v ?_))
      · refine g_ifne1 F a_A_seen_31 ?_
        refine g_aload_n F a_A_seen_41 rfl ?_
        refine g_get_0_0 F a_A_seen_42 fl_A_10 ?_
        refine g_get_1_1 F a_A_seen_45 fl_A_214 (by first | assumption | decide | omega) ?_
        (try simp only [Nat.mul_zero, Nat.zero_add])
        refine g_v0 F a_A_seen_48 vc_A_218 mk_R_isFull (ob_3 (by first | assumption | decide | omega)) ck_3.1 rfl rfl (by decide) ⟨Nat.le_refl _, Nat.le_refl _⟩ rfl (Nat.le_of_ble_eq_true rfl) (sp_R_isFull (i := 0) (by decide) hR (fun c48 => GCr.v ?_) (fun c48 => GCr.v ?_))
        · refine g_ifeq1 F a_A_seen_51 ?_
          refine g_aload_n F a_A_seen_54 rfl ?_
          refine g_v0 F a_A_seen_55 vc_A_98 mk_A_full ob_0 ck_0.1 rfl rfl (by decide) ⟨Nat.le_refl _, Nat.le_refl _⟩ rfl (Nat.le_of_ble_eq_true rfl) (sp_A_full  (GCr.v ?_))
          refine g_goto F a_A_seen_58 ?_
          refine g_iret F a_A_seen_75 rfl ⟨Nat.le_refl _, Nat.le_refl _⟩ ?_
          first | exact kb (by omega) | exact kf (by omega) (by omega) | exact k (by omega) (by omega)
        · refine g_ifeq0 F a_A_seen_51 ?_
          refine g_aload_n F a_A_seen_61 rfl ?_
          refine g_get_0_0 F a_A_seen_62 fl_A_10 ?_
          refine g_get_1_1 F a_A_seen_65 fl_A_214 (by first | assumption | decide | omega) ?_
          (try simp only [Nat.mul_zero, Nat.zero_add])
          refine g_iload_n F a_A_seen_68 rfl ?_
          refine g_iload_n F a_A_seen_69 rfl ?_
          refine g_iload_n F a_A_seen_70 rfl ?_
          refine g_iconst F a_A_seen_71 ?_
          refine g_v4 F a_A_seen_72 vc_A_223 mk_R_add (ob_3 (by first | assumption | decide | omega)) ck_3.1 rfl rfl (by decide) ⟨Nat.le_refl _, Nat.le_refl _⟩ rfl (Nat.le_of_ble_eq_true rfl) (sp_R_add (i := 0) (by decide) hR (by omega) (GCr.v ?_))
          refine g_iret F a_A_seen_75 rfl ⟨Nat.le_refl _, Nat.le_refl _⟩ ?_
          first | exact kb (by omega) | exact kf (by omega) (by omega) | exact k (by omega) (by omega)
      · refine g_ifne0 F a_A_seen_31 ?_
        refine g_aload_n F a_A_seen_34 rfl ?_
        refine g_bipush F a_A_seen_35 (by decide) ?_
        refine g_v1 F a_A_seen_37 vc_A_70 mk_A_bad ob_0 ck_0.1 rfl rfl (by decide) ⟨Nat.le_refl _, Nat.le_refl _⟩ rfl (Nat.le_of_ble_eq_true rfl) (sp_A_bad  (GCr.v ?_))
        refine g_iret F a_A_seen_40 rfl ⟨Nat.le_refl _, Nat.le_refl _⟩ ?_
        first | exact kb (by omega) | exact kf (by omega) (by omega) | exact k (by omega) (by omega)
    · refine g_ifeq0 F a_A_seen_21 ?_
      refine g_aload_n F a_A_seen_34 rfl ?_
      refine g_bipush F a_A_seen_35 (by decide) ?_
      refine g_v1 F a_A_seen_37 vc_A_70 mk_A_bad ob_0 ck_0.1 rfl rfl (by decide) ⟨Nat.le_refl _, Nat.le_refl _⟩ rfl (Nat.le_of_ble_eq_true rfl) (sp_A_bad  (GCr.v ?_))
      refine g_iret F a_A_seen_40 rfl ⟨Nat.le_refl _, Nat.le_refl _⟩ ?_
      first | exact kb (by omega) | exact kf (by omega) (by omega) | exact k (by omega) (by omega)
  · refine g_ifeq0 F a_A_seen_11 ?_
    refine g_aload_n F a_A_seen_34 rfl ?_
    refine g_bipush F a_A_seen_35 (by decide) ?_
    refine g_v1 F a_A_seen_37 vc_A_70 mk_A_bad ob_0 ck_0.1 rfl rfl (by decide) ⟨Nat.le_refl _, Nat.le_refl _⟩ rfl (Nat.le_of_ble_eq_true rfl) (sp_A_bad  (GCr.v ?_))
    refine g_iret F a_A_seen_40 rfl ⟨Nat.le_refl _, Nat.le_refl _⟩ ?_
    first | exact kb (by omega) | exact kf (by omega) (by omega) | exact k (by omega) (by omega)
set_option maxHeartbeats 1000000 in
theorem sp_A_note {κ : Kx} {Q : Option Value → (Heap → Prop) → Prop} {m : Mem} {D : Int} (hS : okS D (m 2 0)) (hD : D ≤ 100000) {x y t u : Int} (hx : R32 x) (hy : R32 y) (ht : R32 t) (hu : R32 u) (hR : okR (m 3 1)) (kb : ¬ ((0 ≤ x ∧ x < (m 2 0).1 4) ∧ (0 ≤ y ∧ y ≤ 90) ∧ (0 ≤ t ∧ t ≤ 99) ∧ 0 ≤ u ∧ u ≤ 90) → Q (some (vi (-2))) (World κ (bmp m 9))) (kf : ((0 ≤ x ∧ x < (m 2 0).1 4) ∧ (0 ≤ y ∧ y ≤ 90) ∧ (0 ≤ t ∧ t ≤ 99) ∧ 0 ≤ u ∧ u ≤ 90) → 6 ≤ (m 3 1).1 0 → Q (some (vi (-4))) (World κ (bmp m 11))) (k : ((0 ≤ x ∧ x < (m 2 0).1 4) ∧ (0 ≤ y ∧ y ≤ 90) ∧ (0 ≤ t ∧ t ≤ 99) ∧ 0 ≤ u ∧ u ≤ 90) → (m 3 1).1 0 < 6 → Q (some (vi ((m 3 1).1 0 + 1))) (World κ (mset m 3 1 (addR (m 3 1) x y t u)))) : GG κ G_A_note 2 0 0 [.ref (ad κ 0 0), vi x, vi y, vi t, vi u] (World κ m) Q := by
  obtain ⟨s0, s1, s2, s3, s4, s5, hfg, hkd, hsh, hgl⟩ := id hS
  refine GG.intro (ls := [some _, some _, some _, some _, some _]) (Nat.le_of_ble_eq_true rfl) rfl (fun μ F => ?_)
  refine g_aload_n F a_A_note_0 rfl ?_
  refine g_get_0_0 F a_A_note_1 fl_A_10 ?_
  refine g_get_1_0 F a_A_note_4 fl_A_74 (by first | assumption | decide | omega) ?_
  refine g_iload_n F a_A_note_7 rfl ?_
  refine g_v1 F a_A_note_8 vc_A_150 mk_H_hasMan (ob_2 (by first | assumption | decide | omega)) ck_2.1 rfl rfl (by decide) ⟨Nat.le_refl _, Nat.le_refl _⟩ rfl (Nat.le_of_ble_eq_true rfl) (sp_H_hasMan (i := 0) (D := D) (by decide) hS hD (by omega) (fun c8 => GCr.v ?_) (fun c8 => GCr.v ?_))
  · refine g_ifeq1 F a_A_note_11 ?_
    refine g_iload_n F a_A_note_14 rfl ?_
    refine g_iconst F a_A_note_15 ?_
    refine g_bipush F a_A_note_16 (by decide) ?_
    refine g_s3 F a_A_note_18 sc_A_66 mk_A_within rfl (by decide) ⟨Nat.le_refl _, Nat.le_refl _⟩ rfl (Nat.le_of_ble_eq_true rfl) (sp_A_within (by omega) (by omega) (by omega) (fun c18 => GCr.v ?_) (fun c18 => GCr.v ?_))
    · refine g_ifeq1 F a_A_note_21 ?_
      refine g_iload_n F a_A_note_24 rfl ?_
      refine g_iconst F a_A_note_25 ?_
      refine g_bipush F a_A_note_26 (by decide) ?_
      refine g_s3 F a_A_note_28 sc_A_66 mk_A_within rfl (by decide) ⟨Nat.le_refl _, Nat.le_refl _⟩ rfl (Nat.le_of_ble_eq_true rfl) (sp_A_within (by omega) (by omega) (by omega) (fun c28 => GCr.v ?_) (fun c28 => GCr.v ?_))
      · refine g_ifeq1 F a_A_note_31 ?_
        refine g_iload F a_A_note_34 rfl ?_
        refine g_iconst F a_A_note_36 ?_
        refine g_bipush F a_A_note_37 (by decide) ?_
        refine g_s3 F a_A_note_39 sc_A_66 mk_A_within rfl (by decide) ⟨Nat.le_refl _, Nat.le_refl _⟩ rfl (Nat.le_of_ble_eq_true rfl) (sp_A_within (by omega) (by omega) (by omega) (fun c39 => GCr.v ?_) (fun c39 => GCr.v ?_))
        · refine g_ifne1 F a_A_note_42 ?_
          refine g_aload_n F a_A_note_52 rfl ?_
          refine g_get_0_0 F a_A_note_53 fl_A_10 ?_
          refine g_get_1_2 F a_A_note_56 fl_A_236 (by first | assumption | decide | omega) ?_
          (try simp only [Nat.mul_zero, Nat.zero_add])
          refine g_v0 F a_A_note_59 vc_A_218 mk_R_isFull (ob_3 (by first | assumption | decide | omega)) ck_3.1 rfl rfl (by decide) ⟨Nat.le_refl _, Nat.le_refl _⟩ rfl (Nat.le_of_ble_eq_true rfl) (sp_R_isFull (i := 1) (by decide) hR (fun c59 => GCr.v ?_) (fun c59 => GCr.v ?_))
          · refine g_ifeq1 F a_A_note_62 ?_
            refine g_aload_n F a_A_note_65 rfl ?_
            refine g_v0 F a_A_note_66 vc_A_98 mk_A_full ob_0 ck_0.1 rfl rfl (by decide) ⟨Nat.le_refl _, Nat.le_refl _⟩ rfl (Nat.le_of_ble_eq_true rfl) (sp_A_full  (GCr.v ?_))
            refine g_goto F a_A_note_69 ?_
            refine g_iret F a_A_note_87 rfl ⟨Nat.le_refl _, Nat.le_refl _⟩ ?_
            first | exact kb (by omega) | exact kf (by omega) (by omega) | exact k (by omega) (by omega)
          · refine g_ifeq0 F a_A_note_62 ?_
            refine g_aload_n F a_A_note_72 rfl ?_
            refine g_get_0_0 F a_A_note_73 fl_A_10 ?_
            refine g_get_1_2 F a_A_note_76 fl_A_236 (by first | assumption | decide | omega) ?_
            (try simp only [Nat.mul_zero, Nat.zero_add])
            refine g_iload_n F a_A_note_79 rfl ?_
            refine g_iload_n F a_A_note_80 rfl ?_
            refine g_iload_n F a_A_note_81 rfl ?_
            refine g_iload F a_A_note_82 rfl ?_
            refine g_v4 F a_A_note_84 vc_A_223 mk_R_add (ob_3 (by first | assumption | decide | omega)) ck_3.1 rfl rfl (by decide) ⟨Nat.le_refl _, Nat.le_refl _⟩ rfl (Nat.le_of_ble_eq_true rfl) (sp_R_add (i := 1) (by decide) hR (by omega) (GCr.v ?_))
            refine g_iret F a_A_note_87 rfl ⟨Nat.le_refl _, Nat.le_refl _⟩ ?_
            first | exact kb (by omega) | exact kf (by omega) (by omega) | exact k (by omega) (by omega)
        · refine g_ifne0 F a_A_note_42 ?_
          refine g_aload_n F a_A_note_45 rfl ?_
          refine g_bipush F a_A_note_46 (by decide) ?_
          refine g_v1 F a_A_note_48 vc_A_70 mk_A_bad ob_0 ck_0.1 rfl rfl (by decide) ⟨Nat.le_refl _, Nat.le_refl _⟩ rfl (Nat.le_of_ble_eq_true rfl) (sp_A_bad  (GCr.v ?_))
          refine g_iret F a_A_note_51 rfl ⟨Nat.le_refl _, Nat.le_refl _⟩ ?_
          first | exact kb (by omega) | exact kf (by omega) (by omega) | exact k (by omega) (by omega)
      · refine g_ifeq0 F a_A_note_31 ?_
        refine g_aload_n F a_A_note_45 rfl ?_
        refine g_bipush F a_A_note_46 (by decide) ?_
        refine g_v1 F a_A_note_48 vc_A_70 mk_A_bad ob_0 ck_0.1 rfl rfl (by decide) ⟨Nat.le_refl _, Nat.le_refl _⟩ rfl (Nat.le_of_ble_eq_true rfl) (sp_A_bad  (GCr.v ?_))
        refine g_iret F a_A_note_51 rfl ⟨Nat.le_refl _, Nat.le_refl _⟩ ?_
        first | exact kb (by omega) | exact kf (by omega) (by omega) | exact k (by omega) (by omega)
    · refine g_ifeq0 F a_A_note_21 ?_
      refine g_aload_n F a_A_note_45 rfl ?_
      refine g_bipush F a_A_note_46 (by decide) ?_
      refine g_v1 F a_A_note_48 vc_A_70 mk_A_bad ob_0 ck_0.1 rfl rfl (by decide) ⟨Nat.le_refl _, Nat.le_refl _⟩ rfl (Nat.le_of_ble_eq_true rfl) (sp_A_bad  (GCr.v ?_))
      refine g_iret F a_A_note_51 rfl ⟨Nat.le_refl _, Nat.le_refl _⟩ ?_
      first | exact kb (by omega) | exact kf (by omega) (by omega) | exact k (by omega) (by omega)
  · refine g_ifeq0 F a_A_note_11 ?_
    refine g_aload_n F a_A_note_45 rfl ?_
    refine g_bipush F a_A_note_46 (by decide) ?_
    refine g_v1 F a_A_note_48 vc_A_70 mk_A_bad ob_0 ck_0.1 rfl rfl (by decide) ⟨Nat.le_refl _, Nat.le_refl _⟩ rfl (Nat.le_of_ble_eq_true rfl) (sp_A_bad  (GCr.v ?_))
    refine g_iret F a_A_note_51 rfl ⟨Nat.le_refl _, Nat.le_refl _⟩ ?_
    first | exact kb (by omega) | exact kf (by omega) (by omega) | exact k (by omega) (by omega)
set_option maxHeartbeats 1000000 in
theorem sp_A_mark {κ : Kx} {Q : Option Value → (Heap → Prop) → Prop} {m : Mem} {D : Int} (hS : okS D (m 2 0)) (hD : D ≤ 100000) {x y t u : Int} (hx : R32 x) (hy : R32 y) (ht : R32 t) (hu : R32 u) (hR : okR (m 3 2)) (kb : ¬ ((0 ≤ x ∧ x < (m 2 0).1 5) ∧ (0 ≤ y ∧ y ≤ 90) ∧ (0 ≤ t ∧ t ≤ 99) ∧ 0 ≤ u ∧ u ≤ 99) → Q (some (vi (-2))) (World κ (bmp m 9))) (kf : ((0 ≤ x ∧ x < (m 2 0).1 5) ∧ (0 ≤ y ∧ y ≤ 90) ∧ (0 ≤ t ∧ t ≤ 99) ∧ 0 ≤ u ∧ u ≤ 99) → 6 ≤ (m 3 2).1 0 → Q (some (vi (-4))) (World κ (bmp m 11))) (k : ((0 ≤ x ∧ x < (m 2 0).1 5) ∧ (0 ≤ y ∧ y ≤ 90) ∧ (0 ≤ t ∧ t ≤ 99) ∧ 0 ≤ u ∧ u ≤ 99) → (m 3 2).1 0 < 6 → Q (some (vi ((m 3 2).1 0 + 1))) (World κ (mset m 3 2 (addR (m 3 2) x y t u)))) : GG κ G_A_mark 2 0 0 [.ref (ad κ 0 0), vi x, vi y, vi t, vi u] (World κ m) Q := by
  obtain ⟨s0, s1, s2, s3, s4, s5, hfg, hkd, hsh, hgl⟩ := id hS
  refine GG.intro (ls := [some _, some _, some _, some _, some _]) (Nat.le_of_ble_eq_true rfl) rfl (fun μ F => ?_)
  refine g_aload_n F a_A_mark_0 rfl ?_
  refine g_get_0_0 F a_A_mark_1 fl_A_10 ?_
  refine g_get_1_0 F a_A_mark_4 fl_A_74 (by first | assumption | decide | omega) ?_
  refine g_iload_n F a_A_mark_7 rfl ?_
  refine g_v1 F a_A_mark_8 vc_A_131 mk_H_hasReader (ob_2 (by first | assumption | decide | omega)) ck_2.1 rfl rfl (by decide) ⟨Nat.le_refl _, Nat.le_refl _⟩ rfl (Nat.le_of_ble_eq_true rfl) (sp_H_hasReader (i := 0) (D := D) (by decide) hS hD (by omega) (fun c8 => GCr.v ?_) (fun c8 => GCr.v ?_))
  · refine g_ifeq1 F a_A_mark_11 ?_
    refine g_iload_n F a_A_mark_14 rfl ?_
    refine g_iconst F a_A_mark_15 ?_
    refine g_bipush F a_A_mark_16 (by decide) ?_
    refine g_s3 F a_A_mark_18 sc_A_66 mk_A_within rfl (by decide) ⟨Nat.le_refl _, Nat.le_refl _⟩ rfl (Nat.le_of_ble_eq_true rfl) (sp_A_within (by omega) (by omega) (by omega) (fun c18 => GCr.v ?_) (fun c18 => GCr.v ?_))
    · refine g_ifeq1 F a_A_mark_21 ?_
      refine g_iload_n F a_A_mark_24 rfl ?_
      refine g_iconst F a_A_mark_25 ?_
      refine g_bipush F a_A_mark_26 (by decide) ?_
      refine g_s3 F a_A_mark_28 sc_A_66 mk_A_within rfl (by decide) ⟨Nat.le_refl _, Nat.le_refl _⟩ rfl (Nat.le_of_ble_eq_true rfl) (sp_A_within (by omega) (by omega) (by omega) (fun c28 => GCr.v ?_) (fun c28 => GCr.v ?_))
      · refine g_ifeq1 F a_A_mark_31 ?_
        refine g_iload F a_A_mark_34 rfl ?_
        refine g_iconst F a_A_mark_36 ?_
        refine g_bipush F a_A_mark_37 (by decide) ?_
        refine g_s3 F a_A_mark_39 sc_A_66 mk_A_within rfl (by decide) ⟨Nat.le_refl _, Nat.le_refl _⟩ rfl (Nat.le_of_ble_eq_true rfl) (sp_A_within (by omega) (by omega) (by omega) (fun c39 => GCr.v ?_) (fun c39 => GCr.v ?_))
        · refine g_ifne1 F a_A_mark_42 ?_
          refine g_aload_n F a_A_mark_52 rfl ?_
          refine g_get_0_0 F a_A_mark_53 fl_A_10 ?_
          refine g_get_1_3 F a_A_mark_56 fl_A_239 (by first | assumption | decide | omega) ?_
          (try simp only [Nat.mul_zero, Nat.zero_add])
          refine g_v0 F a_A_mark_59 vc_A_218 mk_R_isFull (ob_3 (by first | assumption | decide | omega)) ck_3.1 rfl rfl (by decide) ⟨Nat.le_refl _, Nat.le_refl _⟩ rfl (Nat.le_of_ble_eq_true rfl) (sp_R_isFull (i := 2) (by decide) hR (fun c59 => GCr.v ?_) (fun c59 => GCr.v ?_))
          · refine g_ifeq1 F a_A_mark_62 ?_
            refine g_aload_n F a_A_mark_65 rfl ?_
            refine g_v0 F a_A_mark_66 vc_A_98 mk_A_full ob_0 ck_0.1 rfl rfl (by decide) ⟨Nat.le_refl _, Nat.le_refl _⟩ rfl (Nat.le_of_ble_eq_true rfl) (sp_A_full  (GCr.v ?_))
            refine g_goto F a_A_mark_69 ?_
            refine g_iret F a_A_mark_87 rfl ⟨Nat.le_refl _, Nat.le_refl _⟩ ?_
            first | exact kb (by omega) | exact kf (by omega) (by omega) | exact k (by omega) (by omega)
          · refine g_ifeq0 F a_A_mark_62 ?_
            refine g_aload_n F a_A_mark_72 rfl ?_
            refine g_get_0_0 F a_A_mark_73 fl_A_10 ?_
            refine g_get_1_3 F a_A_mark_76 fl_A_239 (by first | assumption | decide | omega) ?_
            (try simp only [Nat.mul_zero, Nat.zero_add])
            refine g_iload_n F a_A_mark_79 rfl ?_
            refine g_iload_n F a_A_mark_80 rfl ?_
            refine g_iload_n F a_A_mark_81 rfl ?_
            refine g_iload F a_A_mark_82 rfl ?_
            refine g_v4 F a_A_mark_84 vc_A_223 mk_R_add (ob_3 (by first | assumption | decide | omega)) ck_3.1 rfl rfl (by decide) ⟨Nat.le_refl _, Nat.le_refl _⟩ rfl (Nat.le_of_ble_eq_true rfl) (sp_R_add (i := 2) (by decide) hR (by omega) (GCr.v ?_))
            refine g_iret F a_A_mark_87 rfl ⟨Nat.le_refl _, Nat.le_refl _⟩ ?_
            first | exact kb (by omega) | exact kf (by omega) (by omega) | exact k (by omega) (by omega)
        · refine g_ifne0 F a_A_mark_42 ?_
          refine g_aload_n F a_A_mark_45 rfl ?_
          refine g_bipush F a_A_mark_46 (by decide) ?_
          refine g_v1 F a_A_mark_48 vc_A_70 mk_A_bad ob_0 ck_0.1 rfl rfl (by decide) ⟨Nat.le_refl _, Nat.le_refl _⟩ rfl (Nat.le_of_ble_eq_true rfl) (sp_A_bad  (GCr.v ?_))
          refine g_iret F a_A_mark_51 rfl ⟨Nat.le_refl _, Nat.le_refl _⟩ ?_
          first | exact kb (by omega) | exact kf (by omega) (by omega) | exact k (by omega) (by omega)
      · refine g_ifeq0 F a_A_mark_31 ?_
        refine g_aload_n F a_A_mark_45 rfl ?_
        refine g_bipush F a_A_mark_46 (by decide) ?_
        refine g_v1 F a_A_mark_48 vc_A_70 mk_A_bad ob_0 ck_0.1 rfl rfl (by decide) ⟨Nat.le_refl _, Nat.le_refl _⟩ rfl (Nat.le_of_ble_eq_true rfl) (sp_A_bad  (GCr.v ?_))
        refine g_iret F a_A_mark_51 rfl ⟨Nat.le_refl _, Nat.le_refl _⟩ ?_
        first | exact kb (by omega) | exact kf (by omega) (by omega) | exact k (by omega) (by omega)
    · refine g_ifeq0 F a_A_mark_21 ?_
      refine g_aload_n F a_A_mark_45 rfl ?_
      refine g_bipush F a_A_mark_46 (by decide) ?_
      refine g_v1 F a_A_mark_48 vc_A_70 mk_A_bad ob_0 ck_0.1 rfl rfl (by decide) ⟨Nat.le_refl _, Nat.le_refl _⟩ rfl (Nat.le_of_ble_eq_true rfl) (sp_A_bad  (GCr.v ?_))
      refine g_iret F a_A_mark_51 rfl ⟨Nat.le_refl _, Nat.le_refl _⟩ ?_
      first | exact kb (by omega) | exact kf (by omega) (by omega) | exact k (by omega) (by omega)
  · refine g_ifeq0 F a_A_mark_11 ?_
    refine g_aload_n F a_A_mark_45 rfl ?_
    refine g_bipush F a_A_mark_46 (by decide) ?_
    refine g_v1 F a_A_mark_48 vc_A_70 mk_A_bad ob_0 ck_0.1 rfl rfl (by decide) ⟨Nat.le_refl _, Nat.le_refl _⟩ rfl (Nat.le_of_ble_eq_true rfl) (sp_A_bad  (GCr.v ?_))
    refine g_iret F a_A_mark_51 rfl ⟨Nat.le_refl _, Nat.le_refl _⟩ ?_
    first | exact kb (by omega) | exact kf (by omega) (by omega) | exact k (by omega) (by omega)
set_option maxHeartbeats 1000000 in
theorem sp_A_is {κ : Kx} {Q : Option Value → (Heap → Prop) → Prop} {m : Mem} {D : Int} (hS : okS D (m 2 0)) (hD : D ≤ 100000) {x : Int} (hx : R32 x) (hR : okR (m 3 1)) (hv : ∀ t : Int, 0 ≤ t ∧ t < (m 3 1).1 0 → (m 3 1).2 0 (t * 4 + 1) ≤ 90) (kb : ¬ (0 ≤ x ∧ x < (m 2 0).1 4) → Q (some (vi (-2))) (World κ (bmp m 9))) (k : (0 ≤ x ∧ x < (m 2 0).1 4) → Q (some (vi (kfN (m 3 1) x 1 6))) (World κ m)) : GG κ G_A_is 4 0 0 [.ref (ad κ 0 0), vi x] (World κ m) Q := by
  obtain ⟨s0, s1, s2, s3, s4, s5, hfg, hkd, hsh, hgl⟩ := id hS
  refine GG.intro (ls := [some _, some _]) (Nat.le_of_ble_eq_true rfl) rfl (fun μ F => ?_)
  refine g_aload_n F a_A_is_0 rfl ?_
  refine g_get_0_0 F a_A_is_1 fl_A_10 ?_
  refine g_get_1_0 F a_A_is_4 fl_A_74 (by first | assumption | decide | omega) ?_
  refine g_iload_n F a_A_is_7 rfl ?_
  refine g_v1 F a_A_is_8 vc_A_150 mk_H_hasMan (ob_2 (by first | assumption | decide | omega)) ck_2.1 rfl rfl (by decide) ⟨Nat.le_refl _, Nat.le_refl _⟩ rfl (Nat.le_of_ble_eq_true rfl) (sp_H_hasMan (i := 0) (D := D) (by decide) hS hD (by omega) (fun c8 => GCr.v ?_) (fun c8 => GCr.v ?_))
  · refine g_ifne1 F a_A_is_11 ?_
    refine g_aload_n F a_A_is_21 rfl ?_
    refine g_get_0_0 F a_A_is_22 fl_A_10 ?_
    refine g_get_1_2 F a_A_is_25 fl_A_236 (by first | assumption | decide | omega) ?_
    (try simp only [Nat.mul_zero, Nat.zero_add])
    refine g_iload_n F a_A_is_28 rfl ?_
    refine g_iconst F a_A_is_29 ?_
    refine g_s3 F a_A_is_30 sc_A_245 mk_G_kindsThatFit rfl (by decide) ⟨Nat.le_refl _, Nat.le_refl _⟩ rfl (Nat.le_of_ble_eq_true rfl) (sp_G_kindsThatFit (i := 1) (by decide) hR (by omega) (by omega) hv (GCr.v ?_))
    refine g_iret F a_A_is_33 rfl ⟨Nat.le_refl _, Nat.le_refl _⟩ ?_
    first | exact kb (by omega) | exact k (by omega)
  · refine g_ifne0 F a_A_is_11 ?_
    refine g_aload_n F a_A_is_14 rfl ?_
    refine g_bipush F a_A_is_15 (by decide) ?_
    refine g_v1 F a_A_is_17 vc_A_70 mk_A_bad ob_0 ck_0.1 rfl rfl (by decide) ⟨Nat.le_refl _, Nat.le_refl _⟩ rfl (Nat.le_of_ble_eq_true rfl) (sp_A_bad  (GCr.v ?_))
    refine g_iret F a_A_is_20 rfl ⟨Nat.le_refl _, Nat.le_refl _⟩ ?_
    first | exact kb (by omega) | exact k (by omega)
set_option maxHeartbeats 1000000 in
theorem sp_A_kinds {κ : Kx} {Q : Option Value → (Heap → Prop) → Prop} {m : Mem} {D : Int} (hS : okS D (m 2 0)) (hD : D ≤ 100000) {x : Int} (hx : R32 x) (hR : okR (m 3 2)) (hv : ∀ t : Int, 0 ≤ t ∧ t < (m 3 2).1 0 → (m 3 2).2 0 (t * 4 + 1) ≤ 90) (kb : ¬ (0 ≤ x ∧ x < (m 2 0).1 5) → Q (some (vi (-2))) (World κ (bmp m 9))) (k : (0 ≤ x ∧ x < (m 2 0).1 5) → Q (some (vi (kfN (m 3 2) x 0 6))) (World κ m)) : GG κ G_A_kinds 4 0 0 [.ref (ad κ 0 0), vi x] (World κ m) Q := by
  obtain ⟨s0, s1, s2, s3, s4, s5, hfg, hkd, hsh, hgl⟩ := id hS
  refine GG.intro (ls := [some _, some _]) (Nat.le_of_ble_eq_true rfl) rfl (fun μ F => ?_)
  refine g_aload_n F a_A_kinds_0 rfl ?_
  refine g_get_0_0 F a_A_kinds_1 fl_A_10 ?_
  refine g_get_1_0 F a_A_kinds_4 fl_A_74 (by first | assumption | decide | omega) ?_
  refine g_iload_n F a_A_kinds_7 rfl ?_
  refine g_v1 F a_A_kinds_8 vc_A_131 mk_H_hasReader (ob_2 (by first | assumption | decide | omega)) ck_2.1 rfl rfl (by decide) ⟨Nat.le_refl _, Nat.le_refl _⟩ rfl (Nat.le_of_ble_eq_true rfl) (sp_H_hasReader (i := 0) (D := D) (by decide) hS hD (by omega) (fun c8 => GCr.v ?_) (fun c8 => GCr.v ?_))
  · refine g_ifne1 F a_A_kinds_11 ?_
    refine g_aload_n F a_A_kinds_21 rfl ?_
    refine g_get_0_0 F a_A_kinds_22 fl_A_10 ?_
    refine g_get_1_3 F a_A_kinds_25 fl_A_239 (by first | assumption | decide | omega) ?_
    (try simp only [Nat.mul_zero, Nat.zero_add])
    refine g_iload_n F a_A_kinds_28 rfl ?_
    refine g_iconst F a_A_kinds_29 ?_
    refine g_s3 F a_A_kinds_30 sc_A_245 mk_G_kindsThatFit rfl (by decide) ⟨Nat.le_refl _, Nat.le_refl _⟩ rfl (Nat.le_of_ble_eq_true rfl) (sp_G_kindsThatFit (i := 2) (by decide) hR (by omega) (by omega) hv (GCr.v ?_))
    refine g_iret F a_A_kinds_33 rfl ⟨Nat.le_refl _, Nat.le_refl _⟩ ?_
    first | exact kb (by omega) | exact k (by omega)
  · refine g_ifne0 F a_A_kinds_11 ?_
    refine g_aload_n F a_A_kinds_14 rfl ?_
    refine g_bipush F a_A_kinds_15 (by decide) ?_
    refine g_v1 F a_A_kinds_17 vc_A_70 mk_A_bad ob_0 ck_0.1 rfl rfl (by decide) ⟨Nat.le_refl _, Nat.le_refl _⟩ rfl (Nat.le_of_ble_eq_true rfl) (sp_A_bad  (GCr.v ?_))
    refine g_iret F a_A_kinds_20 rfl ⟨Nat.le_refl _, Nat.le_refl _⟩ ?_
    first | exact kb (by omega) | exact k (by omega)
set_option maxHeartbeats 1000000 in
theorem sp_A_look {κ : Kx} {Q : Option Value → (Heap → Prop) → Prop} {m : Mem} {D : Int} (hS : okS D (m 2 0)) (hD : D ≤ 100000) {x : Int} (hx : R32 x) (hR : okR (m 3 1)) (hv : ∀ t : Int, 0 ≤ t ∧ t < (m 3 1).1 0 → (m 3 1).2 0 (t * 4 + 1) ≤ 90) (kb : ¬ (0 ≤ x ∧ x < (m 2 0).1 4) → Q (some (vi (-2))) (World κ (bmp m 9))) (k : (0 ≤ x ∧ x < (m 2 0).1 4) → ∀ g : Int → Int, Q (some (vi (lookA (kfN (m 3 1) x 1 6)))) (World κ (mset m 8 0 ((m 8 0).1, aup (m 8 0).2 0 g)))) : GG κ G_A_look 4 0 0 [.ref (ad κ 0 0), vi x] (World κ m) Q := by
  obtain ⟨s0, s1, s2, s3, s4, s5, hfg, hkd, hsh, hgl⟩ := id hS
  have hk6 : 0 ≤ (kfN (m 3 1) x 1 6) ∧ (kfN (m 3 1) x 1 6) < 64 := kfN_r (m 3 1) x 1 6
  refine GG.intro (ls := [some _, some _]) (Nat.le_of_ble_eq_true rfl) rfl (fun μ F => ?_)
  refine g_aload_n F a_A_look_0 rfl ?_
  refine g_get_0_0 F a_A_look_1 fl_A_10 ?_
  refine g_get_1_0 F a_A_look_4 fl_A_74 (by first | assumption | decide | omega) ?_
  refine g_iload_n F a_A_look_7 rfl ?_
  refine g_v1 F a_A_look_8 vc_A_150 mk_H_hasMan (ob_2 (by first | assumption | decide | omega)) ck_2.1 rfl rfl (by decide) ⟨Nat.le_refl _, Nat.le_refl _⟩ rfl (Nat.le_of_ble_eq_true rfl) (sp_H_hasMan (i := 0) (D := D) (by decide) hS hD (by omega) (fun c8 => GCr.v ?_) (fun c8 => GCr.v ?_))
  · refine g_ifne1 F a_A_look_11 ?_
    refine g_aload_n F a_A_look_21 rfl ?_
    refine g_get_0_7 F a_A_look_22 fl_A_55 ?_
    refine g_aload_n F a_A_look_25 rfl ?_
    refine g_get_0_0 F a_A_look_26 fl_A_10 ?_
    refine g_get_1_2 F a_A_look_29 fl_A_236 (by first | assumption | decide | omega) ?_
    (try simp only [Nat.mul_zero, Nat.zero_add])
    refine g_iload_n F a_A_look_32 rfl ?_
    refine g_iconst F a_A_look_33 ?_
    refine g_s3 F a_A_look_34 sc_A_245 mk_G_kindsThatFit rfl (by decide) ⟨Nat.le_refl _, Nat.le_refl _⟩ rfl (Nat.le_of_ble_eq_true rfl) (sp_G_kindsThatFit (i := 1) (by decide) hR (by omega) (by omega) hv (GCr.v ?_))
    refine g_v1 F a_A_look_37 vc_A_249 mk_G_nextLook ob_8 ck_8.1 rfl rfl (by decide) ⟨Nat.le_refl _, Nat.le_refl _⟩ rfl (Nat.le_of_ble_eq_true rfl) (sp_G_nextLook hk6 (fun g9 => (GCr.v ?_)))
    (try simp only [mset_app, mset_mset, fup_app, aup_app, fup_fup, aup_aup, false_and, and_false, true_and, and_true, and_self, reduceIte, Nat.reduceEqDiff, reduceCtorEq, fup_10])
    refine g_iret F a_A_look_40 rfl ⟨Nat.le_refl _, Nat.le_refl _⟩ ?_
    first | exact kb (by omega) | exact k (by omega) g9
  · refine g_ifne0 F a_A_look_11 ?_
    refine g_aload_n F a_A_look_14 rfl ?_
    refine g_bipush F a_A_look_15 (by decide) ?_
    refine g_v1 F a_A_look_17 vc_A_70 mk_A_bad ob_0 ck_0.1 rfl rfl (by decide) ⟨Nat.le_refl _, Nat.le_refl _⟩ rfl (Nat.le_of_ble_eq_true rfl) (sp_A_bad  (GCr.v ?_))
    refine g_iret F a_A_look_20 rfl ⟨Nat.le_refl _, Nat.le_refl _⟩ ?_
    first | exact kb (by omega) | exact k (by omega) g9
set_option maxHeartbeats 1000000 in
theorem sp_A_ask {κ : Kx} {Q : Option Value → (Heap → Prop) → Prop} {m : Mem} {D : Int} (hS : okS D (m 2 0)) (hD : D ≤ 100000) {x : Int} (hx : R32 x) (hR : okR (m 3 2)) (hv : ∀ t : Int, 0 ≤ t ∧ t < (m 3 2).1 0 → (m 3 2).2 0 (t * 4 + 1) ≤ 90) (kb : ¬ (0 ≤ x ∧ x < (m 2 0).1 5) → Q (some (vi (-2))) (World κ (bmp m 9))) (k : (0 ≤ x ∧ x < (m 2 0).1 5) → ∀ g : Int → Int, Q (some (vi (askA (kfN (m 3 2) x 0 6)))) (World κ (mset m 8 0 ((m 8 0).1, aup (m 8 0).2 0 g)))) : GG κ G_A_ask 4 0 0 [.ref (ad κ 0 0), vi x] (World κ m) Q := by
  obtain ⟨s0, s1, s2, s3, s4, s5, hfg, hkd, hsh, hgl⟩ := id hS
  have hk6 : 0 ≤ (kfN (m 3 2) x 0 6) ∧ (kfN (m 3 2) x 0 6) < 64 := kfN_r (m 3 2) x 0 6
  refine GG.intro (ls := [some _, some _]) (Nat.le_of_ble_eq_true rfl) rfl (fun μ F => ?_)
  refine g_aload_n F a_A_ask_0 rfl ?_
  refine g_get_0_0 F a_A_ask_1 fl_A_10 ?_
  refine g_get_1_0 F a_A_ask_4 fl_A_74 (by first | assumption | decide | omega) ?_
  refine g_iload_n F a_A_ask_7 rfl ?_
  refine g_v1 F a_A_ask_8 vc_A_131 mk_H_hasReader (ob_2 (by first | assumption | decide | omega)) ck_2.1 rfl rfl (by decide) ⟨Nat.le_refl _, Nat.le_refl _⟩ rfl (Nat.le_of_ble_eq_true rfl) (sp_H_hasReader (i := 0) (D := D) (by decide) hS hD (by omega) (fun c8 => GCr.v ?_) (fun c8 => GCr.v ?_))
  · refine g_ifne1 F a_A_ask_11 ?_
    refine g_aload_n F a_A_ask_21 rfl ?_
    refine g_get_0_7 F a_A_ask_22 fl_A_55 ?_
    refine g_aload_n F a_A_ask_25 rfl ?_
    refine g_get_0_0 F a_A_ask_26 fl_A_10 ?_
    refine g_get_1_3 F a_A_ask_29 fl_A_239 (by first | assumption | decide | omega) ?_
    (try simp only [Nat.mul_zero, Nat.zero_add])
    refine g_iload_n F a_A_ask_32 rfl ?_
    refine g_iconst F a_A_ask_33 ?_
    refine g_s3 F a_A_ask_34 sc_A_245 mk_G_kindsThatFit rfl (by decide) ⟨Nat.le_refl _, Nat.le_refl _⟩ rfl (Nat.le_of_ble_eq_true rfl) (sp_G_kindsThatFit (i := 2) (by decide) hR (by omega) (by omega) hv (GCr.v ?_))
    refine g_v1 F a_A_ask_37 vc_A_252 mk_G_nextAsk ob_8 ck_8.1 rfl rfl (by decide) ⟨Nat.le_refl _, Nat.le_refl _⟩ rfl (Nat.le_of_ble_eq_true rfl) (sp_G_nextAsk hk6 (fun g9 => (GCr.v ?_)))
    (try simp only [mset_app, mset_mset, fup_app, aup_app, fup_fup, aup_aup, false_and, and_false, true_and, and_true, and_self, reduceIte, Nat.reduceEqDiff, reduceCtorEq, fup_10])
    refine g_iret F a_A_ask_40 rfl ⟨Nat.le_refl _, Nat.le_refl _⟩ ?_
    first | exact kb (by omega) | exact k (by omega) g9
  · refine g_ifne0 F a_A_ask_11 ?_
    refine g_aload_n F a_A_ask_14 rfl ?_
    refine g_bipush F a_A_ask_15 (by decide) ?_
    refine g_v1 F a_A_ask_17 vc_A_70 mk_A_bad ob_0 ck_0.1 rfl rfl (by decide) ⟨Nat.le_refl _, Nat.le_refl _⟩ rfl (Nat.le_of_ble_eq_true rfl) (sp_A_bad  (GCr.v ?_))
    refine g_iret F a_A_ask_20 rfl ⟨Nat.le_refl _, Nat.le_refl _⟩ ?_
    first | exact kb (by omega) | exact k (by omega) g9
set_option maxHeartbeats 1000000 in
theorem sp_A_slips {κ : Kx} {Q : Option Value → (Heap → Prop) → Prop} {m : Mem} {D : Int} (hS : okS D (m 2 0)) (hD : D ≤ 100000) {x y t : Int} (hx : R32 x) (hy : R32 y) (ht : R32 t) (kb : ¬ ((0 ≤ x ∧ x < 2 ^ ((m 2 0).1 4).toNat) ∧ (0 ≤ y ∧ y < (m 2 0).1 5) ∧ 0 ≤ t ∧ t ≤ 10) → Q (some (vi (-2))) (World κ (bmp m 9))) (k1 : (0 ≤ x ∧ x < 2 ^ ((m 2 0).1 4).toNat) → (0 ≤ y ∧ y < (m 2 0).1 5) → (0 ≤ t ∧ t ≤ 10) → fogB (m 2 0) → Q (some (vi 1)) (World κ (mset m 9 0 (fup (fup (m 9 0).1 0 1) 1 1, (m 9 0).2)))) (k : (0 ≤ x ∧ x < 2 ^ ((m 2 0).1 4).toNat) → (0 ≤ y ∧ y < (m 2 0).1 5) → (0 ≤ t ∧ t ≤ 10) → ¬ fogB (m 2 0) → Q (some (vi 1)) (World κ (mset m 9 0 (fup (fup (m 9 0).1 0 (slA (bc x) (-errS (m 2 0) x y) t)) 1 (slB (bc x) (-errS (m 2 0) x y) t), (m 9 0).2)))) : GG κ G_A_slips 2 0 0 [.ref (ad κ 0 0), vi x, vi y, vi t] (World κ m) Q := by
  obtain ⟨s0, s1, s2, s3, s4, s5, hfg, hkd, hsh, hgl⟩ := id hS
  have hset6 : (0 ≤ x ∧ x < 2 ^ ((m 2 0).1 4).toNat) → 0 ≤ x ∧ x < 64 := fun h => by have := p64 (n := ((m 2 0).1 4).toNat) (by omega); omega
  refine GG.intro (ls := [some _, some _, some _, some _, none]) (Nat.le_of_ble_eq_true rfl) rfl (fun μ F => ?_)
  refine g_aload_n F a_A_slips_0 rfl ?_
  refine g_get_0_0 F a_A_slips_1 fl_A_10 ?_
  refine g_get_1_0 F a_A_slips_4 fl_A_74 (by first | assumption | decide | omega) ?_
  refine g_astore (ls' := [_, _, _, _, _]) F a_A_slips_7 rfl rfl rfl ?_
  refine g_aload F a_A_slips_9 rfl ?_
  refine g_iload_n F a_A_slips_11 rfl ?_
  refine g_v1 F a_A_slips_12 vc_A_127 mk_H_hasSet (ob_2 (by first | assumption | decide | omega)) ck_2.1 rfl rfl (by decide) ⟨Nat.le_refl _, Nat.le_refl _⟩ rfl (Nat.le_of_ble_eq_true rfl) (sp_H_hasSet (i := 0) (D := D) (by decide) hS hD (by omega) (fun c12 => GCr.v ?_) (fun c12 => GCr.v ?_))
  · refine g_ifeq1 F a_A_slips_15 ?_
    refine g_aload F a_A_slips_18 rfl ?_
    refine g_iload_n F a_A_slips_20 rfl ?_
    refine g_v1 F a_A_slips_21 vc_A_131 mk_H_hasReader (ob_2 (by first | assumption | decide | omega)) ck_2.1 rfl rfl (by decide) ⟨Nat.le_refl _, Nat.le_refl _⟩ rfl (Nat.le_of_ble_eq_true rfl) (sp_H_hasReader (i := 0) (D := D) (by decide) hS hD (by omega) (fun c21 => GCr.v ?_) (fun c21 => GCr.v ?_))
    · refine g_ifeq1 F a_A_slips_24 ?_
      refine g_iload_n F a_A_slips_27 rfl ?_
      refine g_iconst F a_A_slips_28 ?_
      refine g_bipush F a_A_slips_29 (by decide) ?_
      refine g_s3 F a_A_slips_31 sc_A_66 mk_A_within rfl (by decide) ⟨Nat.le_refl _, Nat.le_refl _⟩ rfl (Nat.le_of_ble_eq_true rfl) (sp_A_within (by omega) (by omega) (by omega) (fun c31 => GCr.v ?_) (fun c31 => GCr.v ?_))
      · refine g_ifne1 F a_A_slips_34 ?_
        refine g_aload F a_A_slips_44 rfl ?_
        refine g_v0 F a_A_slips_46 vc_A_165 mk_H_foggy (ob_2 (by first | assumption | decide | omega)) ck_2.1 rfl rfl (by decide) ⟨Nat.le_refl _, Nat.le_refl _⟩ rfl (Nat.le_of_ble_eq_true rfl) (sp_H_foggy (i := 0) (D := D) (by decide) hS hD (fun c46 => GCr.v ?_) (fun c46 => GCr.v ?_))
        · refine g_ifeq1 F a_A_slips_49 ?_
          refine g_aload_n F a_A_slips_52 rfl ?_
          refine g_get_0_8 F a_A_slips_53 fl_A_62 ?_
          refine g_v0 F a_A_slips_56 vc_A_258 mk_C_setSure ob_9 ck_9.1 rfl rfl (by decide) ⟨Nat.le_refl _, Nat.le_refl _⟩ rfl (Nat.le_of_ble_eq_true rfl) (sp_C_setSure  (GCr.n ?_))
          (try simp only [mset_app, mset_mset, fup_app, aup_app, fup_fup, aup_aup, false_and, and_false, true_and, and_true, and_self, reduceIte, Nat.reduceEqDiff, reduceCtorEq, fup_10])
          refine g_goto F a_A_slips_59 ?_
          refine g_iconst F a_A_slips_82 ?_
          refine g_iret F a_A_slips_83 rfl ⟨Nat.le_refl _, Nat.le_refl _⟩ ?_
          first | exact kb (fun q => absurd q.1 (by assumption)) | exact kb (fun q => absurd q.2.1 (by assumption)) | exact kb (fun q => absurd q.2.2 (by assumption)) | exact k1 (by assumption) (by assumption) (by assumption) (by assumption) | exact k (by assumption) (by assumption) (by assumption) (by assumption)
        · refine g_ifeq0 F a_A_slips_49 ?_
          refine g_aload_n F a_A_slips_62 rfl ?_
          refine g_get_0_8 F a_A_slips_63 fl_A_62 ?_
          refine g_iload_n F a_A_slips_66 rfl ?_
          refine g_s1 F a_A_slips_67 sc_A_261 mk_J_bitCount rfl (by decide) ⟨Nat.le_refl _, Nat.le_refl _⟩ rfl (Nat.le_of_ble_eq_true rfl) (sp_J_bitCount (hset6 (by assumption)) (GCr.v ?_))
          refine g_aload F a_A_slips_70 rfl ?_
          refine g_iload_n F a_A_slips_72 rfl ?_
          refine g_iload_n F a_A_slips_73 rfl ?_
          refine g_v2 F a_A_slips_74 vc_A_178 mk_H_errorOf (ob_2 (by first | assumption | decide | omega)) ck_2.1 rfl rfl (by decide) ⟨Nat.le_refl _, Nat.le_refl _⟩ rfl (Nat.le_of_ble_eq_true rfl) (sp_H_errorOf (i := 0) (D := D) (by decide) hS hD (hset6 (by assumption)) (by omega) (GCr.v ?_))
          refine g_ineg F a_A_slips_77 ?_
          refine g_iload_n F a_A_slips_78 rfl ?_
          refine g_v3 F a_A_slips_79 vc_A_266 mk_C_setSlips ob_9 ck_9.1 rfl rfl (by decide) ⟨Nat.le_refl _, Nat.le_refl _⟩ rfl (Nat.le_of_ble_eq_true rfl) (sp_C_setSlips (bc_r (hset6 (by assumption))) (by have := errS_r hS x y; omega) (by omega) (GCr.n ?_))
          (try simp only [mset_app, mset_mset, fup_app, aup_app, fup_fup, aup_aup, false_and, and_false, true_and, and_true, and_self, reduceIte, Nat.reduceEqDiff, reduceCtorEq, fup_10])
          refine g_iconst F a_A_slips_82 ?_
          refine g_iret F a_A_slips_83 rfl ⟨Nat.le_refl _, Nat.le_refl _⟩ ?_
          first | exact kb (fun q => absurd q.1 (by assumption)) | exact kb (fun q => absurd q.2.1 (by assumption)) | exact kb (fun q => absurd q.2.2 (by assumption)) | exact k1 (by assumption) (by assumption) (by assumption) (by assumption) | exact k (by assumption) (by assumption) (by assumption) (by assumption)
      · refine g_ifne0 F a_A_slips_34 ?_
        refine g_aload_n F a_A_slips_37 rfl ?_
        refine g_bipush F a_A_slips_38 (by decide) ?_
        refine g_v1 F a_A_slips_40 vc_A_70 mk_A_bad ob_0 ck_0.1 rfl rfl (by decide) ⟨Nat.le_refl _, Nat.le_refl _⟩ rfl (Nat.le_of_ble_eq_true rfl) (sp_A_bad  (GCr.v ?_))
        refine g_iret F a_A_slips_43 rfl ⟨Nat.le_refl _, Nat.le_refl _⟩ ?_
        first | exact kb (fun q => absurd q.1 (by assumption)) | exact kb (fun q => absurd q.2.1 (by assumption)) | exact kb (fun q => absurd q.2.2 (by assumption)) | exact k1 (by assumption) (by assumption) (by assumption) (by assumption) | exact k (by assumption) (by assumption) (by assumption) (by assumption)
    · refine g_ifeq0 F a_A_slips_24 ?_
      refine g_aload_n F a_A_slips_37 rfl ?_
      refine g_bipush F a_A_slips_38 (by decide) ?_
      refine g_v1 F a_A_slips_40 vc_A_70 mk_A_bad ob_0 ck_0.1 rfl rfl (by decide) ⟨Nat.le_refl _, Nat.le_refl _⟩ rfl (Nat.le_of_ble_eq_true rfl) (sp_A_bad  (GCr.v ?_))
      refine g_iret F a_A_slips_43 rfl ⟨Nat.le_refl _, Nat.le_refl _⟩ ?_
      first | exact kb (fun q => absurd q.1 (by assumption)) | exact kb (fun q => absurd q.2.1 (by assumption)) | exact kb (fun q => absurd q.2.2 (by assumption)) | exact k1 (by assumption) (by assumption) (by assumption) (by assumption) | exact k (by assumption) (by assumption) (by assumption) (by assumption)
  · refine g_ifeq0 F a_A_slips_15 ?_
    refine g_aload_n F a_A_slips_37 rfl ?_
    refine g_bipush F a_A_slips_38 (by decide) ?_
    refine g_v1 F a_A_slips_40 vc_A_70 mk_A_bad ob_0 ck_0.1 rfl rfl (by decide) ⟨Nat.le_refl _, Nat.le_refl _⟩ rfl (Nat.le_of_ble_eq_true rfl) (sp_A_bad  (GCr.v ?_))
    refine g_iret F a_A_slips_43 rfl ⟨Nat.le_refl _, Nat.le_refl _⟩ ?_
    first | exact kb (fun q => absurd q.1 (by assumption)) | exact kb (fun q => absurd q.2.1 (by assumption)) | exact kb (fun q => absurd q.2.2 (by assumption)) | exact k1 (by assumption) (by assumption) (by assumption) (by assumption) | exact k (by assumption) (by assumption) (by assumption) (by assumption)
/-- behind n noons of the same -/
def saN (S : Rc) (t r : Int) : Nat → Rc
  | 0 => S
  | n + 1 => sailS (saN S t r n) t r
theorem saN_ok {D : Int} {S : Rc} (h : okS D S) (t r : Int) : ∀ n : Nat, okS (D + n) (saN S t r n)
  | 0 => by rw [show D + ((0 : Nat) : Int) = D by omega]; exact h
  | n + 1 => by
    have := sail_ok (saN_ok h t r n) t r
    rw [show D + ((n + 1 : Nat) : Int) = D + (n : Int) + 1 by omega]
    exact this
set_option maxHeartbeats 2000000 in
theorem lp_A_then {κ : Kx} {μ : MX} {Q : Option Value → (Heap → Prop) → Prop} {m : Mem} {D : Int} {x y t : Int} (hS : okS D (m 2 0)) (hD : D + 60 ≤ 100000) (hset : 0 ≤ x ∧ x < 64) (hy : R32 y) (ht : 0 ≤ t ∧ t ≤ 60) (k : Q (some (vi (offS (saN (m 2 0) x y t.toNat)))) (World κ (mset m 2 3 (saN (m 2 0) x y t.toNat)))) (F : Fx κ G_A_then 3 0 0 μ) :
    ∀ (n : Nat) (j : Nat) (v : Int), t < j + n → (j : Int) ≤ t → v = (j : Int) →  GC κ μ (ZZ κ μ 0 0 Q) 0 0 63 [some (.ref (ad κ 0 0)), some (vi x), some (vi y), some (vi t), some (vi v)] [] (World κ (mset m 2 3 (saN (m 2 0) x y j))) := by
  intro n
  induction n with
  | zero =>
    intro j v hn hj hv
    exact absurd hn (by omega)
  | succ n ih =>
    intro j v hn hj hv
    refine g_iload F a_A_then_63 rfl ?_
    refine g_iload_n F a_A_then_65 rfl ?_
    refine g_icmp_ge F (by omega) (by omega) a_A_then_66 (fun h66 => ?_) (fun h66 => ?_)
    · refine g_aload_n F a_A_then_84 rfl ?_
      refine g_get_0_3 F a_A_then_85 fl_A_27 ?_
      (try simp only [mset_app, mset_mset, fup_app, aup_app, fup_fup, aup_aup, false_and, and_false, true_and, and_true, and_self, reduceIte, Nat.reduceEqDiff, reduceCtorEq, fup_10])
      refine g_v0 F a_A_then_88 vc_A_181 mk_H_drift (ob_2 (by first | assumption | decide | omega)) ck_2.1 rfl rfl (by decide) ⟨Nat.le_refl _, Nat.le_refl _⟩ rfl (Nat.le_of_ble_eq_true rfl) (sp_H_drift (i := 3) (D := D + j) (by decide) (by exact saN_ok hS x y j) (by omega) (GCr.v ?_))
      (try simp only [mset_app, mset_mset, fup_app, aup_app, fup_fup, aup_aup, false_and, and_false, true_and, and_true, and_self, reduceIte, Nat.reduceEqDiff, reduceCtorEq, fup_10])
      refine g_iret F a_A_then_91 rfl ⟨Nat.le_refl _, Nat.le_refl _⟩ ?_
      have e : t.toNat = j := by omega
      rw [e] at k
      exact k
    · refine g_aload_n F a_A_then_69 rfl ?_
      refine g_get_0_3 F a_A_then_70 fl_A_27 ?_
      (try simp only [mset_app, mset_mset, fup_app, aup_app, fup_fup, aup_aup, false_and, and_false, true_and, and_true, and_self, reduceIte, Nat.reduceEqDiff, reduceCtorEq, fup_10])
      refine g_iload_n F a_A_then_73 rfl ?_
      refine g_iload_n F a_A_then_74 rfl ?_
      refine g_v2 F a_A_then_75 vc_A_143 mk_H_sail (ob_2 (by first | assumption | decide | omega)) ck_2.1 rfl rfl (by decide) ⟨Nat.le_refl _, Nat.le_refl _⟩ rfl (Nat.le_of_ble_eq_true rfl) (sp_H_sail (i := 3) (D := D + j) (by decide) (by exact saN_ok hS x y j) (by omega) hset (by omega) (GCr.n ?_))
      (try simp only [mset_app, mset_mset, fup_app, aup_app, fup_fup, aup_aup, false_and, and_false, true_and, and_true, and_self, reduceIte, Nat.reduceEqDiff, reduceCtorEq, fup_10])
      refine g_iinc (ls' := [_, _, _, _, _]) F a_A_then_78 rfl rfl rfl ?_
      refine g_goto F a_A_then_81 ?_
      exact GC.loc2 (ih (j + 1) _ (by omega) (by omega) (by omega)) ⟨rfl, rfl, rfl, rfl, rfl, trivial⟩
set_option maxHeartbeats 1000000 in
theorem sp_A_then {κ : Kx} {Q : Option Value → (Heap → Prop) → Prop} {m : Mem} {D : Int} (hS : okS D (m 2 0)) (hD60 : D + 60 ≤ 100000) {x y t : Int} (hx : R32 x) (hy : R32 y) (ht : R32 t) (kb : ¬ ((0 ≤ x ∧ x < 2 ^ ((m 2 0).1 4).toNat) ∧ (0 ≤ y ∧ y < (m 2 0).1 5) ∧ 0 ≤ t ∧ t ≤ 60) → Q (some (vi (-1000))) (World κ (bmp m 9))) (k : (0 ≤ x ∧ x < 2 ^ ((m 2 0).1 4).toNat) → (0 ≤ y ∧ y < (m 2 0).1 5) → (0 ≤ t ∧ t ≤ 60) → Q (some (vi (offS (saN (m 2 0) x y t.toNat)))) (World κ (mset m 2 3 (saN (m 2 0) x y t.toNat)))) : GG κ G_A_then 3 0 0 [.ref (ad κ 0 0), vi x, vi y, vi t] (World κ m) Q := by
  have hD : D ≤ 100000 := by omega
  obtain ⟨s0, s1, s2, s3, s4, s5, hfg, hkd, hsh, hgl⟩ := id hS
  have hset6 : (0 ≤ x ∧ x < 2 ^ ((m 2 0).1 4).toNat) → 0 ≤ x ∧ x < 64 := fun h => by have := p64 (n := ((m 2 0).1 4).toNat) (by omega); omega
  refine GG.intro (ls := [some _, some _, some _, some _, none]) (Nat.le_of_ble_eq_true rfl) rfl (fun μ F => ?_)
  refine g_aload_n F a_A_then_0 rfl ?_
  refine g_get_0_0 F a_A_then_1 fl_A_10 ?_
  refine g_get_1_0 F a_A_then_4 fl_A_74 (by first | assumption | decide | omega) ?_
  refine g_iload_n F a_A_then_7 rfl ?_
  refine g_v1 F a_A_then_8 vc_A_127 mk_H_hasSet (ob_2 (by first | assumption | decide | omega)) ck_2.1 rfl rfl (by decide) ⟨Nat.le_refl _, Nat.le_refl _⟩ rfl (Nat.le_of_ble_eq_true rfl) (sp_H_hasSet (i := 0) (D := D) (by decide) hS hD (by omega) (fun c8 => GCr.v ?_) (fun c8 => GCr.v ?_))
  · refine g_ifeq1 F a_A_then_11 ?_
    refine g_aload_n F a_A_then_14 rfl ?_
    refine g_get_0_0 F a_A_then_15 fl_A_10 ?_
    refine g_get_1_0 F a_A_then_18 fl_A_74 (by first | assumption | decide | omega) ?_
    refine g_iload_n F a_A_then_21 rfl ?_
    refine g_v1 F a_A_then_22 vc_A_131 mk_H_hasReader (ob_2 (by first | assumption | decide | omega)) ck_2.1 rfl rfl (by decide) ⟨Nat.le_refl _, Nat.le_refl _⟩ rfl (Nat.le_of_ble_eq_true rfl) (sp_H_hasReader (i := 0) (D := D) (by decide) hS hD (by omega) (fun c22 => GCr.v ?_) (fun c22 => GCr.v ?_))
    · refine g_ifeq1 F a_A_then_25 ?_
      refine g_iload_n F a_A_then_28 rfl ?_
      refine g_iconst F a_A_then_29 ?_
      refine g_bipush F a_A_then_30 (by decide) ?_
      refine g_s3 F a_A_then_32 sc_A_66 mk_A_within rfl (by decide) ⟨Nat.le_refl _, Nat.le_refl _⟩ rfl (Nat.le_of_ble_eq_true rfl) (sp_A_within (by omega) (by omega) (by omega) (fun c32 => GCr.v ?_) (fun c32 => GCr.v ?_))
      · refine g_ifne1 F a_A_then_35 ?_
        refine g_aload_n F a_A_then_46 rfl ?_
        refine g_get_0_3 F a_A_then_47 fl_A_27 ?_
        refine g_aload_n F a_A_then_50 rfl ?_
        refine g_get_0_0 F a_A_then_51 fl_A_10 ?_
        refine g_get_1_0 F a_A_then_54 fl_A_74 (by first | assumption | decide | omega) ?_
        refine g_v1 F a_A_then_57 vc_A_123 mk_H_copy (ob_2 (by first | assumption | decide | omega)) ck_2.1 rfl rfl (by decide) ⟨Nat.le_refl _, Nat.le_refl _⟩ rfl (Nat.le_of_ble_eq_true rfl) (sp_H_copy (by decide) (by decide) (by decide) (GCr.n ?_))
        (try simp only [mset_app, mset_mset, fup_app, aup_app, fup_fup, aup_aup, false_and, and_false, true_and, and_true, and_self, reduceIte, Nat.reduceEqDiff, reduceCtorEq, fup_10])
        refine g_iconst F a_A_then_60 ?_
        refine g_istore (ls' := [_, _, _, _, _]) F a_A_then_61 rfl rfl rfl ?_
        exact GC.loc2 (lp_A_then hS hD60 (hset6 (by assumption)) hy (by assumption) (k (by assumption) (by assumption) (by assumption)) F 62 0 _ (by omega) (by omega) rfl) ⟨rfl, rfl, rfl, rfl, rfl, trivial⟩
      · refine g_ifne0 F a_A_then_35 ?_
        refine g_aload_n F a_A_then_38 rfl ?_
        refine g_sipush F a_A_then_39 (by decide) ?_
        refine g_v1 F a_A_then_42 vc_A_70 mk_A_bad ob_0 ck_0.1 rfl rfl (by decide) ⟨Nat.le_refl _, Nat.le_refl _⟩ rfl (Nat.le_of_ble_eq_true rfl) (sp_A_bad  (GCr.v ?_))
        refine g_iret F a_A_then_45 rfl ⟨Nat.le_refl _, Nat.le_refl _⟩ ?_
        first | exact kb (fun q => absurd q.1 (by assumption)) | exact kb (fun q => absurd q.2.1 (by assumption)) | exact kb (fun q => absurd q.2.2 (by assumption))
    · refine g_ifeq0 F a_A_then_25 ?_
      refine g_aload_n F a_A_then_38 rfl ?_
      refine g_sipush F a_A_then_39 (by decide) ?_
      refine g_v1 F a_A_then_42 vc_A_70 mk_A_bad ob_0 ck_0.1 rfl rfl (by decide) ⟨Nat.le_refl _, Nat.le_refl _⟩ rfl (Nat.le_of_ble_eq_true rfl) (sp_A_bad  (GCr.v ?_))
      refine g_iret F a_A_then_45 rfl ⟨Nat.le_refl _, Nat.le_refl _⟩ ?_
      first | exact kb (fun q => absurd q.1 (by assumption)) | exact kb (fun q => absurd q.2.1 (by assumption)) | exact kb (fun q => absurd q.2.2 (by assumption))
  · refine g_ifeq0 F a_A_then_11 ?_
    refine g_aload_n F a_A_then_38 rfl ?_
    refine g_sipush F a_A_then_39 (by decide) ?_
    refine g_v1 F a_A_then_42 vc_A_70 mk_A_bad ob_0 ck_0.1 rfl rfl (by decide) ⟨Nat.le_refl _, Nat.le_refl _⟩ rfl (Nat.le_of_ble_eq_true rfl) (sp_A_bad  (GCr.v ?_))
    refine g_iret F a_A_then_45 rfl ⟨Nat.le_refl _, Nat.le_refl _⟩ ?_
    first | exact kb (fun q => absurd q.1 (by assumption)) | exact kb (fun q => absurd q.2.1 (by assumption)) | exact kb (fun q => absurd q.2.2 (by assumption))
/-- the soonest of the noons to come at which man x stands at y -/
def whN (S : Rc) (x y : Int) : Nat → Int
  | 0 => -1
  | n + 1 => if whN S x y n = -1 ∧ y ≤ ang (saN S 0 (-1) n) x then (n : Int) else whN S x y n
theorem whN_done {S : Rc} {x y : Int} {n : Nat} (h : whN S x y n ≠ -1) : ∀ a : Nat, whN S x y (n + a) = whN S x y n
  | 0 => rfl
  | a + 1 => by
    have ih := whN_done h a
    show (if whN S x y (n + a) = -1 ∧ _ then _ else whN S x y (n + a)) = _
    rw [if_neg (fun q => h (by rw [← ih]; exact q.1)), ih]
theorem saN_4 (S : Rc) (t r : Int) : ∀ n : Nat, (saN S t r n).1 4 = S.1 4
  | 0 => rfl
  | n + 1 => saN_4 S t r n
set_option maxHeartbeats 2000000 in
theorem lp_A_when {κ : Kx} {μ : MX} {Q : Option Value → (Heap → Prop) → Prop} {m : Mem} {D : Int} {x y : Int} (hS : okS D (m 2 0)) (hD : D + 61 ≤ 100000) (hx : 0 ≤ x ∧ x < (m 2 0).1 4) (hy : 1 ≤ y ∧ y ≤ 90) (k : ∀ S : Rc, Q (some (vi (whN (m 2 0) x y 61))) (World κ (mset m 2 3 S))) (F : Fx κ G_A_when 3 0 0 μ) :
    ∀ (n : Nat) (j : Nat) (v : Int), 61 < j + n → j ≤ 61 → v = (j : Int) → whN (m 2 0) x y j = -1 →  GC κ μ (ZZ κ μ 0 0 Q) 0 0 47 [some (.ref (ad κ 0 0)), some (vi x), some (vi y), some (vi v)] [] (World κ (mset m 2 3 (saN (m 2 0) 0 (-1) j))) := by
  intro n
  induction n with
  | zero =>
    intro j v hn hj hv hw
    exact absurd hn (by omega)
  | succ n ih =>
    intro j v hn hj hv hw
    have hm6 := hS.2.2.2.2.1
    have hSj := saN_ok hS 0 (-1) j
    have haj := ang_r hSj (x := x) (by have := hS.2.2.2.2.1; omega)
    refine g_iload_n F a_A_when_47 rfl ?_
    refine g_bipush F a_A_when_48 (by decide) ?_
    refine g_icmp_gt F (by omega) (by omega) a_A_when_50 (fun h50 => ?_) (fun h50 => ?_)
    · refine g_iconst F a_A_when_82 ?_
      refine g_iret F a_A_when_83 rfl ⟨Nat.le_refl _, Nat.le_refl _⟩ ?_
      exact qv (k _) (by rw [show 61 = j by omega, hw])
    · refine g_aload_n F a_A_when_53 rfl ?_
      refine g_get_0_3 F a_A_when_54 fl_A_27 ?_
      (try simp only [mset_app, mset_mset, fup_app, aup_app, fup_fup, aup_aup, false_and, and_false, true_and, and_true, and_self, reduceIte, Nat.reduceEqDiff, reduceCtorEq, fup_10])
      refine g_iload_n F a_A_when_57 rfl ?_
      refine g_v1 F a_A_when_58 vc_A_172 mk_H_angleOf (ob_2 (by first | assumption | decide | omega)) ck_2.1 rfl rfl (by decide) ⟨Nat.le_refl _, Nat.le_refl _⟩ rfl (Nat.le_of_ble_eq_true rfl) (sp_H_angleOf (i := 3) (D := D + j) (by decide) (by exact hSj) (by omega) (by omega) (GCr.v ?_))
      (try simp only [mset_app, mset_mset, fup_app, aup_app, fup_fup, aup_aup, false_and, and_false, true_and, and_true, and_self, reduceIte, Nat.reduceEqDiff, reduceCtorEq, fup_10])
      rw [if_pos (show 0 ≤ x ∧ x < (saN (m 2 0) 0 (-1) j).1 4 by rw [saN_4]; exact hx)]
      refine g_iload_n F a_A_when_61 rfl ?_
      refine g_icmp_lt F (by omega) (by omega) a_A_when_62 (fun h62 => ?_) (fun h62 => ?_)
      · refine g_aload_n F a_A_when_67 rfl ?_
        refine g_get_0_3 F a_A_when_68 fl_A_27 ?_
        (try simp only [mset_app, mset_mset, fup_app, aup_app, fup_fup, aup_aup, false_and, and_false, true_and, and_true, and_self, reduceIte, Nat.reduceEqDiff, reduceCtorEq, fup_10])
        refine g_iconst F a_A_when_71 ?_
        refine g_iconst F a_A_when_72 ?_
        refine g_v2 F a_A_when_73 vc_A_143 mk_H_sail (ob_2 (by first | assumption | decide | omega)) ck_2.1 rfl rfl (by decide) ⟨Nat.le_refl _, Nat.le_refl _⟩ rfl (Nat.le_of_ble_eq_true rfl) (sp_H_sail (i := 3) (D := D + j) (by decide) (by exact hSj) (by omega) (by decide) (by decide) (GCr.n ?_))
        (try simp only [mset_app, mset_mset, fup_app, aup_app, fup_fup, aup_aup, false_and, and_false, true_and, and_true, and_self, reduceIte, Nat.reduceEqDiff, reduceCtorEq, fup_10])
        refine g_iinc (ls' := [_, _, _, _]) F a_A_when_76 rfl rfl rfl ?_
        refine g_goto F a_A_when_79 ?_
        refine GC.loc2 (ih (j + 1) _ (by omega) (by omega) (by omega) ?_) ⟨rfl, rfl, rfl, rfl, trivial⟩
        show (if whN (m 2 0) x y j = -1 ∧ _ then (j : Int) else whN (m 2 0) x y j) = -1
        rw [if_neg (fun q => absurd q.2 (by omega)), hw]
      · refine g_iload_n F a_A_when_65 rfl ?_
        refine g_iret F a_A_when_66 rfl ⟨Nat.le_refl _, Nat.le_refl _⟩ ?_
        obtain ⟨d, hd⟩ : ∃ d : Nat, 61 = (j + 1) + d := ⟨61 - (j + 1), by omega⟩
        have e1 : whN (m 2 0) x y (j + 1) = j := by
          show (if whN (m 2 0) x y j = -1 ∧ _ then (j : Int) else whN (m 2 0) x y j) = j
          rw [if_pos ⟨hw, by omega⟩]
        exact qv (k _) (by rw [hd, whN_done (by omega) d, e1, hv])
set_option maxHeartbeats 1000000 in
theorem sp_A_when {κ : Kx} {Q : Option Value → (Heap → Prop) → Prop} {m : Mem} {D : Int} (hS : okS D (m 2 0)) (hD60 : D + 61 ≤ 100000) {x y : Int} (hx : R32 x) (hy : R32 y) (kb : ¬ ((0 ≤ x ∧ x < (m 2 0).1 4) ∧ 1 ≤ y ∧ y ≤ 90) → Q (some (vi (-2))) (World κ (bmp m 9))) (k : (0 ≤ x ∧ x < (m 2 0).1 4) → (1 ≤ y ∧ y ≤ 90) → ∀ S : Rc, Q (some (vi (whN (m 2 0) x y 61))) (World κ (mset m 2 3 S))) : GG κ G_A_when 3 0 0 [.ref (ad κ 0 0), vi x, vi y] (World κ m) Q := by
  have hD : D ≤ 100000 := by omega
  obtain ⟨s0, s1, s2, s3, s4, s5, hfg, hkd, hsh, hgl⟩ := id hS
  refine GG.intro (ls := [some _, some _, some _, none]) (Nat.le_of_ble_eq_true rfl) rfl (fun μ F => ?_)
  refine g_aload_n F a_A_when_0 rfl ?_
  refine g_get_0_0 F a_A_when_1 fl_A_10 ?_
  refine g_get_1_0 F a_A_when_4 fl_A_74 (by first | assumption | decide | omega) ?_
  refine g_iload_n F a_A_when_7 rfl ?_
  refine g_v1 F a_A_when_8 vc_A_150 mk_H_hasMan (ob_2 (by first | assumption | decide | omega)) ck_2.1 rfl rfl (by decide) ⟨Nat.le_refl _, Nat.le_refl _⟩ rfl (Nat.le_of_ble_eq_true rfl) (sp_H_hasMan (i := 0) (D := D) (by decide) hS hD (by omega) (fun c8 => GCr.v ?_) (fun c8 => GCr.v ?_))
  · refine g_ifeq1 F a_A_when_11 ?_
    refine g_iload_n F a_A_when_14 rfl ?_
    refine g_iconst F a_A_when_15 ?_
    refine g_bipush F a_A_when_16 (by decide) ?_
    refine g_s3 F a_A_when_18 sc_A_66 mk_A_within rfl (by decide) ⟨Nat.le_refl _, Nat.le_refl _⟩ rfl (Nat.le_of_ble_eq_true rfl) (sp_A_within (by omega) (by omega) (by omega) (fun c18 => GCr.v ?_) (fun c18 => GCr.v ?_))
    · refine g_ifne1 F a_A_when_21 ?_
      refine g_aload_n F a_A_when_31 rfl ?_
      refine g_get_0_3 F a_A_when_32 fl_A_27 ?_
      refine g_aload_n F a_A_when_35 rfl ?_
      refine g_get_0_0 F a_A_when_36 fl_A_10 ?_
      refine g_get_1_0 F a_A_when_39 fl_A_74 (by first | assumption | decide | omega) ?_
      refine g_v1 F a_A_when_42 vc_A_123 mk_H_copy (ob_2 (by first | assumption | decide | omega)) ck_2.1 rfl rfl (by decide) ⟨Nat.le_refl _, Nat.le_refl _⟩ rfl (Nat.le_of_ble_eq_true rfl) (sp_H_copy (by decide) (by decide) (by decide) (GCr.n ?_))
      (try simp only [mset_app, mset_mset, fup_app, aup_app, fup_fup, aup_aup, false_and, and_false, true_and, and_true, and_self, reduceIte, Nat.reduceEqDiff, reduceCtorEq, fup_10])
      refine g_iconst F a_A_when_45 ?_
      refine g_istore_n (ls' := [_, _, _, _]) F a_A_when_46 rfl rfl rfl ?_
      exact GC.loc2 (lp_A_when hS hD60 (by assumption) (by assumption) (k (by assumption) (by assumption)) F 62 0 _ (by omega) (by omega) rfl rfl) ⟨rfl, rfl, rfl, rfl, trivial⟩
    · refine g_ifne0 F a_A_when_21 ?_
      refine g_aload_n F a_A_when_24 rfl ?_
      refine g_bipush F a_A_when_25 (by decide) ?_
      refine g_v1 F a_A_when_27 vc_A_70 mk_A_bad ob_0 ck_0.1 rfl rfl (by decide) ⟨Nat.le_refl _, Nat.le_refl _⟩ rfl (Nat.le_of_ble_eq_true rfl) (sp_A_bad  (GCr.v ?_))
      refine g_iret F a_A_when_30 rfl ⟨Nat.le_refl _, Nat.le_refl _⟩ ?_
      exact kb (by omega)
  · refine g_ifeq0 F a_A_when_11 ?_
    refine g_aload_n F a_A_when_24 rfl ?_
    refine g_bipush F a_A_when_25 (by decide) ?_
    refine g_v1 F a_A_when_27 vc_A_70 mk_A_bad ob_0 ck_0.1 rfl rfl (by decide) ⟨Nat.le_refl _, Nat.le_refl _⟩ rfl (Nat.le_of_ble_eq_true rfl) (sp_A_bad  (GCr.v ?_))
    refine g_iret F a_A_when_30 rfl ⟨Nat.le_refl _, Nat.le_refl _⟩ ?_
    exact kb (by omega)
theorem fwN_r {c r : Int} {S : Rc} {q : Nat × List Int} : ∀ n : Nat, fwN c r S n = some q → q.1 ≤ n
  | 0, h => by cases h
  | n + 1, h => by
    have e : fwN c r S (n + 1) = (fwN c r S n).or ((arQ c r (n + 1) S).map (fun ps => (n + 1, ps))) := rfl
    rw [e] at h
    cases e1 : fwN c r S n with
    | some q1 =>
      rw [e1] at h
      cases h
      have := fwN_r n e1
      omega
    | none =>
      rw [e1] at h
      cases e2 : arQ c r (n + 1) S with
      | none => rw [e2] at h; cases h
      | some ps => rw [e2] at h; cases h; exact Nat.le_refl _
theorem rtS_r {c r : Int} {S : Rc} {q : Nat × List Int} (h : rtS c r S = some q) : q.1 ≤ 5 := by
  unfold rtS at h
  split at h
  · cases h; exact Nat.zero_le _
  · exact fwN_r 5 h
def capI (t : Int) : Option (Nat × List Int) → Int
  | none => -6
  | some q => if t = -1 then (q.1 : Int) else if t < q.1 then q.2.getD t.toNat 0 else -5
set_option maxHeartbeats 1000000 in
theorem sp_A_cape {κ : Kx} {Q : Option Value → (Heap → Prop) → Prop} {m : Mem} {D : Int} (hS : okS D (m 2 0)) (hD5 : D + 5 ≤ 100000) {x y t : Int} (hx : R32 x) (hy : R32 y) (ht : R32 t) (kb : ¬ ((0 ≤ x ∧ x ≤ 99) ∧ (0 ≤ y ∧ y < (m 2 0).1 5) ∧ -1 ≤ t) → Q (some (vi (-10))) (World κ (bmp m 9))) (k : (0 ≤ x ∧ x ≤ 99) → (0 ≤ y ∧ y < (m 2 0).1 5) → -1 ≤ t → ∀ m2 : Mem, FR0 m m2 → Q (some (vi (capI t (rtS x y (m 2 0))))) (World κ m2)) : GG κ G_A_cape 21 0 0 [.ref (ad κ 0 0), vi x, vi y, vi t] (World κ m) Q := by
  have hD : D ≤ 100000 := by omega
  obtain ⟨s0, s1, s2, s3, s4, s5, hfg, hkd, hsh, hgl⟩ := id hS
  refine GG.intro (ls := [some _, some _, some _, some _, none]) (Nat.le_of_ble_eq_true rfl) rfl (fun μ F => ?_)
  refine g_iload_n F a_A_cape_0 rfl ?_
  refine g_iconst F a_A_cape_1 ?_
  refine g_bipush F a_A_cape_2 (by decide) ?_
  refine g_s3 F a_A_cape_4 sc_A_66 mk_A_within rfl (by decide) ⟨Nat.le_refl _, Nat.le_refl _⟩ rfl (Nat.le_of_ble_eq_true rfl) (sp_A_within (by omega) (by omega) (by omega) (fun c4 => GCr.v ?_) (fun c4 => GCr.v ?_))
  · refine g_ifeq1 F a_A_cape_7 ?_
    refine g_aload_n F a_A_cape_10 rfl ?_
    refine g_get_0_0 F a_A_cape_11 fl_A_10 ?_
    refine g_get_1_0 F a_A_cape_14 fl_A_74 (by first | assumption | decide | omega) ?_
    refine g_iload_n F a_A_cape_17 rfl ?_
    refine g_v1 F a_A_cape_18 vc_A_131 mk_H_hasReader (ob_2 (by first | assumption | decide | omega)) ck_2.1 rfl rfl (by decide) ⟨Nat.le_refl _, Nat.le_refl _⟩ rfl (Nat.le_of_ble_eq_true rfl) (sp_H_hasReader (i := 0) (D := D) (by decide) hS hD (by omega) (fun c18 => GCr.v ?_) (fun c18 => GCr.v ?_))
    · refine g_ifeq1 F a_A_cape_21 ?_
      refine g_iload_n F a_A_cape_24 rfl ?_
      refine g_iconst F a_A_cape_25 ?_
      refine g_icmp_ge F (by omega) (by omega) a_A_cape_26 (fun h26 => ?_) (fun h26 => ?_)
      · refine g_aload_n F a_A_cape_36 rfl ?_
        refine g_get_0_5 F a_A_cape_37 fl_A_41 ?_
        refine g_aload_n F a_A_cape_40 rfl ?_
        refine g_get_0_0 F a_A_cape_41 fl_A_10 ?_
        refine g_get_1_0 F a_A_cape_44 fl_A_74 (by first | assumption | decide | omega) ?_
        refine g_iload_n F a_A_cape_47 rfl ?_
        refine g_iload_n F a_A_cape_48 rfl ?_
        refine g_v3 F a_A_cape_49 vc_A_198 mk_O_fewestNoons ob_6 ck_6.1 rfl rfl (by decide) ⟨Nat.le_refl _, Nat.le_refl _⟩ rfl (Nat.le_of_ble_eq_true rfl) (sp_O_fewestNoons (i := 0) (D := D) (by decide) hS hD5 (by omega) (by assumption) (fun m2 hf hrw => (GCr.v ?_)))
        (try simp only [mset_app, mset_mset, fup_app, aup_app, fup_fup, aup_aup, false_and, and_false, true_and, and_true, and_self, reduceIte, Nat.reduceEqDiff, reduceCtorEq, fup_10])
        cases e : (rtS x y (m 2 0)) with
        | none =>
          have e2 : rtI none = -1 := rfl
          rw [e2]
          refine g_istore (ls' := [_, _, _, _, _]) F a_A_cape_52 rfl rfl rfl ?_
          refine g_iload F a_A_cape_54 rfl ?_
          refine g_iconst F a_A_cape_56 ?_
          refine g_icmp_ne F (by omega) (by omega) a_A_cape_57 (fun h57 => ?_) (fun h57 => ?_)
          · refine g_iload_n F a_A_cape_63 rfl ?_
            refine g_iconst F a_A_cape_64 ?_
            refine g_icmp_ne F (by omega) (by omega) a_A_cape_65 (fun h65 => ?_) (fun h65 => ?_)
            · refine g_iload_n F a_A_cape_71 rfl ?_
              refine g_iload F a_A_cape_72 rfl ?_
              refine g_icmp_ge F (by omega) (by omega) a_A_cape_74 (fun h74 => ?_) (fun h74 => ?_)
              · refine g_bipush F a_A_cape_89 (by decide) ?_
                refine g_iret F a_A_cape_91 rfl ⟨Nat.le_refl _, Nat.le_refl _⟩ ?_
                exfalso; omega
              · refine g_aload_n F a_A_cape_77 rfl ?_
                refine g_get_0_5 F a_A_cape_78 fl_A_41 ?_
                refine g_get_6_0 F a_A_cape_81 fl_A_201 ?_
                refine g_iload_n F a_A_cape_84 rfl ?_
                refine g_ild_6_0 F a_A_cape_85 (by omega) ?_
                refine g_goto F a_A_cape_86 ?_
                refine g_iret F a_A_cape_91 rfl ⟨Nat.le_refl _, Nat.le_refl _⟩ ?_
                exfalso; omega
            · refine g_iload F a_A_cape_68 rfl ?_
              refine g_iret F a_A_cape_70 rfl ⟨Nat.le_refl _, Nat.le_refl _⟩ ?_
              exfalso; omega
          · refine g_bipush F a_A_cape_60 (by decide) ?_
            refine g_iret F a_A_cape_62 rfl ⟨Nat.le_refl _, Nat.le_refl _⟩ ?_
            exact qv (k (by omega) (by assumption) (by omega) m2 hf) (by rw [e]; rfl)
        | some q =>
          have e2 : rtI (some q) = (q.1 : Int) := rfl
          have hq5 := rtS_r e
          have hrq := hrw q e
          rw [e2]
          refine g_istore (ls' := [_, _, _, _, _]) F a_A_cape_52 rfl rfl rfl ?_
          refine g_iload F a_A_cape_54 rfl ?_
          refine g_iconst F a_A_cape_56 ?_
          refine g_icmp_ne F (by omega) (by omega) a_A_cape_57 (fun h57 => ?_) (fun h57 => ?_)
          · refine g_iload_n F a_A_cape_63 rfl ?_
            refine g_iconst F a_A_cape_64 ?_
            refine g_icmp_ne F (by omega) (by omega) a_A_cape_65 (fun h65 => ?_) (fun h65 => ?_)
            · refine g_iload_n F a_A_cape_71 rfl ?_
              refine g_iload F a_A_cape_72 rfl ?_
              refine g_icmp_ge F (by omega) (by omega) a_A_cape_74 (fun h74 => ?_) (fun h74 => ?_)
              · refine g_bipush F a_A_cape_89 (by decide) ?_
                refine g_iret F a_A_cape_91 rfl ⟨Nat.le_refl _, Nat.le_refl _⟩ ?_
                exact qv (k (by omega) (by assumption) (by omega) m2 hf) (by rw [e]; unfold capI; dsimp only; rw [if_neg (by omega), if_neg (by omega)])
              · refine g_aload_n F a_A_cape_77 rfl ?_
                refine g_get_0_5 F a_A_cape_78 fl_A_41 ?_
                refine g_get_6_0 F a_A_cape_81 fl_A_201 ?_
                refine g_iload_n F a_A_cape_84 rfl ?_
                refine g_ild_6_0 F a_A_cape_85 (by omega) ?_
                refine g_goto F a_A_cape_86 ?_
                refine g_iret F a_A_cape_91 rfl ⟨Nat.le_refl _, Nat.le_refl _⟩ ?_
                exact qv (k (by omega) (by assumption) (by omega) m2 hf) (by rw [e]; unfold capI; dsimp only; have hz := hrq t.toNat (by omega); rw [show ((0 : Nat) : Int) + (t.toNat : Int) = t by omega] at hz; rw [if_neg (by omega), if_pos (by omega), ← hz])
            · refine g_iload F a_A_cape_68 rfl ?_
              refine g_iret F a_A_cape_70 rfl ⟨Nat.le_refl _, Nat.le_refl _⟩ ?_
              exact qv (k (by omega) (by assumption) (by omega) m2 hf) (by rw [e]; unfold capI; dsimp only; rw [if_pos (by omega)])
          · refine g_bipush F a_A_cape_60 (by decide) ?_
            refine g_iret F a_A_cape_62 rfl ⟨Nat.le_refl _, Nat.le_refl _⟩ ?_
            exfalso; omega
      · refine g_aload_n F a_A_cape_29 rfl ?_
        refine g_bipush F a_A_cape_30 (by decide) ?_
        refine g_v1 F a_A_cape_32 vc_A_70 mk_A_bad ob_0 ck_0.1 rfl rfl (by decide) ⟨Nat.le_refl _, Nat.le_refl _⟩ rfl (Nat.le_of_ble_eq_true rfl) (sp_A_bad  (GCr.v ?_))
        refine g_iret F a_A_cape_35 rfl ⟨Nat.le_refl _, Nat.le_refl _⟩ ?_
        exact kb (by omega)
    · refine g_ifeq0 F a_A_cape_21 ?_
      refine g_aload_n F a_A_cape_29 rfl ?_
      refine g_bipush F a_A_cape_30 (by decide) ?_
      refine g_v1 F a_A_cape_32 vc_A_70 mk_A_bad ob_0 ck_0.1 rfl rfl (by decide) ⟨Nat.le_refl _, Nat.le_refl _⟩ rfl (Nat.le_of_ble_eq_true rfl) (sp_A_bad  (GCr.v ?_))
      refine g_iret F a_A_cape_35 rfl ⟨Nat.le_refl _, Nat.le_refl _⟩ ?_
      exact kb (by omega)
  · refine g_ifeq0 F a_A_cape_7 ?_
    refine g_aload_n F a_A_cape_29 rfl ?_
    refine g_bipush F a_A_cape_30 (by decide) ?_
    refine g_v1 F a_A_cape_32 vc_A_70 mk_A_bad ob_0 ck_0.1 rfl rfl (by decide) ⟨Nat.le_refl _, Nat.le_refl _⟩ rfl (Nat.le_of_ble_eq_true rfl) (sp_A_bad  (GCr.v ?_))
    refine g_iret F a_A_cape_35 rfl ⟨Nat.le_refl _, Nat.le_refl _⟩ ?_
    exact kb (by omega)
