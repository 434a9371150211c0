theorem GC.pw {κ : Kx} {μ : MX} {Z : State → Prop} {kc ks pc : Nat} {ls : List (Option Value)} {st : List Value} {P P' : Heap → Prop} (k : GC κ μ Z kc ks pc ls st P') (h : P = P') : GC κ μ Z kc ks pc ls st P := h ▸ k
def nowS (S : Rc) (x : Int) : Int := if x = 0 then S.1 0 else if x = 1 then S.1 1 else if x = 2 then S.1 2 else if fogB S then 1 else 0
set_option maxHeartbeats 1000000 in
theorem sp_A_now {κ : Kx} {Q : Option Value → (Heap → Prop) → Prop} {m : Mem} {D : Int} (hS : okS D (m 2 0)) (hD : D ≤ 100000) {x : Int} (hx : R32 x) (kb : ¬ (0 ≤ x ∧ x ≤ 3) → Q (some (vi (-2))) (World κ (bmp m 9))) (k : 0 ≤ x ∧ x ≤ 3 → Q (some (vi (nowS (m 2 0) x))) (World κ m)) : GG κ G_A_now 1 0 0 [.ref (ad κ 0 0), vi x] (World κ m) Q := by
  obtain ⟨s0, s1, s2, s3, s4, s5, hfg, hkd, hsh, hgl⟩ := id hS
  refine GG.intro (ls := [some _, some _, none]) (Nat.le_of_ble_eq_true rfl) rfl (fun μ F => ?_)
  refine g_aload_n F a_A_now_0 rfl ?_
  refine g_get_0_0 F a_A_now_1 fl_A_10 ?_
  refine g_get_1_0 F a_A_now_4 fl_A_74 (by first | assumption | decide | omega) ?_
  refine g_astore_n (ls' := [_, _, _]) F a_A_now_7 rfl rfl rfl ?_
  refine g_iload_n F a_A_now_8 rfl ?_
  rcases (show x = 0 ∨ x = 1 ∨ x = 2 ∨ x = 3 ∨ (x < 0 ∨ 3 < x) by omega) with h9 | h9 | h9 | h9 | h9
  · refine g_tsw (tg := 40) F (by omega) a_A_now_9 (by omega) (by omega) (j := 0) (by omega) rfl (by decide) ?_
    refine g_aload_n F a_A_now_40 rfl ?_
    refine g_get_2_0 F a_A_now_41 fl_A_147 (by first | assumption | decide | omega) ?_
    refine g_iret F a_A_now_44 rfl ⟨Nat.le_refl _, Nat.le_refl _⟩ ?_
    exact qv (k (by omega)) (by subst h9; rfl)
  · refine g_tsw (tg := 45) F (by omega) a_A_now_9 (by omega) (by omega) (j := 1) (by omega) rfl (by decide) ?_
    refine g_aload_n F a_A_now_45 rfl ?_
    refine g_get_2_1 F a_A_now_46 fl_A_162 (by first | assumption | decide | omega) ?_
    refine g_iret F a_A_now_49 rfl ⟨Nat.le_refl _, Nat.le_refl _⟩ ?_
    exact qv (k (by omega)) (by subst h9; rfl)
  · refine g_tsw (tg := 50) F (by omega) a_A_now_9 (by omega) (by omega) (j := 2) (by omega) rfl (by decide) ?_
    refine g_aload_n F a_A_now_50 rfl ?_
    refine g_get_2_2 F a_A_now_51 fl_A_120 (by first | assumption | decide | omega) ?_
    refine g_iret F a_A_now_54 rfl ⟨Nat.le_refl _, Nat.le_refl _⟩ ?_
    exact qv (k (by omega)) (by subst h9; rfl)
  · refine g_tsw (tg := 55) F (by omega) a_A_now_9 (by omega) (by omega) (j := 3) (by omega) rfl (by decide) ?_
    refine g_aload_n F a_A_now_55 rfl ?_
    refine g_v0 F a_A_now_56 vc_A_165 mk_H_foggy (ob_2 (by first | assumption | decide | omega)) ck_2.1 rfl rfl (by decide) ⟨Nat.le_refl _, Nat.le_refl _⟩ rfl (Nat.le_of_ble_eq_true rfl) (sp_H_foggy (i := 0) (D := D) (by decide) hS hD (fun c56 => GCr.v ?_) (fun c56 => GCr.v ?_))
    · refine g_ifeq1 F a_A_now_59 ?_
      refine g_iconst F a_A_now_62 ?_
      refine g_goto F a_A_now_63 ?_
      refine g_iret F a_A_now_67 rfl ⟨Nat.le_refl _, Nat.le_refl _⟩ ?_
      exact qv (k (by omega)) (by subst h9; unfold nowS; rw [if_neg (by decide), if_neg (by decide), if_neg (by decide), if_pos c56])
    · refine g_ifeq0 F a_A_now_59 ?_
      refine g_iconst F a_A_now_66 ?_
      refine g_iret F a_A_now_67 rfl ⟨Nat.le_refl _, Nat.le_refl _⟩ ?_
      exact qv (k (by omega)) (by subst h9; unfold nowS; rw [if_neg (by decide), if_neg (by decide), if_neg (by decide), if_neg c56])
  · refine g_tswD (tg := 68) F (by omega) a_A_now_9 (by omega) (by decide) ?_
    refine g_aload_n F a_A_now_68 rfl ?_
    refine g_bipush F a_A_now_69 (by decide) ?_
    refine g_v1 F a_A_now_71 vc_A_70 mk_A_bad ob_0 ck_0.1 rfl rfl (by decide) ⟨Nat.le_refl _, Nat.le_refl _⟩ rfl (Nat.le_of_ble_eq_true rfl) (sp_A_bad  (GCr.v ?_))
    refine g_iret F a_A_now_74 rfl ⟨Nat.le_refl _, Nat.le_refl _⟩ ?_
    exact kb (by omega)
def begA (S R : Rc) (x t : Int) : Int := if t = 0 then cntB S R x 91 else if t = 1 then lstB S R x 91 else gstB S R x 91
set_option maxHeartbeats 1000000 in
theorem sp_A_began {κ : Kx} {Q : Option Value → (Heap → Prop) → Prop} {m : Mem} {D : Int} (hS : okS D (m 2 0)) (hD : D ≤ 100000) (hR : okR (m 3 0)) {x t : Int} (hx : R32 x) (ht : R32 t) (kb : ¬ ((0 ≤ x ∧ x < (m 2 0).1 4) ∧ 0 ≤ t ∧ t ≤ 2) → Q (some (vi (-2))) (World κ (bmp m 9))) (k : (0 ≤ x ∧ x < (m 2 0).1 4) → (0 ≤ t ∧ t ≤ 2) → Q (some (vi (begA (m 2 0) (m 3 0) x t))) (World κ m)) : GG κ G_A_began 4 0 0 [.ref (ad κ 0 0), vi x, vi t] (World κ m) Q := by
  obtain ⟨s0, s1, s2, s3, s4, s5, hfg, hkd, hsh, hgl⟩ := id hS
  refine GG.intro (ls := [some _, some _, some _]) (Nat.le_of_ble_eq_true rfl) rfl (fun μ F => ?_)
  refine g_aload_n F a_A_began_0 rfl ?_
  refine g_get_0_0 F a_A_began_1 fl_A_10 ?_
  refine g_get_1_0 F a_A_began_4 fl_A_74 (by first | assumption | decide | omega) ?_
  refine g_iload_n F a_A_began_7 rfl ?_
  refine g_v1 F a_A_began_8 vc_A_150 mk_H_hasMan (ob_2 (by first | assumption | decide | omega)) ck_2.1 rfl rfl (by decide) ⟨Nat.le_refl _, Nat.le_refl _⟩ rfl (Nat.le_of_ble_eq_true rfl) (sp_H_hasMan (i := 0) (D := D) (by decide) hS hD (by omega) (fun c8 => GCr.v ?_) (fun c8 => GCr.v ?_))
  · refine g_ifeq1 F a_A_began_11 ?_
    refine g_iload_n F a_A_began_14 rfl ?_
    refine g_iconst F a_A_began_15 ?_
    refine g_iconst F a_A_began_16 ?_
    refine g_s3 F a_A_began_17 sc_A_66 mk_A_within rfl (by decide) ⟨Nat.le_refl _, Nat.le_refl _⟩ rfl (Nat.le_of_ble_eq_true rfl) (sp_A_within (by omega) (by omega) (by omega) (fun c17 => GCr.v ?_) (fun c17 => GCr.v ?_))
    · refine g_ifne1 F a_A_began_20 ?_
      refine g_iload_n F a_A_began_30 rfl ?_
      rcases (show t = 0 ∨ t = 1 ∨ (t ≠ 0 ∧ t ≠ 1) by omega) with h31 | h31 | h31
      · refine g_lsw (tg := 56) (o := 25) F (by omega) a_A_began_31 (by decide) (by rw [h31]; decide) (by decide) ?_
        refine g_aload_n F a_A_began_56 rfl ?_
        refine g_get_0_0 F a_A_began_57 fl_A_10 ?_
        refine g_iload_n F a_A_began_60 rfl ?_
        refine g_s2 F a_A_began_61 sc_A_226 mk_G_howManyBegan rfl (by decide) ⟨Nat.le_refl _, Nat.le_refl _⟩ rfl (Nat.le_of_ble_eq_true rfl) (sp_G_howManyBegan hS hD hR (by omega) (GCr.v ?_))
        refine g_iret F a_A_began_64 rfl ⟨Nat.le_refl _, Nat.le_refl _⟩ ?_
        exact qv (k (by omega) (by omega)) (by unfold begA; rw [if_pos h31])
      · refine g_lsw (tg := 65) (o := 34) F (by omega) a_A_began_31 (by decide) (by rw [h31]; decide) (by decide) ?_
        refine g_aload_n F a_A_began_65 rfl ?_
        refine g_get_0_0 F a_A_began_66 fl_A_10 ?_
        refine g_iload_n F a_A_began_69 rfl ?_
        refine g_s2 F a_A_began_70 sc_A_230 mk_G_leastBegan rfl (by decide) ⟨Nat.le_refl _, Nat.le_refl _⟩ rfl (Nat.le_of_ble_eq_true rfl) (sp_G_leastBegan hS hD hR (by omega) (GCr.v ?_))
        refine g_iret F a_A_began_73 rfl ⟨Nat.le_refl _, Nat.le_refl _⟩ ?_
        exact qv (k (by omega) (by omega)) (by unfold begA; rw [if_neg (show ¬ t = 0 by omega), if_pos h31])
      · refine g_lsw (tg := 74) (o := 43) F (by omega) a_A_began_31 (by decide) (by simp only [Op.lookupswitch.offset_cons]; (repeat rw [if_neg (by omega)]); rfl) (by decide) ?_
        refine g_aload_n F a_A_began_74 rfl ?_
        refine g_get_0_0 F a_A_began_75 fl_A_10 ?_
        refine g_iload_n F a_A_began_78 rfl ?_
        refine g_s2 F a_A_began_79 sc_A_233 mk_G_greatestBegan rfl (by decide) ⟨Nat.le_refl _, Nat.le_refl _⟩ rfl (Nat.le_of_ble_eq_true rfl) (sp_G_greatestBegan hS hD hR (by omega) (GCr.v ?_))
        refine g_iret F a_A_began_82 rfl ⟨Nat.le_refl _, Nat.le_refl _⟩ ?_
        exact qv (k (by omega) (by omega)) (by unfold begA; rw [if_neg (show ¬ t = 0 by omega), if_neg (show ¬ t = 1 by omega)])
    · refine g_ifne0 F a_A_began_20 ?_
      refine g_aload_n F a_A_began_23 rfl ?_
      refine g_bipush F a_A_began_24 (by decide) ?_
      refine g_v1 F a_A_began_26 vc_A_70 mk_A_bad ob_0 ck_0.1 rfl rfl (by decide) ⟨Nat.le_refl _, Nat.le_refl _⟩ rfl (Nat.le_of_ble_eq_true rfl) (sp_A_bad  (GCr.v ?_))
      refine g_iret F a_A_began_29 rfl ⟨Nat.le_refl _, Nat.le_refl _⟩ ?_
      exact kb (by omega)
  · refine g_ifeq0 F a_A_began_11 ?_
    refine g_aload_n F a_A_began_23 rfl ?_
    refine g_bipush F a_A_began_24 (by decide) ?_
    refine g_v1 F a_A_began_26 vc_A_70 mk_A_bad ob_0 ck_0.1 rfl rfl (by decide) ⟨Nat.le_refl _, Nat.le_refl _⟩ rfl (Nat.le_of_ble_eq_true rfl) (sp_A_bad  (GCr.v ?_))
    refine g_iret F a_A_began_29 rfl ⟨Nat.le_refl _, Nat.le_refl _⟩ ?_
    exact kb (by omega)
set_option maxHeartbeats 1000000 in
theorem sp_A_forget {κ : Kx} {Q : Option Value → (Heap → Prop) → Prop} {m : Mem} (hR0 : okR (m 3 0)) (hR1 : okR (m 3 1)) (hR2 : okR (m 3 2)) {x : Int} (hx : R32 x) (kb : ¬ (0 ≤ x ∧ x ≤ 2) → Q (some (vi (-2))) (World κ (bmp m 9))) (k0 : x = 0 → Q (some (vi ((m 3 0).1 0))) (World κ (mset m 3 0 (fup (m 3 0).1 0 0, (m 3 0).2)))) (k1 : x = 1 → Q (some (vi ((m 3 1).1 0))) (World κ (mset m 3 1 (fup (m 3 1).1 0 0, (m 3 1).2)))) (k2 : x = 2 → Q (some (vi ((m 3 2).1 0))) (World κ (mset m 3 2 (fup (m 3 2).1 0 0, (m 3 2).2))))  : GG κ G_A_forget 1 0 0 [.ref (ad κ 0 0), vi x] (World κ m) Q := by
  refine GG.intro (ls := [some _, some _]) (Nat.le_of_ble_eq_true rfl) rfl (fun μ F => ?_)
  refine g_iload_n F a_A_forget_0 rfl ?_
  rcases (show x = 0 ∨ x = 1 ∨ x = 2 ∨ (x < 0 ∨ 2 < x) by omega) with h1 | h1 | h1 | h1
  · refine g_tsw (tg := 28) F (by omega) a_A_forget_1 (by omega) (by omega) (j := 0) (by omega) rfl (by decide) ?_
    refine g_aload_n F a_A_forget_28 rfl ?_
    refine g_get_0_0 F a_A_forget_29 fl_A_10 ?_
    refine g_get_1_1 F a_A_forget_32 fl_A_214 (by first | assumption | decide | omega) ?_
    (try simp only [Nat.mul_zero, Nat.zero_add])
    refine g_v0 F a_A_forget_35 vc_A_242 mk_R_empty (ob_3 (by first | assumption | decide | omega)) ck_3.1 rfl rfl (by decide) ⟨Nat.le_refl _, Nat.le_refl _⟩ rfl (Nat.le_of_ble_eq_true rfl) (sp_R_empty (by decide) hR0 (GCr.v ?_))
    refine g_iret F a_A_forget_38 rfl ⟨Nat.le_refl _, Nat.le_refl _⟩ ?_
    first | exact k0 h1 | exact k1 h1 | exact k2 h1 | exact kb (by omega)
  · refine g_tsw (tg := 39) F (by omega) a_A_forget_1 (by omega) (by omega) (j := 1) (by omega) rfl (by decide) ?_
    refine g_aload_n F a_A_forget_39 rfl ?_
    refine g_get_0_0 F a_A_forget_40 fl_A_10 ?_
    refine g_get_1_2 F a_A_forget_43 fl_A_236 (by first | assumption | decide | omega) ?_
    (try simp only [Nat.mul_zero, Nat.zero_add])
    refine g_v0 F a_A_forget_46 vc_A_242 mk_R_empty (ob_3 (by first | assumption | decide | omega)) ck_3.1 rfl rfl (by decide) ⟨Nat.le_refl _, Nat.le_refl _⟩ rfl (Nat.le_of_ble_eq_true rfl) (sp_R_empty (by decide) hR1 (GCr.v ?_))
    refine g_iret F a_A_forget_49 rfl ⟨Nat.le_refl _, Nat.le_refl _⟩ ?_
    first | exact k0 h1 | exact k1 h1 | exact k2 h1 | exact kb (by omega)
  · refine g_tsw (tg := 50) F (by omega) a_A_forget_1 (by omega) (by omega) (j := 2) (by omega) rfl (by decide) ?_
    refine g_aload_n F a_A_forget_50 rfl ?_
    refine g_get_0_0 F a_A_forget_51 fl_A_10 ?_
    refine g_get_1_3 F a_A_forget_54 fl_A_239 (by first | assumption | decide | omega) ?_
    (try simp only [Nat.mul_zero, Nat.zero_add])
    refine g_v0 F a_A_forget_57 vc_A_242 mk_R_empty (ob_3 (by first | assumption | decide | omega)) ck_3.1 rfl rfl (by decide) ⟨Nat.le_refl _, Nat.le_refl _⟩ rfl (Nat.le_of_ble_eq_true rfl) (sp_R_empty (by decide) hR2 (GCr.v ?_))
    refine g_iret F a_A_forget_60 rfl ⟨Nat.le_refl _, Nat.le_refl _⟩ ?_
    first | exact k0 h1 | exact k1 h1 | exact k2 h1 | exact kb (by omega)
  · refine g_tswD (tg := 61) F (by omega) a_A_forget_1 (by omega) (by decide) ?_
    refine g_aload_n F a_A_forget_61 rfl ?_
    refine g_bipush F a_A_forget_62 (by decide) ?_
    refine g_v1 F a_A_forget_64 vc_A_70 mk_A_bad ob_0 ck_0.1 rfl rfl (by decide) ⟨Nat.le_refl _, Nat.le_refl _⟩ rfl (Nat.le_of_ble_eq_true rfl) (sp_A_bad  (GCr.v ?_))
    refine g_iret F a_A_forget_67 rfl ⟨Nat.le_refl _, Nat.le_refl _⟩ ?_
    first | exact k0 h1 | exact k1 h1 | exact k2 h1 | exact kb (by omega)
set_option maxHeartbeats 1000000 in
theorem sp_A_part {κ : Kx} {Q : Option Value → (Heap → Prop) → Prop} {m : Mem} {x : Int} (hx : R32 x) (kb : ¬ (x = 0 ∨ x = 1) → Q (some (vl (-2))) (World κ (bmp m 9))) (k0 : x = 0 → Q (some (vl ((m 9 0).1 0))) (World κ m)) (k1 : x = 1 → Q (some (vl ((m 9 0).1 1))) (World κ m)) : GG κ G_A_part 1 0 0 [.ref (ad κ 0 0), vi x] (World κ m) Q := by
  refine GG.intro (ls := [some _, some _]) (Nat.le_of_ble_eq_true rfl) rfl (fun μ F => ?_)
  refine g_iload_n F a_A_part_0 rfl ?_
  rcases (show x = 0 ∨ x = 1 ∨ (x ≠ 0 ∧ x ≠ 1) by omega) with h1 | h1 | h1
  · refine g_lsw (tg := 28) (o := 27) F (by omega) a_A_part_1 (by decide) (by rw [h1]; decide) (by decide) ?_
    refine g_aload_n F a_A_part_28 rfl ?_
    refine g_get_0_8 F a_A_part_29 fl_A_62 ?_
    refine g_get_9_0 F a_A_part_32 fl_A_285 ?_
    refine g_lret F a_A_part_35 rfl ⟨Nat.le_refl _, Nat.le_refl _⟩ ?_
    first | exact k0 h1 | exact k1 h1 | exact kb (by omega)
  · refine g_lsw (tg := 36) (o := 35) F (by omega) a_A_part_1 (by decide) (by rw [h1]; decide) (by decide) ?_
    refine g_aload_n F a_A_part_36 rfl ?_
    refine g_get_0_8 F a_A_part_37 fl_A_62 ?_
    refine g_get_9_1 F a_A_part_40 fl_A_289 ?_
    refine g_lret F a_A_part_43 rfl ⟨Nat.le_refl _, Nat.le_refl _⟩ ?_
    first | exact k0 h1 | exact k1 h1 | exact kb (by omega)
  · refine g_lsw (tg := 44) (o := 43) F (by omega) a_A_part_1 (by decide) (by simp only [Op.lookupswitch.offset_cons]; (repeat rw [if_neg (by omega)]); rfl) (by decide) ?_
    refine g_aload_n F a_A_part_44 rfl ?_
    refine g_bipush F a_A_part_45 (by decide) ?_
    refine g_v1 F a_A_part_47 vc_A_70 mk_A_bad ob_0 ck_0.1 rfl rfl (by decide) ⟨Nat.le_refl _, Nat.le_refl _⟩ rfl (Nat.le_of_ble_eq_true rfl) (sp_A_bad  (GCr.v ?_))
    refine g_i2l F (by omega) a_A_part_50 ?_
    refine g_lret F a_A_part_51 rfl ⟨Nat.le_refl _, Nat.le_refl _⟩ ?_
    first | exact k0 h1 | exact k1 h1 | exact kb (by omega)
def cpS (m : Mem) (i j : Nat) : Mem := mset (mset (mset (mset (mset m 2 i (m 2 j)) 3 (3 * i) (fup (m 3 (3 * i)).1 0 ((m 3 (3 * j)).1 0), (m 3 (3 * j)).2)) 3 (3 * i + 1) (fup (m 3 (3 * i + 1)).1 0 ((m 3 (3 * j + 1)).1 0), (m 3 (3 * j + 1)).2)) 3 (3 * i + 2) (fup (m 3 (3 * i + 2)).1 0 ((m 3 (3 * j + 2)).1 0), (m 3 (3 * j + 2)).2)) 4 i (m 4 j)
set_option maxHeartbeats 1000000 in
theorem sp_A_image {κ : Kx} {Q : Option Value → (Heap → Prop) → Prop} {m : Mem} {x : Int} (hx : R32 x) (kb : ¬ (0 ≤ x ∧ x ≤ 1) → Q (some (vi (-2))) (World κ (bmp m 9))) (k : ∀ i : Nat, (i : Int) = x → i < 2 → Q (some (vi 1)) (World κ (mset (cpS m (i + 1) 0) 0 0 ((m 0 0).1, aup (m 0 0).2 1 (gup ((m 0 0).2 1) x 1))))) : GG κ G_A_image 3 0 0 [.ref (ad κ 0 0), vi x] (World κ m) Q := by
  refine GG.intro (ls := [some _, some _]) (Nat.le_of_ble_eq_true rfl) rfl (fun μ F => ?_)
  refine g_iload_n F a_A_image_0 rfl ?_
  refine g_iconst F a_A_image_1 ?_
  refine g_iconst F a_A_image_2 ?_
  refine g_s3 F a_A_image_3 sc_A_66 mk_A_within rfl (by decide) ⟨Nat.le_refl _, Nat.le_refl _⟩ rfl (Nat.le_of_ble_eq_true rfl) (sp_A_within (by omega) (by omega) (by omega) (fun c3 => GCr.v ?_) (fun c3 => GCr.v ?_))
  · refine g_ifne1 F a_A_image_6 ?_
    rcases (show x = 0 ∨ x = 1 by omega) with rfl | rfl
    · refine g_aload_n F a_A_image_16 rfl ?_
      refine g_get_0_1 F a_A_image_17 fl_A_16 ?_
      refine g_iload_n F a_A_image_20 rfl ?_
      refine g_aald_0 F a_A_image_21 (j := 0) ⟨rfl, by decide⟩ ?_
      refine g_aload_n F a_A_image_22 rfl ?_
      refine g_get_0_0 F a_A_image_23 fl_A_10 ?_
      refine g_v1 F a_A_image_26 vc_A_292 mk_S_copy (ob_1 (by first | assumption | decide | omega)) ck_1.1 rfl rfl (by decide) ⟨Nat.le_refl _, Nat.le_refl _⟩ rfl (Nat.le_of_ble_eq_true rfl) (sp_S_copy (i := 1) (j := 0) (by decide) (by decide) (by decide) (GCr.n ?_))
      refine g_aload_n F a_A_image_29 rfl ?_
      refine g_get_0_2 F a_A_image_30 fl_A_20 ?_
      refine g_iload_n F a_A_image_33 rfl ?_
      refine g_iconst F a_A_image_34 ?_
      refine g_bast F a_A_image_35 ⟨by decide, rfl⟩ ?_
      refine g_iconst F a_A_image_36 ?_
      refine g_iret F a_A_image_37 rfl ⟨Nat.le_refl _, Nat.le_refl _⟩ ?_
      exact k 0 rfl (by decide)
    · refine g_aload_n F a_A_image_16 rfl ?_
      refine g_get_0_1 F a_A_image_17 fl_A_16 ?_
      refine g_iload_n F a_A_image_20 rfl ?_
      refine g_aald_0 F a_A_image_21 (j := 1) ⟨rfl, by decide⟩ ?_
      refine g_aload_n F a_A_image_22 rfl ?_
      refine g_get_0_0 F a_A_image_23 fl_A_10 ?_
      refine g_v1 F a_A_image_26 vc_A_292 mk_S_copy (ob_1 (by first | assumption | decide | omega)) ck_1.1 rfl rfl (by decide) ⟨Nat.le_refl _, Nat.le_refl _⟩ rfl (Nat.le_of_ble_eq_true rfl) (sp_S_copy (i := 2) (j := 0) (by decide) (by decide) (by decide) (GCr.n ?_))
      refine g_aload_n F a_A_image_29 rfl ?_
      refine g_get_0_2 F a_A_image_30 fl_A_20 ?_
      refine g_iload_n F a_A_image_33 rfl ?_
      refine g_iconst F a_A_image_34 ?_
      refine g_bast F a_A_image_35 ⟨by decide, rfl⟩ ?_
      refine g_iconst F a_A_image_36 ?_
      refine g_iret F a_A_image_37 rfl ⟨Nat.le_refl _, Nat.le_refl _⟩ ?_
      exact k 1 rfl (by decide)
  · refine g_ifne0 F a_A_image_6 ?_
    refine g_aload_n F a_A_image_9 rfl ?_
    refine g_bipush F a_A_image_10 (by decide) ?_
    refine g_v1 F a_A_image_12 vc_A_70 mk_A_bad ob_0 ck_0.1 rfl rfl (by decide) ⟨Nat.le_refl _, Nat.le_refl _⟩ rfl (Nat.le_of_ble_eq_true rfl) (sp_A_bad  (GCr.v ?_))
    refine g_iret F a_A_image_15 rfl ⟨Nat.le_refl _, Nat.le_refl _⟩ ?_
    exact kb (by omega)
set_option maxHeartbeats 1000000 in
theorem sp_A_from {κ : Kx} {Q : Option Value → (Heap → Prop) → Prop} {m : Mem} (hkp : ∀ x : Int, 0 ≤ x ∧ x ≤ 1 → R32 ((m 0 0).2 1 x)) {x : Int} (hx : R32 x) (kb : ¬ (0 ≤ x ∧ x ≤ 1) → Q (some (vi (-2))) (World κ (bmp m 9))) (kn : ∀ i : Nat, (i : Int) = x → i < 2 → (m 0 0).2 1 x = 0 → Q (some (vi (-3))) (World κ (bmp m 10))) (k : ∀ i : Nat, (i : Int) = x → i < 2 → (m 0 0).2 1 x ≠ 0 → Q (some (vi 1)) (World κ (cpS m 0 (i + 1)))) : GG κ G_A_from 3 0 0 [.ref (ad κ 0 0), vi x] (World κ m) Q := by
  refine GG.intro (ls := [some _, some _]) (Nat.le_of_ble_eq_true rfl) rfl (fun μ F => ?_)
  refine g_iload_n F a_A_from_0 rfl ?_
  refine g_iconst F a_A_from_1 ?_
  refine g_iconst F a_A_from_2 ?_
  refine g_s3 F a_A_from_3 sc_A_66 mk_A_within rfl (by decide) ⟨Nat.le_refl _, Nat.le_refl _⟩ rfl (Nat.le_of_ble_eq_true rfl) (sp_A_within (by omega) (by omega) (by omega) (fun c3 => GCr.v ?_) (fun c3 => GCr.v ?_))
  · refine g_ifne1 F a_A_from_6 ?_
    rcases (show x = 0 ∨ x = 1 by omega) with rfl | rfl
    · refine g_aload_n F a_A_from_16 rfl ?_
      refine g_get_0_2 F a_A_from_17 fl_A_20 ?_
      refine g_iload_n F a_A_from_20 rfl ?_
      refine g_bald F a_A_from_21 (by decide) ?_
      refine g_if_ne F (hkp _ (by decide)) a_A_from_22 (fun h22 => ?_) (fun h22 => ?_)
      · refine g_aload_n F a_A_from_30 rfl ?_
        refine g_get_0_0 F a_A_from_31 fl_A_10 ?_
        refine g_aload_n F a_A_from_34 rfl ?_
        refine g_get_0_1 F a_A_from_35 fl_A_16 ?_
        refine g_iload_n F a_A_from_38 rfl ?_
        refine g_aald_0 F a_A_from_39 (j := 0) ⟨rfl, by decide⟩ ?_
        refine g_v1 F a_A_from_40 vc_A_292 mk_S_copy (ob_1 (by first | assumption | decide | omega)) ck_1.1 rfl rfl (by decide) ⟨Nat.le_refl _, Nat.le_refl _⟩ rfl (Nat.le_of_ble_eq_true rfl) (sp_S_copy (i := 0) (j := 1) (by decide) (by decide) (by decide) (GCr.n ?_))
        refine g_iconst F a_A_from_43 ?_
        refine g_iret F a_A_from_44 rfl ⟨Nat.le_refl _, Nat.le_refl _⟩ ?_
        exact k 0 rfl (by decide) h22
      · refine g_aload_n F a_A_from_25 rfl ?_
        refine g_v0 F a_A_from_26 vc_A_137 mk_A_no ob_0 ck_0.1 rfl rfl (by decide) ⟨Nat.le_refl _, Nat.le_refl _⟩ rfl (Nat.le_of_ble_eq_true rfl) (sp_A_no  (GCr.v ?_))
        refine g_iret F a_A_from_29 rfl ⟨Nat.le_refl _, Nat.le_refl _⟩ ?_
        exact kn 0 rfl (by decide) h22
    · refine g_aload_n F a_A_from_16 rfl ?_
      refine g_get_0_2 F a_A_from_17 fl_A_20 ?_
      refine g_iload_n F a_A_from_20 rfl ?_
      refine g_bald F a_A_from_21 (by decide) ?_
      refine g_if_ne F (hkp _ (by decide)) a_A_from_22 (fun h22 => ?_) (fun h22 => ?_)
      · refine g_aload_n F a_A_from_30 rfl ?_
        refine g_get_0_0 F a_A_from_31 fl_A_10 ?_
        refine g_aload_n F a_A_from_34 rfl ?_
        refine g_get_0_1 F a_A_from_35 fl_A_16 ?_
        refine g_iload_n F a_A_from_38 rfl ?_
        refine g_aald_0 F a_A_from_39 (j := 1) ⟨rfl, by decide⟩ ?_
        refine g_v1 F a_A_from_40 vc_A_292 mk_S_copy (ob_1 (by first | assumption | decide | omega)) ck_1.1 rfl rfl (by decide) ⟨Nat.le_refl _, Nat.le_refl _⟩ rfl (Nat.le_of_ble_eq_true rfl) (sp_S_copy (i := 0) (j := 2) (by decide) (by decide) (by decide) (GCr.n ?_))
        refine g_iconst F a_A_from_43 ?_
        refine g_iret F a_A_from_44 rfl ⟨Nat.le_refl _, Nat.le_refl _⟩ ?_
        exact k 1 rfl (by decide) h22
      · refine g_aload_n F a_A_from_25 rfl ?_
        refine g_v0 F a_A_from_26 vc_A_137 mk_A_no ob_0 ck_0.1 rfl rfl (by decide) ⟨Nat.le_refl _, Nat.le_refl _⟩ rfl (Nat.le_of_ble_eq_true rfl) (sp_A_no  (GCr.v ?_))
        refine g_iret F a_A_from_29 rfl ⟨Nat.le_refl _, Nat.le_refl _⟩ ?_
        exact kn 1 rfl (by decide) h22
  · refine g_ifne0 F a_A_from_6 ?_
    refine g_aload_n F a_A_from_9 rfl ?_
    refine g_bipush F a_A_from_10 (by decide) ?_
    refine g_v1 F a_A_from_12 vc_A_70 mk_A_bad ob_0 ck_0.1 rfl rfl (by decide) ⟨Nat.le_refl _, Nat.le_refl _⟩ rfl (Nat.le_of_ble_eq_true rfl) (sp_A_bad  (GCr.v ?_))
    refine g_iret F a_A_from_15 rfl ⟨Nat.le_refl _, Nat.le_refl _⟩ ?_
    exact kb (by omega)
set_option maxHeartbeats 1000000 in
theorem sp_A_status {κ : Kx} {Q : Option Value → (Heap → Prop) → Prop} {m : Mem} {x : Int} (hx : R32 x) (kb : ¬ (0 ≤ x ∧ x ≤ 2) → Q (some (vi (-1))) (World κ (bmp m 9))) (k0 : x = 0 → Q (some (vi ((m 0 0).1 9))) (World κ m)) (k1 : x = 1 → Q (some (vi ((m 0 0).1 10))) (World κ m)) (k2 : x = 2 → Q (some (vi ((m 0 0).1 11))) (World κ m))  : GG κ G_A_status 1 0 0 [.ref (ad κ 0 0), vi x] (World κ m) Q := by
  refine GG.intro (ls := [some _, some _]) (Nat.le_of_ble_eq_true rfl) rfl (fun μ F => ?_)
  refine g_iload_n F a_A_status_0 rfl ?_
  rcases (show x = 0 ∨ x = 1 ∨ x = 2 ∨ (x < 0 ∨ 2 < x) by omega) with h1 | h1 | h1 | h1
  · refine g_tsw (tg := 28) F (by omega) a_A_status_1 (by omega) (by omega) (j := 0) (by omega) rfl (by decide) ?_
    refine g_aload_n F a_A_status_28 rfl ?_
    refine g_get_0_9 F a_A_status_29 fl_A_295 ?_
    refine g_iret F a_A_status_32 rfl ⟨Nat.le_refl _, Nat.le_refl _⟩ ?_
    first | exact k0 h1 | exact k1 h1 | exact k2 h1 | exact kb (by omega)
  · refine g_tsw (tg := 33) F (by omega) a_A_status_1 (by omega) (by omega) (j := 1) (by omega) rfl (by decide) ?_
    refine g_aload_n F a_A_status_33 rfl ?_
    refine g_get_0_10 F a_A_status_34 fl_A_298 ?_
    refine g_iret F a_A_status_37 rfl ⟨Nat.le_refl _, Nat.le_refl _⟩ ?_
    first | exact k0 h1 | exact k1 h1 | exact k2 h1 | exact kb (by omega)
  · refine g_tsw (tg := 38) F (by omega) a_A_status_1 (by omega) (by omega) (j := 2) (by omega) rfl (by decide) ?_
    refine g_aload_n F a_A_status_38 rfl ?_
    refine g_get_0_11 F a_A_status_39 fl_A_301 ?_
    refine g_iret F a_A_status_42 rfl ⟨Nat.le_refl _, Nat.le_refl _⟩ ?_
    first | exact k0 h1 | exact k1 h1 | exact k2 h1 | exact kb (by omega)
  · refine g_tswD (tg := 43) F (by omega) a_A_status_1 (by omega) (by decide) ?_
    refine g_aload_n F a_A_status_43 rfl ?_
    refine g_iconst F a_A_status_44 ?_
    refine g_v1 F a_A_status_45 vc_A_70 mk_A_bad ob_0 ck_0.1 rfl rfl (by decide) ⟨Nat.le_refl _, Nat.le_refl _⟩ rfl (Nat.le_of_ble_eq_true rfl) (sp_A_bad  (GCr.v ?_))
    refine g_iret F a_A_status_48 rfl ⟨Nat.le_refl _, Nat.le_refl _⟩ ?_
    first | exact k0 h1 | exact k1 h1 | exact k2 h1 | exact kb (by omega)
def cntA (m : Mem) (x : Int) : Int := if x = 0 then (m 2 0).1 4 else if x = 1 then (m 2 0).1 5 else if x = 2 then (m 2 0).1 3 else if x = 3 then sumN (m 2 0) ((m 2 0).1 4).toNat else if x = 4 then (m 3 0).1 0 else if x = 5 then (m 3 1).1 0 else if x = 6 then (m 3 2).1 0 else if x = 7 then (m 4 0).1 0 else (m 5 0).1 0
set_option maxHeartbeats 1000000 in
theorem sp_A_count {κ : Kx} {Q : Option Value → (Heap → Prop) → Prop} {m : Mem} {D : Int} (hS : okS D (m 2 0)) (hD : D ≤ 100000) {x : Int} (hx : R32 x) (kb : ¬ (0 ≤ x ∧ x ≤ 8) → Q (some (vi (-2))) (World κ (bmp m 9))) (k : 0 ≤ x ∧ x ≤ 8 → Q (some (vi (cntA m x))) (World κ m)) : GG κ G_A_count 1 0 0 [.ref (ad κ 0 0), vi x] (World κ m) Q := by
  obtain ⟨s0, s1, s2, s3, s4, s5, hfg, hkd, hsh, hgl⟩ := id hS
  refine GG.intro (ls := [some _, some _]) (Nat.le_of_ble_eq_true rfl) rfl (fun μ F => ?_)
  refine g_iload_n F a_A_count_0 rfl ?_
  rcases (show x = 0 ∨ x = 1 ∨ x = 2 ∨ x = 3 ∨ x = 4 ∨ x = 5 ∨ x = 6 ∨ x = 7 ∨ x = 8 ∨ (x < 0 ∨ 8 < x) by omega) with h1 | h1 | h1 | h1 | h1 | h1 | h1 | h1 | h1 | h1
  · refine g_tsw (tg := 52) F (by omega) a_A_count_1 (by omega) (by omega) (j := 0) (by omega) rfl (by decide) ?_
    refine g_aload_n F a_A_count_52 rfl ?_
    refine g_get_0_0 F a_A_count_53 fl_A_10 ?_
    refine g_get_1_0 F a_A_count_56 fl_A_74 (by first | assumption | decide | omega) ?_
    refine g_get_2_4 F a_A_count_59 fl_A_77 (by first | assumption | decide | omega) ?_
    refine g_iret F a_A_count_62 rfl ⟨Nat.le_refl _, Nat.le_refl _⟩ ?_
    first | exact qv (k (by omega)) (by subst h1; rfl) | exact kb (by omega)
  · refine g_tsw (tg := 63) F (by omega) a_A_count_1 (by omega) (by omega) (j := 1) (by omega) rfl (by decide) ?_
    refine g_aload_n F a_A_count_63 rfl ?_
    refine g_get_0_0 F a_A_count_64 fl_A_10 ?_
    refine g_get_1_0 F a_A_count_67 fl_A_74 (by first | assumption | decide | omega) ?_
    refine g_get_2_5 F a_A_count_70 fl_A_106 (by first | assumption | decide | omega) ?_
    refine g_iret F a_A_count_73 rfl ⟨Nat.le_refl _, Nat.le_refl _⟩ ?_
    first | exact qv (k (by omega)) (by subst h1; rfl) | exact kb (by omega)
  · refine g_tsw (tg := 74) F (by omega) a_A_count_1 (by omega) (by omega) (j := 2) (by omega) rfl (by decide) ?_
    refine g_aload_n F a_A_count_74 rfl ?_
    refine g_get_0_0 F a_A_count_75 fl_A_10 ?_
    refine g_get_1_0 F a_A_count_78 fl_A_74 (by first | assumption | decide | omega) ?_
    refine g_get_2_3 F a_A_count_81 fl_A_134 (by first | assumption | decide | omega) ?_
    refine g_iret F a_A_count_84 rfl ⟨Nat.le_refl _, Nat.le_refl _⟩ ?_
    first | exact qv (k (by omega)) (by subst h1; rfl) | exact kb (by omega)
  · refine g_tsw (tg := 85) F (by omega) a_A_count_1 (by omega) (by omega) (j := 3) (by omega) rfl (by decide) ?_
    refine g_aload_n F a_A_count_85 rfl ?_
    refine g_get_0_0 F a_A_count_86 fl_A_10 ?_
    refine g_get_1_0 F a_A_count_89 fl_A_74 (by first | assumption | decide | omega) ?_
    refine g_v0 F a_A_count_92 vc_A_304 mk_H_shameOfAll (ob_2 (by first | assumption | decide | omega)) ck_2.1 rfl rfl (by decide) ⟨Nat.le_refl _, Nat.le_refl _⟩ rfl (Nat.le_of_ble_eq_true rfl) (sp_H_shameOfAll (i := 0) (D := D) (by decide) hS hD (GCr.v ?_))
    refine g_iret F a_A_count_95 rfl ⟨Nat.le_refl _, Nat.le_refl _⟩ ?_
    first | exact qv (k (by omega)) (by subst h1; rfl) | exact kb (by omega)
  · refine g_tsw (tg := 96) F (by omega) a_A_count_1 (by omega) (by omega) (j := 4) (by omega) rfl (by decide) ?_
    refine g_aload_n F a_A_count_96 rfl ?_
    refine g_get_0_0 F a_A_count_97 fl_A_10 ?_
    refine g_get_1_1 F a_A_count_100 fl_A_214 (by first | assumption | decide | omega) ?_
    (try simp only [Nat.mul_zero, Nat.zero_add])
    refine g_get_3_0 F a_A_count_103 fl_A_307 (by first | assumption | decide | omega) ?_
    refine g_iret F a_A_count_106 rfl ⟨Nat.le_refl _, Nat.le_refl _⟩ ?_
    first | exact qv (k (by omega)) (by subst h1; rfl) | exact kb (by omega)
  · refine g_tsw (tg := 107) F (by omega) a_A_count_1 (by omega) (by omega) (j := 5) (by omega) rfl (by decide) ?_
    refine g_aload_n F a_A_count_107 rfl ?_
    refine g_get_0_0 F a_A_count_108 fl_A_10 ?_
    refine g_get_1_2 F a_A_count_111 fl_A_236 (by first | assumption | decide | omega) ?_
    (try simp only [Nat.mul_zero, Nat.zero_add])
    refine g_get_3_0 F a_A_count_114 fl_A_307 (by first | assumption | decide | omega) ?_
    refine g_iret F a_A_count_117 rfl ⟨Nat.le_refl _, Nat.le_refl _⟩ ?_
    first | exact qv (k (by omega)) (by subst h1; rfl) | exact kb (by omega)
  · refine g_tsw (tg := 118) F (by omega) a_A_count_1 (by omega) (by omega) (j := 6) (by omega) rfl (by decide) ?_
    refine g_aload_n F a_A_count_118 rfl ?_
    refine g_get_0_0 F a_A_count_119 fl_A_10 ?_
    refine g_get_1_3 F a_A_count_122 fl_A_239 (by first | assumption | decide | omega) ?_
    (try simp only [Nat.mul_zero, Nat.zero_add])
    refine g_get_3_0 F a_A_count_125 fl_A_307 (by first | assumption | decide | omega) ?_
    refine g_iret F a_A_count_128 rfl ⟨Nat.le_refl _, Nat.le_refl _⟩ ?_
    first | exact qv (k (by omega)) (by subst h1; rfl) | exact kb (by omega)
  · refine g_tsw (tg := 129) F (by omega) a_A_count_1 (by omega) (by omega) (j := 7) (by omega) rfl (by decide) ?_
    refine g_aload_n F a_A_count_129 rfl ?_
    refine g_get_0_0 F a_A_count_130 fl_A_10 ?_
    refine g_get_1_4 F a_A_count_133 fl_A_89 (by first | assumption | decide | omega) ?_
    refine g_get_4_0 F a_A_count_136 fl_A_93 (by first | assumption | decide | omega) ?_
    refine g_iret F a_A_count_139 rfl ⟨Nat.le_refl _, Nat.le_refl _⟩ ?_
    first | exact qv (k (by omega)) (by subst h1; rfl) | exact kb (by omega)
  · refine g_tsw (tg := 140) F (by omega) a_A_count_1 (by omega) (by omega) (j := 8) (by omega) rfl (by decide) ?_
    refine g_aload_n F a_A_count_140 rfl ?_
    refine g_get_0_4 F a_A_count_141 fl_A_34 ?_
    refine g_get_5_0 F a_A_count_144 fl_A_112 ?_
    refine g_iret F a_A_count_147 rfl ⟨Nat.le_refl _, Nat.le_refl _⟩ ?_
    first | exact qv (k (by omega)) (by subst h1; rfl) | exact kb (by omega)
  · refine g_tswD (tg := 148) F (by omega) a_A_count_1 (by omega) (by decide) ?_
    refine g_aload_n F a_A_count_148 rfl ?_
    refine g_bipush F a_A_count_149 (by decide) ?_
    refine g_v1 F a_A_count_151 vc_A_70 mk_A_bad ob_0 ck_0.1 rfl rfl (by decide) ⟨Nat.le_refl _, Nat.le_refl _⟩ rfl (Nat.le_of_ble_eq_true rfl) (sp_A_bad  (GCr.v ?_))
    refine g_iret F a_A_count_154 rfl ⟨Nat.le_refl _, Nat.le_refl _⟩ ?_
    first | exact qv (k (by omega)) (by subst h1; rfl) | exact kb (by omega)
def cdN (m : Mem) : Nat → Int
  | 0 => 1543
  | n + 1 => 31 * cdN m n + cntA m n
def ndN (S : Rc) (h : Int) : Nat → Int
  | 0 => h
  | n + 1 => 31 * ndN S h n + nowS S n
def digA (m : Mem) : Int := 31 * (31 * rdN (m 3 2) (rdN (m 3 1) (rdN (m 3 0) (digS (m 2 0) (ndN (m 2 0) (cdN m 9) 3)) ((m 3 0).1 0).toNat) ((m 3 1).1 0).toNat) ((m 3 2).1 0).toNat + (m 9 0).1 0) + (m 9 0).1 1
theorem cntA_r {m : Mem} {D x : Int} (hS : okS D (m 2 0)) (hD : D ≤ 100000) (h0 : okR (m 3 0)) (h1 : okR (m 3 1)) (h2 : okR (m 3 2)) (hP : okP (m 4 0)) (hz : 0 ≤ (m 5 0).1 0 ∧ (m 5 0).1 0 ≤ 150) : R32 (cntA m x) := by
  obtain ⟨s0, s1, s2, s3, s4, s5, hfg, hkd, hsh, hgl⟩ := id hS
  have hs := sumN_r hS ((m 2 0).1 4).toNat (by omega)
  have a0 := h0.1
  have a1 := h1.1
  have a2 := h2.1
  have a3 := hP.1
  unfold cntA
  repeat' split
  all_goals omega
theorem nowS_r {S : Rc} {D x : Int} (hS : okS D S) : R32 (nowS S x) := by
  obtain ⟨s0, s1, s2, s3, s4, s5, hfg, hkd, hsh, hgl⟩ := id hS
  unfold nowS
  repeat' split
  all_goals omega
set_option maxHeartbeats 2000000 in
theorem lp_A_dig1 {κ : Kx} {μ : MX} {Z : State → Prop} {m : Mem} {D : Int} (hS : okS D (m 2 0)) (hD : D ≤ 100000) (h0 : okR (m 3 0)) (h1 : okR (m 3 1)) (h2 : okR (m 3 2)) (hP : okP (m 4 0)) (hz : 0 ≤ (m 5 0).1 0 ∧ (m 5 0).1 0 ≤ 150) (k : GC κ μ Z 0 0 31 [some (.ref (ad κ 0 0)), some (vl (cdN m 9)), none, some (vi 9)] [] (World κ m)) (F : Fx κ G_A_digest 2 0 0 μ) :
    ∀ (n : Nat) (j : Nat) (x e : Int), 9 < j + n → j ≤ 9 → x = j → e = cdN m j →  GC κ μ Z 0 0 6 [some (.ref (ad κ 0 0)), some (vl e), none, some (vi x)] [] (World κ m) := by
  intro n
  induction n with
  | zero =>
    intro j x e hn hj hx he
    exact absurd hn (by omega)
  | succ n ih =>
    intro j x e hn hj hx he
    refine g_iload_n F a_A_digest_6 rfl ?_
    refine g_bipush F a_A_digest_7 (by decide) ?_
    refine g_icmp_gt F (by first | omega | exact cntA_r hS hD h0 h1 h2 hP hz) (by first | omega | exact cntA_r hS hD h0 h1 h2 hP hz) a_A_digest_9 (fun h9 => ?_) (fun h9 => ?_)
    · obtain rfl : j = 9 := by omega
      rw [he, hx]
      exact GC.loc2 k ⟨rfl, rfl, rfl, trivial⟩
    · refine g_ldc2 F a_A_digest_12 kl_A_310 ?_
      refine g_lload_n F a_A_digest_15 rfl ?_
      refine g_lmul F a_A_digest_16 ?_
      refine g_aload_n F a_A_digest_17 rfl ?_
      refine g_iload_n F a_A_digest_18 rfl ?_
      refine g_v1 F a_A_digest_19 vc_A_312 mk_A_count ob_0 ck_0.1 rfl rfl (by decide) ⟨Nat.le_refl _, Nat.le_refl _⟩ rfl (Nat.le_of_ble_eq_true rfl) (sp_A_count hS hD (by omega) (fun q => absurd (show 0 ≤ x ∧ x ≤ 8 by omega) q) (fun _ => (GCr.v ?_)))
      refine g_i2l F (by first | omega | exact cntA_r hS hD h0 h1 h2 hP hz) a_A_digest_22 ?_
      refine g_ladd F a_A_digest_23 ?_
      refine g_lstore_n (ls' := [_, _, _, _]) F a_A_digest_24 rfl rfl rfl ?_
      refine g_iinc (ls' := [_, _, _, _]) F a_A_digest_25 rfl rfl rfl ?_
      refine g_goto F a_A_digest_28 ?_
      exact GC.loc2 (ih (j + 1) _ _ (by omega) (by omega) (by omega) (by rw [he, hx]; rfl)) ⟨rfl, rfl, rfl, trivial⟩
set_option maxHeartbeats 2000000 in
theorem lp_A_dig2 {κ : Kx} {μ : MX} {Z : State → Prop} {m : Mem} {D : Int} (hS : okS D (m 2 0)) (hD : D ≤ 100000) (h0 : okR (m 3 0)) (h1 : okR (m 3 1)) (h2 : okR (m 3 2)) (hP : okP (m 4 0)) (hz : 0 ≤ (m 5 0).1 0 ∧ (m 5 0).1 0 ≤ 150) {h : Int} (k : GC κ μ Z 0 0 57 [some (.ref (ad κ 0 0)), some (vl (ndN (m 2 0) h 3)), none, some (vi 3)] [] (World κ m)) (F : Fx κ G_A_digest 2 0 0 μ) :
    ∀ (n : Nat) (j : Nat) (x e : Int), 3 < j + n → j ≤ 3 → x = j → e = ndN (m 2 0) h j →  GC κ μ Z 0 0 33 [some (.ref (ad κ 0 0)), some (vl e), none, some (vi x)] [] (World κ m) := by
  intro n
  induction n with
  | zero =>
    intro j x e hn hj hx he
    exact absurd hn (by omega)
  | succ n ih =>
    intro j x e hn hj hx he
    refine g_iload_n F a_A_digest_33 rfl ?_
    refine g_iconst F a_A_digest_34 ?_
    refine g_icmp_gt F (by first | omega | exact nowS_r hS) (by first | omega | exact nowS_r hS) a_A_digest_35 (fun h35 => ?_) (fun h35 => ?_)
    · obtain rfl : j = 3 := by omega
      rw [he, hx]
      exact GC.loc2 k ⟨rfl, rfl, rfl, trivial⟩
    · refine g_ldc2 F a_A_digest_38 kl_A_310 ?_
      refine g_lload_n F a_A_digest_41 rfl ?_
      refine g_lmul F a_A_digest_42 ?_
      refine g_aload_n F a_A_digest_43 rfl ?_
      refine g_iload_n F a_A_digest_44 rfl ?_
      refine g_v1 F a_A_digest_45 vc_A_315 mk_A_now ob_0 ck_0.1 rfl rfl (by decide) ⟨Nat.le_refl _, Nat.le_refl _⟩ rfl (Nat.le_of_ble_eq_true rfl) (sp_A_now hS hD (by omega) (fun q => absurd (show 0 ≤ x ∧ x ≤ 3 by omega) q) (fun _ => (GCr.v ?_)))
      refine g_i2l F (by first | omega | exact nowS_r hS) a_A_digest_48 ?_
      refine g_ladd F a_A_digest_49 ?_
      refine g_lstore_n (ls' := [_, _, _, _]) F a_A_digest_50 rfl rfl rfl ?_
      refine g_iinc (ls' := [_, _, _, _]) F a_A_digest_51 rfl rfl rfl ?_
      refine g_goto F a_A_digest_54 ?_
      exact GC.loc2 (ih (j + 1) _ _ (by omega) (by omega) (by omega) (by rw [he, hx]; rfl)) ⟨rfl, rfl, rfl, trivial⟩
set_option maxHeartbeats 1000000 in
theorem sp_A_digest {κ : Kx} {Q : Option Value → (Heap → Prop) → Prop} {m : Mem} {D : Int} (hS : okS D (m 2 0)) (hD : D ≤ 100000) (h0 : okR (m 3 0)) (h1 : okR (m 3 1)) (h2 : okR (m 3 2)) (hP : okP (m 4 0)) (hz : 0 ≤ (m 5 0).1 0 ∧ (m 5 0).1 0 ≤ 150) (k : Q (some (vl (digA m))) (World κ m)) : GG κ G_A_digest 2 0 0 [.ref (ad κ 0 0)] (World κ m) Q := by
  refine GG.intro (ls := [some _, none, none, none]) (Nat.le_of_ble_eq_true rfl) rfl (fun μ F => ?_)
  refine g_ldc2 F a_A_digest_0 kl_A_308 ?_
  refine g_lstore_n (ls' := [_, _, _, _]) F a_A_digest_3 rfl rfl rfl ?_
  refine g_iconst F a_A_digest_4 ?_
  refine g_istore_n (ls' := [_, _, _, _]) F a_A_digest_5 rfl rfl rfl ?_
  refine GC.loc2 (lp_A_dig1 hS hD h0 h1 h2 hP hz ?_ F 10 0 0 _ (by omega) (by omega) rfl rfl) ⟨rfl, rfl, rfl, trivial⟩
  refine g_iconst F a_A_digest_31 ?_
  refine g_istore_n (ls' := [_, _, _, _]) F a_A_digest_32 rfl rfl rfl ?_
  refine GC.loc2 (lp_A_dig2 hS hD h0 h1 h2 hP hz ?_ F 4 0 0 _ (by omega) (by omega) rfl rfl) ⟨rfl, rfl, rfl, trivial⟩
  refine g_aload_n F a_A_digest_57 rfl ?_
  refine g_get_0_0 F a_A_digest_58 fl_A_10 ?_
  refine g_get_1_0 F a_A_digest_61 fl_A_74 (by first | assumption | decide | omega) ?_
  refine g_lload_n F a_A_digest_64 rfl ?_
  refine g_v1 F a_A_digest_65 vc_A_318 mk_H_digestOn (ob_2 (by first | assumption | decide | omega)) ck_2.1 rfl rfl (by decide) ⟨Nat.le_refl _, Nat.le_refl _⟩ rfl (Nat.le_of_ble_eq_true rfl) (sp_H_digestOn (i := 0) (D := D) (by decide) hS hD (GCr.v ?_))
  refine g_lstore_n (ls' := [_, _, _, _]) F a_A_digest_68 rfl rfl rfl ?_
  refine g_aload_n F a_A_digest_69 rfl ?_
  refine g_get_0_0 F a_A_digest_70 fl_A_10 ?_
  refine g_get_1_1 F a_A_digest_73 fl_A_214 (by first | assumption | decide | omega) ?_
  (try simp only [Nat.mul_zero, Nat.zero_add])
  refine g_lload_n F a_A_digest_76 rfl ?_
  refine g_v1 F a_A_digest_77 vc_A_322 mk_R_digestOn (ob_3 (by first | assumption | decide | omega)) ck_3.1 rfl rfl (by decide) ⟨Nat.le_refl _, Nat.le_refl _⟩ rfl (Nat.le_of_ble_eq_true rfl) (sp_R_digestOn (i := 0) (by decide) h0 (GCr.v ?_))
  refine g_lstore_n (ls' := [_, _, _, _]) F a_A_digest_80 rfl rfl rfl ?_
  refine g_aload_n F a_A_digest_81 rfl ?_
  refine g_get_0_0 F a_A_digest_82 fl_A_10 ?_
  refine g_get_1_2 F a_A_digest_85 fl_A_236 (by first | assumption | decide | omega) ?_
  (try simp only [Nat.mul_zero, Nat.zero_add])
  refine g_lload_n F a_A_digest_88 rfl ?_
  refine g_v1 F a_A_digest_89 vc_A_322 mk_R_digestOn (ob_3 (by first | assumption | decide | omega)) ck_3.1 rfl rfl (by decide) ⟨Nat.le_refl _, Nat.le_refl _⟩ rfl (Nat.le_of_ble_eq_true rfl) (sp_R_digestOn (i := 1) (by decide) h1 (GCr.v ?_))
  refine g_lstore_n (ls' := [_, _, _, _]) F a_A_digest_92 rfl rfl rfl ?_
  refine g_aload_n F a_A_digest_93 rfl ?_
  refine g_get_0_0 F a_A_digest_94 fl_A_10 ?_
  refine g_get_1_3 F a_A_digest_97 fl_A_239 (by first | assumption | decide | omega) ?_
  (try simp only [Nat.mul_zero, Nat.zero_add])
  refine g_lload_n F a_A_digest_100 rfl ?_
  refine g_v1 F a_A_digest_101 vc_A_322 mk_R_digestOn (ob_3 (by first | assumption | decide | omega)) ck_3.1 rfl rfl (by decide) ⟨Nat.le_refl _, Nat.le_refl _⟩ rfl (Nat.le_of_ble_eq_true rfl) (sp_R_digestOn (i := 2) (by decide) h2 (GCr.v ?_))
  refine g_lstore_n (ls' := [_, _, _, _]) F a_A_digest_104 rfl rfl rfl ?_
  refine g_ldc2 F a_A_digest_105 kl_A_310 ?_
  refine g_lload_n F a_A_digest_108 rfl ?_
  refine g_lmul F a_A_digest_109 ?_
  refine g_aload_n F a_A_digest_110 rfl ?_
  refine g_get_0_8 F a_A_digest_111 fl_A_62 ?_
  refine g_get_9_0 F a_A_digest_114 fl_A_285 ?_
  refine g_ladd F a_A_digest_117 ?_
  refine g_lstore_n (ls' := [_, _, _, _]) F a_A_digest_118 rfl rfl rfl ?_
  refine g_ldc2 F a_A_digest_119 kl_A_310 ?_
  refine g_lload_n F a_A_digest_122 rfl ?_
  refine g_lmul F a_A_digest_123 ?_
  refine g_aload_n F a_A_digest_124 rfl ?_
  refine g_get_0_8 F a_A_digest_125 fl_A_62 ?_
  refine g_get_9_1 F a_A_digest_128 fl_A_289 ?_
  refine g_ladd F a_A_digest_131 ?_
  refine g_lret F a_A_digest_132 rfl ⟨Nat.le_refl _, Nat.le_refl _⟩ ?_
  exact k
theorem offS_r (S : Rc) : -50 ≤ offS S ∧ offS S ≤ 49 := by unfold offS; omega
theorem shl6_dec : ∀ i : Nat, i < 6 → 0 ≤ bShl 1 (i : Int) ∧ bShl 1 (i : Int) < 64 := by decide +kernel
theorem shl6 {i : Int} (h : 0 ≤ i ∧ i < 6) : 0 ≤ bShl 1 i ∧ bShl 1 i < 64 := by
  have := shl6_dec i.toNat (by omega)
  rw [Int.toNat_of_nonneg h.1] at this
  exact this
/-- VOYAGES: the numbers, the ships, the sum -/
def vyX (s : Int) : Nat → Int
  | 0 => s
  | n + 1 => (vyX s n * 1103515245 + 12345) % 2147483648
def vyT (S : Rc) (x : Int) : Int := if (0 ≤ x / 65536 % 6 ∧ x / 65536 % 6 < S.1 4) ∧ 0 ≤ x / 1048576 % 3 ∧ x / 1048576 % 3 < S.1 5 then bShl 1 (x / 65536 % 6) else 0
def vyS (S : Rc) (s : Int) : Nat → Rc
  | 0 => S
  | n + 1 => sailS (vyS S s n) (vyT (vyS S s n) (vyX s (n + 1))) (vyX s (n + 1) / 1048576 % 3)
def vyZ (S : Rc) (s : Int) : Nat → Int
  | 0 => 0
  | n + 1 => vyZ S s n + max (offS (vyS S s (n + 1))) (-(offS (vyS S s (n + 1))))
theorem vyS_ok {D : Int} {S : Rc} (h : okS D S) (s : Int) : ∀ n : Nat, okS (D + n) (vyS S s n)
  | 0 => by rw [show D + ((0 : Nat) : Int) = D by omega]; exact h
  | n + 1 => by
    have := sail_ok (vyS_ok h s n) (vyT (vyS S s n) (vyX s (n + 1))) (vyX s (n + 1) / 1048576 % 3)
    rw [show D + ((n + 1 : Nat) : Int) = D + (n : Int) + 1 by omega]
    exact this
theorem vyX_r {s : Int} (h : 0 ≤ s ∧ s ≤ 999999) : ∀ n : Nat, 0 ≤ vyX s n ∧ vyX s n ≤ 2147483647
  | 0 => by show 0 ≤ s ∧ s ≤ 2147483647; omega
  | n + 1 => by show 0 ≤ (vyX s n * 1103515245 + 12345) % 2147483648 ∧ (vyX s n * 1103515245 + 12345) % 2147483648 ≤ 2147483647; omega
set_option maxHeartbeats 2000000 in
theorem lp_A_voy {κ : Kx} {μ : MX} {Q : Option Value → (Heap → Prop) → Prop} {m : Mem} {D : Int} {s t : Int} (hS : okS D (m 2 0)) (hD : D + 61 ≤ 100000) (hs : 0 ≤ s ∧ s ≤ 999999) (ht : 0 ≤ t ∧ t ≤ 60) (k : Q (some (vi (vyZ (m 2 0) s t.toNat))) (World κ (mset m 2 3 (vyS (m 2 0) s t.toNat)))) (F : Fx κ G_A_voyages 3 0 0 μ) :
    ∀ (n : Nat) (j : Nat) (x e y : Int), t < j + n → (j : Int) ≤ t → y = j → x = vyX s j → e = vyZ (m 2 0) s j →  GC κ μ (ZZ κ μ 0 0 Q) 0 0 51 [some (.ref (ad κ 0 0)), some (vi s), some (vi t), some (vl x), none, some (vi e), some (vi y), none, none, none] [] (World κ (mset m 2 3 (vyS (m 2 0) s j))) := by
  intro n
  induction n with
  | zero =>
    intro j x e y hn hj hy hxx he
    exact absurd hn (by omega)
  | succ n ih =>
    intro j x e y hn hj hy hxx he
    subst hxx
    have hSj := vyS_ok hS s j
    have hxr : 0 ≤ vyX s j ∧ vyX s j ≤ 2147483647 := vyX_r hs j
    refine g_iload F a_A_voyages_51 rfl ?_
    refine g_iload_n F a_A_voyages_53 rfl ?_
    refine g_icmp_ge F (by omega) (by omega) a_A_voyages_54 (fun h54 => ?_) (fun h54 => ?_)
    · refine g_iload F a_A_voyages_169 rfl ?_
      refine g_iret F a_A_voyages_171 rfl ⟨Nat.le_refl _, Nat.le_refl _⟩ ?_
      obtain rfl : j = t.toNat := by omega
      exact qv k he
    · refine g_lload_n F a_A_voyages_57 rfl ?_
      refine g_ldc2 F a_A_voyages_58 kl_A_271 ?_
      refine g_lmul F a_A_voyages_61 ?_
      refine g_ldc2 F a_A_voyages_62 kl_A_273 ?_
      refine g_ladd F a_A_voyages_65 ?_
      refine g_ldc2 F a_A_voyages_66 kl_A_275 ?_
      refine g_lrem F (by omega) (by omega) a_A_voyages_69 ?_
      refine g_lstore_n (ls' := [_, _, _, _, _, _, _, _, _, _]) F a_A_voyages_70 rfl rfl rfl ?_
      refine g_lload_n F a_A_voyages_71 rfl ?_
      refine g_ldc2 F a_A_voyages_72 kl_A_277 ?_
      refine g_ldiv F (by omega) (by omega) a_A_voyages_75 ?_
      refine g_ldc2 F a_A_voyages_76 kl_A_279 ?_
      refine g_lrem F (by omega) (by omega) a_A_voyages_79 ?_
      refine g_l2i F a_A_voyages_80 ?_
      refine g_istore (ls' := [_, _, _, _, _, _, _, _, _, _]) F a_A_voyages_81 rfl rfl rfl ?_
      refine g_lload_n F a_A_voyages_83 rfl ?_
      refine g_ldc2 F a_A_voyages_84 kl_A_281 ?_
      refine g_ldiv F (by omega) (by omega) a_A_voyages_87 ?_
      refine g_ldc2 F a_A_voyages_88 kl_A_283 ?_
      refine g_lrem F (by omega) (by omega) a_A_voyages_91 ?_
      refine g_l2i F a_A_voyages_92 ?_
      refine g_istore (ls' := [_, _, _, _, _, _, _, _, _, _]) F a_A_voyages_93 rfl rfl rfl ?_
      refine g_aload_n F a_A_voyages_95 rfl ?_
      refine g_get_0_3 F a_A_voyages_96 fl_A_27 ?_
      (try simp only [mset_app, mset_mset, fup_app, aup_app, fup_fup, aup_aup, false_and, and_false, true_and, and_true, and_self, reduceIte, Nat.reduceEqDiff, reduceCtorEq, fup_10])
      refine g_iload F a_A_voyages_99 rfl ?_
      refine g_v1 F a_A_voyages_101 vc_A_150 mk_H_hasMan (ob_2 (by first | assumption | decide | omega)) ck_2.1 rfl rfl (by decide) ⟨Nat.le_refl _, Nat.le_refl _⟩ rfl (Nat.le_of_ble_eq_true rfl) (sp_H_hasMan (i := 3) (D := D + j) (by decide) (by exact hSj) (by omega) (by omega) (fun c101 => GCr.v ?_) (fun c101 => GCr.v ?_))
      · refine g_ifeq1 F a_A_voyages_104 ?_
        refine g_aload_n F a_A_voyages_107 rfl ?_
        refine g_get_0_3 F a_A_voyages_108 fl_A_27 ?_
        (try simp only [mset_app, mset_mset, fup_app, aup_app, fup_fup, aup_aup, false_and, and_false, true_and, and_true, and_self, reduceIte, Nat.reduceEqDiff, reduceCtorEq, fup_10])
        refine g_iload F a_A_voyages_111 rfl ?_
        refine g_v1 F a_A_voyages_113 vc_A_131 mk_H_hasReader (ob_2 (by first | assumption | decide | omega)) ck_2.1 rfl rfl (by decide) ⟨Nat.le_refl _, Nat.le_refl _⟩ rfl (Nat.le_of_ble_eq_true rfl) (sp_H_hasReader (i := 3) (D := D + j) (by decide) (by exact hSj) (by omega) (by omega) (fun c113 => GCr.v ?_) (fun c113 => GCr.v ?_))
        · refine g_ifeq1 F a_A_voyages_116 ?_
          refine g_iconst F a_A_voyages_119 ?_
          refine g_goto F a_A_voyages_120 ?_
          refine g_istore (ls' := [_, _, _, _, _, _, _, _, _, _]) F a_A_voyages_124 rfl rfl rfl ?_
          refine g_aload_n F a_A_voyages_126 rfl ?_
          refine g_get_0_3 F a_A_voyages_127 fl_A_27 ?_
          (try simp only [mset_app, mset_mset, fup_app, aup_app, fup_fup, aup_aup, false_and, and_false, true_and, and_true, and_self, reduceIte, Nat.reduceEqDiff, reduceCtorEq, fup_10])
          refine g_iload F a_A_voyages_130 rfl ?_
          refine g_ifeq1 F a_A_voyages_132 ?_
          refine g_iconst F a_A_voyages_135 ?_
          refine g_iload F a_A_voyages_136 rfl ?_
          refine g_ishl F a_A_voyages_138 ?_
          refine g_goto F a_A_voyages_139 ?_
          refine g_iload F a_A_voyages_143 rfl ?_
          refine g_v2 F a_A_voyages_145 vc_A_143 mk_H_sail (ob_2 (by first | assumption | decide | omega)) ck_2.1 rfl rfl (by decide) ⟨Nat.le_refl _, Nat.le_refl _⟩ rfl (Nat.le_of_ble_eq_true rfl) (sp_H_sail (i := 3) (D := D + j) (by decide) (by exact hSj) (by omega) (by first | exact shl6 (by omega) | decide) (by omega) (GCr.n ?_))
          (try simp only [mset_app, mset_mset, fup_app, aup_app, fup_fup, aup_aup, false_and, and_false, true_and, and_true, and_self, reduceIte, Nat.reduceEqDiff, reduceCtorEq, fup_10])
          refine g_iload F a_A_voyages_148 rfl ?_
          refine g_aload_n F a_A_voyages_150 rfl ?_
          refine g_get_0_3 F a_A_voyages_151 fl_A_27 ?_
          (try simp only [mset_app, mset_mset, fup_app, aup_app, fup_fup, aup_aup, false_and, and_false, true_and, and_true, and_self, reduceIte, Nat.reduceEqDiff, reduceCtorEq, fup_10])
          refine g_v0 F a_A_voyages_154 vc_A_181 mk_H_drift (ob_2 (by first | assumption | decide | omega)) ck_2.1 rfl rfl (by decide) ⟨Nat.le_refl _, Nat.le_refl _⟩ rfl (Nat.le_of_ble_eq_true rfl) (sp_H_drift (i := 3) (D := D + j + 1) (by decide) (by exact sail_ok hSj _ _) (by omega) (GCr.v ?_))
          (try simp only [mset_app, mset_mset, fup_app, aup_app, fup_fup, aup_aup, false_and, and_false, true_and, and_true, and_self, reduceIte, Nat.reduceEqDiff, reduceCtorEq, fup_10])
          refine g_s1 F a_A_voyages_157 sc_A_190 mk_J_abs rfl (by decide) ⟨Nat.le_refl _, Nat.le_refl _⟩ rfl (Nat.le_of_ble_eq_true rfl) (sp_J_abs ⟨Int.le_trans (by decide) (offS_r _).1, Int.le_trans (offS_r _).2 (by decide)⟩ (GCr.v ?_))
          (try simp only [mset_app, mset_mset, fup_app, aup_app, fup_fup, aup_aup, false_and, and_false, true_and, and_true, and_self, reduceIte, Nat.reduceEqDiff, reduceCtorEq, fup_10])
          refine g_iadd F a_A_voyages_160 ?_
          refine g_istore (ls' := [_, _, _, _, _, _, _, _, _, _]) F a_A_voyages_161 rfl rfl rfl ?_
          refine g_iinc (ls' := [_, _, _, _, _, _, _, _, _, _]) F a_A_voyages_163 rfl rfl rfl ?_
          refine g_goto F a_A_voyages_166 ?_
          have eS : vyS (m 2 0) s (j + 1) = sailS (vyS (m 2 0) s j) (bShl 1 (((vyX s j * 1103515245 + 12345) % 2147483648) / 65536 % 6)) (((vyX s j * 1103515245 + 12345) % 2147483648) / 1048576 % 3) := congrArg (fun t => sailS (vyS (m 2 0) s j) t (((vyX s j * 1103515245 + 12345) % 2147483648) / 1048576 % 3)) (if_pos (show (0 ≤ ((vyX s j * 1103515245 + 12345) % 2147483648) / 65536 % 6 ∧ ((vyX s j * 1103515245 + 12345) % 2147483648) / 65536 % 6 < (vyS (m 2 0) s j).1 4) ∧ 0 ≤ ((vyX s j * 1103515245 + 12345) % 2147483648) / 1048576 % 3 ∧ ((vyX s j * 1103515245 + 12345) % 2147483648) / 1048576 % 3 < (vyS (m 2 0) s j).1 5 from ⟨c101, c113⟩))
          refine GC.loc2 (GC.pw (ih (j + 1) _ _ _ (by omega) (by omega) (by omega) rfl ?_) (by rw [eS])) ⟨rfl, rfl, rfl, rfl, rfl, rfl, trivial⟩
          show _ = vyZ (m 2 0) s j + max (offS (vyS (m 2 0) s (j + 1))) (-(offS (vyS (m 2 0) s (j + 1))))
          rw [eS, he]
        · refine g_ifeq0 F a_A_voyages_116 ?_
          refine g_iconst F a_A_voyages_123 ?_
          refine g_istore (ls' := [_, _, _, _, _, _, _, _, _, _]) F a_A_voyages_124 rfl rfl rfl ?_
          refine g_aload_n F a_A_voyages_126 rfl ?_
          refine g_get_0_3 F a_A_voyages_127 fl_A_27 ?_
          (try simp only [mset_app, mset_mset, fup_app, aup_app, fup_fup, aup_aup, false_and, and_false, true_and, and_true, and_self, reduceIte, Nat.reduceEqDiff, reduceCtorEq, fup_10])
          refine g_iload F a_A_voyages_130 rfl ?_
          refine g_ifeq0 F a_A_voyages_132 ?_
          refine g_iconst F a_A_voyages_142 ?_
          refine g_iload F a_A_voyages_143 rfl ?_
          refine g_v2 F a_A_voyages_145 vc_A_143 mk_H_sail (ob_2 (by first | assumption | decide | omega)) ck_2.1 rfl rfl (by decide) ⟨Nat.le_refl _, Nat.le_refl _⟩ rfl (Nat.le_of_ble_eq_true rfl) (sp_H_sail (i := 3) (D := D + j) (by decide) (by exact hSj) (by omega) (by first | exact shl6 (by omega) | decide) (by omega) (GCr.n ?_))
          (try simp only [mset_app, mset_mset, fup_app, aup_app, fup_fup, aup_aup, false_and, and_false, true_and, and_true, and_self, reduceIte, Nat.reduceEqDiff, reduceCtorEq, fup_10])
          refine g_iload F a_A_voyages_148 rfl ?_
          refine g_aload_n F a_A_voyages_150 rfl ?_
          refine g_get_0_3 F a_A_voyages_151 fl_A_27 ?_
          (try simp only [mset_app, mset_mset, fup_app, aup_app, fup_fup, aup_aup, false_and, and_false, true_and, and_true, and_self, reduceIte, Nat.reduceEqDiff, reduceCtorEq, fup_10])
          refine g_v0 F a_A_voyages_154 vc_A_181 mk_H_drift (ob_2 (by first | assumption | decide | omega)) ck_2.1 rfl rfl (by decide) ⟨Nat.le_refl _, Nat.le_refl _⟩ rfl (Nat.le_of_ble_eq_true rfl) (sp_H_drift (i := 3) (D := D + j + 1) (by decide) (by exact sail_ok hSj _ _) (by omega) (GCr.v ?_))
          (try simp only [mset_app, mset_mset, fup_app, aup_app, fup_fup, aup_aup, false_and, and_false, true_and, and_true, and_self, reduceIte, Nat.reduceEqDiff, reduceCtorEq, fup_10])
          refine g_s1 F a_A_voyages_157 sc_A_190 mk_J_abs rfl (by decide) ⟨Nat.le_refl _, Nat.le_refl _⟩ rfl (Nat.le_of_ble_eq_true rfl) (sp_J_abs ⟨Int.le_trans (by decide) (offS_r _).1, Int.le_trans (offS_r _).2 (by decide)⟩ (GCr.v ?_))
          (try simp only [mset_app, mset_mset, fup_app, aup_app, fup_fup, aup_aup, false_and, and_false, true_and, and_true, and_self, reduceIte, Nat.reduceEqDiff, reduceCtorEq, fup_10])
          refine g_iadd F a_A_voyages_160 ?_
          refine g_istore (ls' := [_, _, _, _, _, _, _, _, _, _]) F a_A_voyages_161 rfl rfl rfl ?_
          refine g_iinc (ls' := [_, _, _, _, _, _, _, _, _, _]) F a_A_voyages_163 rfl rfl rfl ?_
          refine g_goto F a_A_voyages_166 ?_
          have eS : vyS (m 2 0) s (j + 1) = sailS (vyS (m 2 0) s j) (0) (((vyX s j * 1103515245 + 12345) % 2147483648) / 1048576 % 3) := congrArg (fun t => sailS (vyS (m 2 0) s j) t (((vyX s j * 1103515245 + 12345) % 2147483648) / 1048576 % 3)) (if_neg (show ¬ ((0 ≤ ((vyX s j * 1103515245 + 12345) % 2147483648) / 65536 % 6 ∧ ((vyX s j * 1103515245 + 12345) % 2147483648) / 65536 % 6 < (vyS (m 2 0) s j).1 4) ∧ 0 ≤ ((vyX s j * 1103515245 + 12345) % 2147483648) / 1048576 % 3 ∧ ((vyX s j * 1103515245 + 12345) % 2147483648) / 1048576 % 3 < (vyS (m 2 0) s j).1 5) from fun q => c113 q.2))
          refine GC.loc2 (GC.pw (ih (j + 1) _ _ _ (by omega) (by omega) (by omega) rfl ?_) (by rw [eS])) ⟨rfl, rfl, rfl, rfl, rfl, rfl, trivial⟩
          show _ = vyZ (m 2 0) s j + max (offS (vyS (m 2 0) s (j + 1))) (-(offS (vyS (m 2 0) s (j + 1))))
          rw [eS, he]
      · refine g_ifeq0 F a_A_voyages_104 ?_
        refine g_iconst F a_A_voyages_123 ?_
        refine g_istore (ls' := [_, _, _, _, _, _, _, _, _, _]) F a_A_voyages_124 rfl rfl rfl ?_
        refine g_aload_n F a_A_voyages_126 rfl ?_
        refine g_get_0_3 F a_A_voyages_127 fl_A_27 ?_
        (try simp only [mset_app, mset_mset, fup_app, aup_app, fup_fup, aup_aup, false_and, and_false, true_and, and_true, and_self, reduceIte, Nat.reduceEqDiff, reduceCtorEq, fup_10])
        refine g_iload F a_A_voyages_130 rfl ?_
        refine g_ifeq0 F a_A_voyages_132 ?_
        refine g_iconst F a_A_voyages_142 ?_
        refine g_iload F a_A_voyages_143 rfl ?_
        refine g_v2 F a_A_voyages_145 vc_A_143 mk_H_sail (ob_2 (by first | assumption | decide | omega)) ck_2.1 rfl rfl (by decide) ⟨Nat.le_refl _, Nat.le_refl _⟩ rfl (Nat.le_of_ble_eq_true rfl) (sp_H_sail (i := 3) (D := D + j) (by decide) (by exact hSj) (by omega) (by first | exact shl6 (by omega) | decide) (by omega) (GCr.n ?_))
        (try simp only [mset_app, mset_mset, fup_app, aup_app, fup_fup, aup_aup, false_and, and_false, true_and, and_true, and_self, reduceIte, Nat.reduceEqDiff, reduceCtorEq, fup_10])
        refine g_iload F a_A_voyages_148 rfl ?_
        refine g_aload_n F a_A_voyages_150 rfl ?_
        refine g_get_0_3 F a_A_voyages_151 fl_A_27 ?_
        (try simp only [mset_app, mset_mset, fup_app, aup_app, fup_fup, aup_aup, false_and, and_false, true_and, and_true, and_self, reduceIte, Nat.reduceEqDiff, reduceCtorEq, fup_10])
        refine g_v0 F a_A_voyages_154 vc_A_181 mk_H_drift (ob_2 (by first | assumption | decide | omega)) ck_2.1 rfl rfl (by decide) ⟨Nat.le_refl _, Nat.le_refl _⟩ rfl (Nat.le_of_ble_eq_true rfl) (sp_H_drift (i := 3) (D := D + j + 1) (by decide) (by exact sail_ok hSj _ _) (by omega) (GCr.v ?_))
        (try simp only [mset_app, mset_mset, fup_app, aup_app, fup_fup, aup_aup, false_and, and_false, true_and, and_true, and_self, reduceIte, Nat.reduceEqDiff, reduceCtorEq, fup_10])
        refine g_s1 F a_A_voyages_157 sc_A_190 mk_J_abs rfl (by decide) ⟨Nat.le_refl _, Nat.le_refl _⟩ rfl (Nat.le_of_ble_eq_true rfl) (sp_J_abs ⟨Int.le_trans (by decide) (offS_r _).1, Int.le_trans (offS_r _).2 (by decide)⟩ (GCr.v ?_))
        (try simp only [mset_app, mset_mset, fup_app, aup_app, fup_fup, aup_aup, false_and, and_false, true_and, and_true, and_self, reduceIte, Nat.reduceEqDiff, reduceCtorEq, fup_10])
        refine g_iadd F a_A_voyages_160 ?_
        refine g_istore (ls' := [_, _, _, _, _, _, _, _, _, _]) F a_A_voyages_161 rfl rfl rfl ?_
        refine g_iinc (ls' := [_, _, _, _, _, _, _, _, _, _]) F a_A_voyages_163 rfl rfl rfl ?_
        refine g_goto F a_A_voyages_166 ?_
        have eS : vyS (m 2 0) s (j + 1) = sailS (vyS (m 2 0) s j) (0) (((vyX s j * 1103515245 + 12345) % 2147483648) / 1048576 % 3) := congrArg (fun t => sailS (vyS (m 2 0) s j) t (((vyX s j * 1103515245 + 12345) % 2147483648) / 1048576 % 3)) (if_neg (show ¬ ((0 ≤ ((vyX s j * 1103515245 + 12345) % 2147483648) / 65536 % 6 ∧ ((vyX s j * 1103515245 + 12345) % 2147483648) / 65536 % 6 < (vyS (m 2 0) s j).1 4) ∧ 0 ≤ ((vyX s j * 1103515245 + 12345) % 2147483648) / 1048576 % 3 ∧ ((vyX s j * 1103515245 + 12345) % 2147483648) / 1048576 % 3 < (vyS (m 2 0) s j).1 5) from fun q => c101 q.1))
        refine GC.loc2 (GC.pw (ih (j + 1) _ _ _ (by omega) (by omega) (by omega) rfl ?_) (by rw [eS])) ⟨rfl, rfl, rfl, rfl, rfl, rfl, trivial⟩
        show _ = vyZ (m 2 0) s j + max (offS (vyS (m 2 0) s (j + 1))) (-(offS (vyS (m 2 0) s (j + 1))))
        rw [eS, he]
set_option maxHeartbeats 1000000 in
theorem sp_A_voyages {κ : Kx} {Q : Option Value → (Heap → Prop) → Prop} {m : Mem} {D : Int} (hS : okS D (m 2 0)) (hD61 : D + 61 ≤ 100000) {s t : Int} (hs : R32 s) (ht : R32 t) (kb : ¬ ((0 ≤ s ∧ s ≤ 999999) ∧ 0 ≤ t ∧ t ≤ 60) → Q (some (vi (-2))) (World κ (bmp m 9))) (k : (0 ≤ s ∧ s ≤ 999999) → (0 ≤ t ∧ t ≤ 60) → Q (some (vi (vyZ (m 2 0) s t.toNat))) (World κ (mset m 2 3 (vyS (m 2 0) s t.toNat)))) : GG κ G_A_voyages 3 0 0 [.ref (ad κ 0 0), vi s, vi t] (World κ m) Q := by
  have hD : D ≤ 100000 := by omega
  obtain ⟨s0, s1, s2, s3, s4, s5, hfg, hkd, hsh, hgl⟩ := id hS
  refine GG.intro (ls := [some _, some _, some _, none, none, none, none, none, none, none]) (Nat.le_of_ble_eq_true rfl) rfl (fun μ F => ?_)
  refine g_iload_n F a_A_voyages_0 rfl ?_
  refine g_iconst F a_A_voyages_1 ?_
  refine g_ldcw F a_A_voyages_2 kc_A_270 ?_
  refine g_s3 F a_A_voyages_5 sc_A_66 mk_A_within rfl (by decide) ⟨Nat.le_refl _, Nat.le_refl _⟩ rfl (Nat.le_of_ble_eq_true rfl) (sp_A_within (by omega) (by omega) (by omega) (fun c5 => GCr.v ?_) (fun c5 => GCr.v ?_))
  · refine g_ifeq1 F a_A_voyages_8 ?_
    refine g_iload_n F a_A_voyages_11 rfl ?_
    refine g_iconst F a_A_voyages_12 ?_
    refine g_bipush F a_A_voyages_13 (by decide) ?_
    refine g_s3 F a_A_voyages_15 sc_A_66 mk_A_within rfl (by decide) ⟨Nat.le_refl _, Nat.le_refl _⟩ rfl (Nat.le_of_ble_eq_true rfl) (sp_A_within (by omega) (by omega) (by omega) (fun c15 => GCr.v ?_) (fun c15 => GCr.v ?_))
    · refine g_ifne1 F a_A_voyages_18 ?_
      refine g_aload_n F a_A_voyages_28 rfl ?_
      refine g_get_0_3 F a_A_voyages_29 fl_A_27 ?_
      refine g_aload_n F a_A_voyages_32 rfl ?_
      refine g_get_0_0 F a_A_voyages_33 fl_A_10 ?_
      refine g_get_1_0 F a_A_voyages_36 fl_A_74 (by first | assumption | decide | omega) ?_
      refine g_v1 F a_A_voyages_39 vc_A_123 mk_H_copy (ob_2 (by first | assumption | decide | omega)) ck_2.1 rfl rfl (by decide) ⟨Nat.le_refl _, Nat.le_refl _⟩ rfl (Nat.le_of_ble_eq_true rfl) (sp_H_copy (by decide) (by decide) (by decide) (GCr.n ?_))
      (try simp only [mset_app, mset_mset, fup_app, aup_app, fup_fup, aup_aup, false_and, and_false, true_and, and_true, and_self, reduceIte, Nat.reduceEqDiff, reduceCtorEq, fup_10])
      refine g_iload_n F a_A_voyages_42 rfl ?_
      refine g_i2l F (by omega) a_A_voyages_43 ?_
      refine g_lstore_n (ls' := [_, _, _, _, _, _, _, _, _, _]) F a_A_voyages_44 rfl rfl rfl ?_
      refine g_iconst F a_A_voyages_45 ?_
      refine g_istore (ls' := [_, _, _, _, _, _, _, _, _, _]) F a_A_voyages_46 rfl rfl rfl ?_
      refine g_iconst F a_A_voyages_48 ?_
      refine g_istore (ls' := [_, _, _, _, _, _, _, _, _, _]) F a_A_voyages_49 rfl rfl rfl ?_
      exact GC.loc2 (lp_A_voy hS hD61 (by assumption) (by assumption) (k (by assumption) (by assumption)) F 61 0 _ _ _ (by omega) (by omega) rfl rfl rfl) ⟨rfl, rfl, rfl, rfl, rfl, rfl, trivial⟩
    · refine g_ifne0 F a_A_voyages_18 ?_
      refine g_aload_n F a_A_voyages_21 rfl ?_
      refine g_bipush F a_A_voyages_22 (by decide) ?_
      refine g_v1 F a_A_voyages_24 vc_A_70 mk_A_bad ob_0 ck_0.1 rfl rfl (by decide) ⟨Nat.le_refl _, Nat.le_refl _⟩ rfl (Nat.le_of_ble_eq_true rfl) (sp_A_bad  (GCr.v ?_))
      refine g_iret F a_A_voyages_27 rfl ⟨Nat.le_refl _, Nat.le_refl _⟩ ?_
      exact kb (by omega)
  · refine g_ifeq0 F a_A_voyages_8 ?_
    refine g_aload_n F a_A_voyages_21 rfl ?_
    refine g_bipush F a_A_voyages_22 (by decide) ?_
    refine g_v1 F a_A_voyages_24 vc_A_70 mk_A_bad ob_0 ck_0.1 rfl rfl (by decide) ⟨Nat.le_refl _, Nat.le_refl _⟩ rfl (Nat.le_of_ble_eq_true rfl) (sp_A_bad  (GCr.v ?_))
    refine g_iret F a_A_voyages_27 rfl ⟨Nat.le_refl _, Nat.le_refl _⟩ ?_
    exact kb (by omega)
def bnR (z : Nat) : Rs → Prop
  | .inl e => e ≤ z
  | .inr q => q.1 ≤ z
theorem finB_bn {B : Int → Int} {z a : Nat} {S : Rc} (h : a ≤ z) : bnR z (finB B z a S) := by
  unfold finB
  split
  · exact (lE_r (B := B) h).2
  · exact (lS_r (B := B) h).2
theorem fgL_bn {B : Int → Int} {z : Nat} : ∀ (f a : Nat) (S : Rc), a ≤ z → bnR z (fgL B z f a S)
  | 0, a, S, h => finB_bn h
  | f + 1, a, S, h => by
    unfold fgL
    split
    · exact finB_bn h
    · split
      · exact fgL_bn f _ _ (lE_r (B := B) h).2
      · exact (lS_r (B := B) h).2
theorem nnL_bn {B : Int → Int} {z : Nat} {S : Rc} {r : Int} : ∀ (f : Nat) (t : Int) (a : Nat), a ≤ z → bnR z (nnL B z S r f t a)
  | 0, t, a, h => finB_bn h
  | f + 1, t, a, h => by
    unfold nnL
    split
    · exact finB_bn h
    · split
      · exact (lS_r (B := B) h).2
      · split
        · exact nnL_bn f _ _ (lE_r (B := B) h).2
        · exact (lS_r (B := B) h).2
theorem item_bn {B : Int → Int} {z p : Nat} {b : Bool} {S : Rc} (h : p ≤ z) : bnR z (item B z p b S) := by
  have h0 : bnR z (.inl (lS B z p)) := (lS_r (B := B) h).2
  have h1 := (lE_r (B := B) h).2
  have h2 := (lE_r (B := B) h1).2
  have h3 := (lE_r (B := B) h2).2
  have g1 : bnR z (.inl (lS B z (lE B z p))) := (lS_r (B := B) h1).2
  have g2 : bnR z (.inl (lS B z (lE B z (lE B z p)))) := (lS_r (B := B) h2).2
  unfold item iShip iMan iRd iDeed iNoon
  repeat' split
  all_goals first | exact h0 | exact g1 | exact g2 | exact fgL_bn _ _ _ h1 | exact nnL_bn _ _ _ h2 | exact finB_bn h2 | exact finB_bn h3
theorem tellE_r {B : Int → Int} {z e : Nat} : ∀ (f k p : Nat) (S : Rc), p ≤ z → tellL B z f k p S = .inl e → e ≤ z
  | 0, k, p, S, hp, h => by cases h; exact (lS_r (B := B) hp).2
  | f + 1, k, p, S, hp, h => by
    unfold tellL at h
    have hb := item_bn (B := B) (b := decide (k = 0)) (S := S) hp
    split at h
    · cases h
    · split at h
      · rename_i e' he
        cases h
        rw [he] at hb
        exact hb
      · rename_i q S' he
        rw [he] at hb
        exact tellE_r f (k + 1) _ _ hb h
theorem tellN_r {B : Int → Int} {z : Nat} {S' : Rc} {n : Nat} : ∀ (f k p : Nat) (S : Rc), tellL B z f k p S = .inr (n, S') → n ≤ f + k
  | 0, k, p, S, h => by cases h
  | f + 1, k, p, S, h => by
    unfold tellL at h
    split at h
    · cases h; omega
    · split at h
      · cases h
      · have := tellN_r f (k + 1) _ _ h
        omega
set_option maxHeartbeats 1000000 in
theorem sp_A_read {κ : Kx} {Q : Option Value → (Heap → Prop) → Prop} {m : Mem} {z : Nat} {D : Int} (hB0 : okB ((m 5 0).2 0) z) (h0 : (m 5 0).1 0 = z) (hS : okS D (m 2 3)) (hD : D + 150 ≤ 100000) (k1 : ∀ (m2 : Mem) (n : Nat) (S : Rc), tellL ((m 5 0).2 0) z 150 0 0 (m 2 3) = .inr (n, S) → FT m m2 → m2 2 3 = S → okS (D + 150) S → (m2 5 0).1 0 = z → (m2 5 0).2 0 = (m 5 0).2 0 → Q (some (vi n)) (World κ (mset (begM m2 ((m2 2 3).1 2)) 2 0 (m2 2 3)))) (k0 : ∀ (m2 : Mem) (e : Nat), tellL ((m 5 0).2 0) z 150 0 0 (m 2 3) = .inl e → FT m m2 → okS (D + 150) (m2 2 3) → (m2 5 0).1 0 = z → (m2 5 0).2 0 = (m 5 0).2 0 → Q (some (vi (-10 - (e : Int)))) (World κ m2)) : GG κ G_A_read 8 0 0 [.ref (ad κ 0 0)] (World κ m) Q := by
  refine GG.intro (ls := [some _, none]) (Nat.le_of_ble_eq_true rfl) rfl (fun μ F => ?_)
  refine g_aload_n F a_A_read_0 rfl ?_
  refine g_get_0_4 F a_A_read_1 fl_A_34 ?_
  refine g_aload_n F a_A_read_4 rfl ?_
  refine g_get_0_3 F a_A_read_5 fl_A_27 ?_
  refine g_v1 F a_A_read_8 vc_A_116 mk_T_tell ob_5 ck_5.1 rfl rfl (by decide) ⟨Nat.le_refl _, Nat.le_refl _⟩ rfl (Nat.le_of_ble_eq_true rfl) (sp_T_tell hB0 h0 hS hD (fun m2 n2 S2 e2 f2 s2 o2 z2 b8 => GCr.v ?_) (fun m2 q2 e2 f2 o2 z2 b8 => GCr.v ?_))
  · refine g_istore_n (ls' := [_, _]) F a_A_read_11 rfl rfl rfl ?_
    refine g_iload_n F a_A_read_12 rfl ?_
    refine g_if_lt F (by first | (have := tellN_r 150 0 0 _ e2; omega) | (have := tellE_r 150 0 0 _ (Nat.zero_le _) e2; have := hB0.1; omega)) a_A_read_13 (fun h13 => ?_) (fun h13 => ?_)
    · refine g_iload_n F a_A_read_44 rfl ?_
      refine g_iret F a_A_read_45 rfl ⟨Nat.le_refl _, Nat.le_refl _⟩ ?_
      exfalso; have := tellN_r 150 0 0 _ e2; omega
    · obtain ⟨r0, r1, r2, r3, r4, r5, r6⟩ := id o2
      rw [← s2] at r2
      refine g_aload_n F a_A_read_16 rfl ?_
      refine g_get_0_0 F a_A_read_17 fl_A_10 ?_
      refine g_aload_n F a_A_read_20 rfl ?_
      refine g_get_0_3 F a_A_read_21 fl_A_27 ?_
      refine g_get_2_2 F a_A_read_24 fl_A_120 (by first | assumption | decide | omega) ?_
      refine g_v1 F a_A_read_27 vc_A_81 mk_S_begin (ob_1 (by first | assumption | decide | omega)) ck_1.1 rfl rfl (by decide) ⟨Nat.le_refl _, Nat.le_refl _⟩ rfl (Nat.le_of_ble_eq_true rfl) (sp_S_begin (i := 0) (by decide) (by omega) (GCr.n ?_))
      refine g_aload_n F a_A_read_30 rfl ?_
      refine g_get_0_0 F a_A_read_31 fl_A_10 ?_
      refine g_get_1_0 F a_A_read_34 fl_A_74 (by first | assumption | decide | omega) ?_
      refine g_aload_n F a_A_read_37 rfl ?_
      refine g_get_0_3 F a_A_read_38 fl_A_27 ?_
      refine g_v1 F a_A_read_41 vc_A_123 mk_H_copy (ob_2 (by first | assumption | decide | omega)) ck_2.1 rfl rfl (by decide) ⟨Nat.le_refl _, Nat.le_refl _⟩ rfl (Nat.le_of_ble_eq_true rfl) (sp_H_copy (i := 0) (j := 3) (by decide) (by decide) (by decide) (GCr.n ?_))
      refine g_iload_n F a_A_read_44 rfl ?_
      refine g_iret F a_A_read_45 rfl ⟨Nat.le_refl _, Nat.le_refl _⟩ ?_
      exact k1 m2 n2 S2 e2 f2 s2 o2 z2 b8
  · refine g_istore_n (ls' := [_, _]) F a_A_read_11 rfl rfl rfl ?_
    refine g_iload_n F a_A_read_12 rfl ?_
    refine g_if_lt F (by first | (have := tellN_r 150 0 0 _ e2; omega) | (have := tellE_r 150 0 0 _ (Nat.zero_le _) e2; have := hB0.1; omega)) a_A_read_13 (fun h13 => ?_) (fun h13 => ?_)
    · refine g_iload_n F a_A_read_44 rfl ?_
      refine g_iret F a_A_read_45 rfl ⟨Nat.le_refl _, Nat.le_refl _⟩ ?_
      exact k0 m2 q2 e2 f2 o2 z2 b8
    · exfalso; (have := tellE_r 150 0 0 _ (Nat.zero_le _) e2; omega)
