theorem sh_fup {f : Nat → Int} {g : Nat → Int → Int} {k : Nat} {v : Int} (h : 7 ≤ k ∧ k < 100) : shM (fup f k v, g) = shM (f, g) := by
  apply Prod.ext
  · funext n
    show fup f k v (sg n) = f (sg n)
    rw [fup_app, if_neg]
    intro e
    match n, e with
    | 0, e => exact absurd e (by show ¬ (4 = k); omega)
    | 1, e => exact absurd e (by show ¬ (5 = k); omega)
    | 2, e => exact absurd e (by show ¬ (3 = k); omega)
    | 3, e => exact absurd e (by show ¬ (6 = k); omega)
    | 4, e => exact absurd e (by show ¬ (1 = k); omega)
    | 5, e => exact absurd e (by show ¬ (2 = k); omega)
    | n + 6, e => exact absurd e (by show ¬ (n + 100 = k); omega)
  · rfl
theorem sh_aup {f : Nat → Int} {g : Nat → Int → Int} {j : Nat} {v : Int → Int} (h : j = 0 ∨ 5 ≤ j ∧ j < 100) : shM (f, aup g j v) = shM (f, g) := by
  apply Prod.ext
  · rfl
  · funext n
    show aup g j v (ta n) = g (ta n)
    rw [aup_app, if_neg]
    intro e
    match n, e with
    | 0, e => exact absurd e (by show ¬ (4 = j); omega)
    | 1, e => exact absurd e (by show ¬ (1 = j); omega)
    | 2, e => exact absurd e (by show ¬ (2 = j); omega)
    | 3, e => exact absurd e (by show ¬ (3 = j); omega)
    | n + 4, e => exact absurd e (by show ¬ (n + 100 = j); omega)
def bgM (c : Int) (M : Rc) : Rc := (fup (fup (fup (fup (fup (fup (fup (fup (fup (fup M.1 1 0) 2 0) 3 c) 4 0) 5 0) 6 0) 7 0) 8 0) 9 0) 23 0, aup M.2 4 (fun _ => 0))
set_option maxHeartbeats 1000000 in
theorem sp_M_begin {κ : Kx} {Q : Option Value → (Heap → Prop) → Prop} {m : Mem} {c : Int} (k : Q none (World κ (mset m 10 0 (bgM c (m 10 0))))) : GG κ G_M_begin 0 0 0 [.ref (ad κ 10 0), vi c] (World κ m) Q := by
  refine GG.intro (ls := [some _, some _, none]) (Nat.le_of_ble_eq_true rfl) rfl (fun μ F => ?_)
  refine g_aload_n F a_M_begin_0 rfl ?_
  refine g_iconst F a_M_begin_1 ?_
  refine g_put_10_1 F a_M_begin_2 fl_M_60 ?_
  (try simp only [mset_app, mset_mset, fup_app, aup_app, fup_fup, aup_aup, false_and, and_false, true_and, and_true, and_self, reduceIte, Nat.reduceEqDiff, reduceCtorEq, fup_10, fs_4_5, fs_4_6, fs_5_6])
  refine g_aload_n F a_M_begin_5 rfl ?_
  refine g_iconst F a_M_begin_6 ?_
  refine g_put_10_2 F a_M_begin_7 fl_M_64 ?_
  (try simp only [mset_app, mset_mset, fup_app, aup_app, fup_fup, aup_aup, false_and, and_false, true_and, and_true, and_self, reduceIte, Nat.reduceEqDiff, reduceCtorEq, fup_10, fs_4_5, fs_4_6, fs_5_6])
  refine g_aload_n F a_M_begin_10 rfl ?_
  refine g_iload_n F a_M_begin_11 rfl ?_
  refine g_put_10_3 F a_M_begin_12 fl_M_67 ?_
  (try simp only [mset_app, mset_mset, fup_app, aup_app, fup_fup, aup_aup, false_and, and_false, true_and, and_true, and_self, reduceIte, Nat.reduceEqDiff, reduceCtorEq, fup_10, fs_4_5, fs_4_6, fs_5_6])
  refine g_aload_n F a_M_begin_15 rfl ?_
  refine g_iconst F a_M_begin_16 ?_
  refine g_put_10_4 F a_M_begin_17 fl_M_70 ?_
  (try simp only [mset_app, mset_mset, fup_app, aup_app, fup_fup, aup_aup, false_and, and_false, true_and, and_true, and_self, reduceIte, Nat.reduceEqDiff, reduceCtorEq, fup_10, fs_4_5, fs_4_6, fs_5_6])
  refine g_aload_n F a_M_begin_20 rfl ?_
  refine g_iconst F a_M_begin_21 ?_
  refine g_put_10_5 F a_M_begin_22 fl_M_73 ?_
  (try simp only [mset_app, mset_mset, fup_app, aup_app, fup_fup, aup_aup, false_and, and_false, true_and, and_true, and_self, reduceIte, Nat.reduceEqDiff, reduceCtorEq, fup_10, fs_4_5, fs_4_6, fs_5_6])
  refine g_aload_n F a_M_begin_25 rfl ?_
  refine g_iconst F a_M_begin_26 ?_
  refine g_put_10_6 F a_M_begin_27 fl_M_76 ?_
  (try simp only [mset_app, mset_mset, fup_app, aup_app, fup_fup, aup_aup, false_and, and_false, true_and, and_true, and_self, reduceIte, Nat.reduceEqDiff, reduceCtorEq, fup_10, fs_4_5, fs_4_6, fs_5_6])
  refine g_aload_n F a_M_begin_30 rfl ?_
  refine g_iconst F a_M_begin_31 ?_
  refine g_put_10_7 F a_M_begin_32 fl_M_79 ?_
  (try simp only [mset_app, mset_mset, fup_app, aup_app, fup_fup, aup_aup, false_and, and_false, true_and, and_true, and_self, reduceIte, Nat.reduceEqDiff, reduceCtorEq, fup_10, fs_4_5, fs_4_6, fs_5_6])
  refine g_aload_n F a_M_begin_35 rfl ?_
  refine g_iconst F a_M_begin_36 ?_
  refine g_put_10_8 F a_M_begin_37 fl_M_82 ?_
  (try simp only [mset_app, mset_mset, fup_app, aup_app, fup_fup, aup_aup, false_and, and_false, true_and, and_true, and_self, reduceIte, Nat.reduceEqDiff, reduceCtorEq, fup_10, fs_4_5, fs_4_6, fs_5_6])
  refine g_aload_n F a_M_begin_40 rfl ?_
  refine g_iconst F a_M_begin_41 ?_
  refine g_put_10_9 F a_M_begin_42 fl_M_85 ?_
  (try simp only [mset_app, mset_mset, fup_app, aup_app, fup_fup, aup_aup, false_and, and_false, true_and, and_true, and_self, reduceIte, Nat.reduceEqDiff, reduceCtorEq, fup_10, fs_4_5, fs_4_6, fs_5_6])
  refine g_aload_n F a_M_begin_45 rfl ?_
  refine g_iconst F a_M_begin_46 ?_
  refine g_put_10_23 F a_M_begin_47 fl_M_88 ?_
  (try simp only [mset_app, mset_mset, fup_app, aup_app, fup_fup, aup_aup, false_and, and_false, true_and, and_true, and_self, reduceIte, Nat.reduceEqDiff, reduceCtorEq, fup_10, fs_4_5, fs_4_6, fs_5_6])
  refine g_iconst F a_M_begin_50 ?_
  refine g_istore_n (ls' := [_, _, _]) F a_M_begin_51 rfl rfl rfl ?_
  refine g_iload_n F a_M_begin_52 rfl ?_
  refine g_bipush F a_M_begin_53 (by decide) ?_
  refine g_icmp_ge F (by decide) (by decide) a_M_begin_55 (fun hz => absurd hz (by decide)) (fun hz => ?_)
  refine g_aload_n F a_M_begin_58 rfl ?_
  refine g_get_10_13 F a_M_begin_59 fl_M_22 ?_
  (try simp only [mset_app, mset_mset, fup_app, aup_app, fup_fup, aup_aup, false_and, and_false, true_and, and_true, and_self, reduceIte, Nat.reduceEqDiff, reduceCtorEq, fup_10, fs_4_5, fs_4_6, fs_5_6])
  refine g_iload_n F a_M_begin_62 rfl ?_
  refine g_iconst F a_M_begin_63 ?_
  refine g_ist_10_4 F a_M_begin_64 (by decide) ?_
  (try simp only [mset_app, mset_mset, fup_app, aup_app, fup_fup, aup_aup, false_and, and_false, true_and, and_true, and_self, reduceIte, Nat.reduceEqDiff, reduceCtorEq, fup_10, fs_4_5, fs_4_6, fs_5_6])
  refine g_iinc (ls' := [_, _, some (vi 1)]) F a_M_begin_65 rfl rfl rfl ?_
  refine g_goto F a_M_begin_68 ?_
  refine g_iload_n F a_M_begin_52 rfl ?_
  refine g_bipush F a_M_begin_53 (by decide) ?_
  refine g_icmp_ge F (by decide) (by decide) a_M_begin_55 (fun hz => absurd hz (by decide)) (fun hz => ?_)
  refine g_aload_n F a_M_begin_58 rfl ?_
  refine g_get_10_13 F a_M_begin_59 fl_M_22 ?_
  (try simp only [mset_app, mset_mset, fup_app, aup_app, fup_fup, aup_aup, false_and, and_false, true_and, and_true, and_self, reduceIte, Nat.reduceEqDiff, reduceCtorEq, fup_10, fs_4_5, fs_4_6, fs_5_6])
  refine g_iload_n F a_M_begin_62 rfl ?_
  refine g_iconst F a_M_begin_63 ?_
  refine g_ist_10_4 F a_M_begin_64 (by decide) ?_
  (try simp only [mset_app, mset_mset, fup_app, aup_app, fup_fup, aup_aup, false_and, and_false, true_and, and_true, and_self, reduceIte, Nat.reduceEqDiff, reduceCtorEq, fup_10, fs_4_5, fs_4_6, fs_5_6])
  refine g_iinc (ls' := [_, _, some (vi 2)]) F a_M_begin_65 rfl rfl rfl ?_
  refine g_goto F a_M_begin_68 ?_
  refine g_iload_n F a_M_begin_52 rfl ?_
  refine g_bipush F a_M_begin_53 (by decide) ?_
  refine g_icmp_ge F (by decide) (by decide) a_M_begin_55 (fun hz => absurd hz (by decide)) (fun hz => ?_)
  refine g_aload_n F a_M_begin_58 rfl ?_
  refine g_get_10_13 F a_M_begin_59 fl_M_22 ?_
  (try simp only [mset_app, mset_mset, fup_app, aup_app, fup_fup, aup_aup, false_and, and_false, true_and, and_true, and_self, reduceIte, Nat.reduceEqDiff, reduceCtorEq, fup_10, fs_4_5, fs_4_6, fs_5_6])
  refine g_iload_n F a_M_begin_62 rfl ?_
  refine g_iconst F a_M_begin_63 ?_
  refine g_ist_10_4 F a_M_begin_64 (by decide) ?_
  (try simp only [mset_app, mset_mset, fup_app, aup_app, fup_fup, aup_aup, false_and, and_false, true_and, and_true, and_self, reduceIte, Nat.reduceEqDiff, reduceCtorEq, fup_10, fs_4_5, fs_4_6, fs_5_6])
  refine g_iinc (ls' := [_, _, some (vi 3)]) F a_M_begin_65 rfl rfl rfl ?_
  refine g_goto F a_M_begin_68 ?_
  refine g_iload_n F a_M_begin_52 rfl ?_
  refine g_bipush F a_M_begin_53 (by decide) ?_
  refine g_icmp_ge F (by decide) (by decide) a_M_begin_55 (fun hz => absurd hz (by decide)) (fun hz => ?_)
  refine g_aload_n F a_M_begin_58 rfl ?_
  refine g_get_10_13 F a_M_begin_59 fl_M_22 ?_
  (try simp only [mset_app, mset_mset, fup_app, aup_app, fup_fup, aup_aup, false_and, and_false, true_and, and_true, and_self, reduceIte, Nat.reduceEqDiff, reduceCtorEq, fup_10, fs_4_5, fs_4_6, fs_5_6])
  refine g_iload_n F a_M_begin_62 rfl ?_
  refine g_iconst F a_M_begin_63 ?_
  refine g_ist_10_4 F a_M_begin_64 (by decide) ?_
  (try simp only [mset_app, mset_mset, fup_app, aup_app, fup_fup, aup_aup, false_and, and_false, true_and, and_true, and_self, reduceIte, Nat.reduceEqDiff, reduceCtorEq, fup_10, fs_4_5, fs_4_6, fs_5_6])
  refine g_iinc (ls' := [_, _, some (vi 4)]) F a_M_begin_65 rfl rfl rfl ?_
  refine g_goto F a_M_begin_68 ?_
  refine g_iload_n F a_M_begin_52 rfl ?_
  refine g_bipush F a_M_begin_53 (by decide) ?_
  refine g_icmp_ge F (by decide) (by decide) a_M_begin_55 (fun hz => absurd hz (by decide)) (fun hz => ?_)
  refine g_aload_n F a_M_begin_58 rfl ?_
  refine g_get_10_13 F a_M_begin_59 fl_M_22 ?_
  (try simp only [mset_app, mset_mset, fup_app, aup_app, fup_fup, aup_aup, false_and, and_false, true_and, and_true, and_self, reduceIte, Nat.reduceEqDiff, reduceCtorEq, fup_10, fs_4_5, fs_4_6, fs_5_6])
  refine g_iload_n F a_M_begin_62 rfl ?_
  refine g_iconst F a_M_begin_63 ?_
  refine g_ist_10_4 F a_M_begin_64 (by decide) ?_
  (try simp only [mset_app, mset_mset, fup_app, aup_app, fup_fup, aup_aup, false_and, and_false, true_and, and_true, and_self, reduceIte, Nat.reduceEqDiff, reduceCtorEq, fup_10, fs_4_5, fs_4_6, fs_5_6])
  refine g_iinc (ls' := [_, _, some (vi 5)]) F a_M_begin_65 rfl rfl rfl ?_
  refine g_goto F a_M_begin_68 ?_
  refine g_iload_n F a_M_begin_52 rfl ?_
  refine g_bipush F a_M_begin_53 (by decide) ?_
  refine g_icmp_ge F (by decide) (by decide) a_M_begin_55 (fun hz => absurd hz (by decide)) (fun hz => ?_)
  refine g_aload_n F a_M_begin_58 rfl ?_
  refine g_get_10_13 F a_M_begin_59 fl_M_22 ?_
  (try simp only [mset_app, mset_mset, fup_app, aup_app, fup_fup, aup_aup, false_and, and_false, true_and, and_true, and_self, reduceIte, Nat.reduceEqDiff, reduceCtorEq, fup_10, fs_4_5, fs_4_6, fs_5_6])
  refine g_iload_n F a_M_begin_62 rfl ?_
  refine g_iconst F a_M_begin_63 ?_
  refine g_ist_10_4 F a_M_begin_64 (by decide) ?_
  (try simp only [mset_app, mset_mset, fup_app, aup_app, fup_fup, aup_aup, false_and, and_false, true_and, and_true, and_self, reduceIte, Nat.reduceEqDiff, reduceCtorEq, fup_10, fs_4_5, fs_4_6, fs_5_6])
  refine g_iinc (ls' := [_, _, some (vi 6)]) F a_M_begin_65 rfl rfl rfl ?_
  refine g_goto F a_M_begin_68 ?_
  refine g_iload_n F a_M_begin_52 rfl ?_
  refine g_bipush F a_M_begin_53 (by decide) ?_
  refine g_icmp_ge F (by decide) (by decide) a_M_begin_55 (fun hz => ?_) (fun hz => absurd hz (by decide))
  refine g_ret F a_M_begin_71 rfl ⟨Nat.le_refl _, Nat.le_refl _⟩ ?_
  refine qw k (World_aup (fun x h0 h1 => ?_))
  have h6 : x = 0 ∨ x = 1 ∨ x = 2 ∨ x = 3 ∨ x = 4 ∨ x = 5 := by
    have : x < ((6 : Nat) : Int) := h1
    omega
  rcases h6 with rfl | rfl | rfl | rfl | rfl | rfl <;> rfl
set_option maxHeartbeats 1000000 in
theorem sp_M_ship {κ : Kx} {Q : Option Value → (Heap → Prop) → Prop} {m : Mem} {x : Int} (hx : R32 x) (kb : ¬ (0 ≤ x ∧ x ≤ 9) → Q (some (vi (-2))) (World κ (bmM m 0))) (k : (0 ≤ x ∧ x ≤ 9) → Q (some (vi ((m 10 0).1 1))) (World κ (mset m 10 0 (bgM x (m 10 0))))) : GG κ G_M_ship 1 0 0 [.ref (ad κ 10 0), vi x] (World κ m) Q := by
  refine GG.intro (ls := [some _, some _, none]) (Nat.le_of_ble_eq_true rfl) rfl (fun μ F => ?_)
  refine g_iload_n F a_M_ship_0 rfl ?_
  refine g_iconst F a_M_ship_1 ?_
  refine g_bipush F a_M_ship_2 (by decide) ?_
  refine g_s3 F a_M_ship_4 sc_M_91 mk_M_in rfl (by decide) ⟨Nat.le_refl _, Nat.le_refl _⟩ rfl (Nat.le_of_ble_eq_true rfl) (sp_M_in (by omega) (by omega) (by omega) (fun c4 => GCr.v ?_) (fun c4 => GCr.v ?_))
  · refine g_ifne1 F a_M_ship_7 ?_
    refine g_aload_n F a_M_ship_15 rfl ?_
    refine g_get_10_1 F a_M_ship_16 fl_M_60 ?_
    refine g_istore_n (ls' := [_, _, _]) F a_M_ship_19 rfl rfl rfl ?_
    refine g_aload_n F a_M_ship_20 rfl ?_
    refine g_iload_n F a_M_ship_21 rfl ?_
    refine g_v1 F a_M_ship_22 vc_M_56 mk_M_begin ob_10 ck_10.1 rfl rfl (by decide) ⟨Nat.le_refl _, Nat.le_refl _⟩ rfl (Nat.le_of_ble_eq_true rfl) (sp_M_begin  (GCr.n ?_))
    (try simp only [mset_app, mset_mset, fup_app, aup_app, fup_fup, aup_aup, false_and, and_false, true_and, and_true, and_self, reduceIte, Nat.reduceEqDiff, reduceCtorEq, fup_10, fs_4_5, fs_4_6, fs_5_6])
    refine g_iload_n F a_M_ship_25 rfl ?_
    refine g_iret F a_M_ship_26 rfl ⟨Nat.le_refl _, Nat.le_refl _⟩ ?_
    first | exact kb (by omega) | exact k (by omega)
  · refine g_ifne0 F a_M_ship_7 ?_
    refine g_aload_n F a_M_ship_10 rfl ?_
    refine g_v0 F a_M_ship_11 vc_M_95 mk_M_bad ob_10 ck_10.1 rfl rfl (by decide) ⟨Nat.le_refl _, Nat.le_refl _⟩ rfl (Nat.le_of_ble_eq_true rfl) (sp_M_bad  (GCr.v ?_))
    refine g_iret F a_M_ship_14 rfl ⟨Nat.le_refl _, Nat.le_refl _⟩ ?_
    first | exact kb (by omega) | exact k (by omega)
set_option maxHeartbeats 1000000 in
theorem sp_M_fog {κ : Kx} {Q : Option Value → (Heap → Prop) → Prop} {m : Mem} {D : Int} (hS : okM D (m 10 0)) (hD : D ≤ 100000) {x y : Int} (hx : R32 x) (hy : R32 y) (kb : ¬ ((0 ≤ x ∧ x ≤ 5) ∧ 0 ≤ y ∧ y ≤ 1) → Q (some (vi (-2))) (World κ (bmM m 0))) (k : (0 ≤ x ∧ x ≤ 5) → (0 ≤ y ∧ y ≤ 1) → Q (some (vi ((m 10 0).2 4 x))) (World κ (mset m 10 0 (fup (m 10 0).1 23 0, aup (m 10 0).2 4 (gup ((m 10 0).2 4) x y))))) : GG κ G_M_fog 1 0 0 [.ref (ad κ 10 0), vi x, vi y] (World κ m) Q := by
  obtain ⟨s0, s1, s2, s3, s4, s5, hfg, hkd, hsh, hgl⟩ := id hS
  refine GG.intro (ls := [some _, some _, some _, none]) (Nat.le_of_ble_eq_true rfl) rfl (fun μ F => ?_)
  refine g_iload_n F a_M_fog_0 rfl ?_
  refine g_iconst F a_M_fog_1 ?_
  refine g_iconst F a_M_fog_2 ?_
  refine g_s3 F a_M_fog_3 sc_M_91 mk_M_in rfl (by decide) ⟨Nat.le_refl _, Nat.le_refl _⟩ rfl (Nat.le_of_ble_eq_true rfl) (sp_M_in (by omega) (by omega) (by omega) (fun c3 => GCr.v ?_) (fun c3 => GCr.v ?_))
  · refine g_ifeq1 F a_M_fog_6 ?_
    refine g_iload_n F a_M_fog_9 rfl ?_
    refine g_iconst F a_M_fog_10 ?_
    refine g_iconst F a_M_fog_11 ?_
    refine g_s3 F a_M_fog_12 sc_M_91 mk_M_in rfl (by decide) ⟨Nat.le_refl _, Nat.le_refl _⟩ rfl (Nat.le_of_ble_eq_true rfl) (sp_M_in (by omega) (by omega) (by omega) (fun c12 => GCr.v ?_) (fun c12 => GCr.v ?_))
    · refine g_ifne1 F a_M_fog_15 ?_
      refine g_aload_n F a_M_fog_23 rfl ?_
      refine g_get_10_13 F a_M_fog_24 fl_M_22 ?_
      refine g_iload_n F a_M_fog_27 rfl ?_
      refine g_ild_10_4 F a_M_fog_28 (by omega) ?_
      refine g_istore_n (ls' := [_, _, _, _]) F a_M_fog_29 rfl rfl rfl ?_
      refine g_aload_n F a_M_fog_30 rfl ?_
      refine g_get_10_13 F a_M_fog_31 fl_M_22 ?_
      refine g_iload_n F a_M_fog_34 rfl ?_
      refine g_iload_n F a_M_fog_35 rfl ?_
      refine g_ist_10_4 F a_M_fog_36 (by omega) ?_
      (try simp only [mset_app, mset_mset, fup_app, aup_app, fup_fup, aup_aup, false_and, and_false, true_and, and_true, and_self, reduceIte, Nat.reduceEqDiff, reduceCtorEq, fup_10, fs_4_5, fs_4_6, fs_5_6])
      refine g_aload_n F a_M_fog_37 rfl ?_
      refine g_iconst F a_M_fog_38 ?_
      refine g_put_10_23 F a_M_fog_39 fl_M_88 ?_
      (try simp only [mset_app, mset_mset, fup_app, aup_app, fup_fup, aup_aup, false_and, and_false, true_and, and_true, and_self, reduceIte, Nat.reduceEqDiff, reduceCtorEq, fup_10, fs_4_5, fs_4_6, fs_5_6])
      refine g_iload_n F a_M_fog_42 rfl ?_
      refine g_iret F a_M_fog_43 rfl ⟨Nat.le_refl _, Nat.le_refl _⟩ ?_
      first | exact kb (by omega) | exact k (by omega) (by omega)
    · refine g_ifne0 F a_M_fog_15 ?_
      refine g_aload_n F a_M_fog_18 rfl ?_
      refine g_v0 F a_M_fog_19 vc_M_95 mk_M_bad ob_10 ck_10.1 rfl rfl (by decide) ⟨Nat.le_refl _, Nat.le_refl _⟩ rfl (Nat.le_of_ble_eq_true rfl) (sp_M_bad  (GCr.v ?_))
      refine g_iret F a_M_fog_22 rfl ⟨Nat.le_refl _, Nat.le_refl _⟩ ?_
      first | exact kb (by omega) | exact k (by omega) (by omega)
  · refine g_ifeq0 F a_M_fog_6 ?_
    refine g_aload_n F a_M_fog_18 rfl ?_
    refine g_v0 F a_M_fog_19 vc_M_95 mk_M_bad ob_10 ck_10.1 rfl rfl (by decide) ⟨Nat.le_refl _, Nat.le_refl _⟩ rfl (Nat.le_of_ble_eq_true rfl) (sp_M_bad  (GCr.v ?_))
    refine g_iret F a_M_fog_22 rfl ⟨Nat.le_refl _, Nat.le_refl _⟩ ?_
    first | exact kb (by omega) | exact k (by omega) (by omega)
def amM (M : Rc) (a b : Int) : Rc := (fup (fup M.1 1 (M.1 1 + 1)) 23 0, aup (aup M.2 1 (gup (M.2 1) (M.1 1) a)) 2 (gup (M.2 2) (M.1 1) b))
def agM (M : Rc) (a : Int) : Rc := (fup (fup M.1 2 (M.1 2 + 1)) 23 0, aup M.2 3 (gup (M.2 3) (M.1 2) a))
set_option maxHeartbeats 1000000 in
theorem sp_M_addMan {κ : Kx} {Q : Option Value → (Heap → Prop) → Prop} {m : Mem} {x y : Int} (hm6 : 0 ≤ (m 10 0).1 1 ∧ (m 10 0).1 1 < 6) (k : Q (some (vi ((m 10 0).1 1))) (World κ (mset m 10 0 (amM (m 10 0) x y)))) : GG κ G_M_addMan 0 0 0 [.ref (ad κ 10 0), vi x, vi y] (World κ m) Q := by
  refine GG.intro (ls := [some _, some _, some _]) (Nat.le_of_ble_eq_true rfl) rfl (fun μ F => ?_)
  refine g_aload_n F a_M_addMan_0 rfl ?_
  refine g_get_10_10 F a_M_addMan_1 fl_M_13 ?_
  refine g_aload_n F a_M_addMan_4 rfl ?_
  refine g_get_10_1 F a_M_addMan_5 fl_M_60 ?_
  refine g_iload_n F a_M_addMan_8 rfl ?_
  refine g_ist_10_1 F a_M_addMan_9 (by omega) ?_
  (try simp only [mset_app, mset_mset, fup_app, aup_app, fup_fup, aup_aup, false_and, and_false, true_and, and_true, and_self, reduceIte, Nat.reduceEqDiff, reduceCtorEq, fup_10, fs_4_5, fs_4_6, fs_5_6])
  refine g_aload_n F a_M_addMan_10 rfl ?_
  refine g_get_10_11 F a_M_addMan_11 fl_M_16 ?_
  (try simp only [mset_app, mset_mset, fup_app, aup_app, fup_fup, aup_aup, false_and, and_false, true_and, and_true, and_self, reduceIte, Nat.reduceEqDiff, reduceCtorEq, fup_10, fs_4_5, fs_4_6, fs_5_6])
  refine g_aload_n F a_M_addMan_14 rfl ?_
  refine g_get_10_1 F a_M_addMan_15 fl_M_60 ?_
  (try simp only [mset_app, mset_mset, fup_app, aup_app, fup_fup, aup_aup, false_and, and_false, true_and, and_true, and_self, reduceIte, Nat.reduceEqDiff, reduceCtorEq, fup_10, fs_4_5, fs_4_6, fs_5_6])
  refine g_iload_n F a_M_addMan_18 rfl ?_
  refine g_ist_10_2 F a_M_addMan_19 (by omega) ?_
  (try simp only [mset_app, mset_mset, fup_app, aup_app, fup_fup, aup_aup, false_and, and_false, true_and, and_true, and_self, reduceIte, Nat.reduceEqDiff, reduceCtorEq, fup_10, fs_4_5, fs_4_6, fs_5_6])
  refine g_aload_n F a_M_addMan_20 rfl ?_
  refine g_dup F a_M_addMan_21 rfl ?_
  refine g_get_10_1 F a_M_addMan_22 fl_M_60 ?_
  (try simp only [mset_app, mset_mset, fup_app, aup_app, fup_fup, aup_aup, false_and, and_false, true_and, and_true, and_self, reduceIte, Nat.reduceEqDiff, reduceCtorEq, fup_10, fs_4_5, fs_4_6, fs_5_6])
  refine g_iconst F a_M_addMan_25 ?_
  refine g_iadd F a_M_addMan_26 ?_
  refine g_put_10_1 F a_M_addMan_27 fl_M_60 ?_
  (try simp only [mset_app, mset_mset, fup_app, aup_app, fup_fup, aup_aup, false_and, and_false, true_and, and_true, and_self, reduceIte, Nat.reduceEqDiff, reduceCtorEq, fup_10, fs_4_5, fs_4_6, fs_5_6])
  refine g_aload_n F a_M_addMan_30 rfl ?_
  refine g_iconst F a_M_addMan_31 ?_
  refine g_put_10_23 F a_M_addMan_32 fl_M_88 ?_
  (try simp only [mset_app, mset_mset, fup_app, aup_app, fup_fup, aup_aup, false_and, and_false, true_and, and_true, and_self, reduceIte, Nat.reduceEqDiff, reduceCtorEq, fup_10, fs_4_5, fs_4_6, fs_5_6])
  refine g_aload_n F a_M_addMan_35 rfl ?_
  refine g_get_10_1 F a_M_addMan_36 fl_M_60 ?_
  (try simp only [mset_app, mset_mset, fup_app, aup_app, fup_fup, aup_aup, false_and, and_false, true_and, and_true, and_self, reduceIte, Nat.reduceEqDiff, reduceCtorEq, fup_10, fs_4_5, fs_4_6, fs_5_6])
  refine g_iconst F a_M_addMan_39 ?_
  refine g_isub F a_M_addMan_40 ?_
  refine g_iret F a_M_addMan_41 rfl ⟨Nat.le_refl _, Nat.le_refl _⟩ ?_
  exact qv k (by omega)
set_option maxHeartbeats 1000000 in
theorem sp_M_addReader {κ : Kx} {Q : Option Value → (Heap → Prop) → Prop} {m : Mem} {x : Int} (hm6 : 0 ≤ (m 10 0).1 2 ∧ (m 10 0).1 2 < 3) (k : Q (some (vi ((m 10 0).1 2))) (World κ (mset m 10 0 (agM (m 10 0) x)))) : GG κ G_M_addReader 0 0 0 [.ref (ad κ 10 0), vi x] (World κ m) Q := by
  refine GG.intro (ls := [some _, some _]) (Nat.le_of_ble_eq_true rfl) rfl (fun μ F => ?_)
  refine g_aload_n F a_M_addReader_0 rfl ?_
  refine g_get_10_12 F a_M_addReader_1 fl_M_19 ?_
  refine g_aload_n F a_M_addReader_4 rfl ?_
  refine g_get_10_2 F a_M_addReader_5 fl_M_64 ?_
  refine g_iload_n F a_M_addReader_8 rfl ?_
  refine g_ist_10_3 F a_M_addReader_9 (by omega) ?_
  (try simp only [mset_app, mset_mset, fup_app, aup_app, fup_fup, aup_aup, false_and, and_false, true_and, and_true, and_self, reduceIte, Nat.reduceEqDiff, reduceCtorEq, fup_10, fs_4_5, fs_4_6, fs_5_6])
  refine g_aload_n F a_M_addReader_10 rfl ?_
  refine g_dup F a_M_addReader_11 rfl ?_
  refine g_get_10_2 F a_M_addReader_12 fl_M_64 ?_
  (try simp only [mset_app, mset_mset, fup_app, aup_app, fup_fup, aup_aup, false_and, and_false, true_and, and_true, and_self, reduceIte, Nat.reduceEqDiff, reduceCtorEq, fup_10, fs_4_5, fs_4_6, fs_5_6])
  refine g_iconst F a_M_addReader_15 ?_
  refine g_iadd F a_M_addReader_16 ?_
  refine g_put_10_2 F a_M_addReader_17 fl_M_64 ?_
  (try simp only [mset_app, mset_mset, fup_app, aup_app, fup_fup, aup_aup, false_and, and_false, true_and, and_true, and_self, reduceIte, Nat.reduceEqDiff, reduceCtorEq, fup_10, fs_4_5, fs_4_6, fs_5_6])
  refine g_aload_n F a_M_addReader_20 rfl ?_
  refine g_iconst F a_M_addReader_21 ?_
  refine g_put_10_23 F a_M_addReader_22 fl_M_88 ?_
  (try simp only [mset_app, mset_mset, fup_app, aup_app, fup_fup, aup_aup, false_and, and_false, true_and, and_true, and_self, reduceIte, Nat.reduceEqDiff, reduceCtorEq, fup_10, fs_4_5, fs_4_6, fs_5_6])
  refine g_aload_n F a_M_addReader_25 rfl ?_
  refine g_get_10_2 F a_M_addReader_26 fl_M_64 ?_
  (try simp only [mset_app, mset_mset, fup_app, aup_app, fup_fup, aup_aup, false_and, and_false, true_and, and_true, and_self, reduceIte, Nat.reduceEqDiff, reduceCtorEq, fup_10, fs_4_5, fs_4_6, fs_5_6])
  refine g_iconst F a_M_addReader_29 ?_
  refine g_isub F a_M_addReader_30 ?_
  refine g_iret F a_M_addReader_31 rfl ⟨Nat.le_refl _, Nat.le_refl _⟩ ?_
  exact qv k (by omega)
set_option maxHeartbeats 1000000 in
theorem sp_M_man {κ : Kx} {Q : Option Value → (Heap → Prop) → Prop} {m : Mem} {D : Int} (hS : okM D (m 10 0)) (hD : D ≤ 100000) {x y : Int} (hx : R32 x) (hy : R32 y) (kb : ¬ ((0 ≤ x ∧ x ≤ 5) ∧ 0 ≤ y ∧ y ≤ 90) → Q (some (vi (-2))) (World κ (bmM m 0))) (kf : ((0 ≤ x ∧ x ≤ 5) ∧ 0 ≤ y ∧ y ≤ 90) → 6 ≤ (m 10 0).1 1 → Q (some (vi (-4))) (World κ (bmM m 2))) (k : ((0 ≤ x ∧ x ≤ 5) ∧ 0 ≤ y ∧ y ≤ 90) → (m 10 0).1 1 < 6 → Q (some (vi ((m 10 0).1 1))) (World κ (mset m 10 0 (amM (m 10 0) x y)))) : GG κ G_M_man 1 0 0 [.ref (ad κ 10 0), vi x, vi y] (World κ m) Q := by
  obtain ⟨s0, s1, s2, s3, s4, s5, hfg, hkd, hsh, hgl⟩ := id hS
  refine GG.intro (ls := [some _, some _, some _]) (Nat.le_of_ble_eq_true rfl) rfl (fun μ F => ?_)
  refine g_iload_n F a_M_man_0 rfl ?_
  refine g_iconst F a_M_man_1 ?_
  refine g_iconst F a_M_man_2 ?_
  refine g_s3 F a_M_man_3 sc_M_91 mk_M_in rfl (by decide) ⟨Nat.le_refl _, Nat.le_refl _⟩ rfl (Nat.le_of_ble_eq_true rfl) (sp_M_in (by omega) (by omega) (by omega) (fun c3 => GCr.v ?_) (fun c3 => GCr.v ?_))
  · refine g_ifeq1 F a_M_man_6 ?_
    refine g_iload_n F a_M_man_9 rfl ?_
    refine g_iconst F a_M_man_10 ?_
    refine g_bipush F a_M_man_11 (by decide) ?_
    refine g_s3 F a_M_man_13 sc_M_91 mk_M_in rfl (by decide) ⟨Nat.le_refl _, Nat.le_refl _⟩ rfl (Nat.le_of_ble_eq_true rfl) (sp_M_in (by omega) (by omega) (by omega) (fun c13 => GCr.v ?_) (fun c13 => GCr.v ?_))
    · refine g_ifne1 F a_M_man_16 ?_
      refine g_aload_n F a_M_man_24 rfl ?_
      refine g_get_10_1 F a_M_man_25 fl_M_60 ?_
      refine g_bipush F a_M_man_28 (by decide) ?_
      refine g_icmp_ne F (by omega) (by omega) a_M_man_30 (fun h30 => ?_) (fun h30 => ?_)
      · refine g_aload_n F a_M_man_40 rfl ?_
        refine g_iload_n F a_M_man_41 rfl ?_
        refine g_iload_n F a_M_man_42 rfl ?_
        refine g_v2 F a_M_man_43 vc_M_102 mk_M_addMan ob_10 ck_10.1 rfl rfl (by decide) ⟨Nat.le_refl _, Nat.le_refl _⟩ rfl (Nat.le_of_ble_eq_true rfl) (sp_M_addMan (by omega) (GCr.v ?_))
        refine g_iret F a_M_man_46 rfl ⟨Nat.le_refl _, Nat.le_refl _⟩ ?_
        first | exact kb (by omega) | exact kf (by omega) (by omega) | exact k (by omega) (by omega)
      · refine g_aload_n F a_M_man_33 rfl ?_
        refine g_v0 F a_M_man_34 vc_M_99 mk_M_full ob_10 ck_10.1 rfl rfl (by decide) ⟨Nat.le_refl _, Nat.le_refl _⟩ rfl (Nat.le_of_ble_eq_true rfl) (sp_M_full  (GCr.v ?_))
        refine g_goto F a_M_man_37 ?_
        refine g_iret F a_M_man_46 rfl ⟨Nat.le_refl _, Nat.le_refl _⟩ ?_
        first | exact kb (by omega) | exact kf (by omega) (by omega) | exact k (by omega) (by omega)
    · refine g_ifne0 F a_M_man_16 ?_
      refine g_aload_n F a_M_man_19 rfl ?_
      refine g_v0 F a_M_man_20 vc_M_95 mk_M_bad ob_10 ck_10.1 rfl rfl (by decide) ⟨Nat.le_refl _, Nat.le_refl _⟩ rfl (Nat.le_of_ble_eq_true rfl) (sp_M_bad  (GCr.v ?_))
      refine g_iret F a_M_man_23 rfl ⟨Nat.le_refl _, Nat.le_refl _⟩ ?_
      first | exact kb (by omega) | exact kf (by omega) (by omega) | exact k (by omega) (by omega)
  · refine g_ifeq0 F a_M_man_6 ?_
    refine g_aload_n F a_M_man_19 rfl ?_
    refine g_v0 F a_M_man_20 vc_M_95 mk_M_bad ob_10 ck_10.1 rfl rfl (by decide) ⟨Nat.le_refl _, Nat.le_refl _⟩ rfl (Nat.le_of_ble_eq_true rfl) (sp_M_bad  (GCr.v ?_))
    refine g_iret F a_M_man_23 rfl ⟨Nat.le_refl _, Nat.le_refl _⟩ ?_
    first | exact kb (by omega) | exact kf (by omega) (by omega) | exact k (by omega) (by omega)
set_option maxHeartbeats 1000000 in
theorem sp_M_reader {κ : Kx} {Q : Option Value → (Heap → Prop) → Prop} {m : Mem} {D : Int} (hS : okM D (m 10 0)) (hD : D ≤ 100000) {x : Int} (hx : R32 x) (kb : ¬ (0 ≤ x ∧ x ≤ 5) → Q (some (vi (-2))) (World κ (bmM m 0))) (kf : (0 ≤ x ∧ x ≤ 5) → 3 ≤ (m 10 0).1 2 → Q (some (vi (-4))) (World κ (bmM m 2))) (k : (0 ≤ x ∧ x ≤ 5) → (m 10 0).1 2 < 3 → Q (some (vi ((m 10 0).1 2))) (World κ (mset m 10 0 (agM (m 10 0) x)))) : GG κ G_M_reader 1 0 0 [.ref (ad κ 10 0), vi x] (World κ m) Q := by
  obtain ⟨s0, s1, s2, s3, s4, s5, hfg, hkd, hsh, hgl⟩ := id hS
  refine GG.intro (ls := [some _, some _]) (Nat.le_of_ble_eq_true rfl) rfl (fun μ F => ?_)
  refine g_iload_n F a_M_reader_0 rfl ?_
  refine g_iconst F a_M_reader_1 ?_
  refine g_iconst F a_M_reader_2 ?_
  refine g_s3 F a_M_reader_3 sc_M_91 mk_M_in rfl (by decide) ⟨Nat.le_refl _, Nat.le_refl _⟩ rfl (Nat.le_of_ble_eq_true rfl) (sp_M_in (by omega) (by omega) (by omega) (fun c3 => GCr.v ?_) (fun c3 => GCr.v ?_))
  · refine g_ifne1 F a_M_reader_6 ?_
    refine g_aload_n F a_M_reader_14 rfl ?_
    refine g_get_10_2 F a_M_reader_15 fl_M_64 ?_
    refine g_iconst F a_M_reader_18 ?_
    refine g_icmp_ne F (by omega) (by omega) a_M_reader_19 (fun h19 => ?_) (fun h19 => ?_)
    · refine g_aload_n F a_M_reader_29 rfl ?_
      refine g_iload_n F a_M_reader_30 rfl ?_
      refine g_v1 F a_M_reader_31 vc_M_106 mk_M_addReader ob_10 ck_10.1 rfl rfl (by decide) ⟨Nat.le_refl _, Nat.le_refl _⟩ rfl (Nat.le_of_ble_eq_true rfl) (sp_M_addReader (by omega) (GCr.v ?_))
      refine g_iret F a_M_reader_34 rfl ⟨Nat.le_refl _, Nat.le_refl _⟩ ?_
      first | exact kb (by omega) | exact kf (by omega) (by omega) | exact k (by omega) (by omega)
    · refine g_aload_n F a_M_reader_22 rfl ?_
      refine g_v0 F a_M_reader_23 vc_M_99 mk_M_full ob_10 ck_10.1 rfl rfl (by decide) ⟨Nat.le_refl _, Nat.le_refl _⟩ rfl (Nat.le_of_ble_eq_true rfl) (sp_M_full  (GCr.v ?_))
      refine g_goto F a_M_reader_26 ?_
      refine g_iret F a_M_reader_34 rfl ⟨Nat.le_refl _, Nat.le_refl _⟩ ?_
      first | exact kb (by omega) | exact kf (by omega) (by omega) | exact k (by omega) (by omega)
  · refine g_ifne0 F a_M_reader_6 ?_
    refine g_aload_n F a_M_reader_9 rfl ?_
    refine g_v0 F a_M_reader_10 vc_M_95 mk_M_bad ob_10 ck_10.1 rfl rfl (by decide) ⟨Nat.le_refl _, Nat.le_refl _⟩ rfl (Nat.le_of_ble_eq_true rfl) (sp_M_bad  (GCr.v ?_))
    refine g_iret F a_M_reader_13 rfl ⟨Nat.le_refl _, Nat.le_refl _⟩ ?_
    first | exact kb (by omega) | exact kf (by omega) (by omega) | exact k (by omega) (by omega)
set_option maxHeartbeats 1000000 in
theorem sp_M_type {κ : Kx} {Q : Option Value → (Heap → Prop) → Prop} {m : Mem} {x : Int} (hx : R32 x) (hz : 0 ≤ (m 10 0).1 18 ∧ (m 10 0).1 18 ≤ 150) (kb : ¬ (0 ≤ x ∧ x ≤ 127) → Q (some (vi (-2))) (World κ (bmM m 0))) (kf : (0 ≤ x ∧ x ≤ 127) → (m 10 0).1 18 = 150 → Q (some (vi (-4))) (World κ (bmM m 2))) (k : (0 ≤ x ∧ x ≤ 127) → (m 10 0).1 18 < 150 → Q (some (vi ((m 10 0).1 18 + 1))) (World κ (mset m 10 0 (fup (m 10 0).1 18 ((m 10 0).1 18 + 1), aup (m 10 0).2 8 (gup ((m 10 0).2 8) ((m 10 0).1 18) x))))) : GG κ G_M_type 1 0 0 [.ref (ad κ 10 0), vi x] (World κ m) Q := by
  refine GG.intro (ls := [some _, some _]) (Nat.le_of_ble_eq_true rfl) rfl (fun μ F => ?_)
  refine g_iload_n F a_M_type_0 rfl ?_
  refine g_iconst F a_M_type_1 ?_
  refine g_bipush F a_M_type_2 (by decide) ?_
  refine g_s3 F a_M_type_4 sc_M_91 mk_M_in rfl (by decide) ⟨Nat.le_refl _, Nat.le_refl _⟩ rfl (Nat.le_of_ble_eq_true rfl) (sp_M_in (by omega) (by omega) (by omega) (fun c4 => GCr.v ?_) (fun c4 => GCr.v ?_))
  · refine g_ifne1 F a_M_type_7 ?_
    refine g_aload_n F a_M_type_15 rfl ?_
    refine g_get_10_18 F a_M_type_16 fl_M_110 ?_
    refine g_sipush F a_M_type_19 (by decide) ?_
    refine g_icmp_ne F (by omega) (by omega) a_M_type_22 (fun h22 => ?_) (fun h22 => ?_)
    · refine g_aload_n F a_M_type_30 rfl ?_
      refine g_get_10_17 F a_M_type_31 fl_M_34 ?_
      refine g_aload_n F a_M_type_34 rfl ?_
      refine g_get_10_18 F a_M_type_35 fl_M_110 ?_
      refine g_iload_n F a_M_type_38 rfl ?_
      refine g_ist_10_8 F a_M_type_39 (by omega) ?_
      (try simp only [mset_app, mset_mset, fup_app, aup_app, fup_fup, aup_aup, false_and, and_false, true_and, and_true, and_self, reduceIte, Nat.reduceEqDiff, reduceCtorEq, fup_10, fs_4_5, fs_4_6, fs_5_6])
      refine g_aload_n F a_M_type_40 rfl ?_
      refine g_dup F a_M_type_41 rfl ?_
      refine g_get_10_18 F a_M_type_42 fl_M_110 ?_
      (try simp only [mset_app, mset_mset, fup_app, aup_app, fup_fup, aup_aup, false_and, and_false, true_and, and_true, and_self, reduceIte, Nat.reduceEqDiff, reduceCtorEq, fup_10, fs_4_5, fs_4_6, fs_5_6])
      refine g_iconst F a_M_type_45 ?_
      refine g_iadd F a_M_type_46 ?_
      refine g_put_10_18 F a_M_type_47 fl_M_110 ?_
      (try simp only [mset_app, mset_mset, fup_app, aup_app, fup_fup, aup_aup, false_and, and_false, true_and, and_true, and_self, reduceIte, Nat.reduceEqDiff, reduceCtorEq, fup_10, fs_4_5, fs_4_6, fs_5_6])
      refine g_aload_n F a_M_type_50 rfl ?_
      refine g_get_10_18 F a_M_type_51 fl_M_110 ?_
      (try simp only [mset_app, mset_mset, fup_app, aup_app, fup_fup, aup_aup, false_and, and_false, true_and, and_true, and_self, reduceIte, Nat.reduceEqDiff, reduceCtorEq, fup_10, fs_4_5, fs_4_6, fs_5_6])
      refine g_iret F a_M_type_54 rfl ⟨Nat.le_refl _, Nat.le_refl _⟩ ?_
      first | exact kb (by omega) | exact kf (by omega) (by omega) | exact k (by omega) (by omega)
    · refine g_aload_n F a_M_type_25 rfl ?_
      refine g_v0 F a_M_type_26 vc_M_99 mk_M_full ob_10 ck_10.1 rfl rfl (by decide) ⟨Nat.le_refl _, Nat.le_refl _⟩ rfl (Nat.le_of_ble_eq_true rfl) (sp_M_full  (GCr.v ?_))
      refine g_iret F a_M_type_29 rfl ⟨Nat.le_refl _, Nat.le_refl _⟩ ?_
      first | exact kb (by omega) | exact kf (by omega) (by omega) | exact k (by omega) (by omega)
  · refine g_ifne0 F a_M_type_7 ?_
    refine g_aload_n F a_M_type_10 rfl ?_
    refine g_v0 F a_M_type_11 vc_M_95 mk_M_bad ob_10 ck_10.1 rfl rfl (by decide) ⟨Nat.le_refl _, Nat.le_refl _⟩ rfl (Nat.le_of_ble_eq_true rfl) (sp_M_bad  (GCr.v ?_))
    refine g_iret F a_M_type_14 rfl ⟨Nat.le_refl _, Nat.le_refl _⟩ ?_
    first | exact kb (by omega) | exact kf (by omega) (by omega) | exact k (by omega) (by omega)
set_option maxHeartbeats 1000000 in
theorem sp_M_clear {κ : Kx} {Q : Option Value → (Heap → Prop) → Prop} {m : Mem} (k : Q (some (vi ((m 10 0).1 18))) (World κ (mset m 10 0 (fup (m 10 0).1 18 0, (m 10 0).2)))) : GG κ G_M_clear 0 0 0 [.ref (ad κ 10 0)] (World κ m) Q := by
  refine GG.intro (ls := [some _, none]) (Nat.le_of_ble_eq_true rfl) rfl (fun μ F => ?_)
  refine g_aload_n F a_M_clear_0 rfl ?_
  refine g_get_10_18 F a_M_clear_1 fl_M_110 ?_
  refine g_istore_n (ls' := [_, _]) F a_M_clear_4 rfl rfl rfl ?_
  refine g_aload_n F a_M_clear_5 rfl ?_
  refine g_iconst F a_M_clear_6 ?_
  refine g_put_10_18 F a_M_clear_7 fl_M_110 ?_
  (try simp only [mset_app, mset_mset, fup_app, aup_app, fup_fup, aup_aup, false_and, and_false, true_and, and_true, and_self, reduceIte, Nat.reduceEqDiff, reduceCtorEq, fup_10, fs_4_5, fs_4_6, fs_5_6])
  refine g_iload_n F a_M_clear_10 rfl ?_
  refine g_iret F a_M_clear_11 rfl ⟨Nat.le_refl _, Nat.le_refl _⟩ ?_
  exact k
theorem cpyI_z (f : Int → Int) (a b : Int) : cpyI f f a b 0 = f := by
  funext k
  unfold cpyI
  rw [if_neg (by omega)]
theorem cpyI_up {f : Int → Int} {x : Int} {j : Nat} (hx : x = j) : gup (cpyI f f 9 0 j) x (cpyI f f 9 0 j (x + 9)) = cpyI f f 9 0 ((j + 1 : Nat) : Int) := by
  funext k
  unfold gup cpyI
  by_cases h : k = x
  · rw [if_pos h, if_neg (by omega), if_pos (by omega)]
    congr 1
    omega
  · rw [if_neg h]
    by_cases h2 : 0 ≤ k ∧ k < 0 + (j : Int)
    · rw [if_pos h2, if_pos (by omega)]
    · rw [if_neg h2, if_neg (by omega)]
/-- what may be undone, one step more -/
def nuM (M : Rc) : Rc := if M.1 23 = 8 then (fup M.1 23 (M.1 23 - 1 + 1), aup M.2 10 (lyI (shM M) (cpyI (M.2 10) (M.2 10) 9 0 63) (9 * (M.1 23 - 1)))) else (fup M.1 23 (M.1 23 + 1), aup M.2 10 (lyI (shM M) (M.2 10) (9 * M.1 23)))
theorem shM_nu (M : Rc) : shM (nuM M) = shM M := by
  unfold nuM
  split <;> rw [sh_fup (by decide), sh_aup (by decide)]
set_option maxHeartbeats 2000000 in
theorem lp_M_notes {κ : Kx} {μ : MX} {Z : State → Prop} {m : Mem} (k : GC κ μ Z 0 0 38 [some (.ref (ad κ 10 0)), some (vi 63)] [] (World κ (mset m 10 0 ((m 10 0).1, aup (m 10 0).2 10 (cpyI ((m 10 0).2 10) ((m 10 0).2 10) 9 0 63))))) (F : Fx κ G_M_notes 1 0 0 μ) :
    ∀ (n : Nat) (j : Nat) (x : Int), 63 < j + n → j ≤ 63 → x = j →  GC κ μ Z 0 0 11 [some (.ref (ad κ 10 0)), some (vi x)] [] (World κ (mset m 10 0 ((m 10 0).1, aup (m 10 0).2 10 (cpyI ((m 10 0).2 10) ((m 10 0).2 10) 9 0 j)))) := by
  intro n
  induction n with
  | zero =>
    intro j x hn hj hx
    exact absurd hn (by omega)
  | succ n ih =>
    intro j x hn hj hx
    refine g_iload_n F a_M_notes_11 rfl ?_
    refine g_bipush F a_M_notes_12 (by decide) ?_
    refine g_icmp_ge F (by omega) (by omega) a_M_notes_14 (fun h14 => ?_) (fun h14 => ?_)
    · obtain rfl : j = 63 := by omega
      rw [hx]
      exact GC.loc2 k ⟨rfl, rfl, trivial⟩
    · refine g_aload_n F a_M_notes_17 rfl ?_
      refine g_get_10_22 F a_M_notes_18 fl_M_40 ?_
      (try simp only [mset_app, mset_mset, fup_app, aup_app, fup_fup, aup_aup, false_and, and_false, true_and, and_true, and_self, reduceIte, Nat.reduceEqDiff, reduceCtorEq, fup_10, fs_4_5, fs_4_6, fs_5_6])
      refine g_iload_n F a_M_notes_21 rfl ?_
      refine g_aload_n F a_M_notes_22 rfl ?_
      refine g_get_10_22 F a_M_notes_23 fl_M_40 ?_
      (try simp only [mset_app, mset_mset, fup_app, aup_app, fup_fup, aup_aup, false_and, and_false, true_and, and_true, and_self, reduceIte, Nat.reduceEqDiff, reduceCtorEq, fup_10, fs_4_5, fs_4_6, fs_5_6])
      refine g_iload_n F a_M_notes_26 rfl ?_
      refine g_bipush F a_M_notes_27 (by decide) ?_
      refine g_iadd F a_M_notes_29 ?_
      refine g_ild_10_10 F a_M_notes_30 (by omega) ?_
      (try simp only [mset_app, mset_mset, fup_app, aup_app, fup_fup, aup_aup, false_and, and_false, true_and, and_true, and_self, reduceIte, Nat.reduceEqDiff, reduceCtorEq, fup_10, fs_4_5, fs_4_6, fs_5_6])
      refine g_ist_10_10 F a_M_notes_31 (by omega) ?_
      (try simp only [mset_app, mset_mset, fup_app, aup_app, fup_fup, aup_aup, false_and, and_false, true_and, and_true, and_self, reduceIte, Nat.reduceEqDiff, reduceCtorEq, fup_10, fs_4_5, fs_4_6, fs_5_6])
      refine g_iinc (ls' := [_, _]) F a_M_notes_32 rfl rfl rfl ?_
      refine g_goto F a_M_notes_35 ?_
      rw [cpyI_up hx]
      exact GC.loc2 (ih (j + 1) _ (by omega) (by omega) (by omega)) ⟨rfl, rfl, trivial⟩
set_option maxHeartbeats 1000000 in
theorem sp_M_notes {κ : Kx} {Q : Option Value → (Heap → Prop) → Prop} {m : Mem} (hu : 0 ≤ (m 10 0).1 23 ∧ (m 10 0).1 23 ≤ 8) (k : Q none (World κ (mset m 10 0 (nuM (m 10 0))))) : GG κ G_M_notes 1 0 0 [.ref (ad κ 10 0)] (World κ m) Q := by
  refine GG.intro (ls := [some _, none]) (Nat.le_of_ble_eq_true rfl) rfl (fun μ F => ?_)
  refine g_aload_n F a_M_notes_0 rfl ?_
  refine g_get_10_23 F a_M_notes_1 fl_M_88 ?_
  refine g_bipush F a_M_notes_4 (by decide) ?_
  refine g_icmp_ne F (by omega) (by omega) a_M_notes_6 (fun h6 => ?_) (fun h6 => ?_)
  · refine g_aload_n F a_M_notes_48 rfl ?_
    refine g_aload_n F a_M_notes_49 rfl ?_
    refine g_get_10_22 F a_M_notes_50 fl_M_40 ?_
    refine g_bipush F a_M_notes_53 (by decide) ?_
    refine g_aload_n F a_M_notes_55 rfl ?_
    refine g_get_10_23 F a_M_notes_56 fl_M_88 ?_
    refine g_imul F a_M_notes_59 ?_
    refine g_v2 F a_M_notes_60 vc_M_221 mk_M_lays ob_10 ck_10.1 rfl rfl (by decide) ⟨Nat.le_refl _, Nat.le_refl _⟩ rfl (Nat.le_of_ble_eq_true rfl) (sp_M_lays (j := 10) (by decide) ⟨by omega, by show _ ≤ ((72 : Nat) : Int); omega⟩ (by decide) (GCr.n ?_))
    (try simp only [mset_app, mset_mset, fup_app, aup_app, fup_fup, aup_aup, false_and, and_false, true_and, and_true, and_self, reduceIte, Nat.reduceEqDiff, reduceCtorEq, fup_10, fs_4_5, fs_4_6, fs_5_6])
    refine g_aload_n F a_M_notes_63 rfl ?_
    refine g_dup F a_M_notes_64 rfl ?_
    refine g_get_10_23 F a_M_notes_65 fl_M_88 ?_
    (try simp only [mset_app, mset_mset, fup_app, aup_app, fup_fup, aup_aup, false_and, and_false, true_and, and_true, and_self, reduceIte, Nat.reduceEqDiff, reduceCtorEq, fup_10, fs_4_5, fs_4_6, fs_5_6])
    refine g_iconst F a_M_notes_68 ?_
    refine g_iadd F a_M_notes_69 ?_
    refine g_put_10_23 F a_M_notes_70 fl_M_88 ?_
    (try simp only [mset_app, mset_mset, fup_app, aup_app, fup_fup, aup_aup, false_and, and_false, true_and, and_true, and_self, reduceIte, Nat.reduceEqDiff, reduceCtorEq, fup_10, fs_4_5, fs_4_6, fs_5_6])
    refine g_ret F a_M_notes_73 rfl ⟨Nat.le_refl _, Nat.le_refl _⟩ ?_
    unfold nuM at k
    rw [if_neg (by omega)] at k
    exact k
  · refine g_iconst F a_M_notes_9 ?_
    refine g_istore_n (ls' := [_, _]) F a_M_notes_10 rfl rfl rfl ?_
    have hz := lp_M_notes (κ := κ) (m := m) (Z := ZZ κ μ 0 0 Q) ?_ F 64 0 0 (by decide) (by decide) rfl
    · rw [show (((0 : Nat) : Int)) = 0 from rfl, cpyI_z, aup_self] at hz
      exact GC.loc2 hz ⟨rfl, rfl, trivial⟩
    refine g_aload_n F a_M_notes_38 rfl ?_
    refine g_dup F a_M_notes_39 rfl ?_
    refine g_get_10_23 F a_M_notes_40 fl_M_88 ?_
    (try simp only [mset_app, mset_mset, fup_app, aup_app, fup_fup, aup_aup, false_and, and_false, true_and, and_true, and_self, reduceIte, Nat.reduceEqDiff, reduceCtorEq, fup_10, fs_4_5, fs_4_6, fs_5_6])
    refine g_iconst F a_M_notes_43 ?_
    refine g_isub F a_M_notes_44 ?_
    refine g_put_10_23 F a_M_notes_45 fl_M_88 ?_
    (try simp only [mset_app, mset_mset, fup_app, aup_app, fup_fup, aup_aup, false_and, and_false, true_and, and_true, and_self, reduceIte, Nat.reduceEqDiff, reduceCtorEq, fup_10, fs_4_5, fs_4_6, fs_5_6])
    refine g_aload_n F a_M_notes_48 rfl ?_
    refine g_aload_n F a_M_notes_49 rfl ?_
    refine g_get_10_22 F a_M_notes_50 fl_M_40 ?_
    (try simp only [mset_app, mset_mset, fup_app, aup_app, fup_fup, aup_aup, false_and, and_false, true_and, and_true, and_self, reduceIte, Nat.reduceEqDiff, reduceCtorEq, fup_10, fs_4_5, fs_4_6, fs_5_6])
    refine g_bipush F a_M_notes_53 (by decide) ?_
    refine g_aload_n F a_M_notes_55 rfl ?_
    refine g_get_10_23 F a_M_notes_56 fl_M_88 ?_
    (try simp only [mset_app, mset_mset, fup_app, aup_app, fup_fup, aup_aup, false_and, and_false, true_and, and_true, and_self, reduceIte, Nat.reduceEqDiff, reduceCtorEq, fup_10, fs_4_5, fs_4_6, fs_5_6])
    refine g_imul F a_M_notes_59 ?_
    refine g_v2 F a_M_notes_60 vc_M_221 mk_M_lays ob_10 ck_10.1 rfl rfl (by decide) ⟨Nat.le_refl _, Nat.le_refl _⟩ rfl (Nat.le_of_ble_eq_true rfl) (sp_M_lays (j := 10) (by decide) ⟨by omega, by show _ ≤ ((72 : Nat) : Int); omega⟩ (by decide) (GCr.n ?_))
    (try simp only [mset_app, mset_mset, fup_app, aup_app, fup_fup, aup_aup, false_and, and_false, true_and, and_true, and_self, reduceIte, Nat.reduceEqDiff, reduceCtorEq, fup_10, fs_4_5, fs_4_6, fs_5_6])
    refine g_aload_n F a_M_notes_63 rfl ?_
    refine g_dup F a_M_notes_64 rfl ?_
    refine g_get_10_23 F a_M_notes_65 fl_M_88 ?_
    (try simp only [mset_app, mset_mset, fup_app, aup_app, fup_fup, aup_aup, false_and, and_false, true_and, and_true, and_self, reduceIte, Nat.reduceEqDiff, reduceCtorEq, fup_10, fs_4_5, fs_4_6, fs_5_6])
    refine g_iconst F a_M_notes_68 ?_
    refine g_iadd F a_M_notes_69 ?_
    refine g_put_10_23 F a_M_notes_70 fl_M_88 ?_
    (try simp only [mset_app, mset_mset, fup_app, aup_app, fup_fup, aup_aup, false_and, and_false, true_and, and_true, and_self, reduceIte, Nat.reduceEqDiff, reduceCtorEq, fup_10, fs_4_5, fs_4_6, fs_5_6])
    refine g_ret F a_M_notes_73 rfl ⟨Nat.le_refl _, Nat.le_refl _⟩ ?_
    have e : ∀ (v : Int) (h : Int → Int), shM (fup (m 10 0).1 23 v, aup (m 10 0).2 10 h) = shM (m 10 0) := fun v h => by rw [sh_fup (by decide), sh_aup (by decide)]
    rw [e]
    unfold nuM at k
    rw [if_pos (by omega)] at k
    exact k
theorem okM_nu {m : Mem} {D : Int} (h : okM D (m 10 0)) : okM D (mset m 10 0 (nuM (m 10 0)) 10 0) := by
  rw [mset_same]
  exact okS_M (by rw [shM_nu]; exact okM_S h)
theorem nuM_2 (M : Rc) : (nuM M).1 2 = M.1 2 := by
  unfold nuM
  split <;> rfl
theorem nuM_A (M : Rc) {j : Nat} (h : j ≠ 10) : (nuM M).2 j = M.2 j := by
  unfold nuM
  split
  · show aup M.2 10 _ j = _
    rw [aup_app, if_neg h]
  · show aup M.2 10 _ j = _
    rw [aup_app, if_neg h]
set_option maxHeartbeats 1000000 in
theorem sp_M_noon {κ : Kx} {Q : Option Value → (Heap → Prop) → Prop} {m : Mem} {D : Int} (hS : okM D (m 10 0)) (hD : D ≤ 100000) (hu : 0 ≤ (m 10 0).1 23 ∧ (m 10 0).1 23 ≤ 8) {x y : Int} (hx : R32 x) (hy : R32 y) (kb : ¬ ((0 ≤ x ∧ x < 2 ^ ((m 10 0).1 1).toNat) ∧ 0 ≤ y ∧ y < (m 10 0).1 2) → Q (some (vi (-2))) (World κ (bmM m 0))) (kn : (0 ≤ x ∧ x < 2 ^ ((m 10 0).1 1).toNat) → (0 ≤ y ∧ y < (m 10 0).1 2) → (m 10 0).1 6 = 999 → Q (some (vi (-3))) (World κ (bmM m 1))) (k : (0 ≤ x ∧ x < 2 ^ ((m 10 0).1 1).toNat) → (0 ≤ y ∧ y < (m 10 0).1 2) → (m 10 0).1 6 ≠ 999 → Q (some (vi ((sailS (shM (m 10 0)) x y).1 0))) (World κ (mset m 10 0 (stM (nuM (m 10 0)) (sailS (shM (m 10 0)) x y))))) : GG κ G_M_noon 6 0 0 [.ref (ad κ 10 0), vi x, vi y] (World κ m) Q := by
  obtain ⟨s0, s1, s2, s3, s4, s5, hfg, hkd, hsh, hgl⟩ := id hS
  have hset6 : (0 ≤ x ∧ x < 2 ^ ((m 10 0).1 1).toNat) → 0 ≤ x ∧ x < 64 := fun h => by have := p64 (n := ((m 10 0).1 1).toNat) (by omega); omega
  refine GG.intro (ls := [some _, some _, some _]) (Nat.le_of_ble_eq_true rfl) rfl (fun μ F => ?_)
  refine g_aload_n F a_M_noon_0 rfl ?_
  refine g_iload_n F a_M_noon_1 rfl ?_
  refine g_v1 F a_M_noon_2 vc_M_224 mk_M_areMen ob_10 ck_10.1 rfl rfl (by decide) ⟨Nat.le_refl _, Nat.le_refl _⟩ rfl (Nat.le_of_ble_eq_true rfl) (sp_M_areMen hS hD (by omega) (fun c2 => GCr.v ?_) (fun c2 => GCr.v ?_))
  · refine g_ifeq1 F a_M_noon_5 ?_
    refine g_aload_n F a_M_noon_8 rfl ?_
    refine g_iload_n F a_M_noon_9 rfl ?_
    refine g_v1 F a_M_noon_10 vc_M_227 mk_M_isReader ob_10 ck_10.1 rfl rfl (by decide) ⟨Nat.le_refl _, Nat.le_refl _⟩ rfl (Nat.le_of_ble_eq_true rfl) (sp_M_isReader hS hD (by omega) (fun c10 => GCr.v ?_) (fun c10 => GCr.v ?_))
    · refine g_ifne1 F a_M_noon_13 ?_
      refine g_aload_n F a_M_noon_21 rfl ?_
      refine g_get_10_6 F a_M_noon_22 fl_M_76 ?_
      refine g_sipush F a_M_noon_25 (by decide) ?_
      refine g_icmp_ne F (by omega) (by omega) a_M_noon_28 (fun h28 => ?_) (fun h28 => ?_)
      · refine g_aload_n F a_M_noon_36 rfl ?_
        refine g_v0 F a_M_noon_37 vc_M_233 mk_M_notes ob_10 ck_10.1 rfl rfl (by decide) ⟨Nat.le_refl _, Nat.le_refl _⟩ rfl (Nat.le_of_ble_eq_true rfl) (sp_M_notes hu (GCr.n ?_))
        (try simp only [mset_app, mset_mset, fup_app, aup_app, fup_fup, aup_aup, false_and, and_false, true_and, and_true, and_self, reduceIte, Nat.reduceEqDiff, reduceCtorEq, fup_10, fs_4_5, fs_4_6, fs_5_6])
        refine g_aload_n F a_M_noon_40 rfl ?_
        refine g_iload_n F a_M_noon_41 rfl ?_
        refine g_iload_n F a_M_noon_42 rfl ?_
        refine g_v2 F a_M_noon_43 vc_M_155 mk_M_measures ob_10 ck_10.1 rfl rfl (by decide) ⟨Nat.le_refl _, Nat.le_refl _⟩ rfl (Nat.le_of_ble_eq_true rfl) (sp_M_measures (D := D) (okM_nu hS) hD (hset6 (by assumption)) (by rw [mset_same, nuM_2]; omega) (GCr.n ?_))
        (try simp only [mset_app, mset_mset, fup_app, aup_app, fup_fup, aup_aup, false_and, and_false, true_and, and_true, and_self, reduceIte, Nat.reduceEqDiff, reduceCtorEq, fup_10, fs_4_5, fs_4_6, fs_5_6])
        refine g_aload_n F a_M_noon_46 rfl ?_
        refine g_get_10_4 F a_M_noon_47 fl_M_70 ?_
        (try simp only [mset_app, mset_mset, fup_app, aup_app, fup_fup, aup_aup, false_and, and_false, true_and, and_true, and_self, reduceIte, Nat.reduceEqDiff, reduceCtorEq, fup_10, fs_4_5, fs_4_6, fs_5_6])
        refine g_iret F a_M_noon_50 rfl ⟨Nat.le_refl _, Nat.le_refl _⟩ ?_
        first | exact kb (fun q => absurd q.1 (by assumption)) | exact kb (fun q => absurd q.2 (by assumption)) | exact kn (by assumption) (by assumption) (by omega) | (rw [shM_nu]; exact k (by assumption) (by assumption) (by omega))
      · refine g_aload_n F a_M_noon_31 rfl ?_
        refine g_v0 F a_M_noon_32 vc_M_230 mk_M_no ob_10 ck_10.1 rfl rfl (by decide) ⟨Nat.le_refl _, Nat.le_refl _⟩ rfl (Nat.le_of_ble_eq_true rfl) (sp_M_no  (GCr.v ?_))
        refine g_iret F a_M_noon_35 rfl ⟨Nat.le_refl _, Nat.le_refl _⟩ ?_
        first | exact kb (fun q => absurd q.1 (by assumption)) | exact kb (fun q => absurd q.2 (by assumption)) | exact kn (by assumption) (by assumption) (by omega) | (rw [shM_nu]; exact k (by assumption) (by assumption) (by omega))
    · refine g_ifne0 F a_M_noon_13 ?_
      refine g_aload_n F a_M_noon_16 rfl ?_
      refine g_v0 F a_M_noon_17 vc_M_95 mk_M_bad ob_10 ck_10.1 rfl rfl (by decide) ⟨Nat.le_refl _, Nat.le_refl _⟩ rfl (Nat.le_of_ble_eq_true rfl) (sp_M_bad  (GCr.v ?_))
      refine g_iret F a_M_noon_20 rfl ⟨Nat.le_refl _, Nat.le_refl _⟩ ?_
      first | exact kb (fun q => absurd q.1 (by assumption)) | exact kb (fun q => absurd q.2 (by assumption)) | exact kn (by assumption) (by assumption) (by omega) | (rw [shM_nu]; exact k (by assumption) (by assumption) (by omega))
  · refine g_ifeq0 F a_M_noon_5 ?_
    refine g_aload_n F a_M_noon_16 rfl ?_
    refine g_v0 F a_M_noon_17 vc_M_95 mk_M_bad ob_10 ck_10.1 rfl rfl (by decide) ⟨Nat.le_refl _, Nat.le_refl _⟩ rfl (Nat.le_of_ble_eq_true rfl) (sp_M_bad  (GCr.v ?_))
    refine g_iret F a_M_noon_20 rfl ⟨Nat.le_refl _, Nat.le_refl _⟩ ?_
    first | exact kb (fun q => absurd q.1 (by assumption)) | exact kb (fun q => absurd q.2 (by assumption)) | exact kn (by assumption) (by assumption) (by omega) | (rw [shM_nu]; exact k (by assumption) (by assumption) (by omega))
set_option maxHeartbeats 1000000 in
theorem sp_M_deed {κ : Kx} {Q : Option Value → (Heap → Prop) → Prop} {m : Mem} {D : Int} (hS : okM D (m 10 0)) (hD : D ≤ 100000) (hu : 0 ≤ (m 10 0).1 23 ∧ (m 10 0).1 23 ≤ 8) {x y : Int} (hx : R32 x) (hy : R32 y) (kb : ¬ ((0 ≤ x ∧ x < (m 10 0).1 1) ∧ 1 ≤ y ∧ y ≤ 90) → Q (some (vi (-2))) (World κ (bmM m 0))) (k : (0 ≤ x ∧ x < (m 10 0).1 1) → (1 ≤ y ∧ y ≤ 90) → Q (some (vi (min ((m 10 0).2 2 x + y) 90))) (World κ (mset m 10 0 ((nuM (m 10 0)).1, aup (nuM (m 10 0)).2 2 (gup ((m 10 0).2 2) x (min ((m 10 0).2 2 x + y) 90)))))) : GG κ G_M_deed 2 0 0 [.ref (ad κ 10 0), vi x, vi y] (World κ m) Q := by
  obtain ⟨s0, s1, s2, s3, s4, s5, hfg, hkd, hsh, hgl⟩ := id hS
  have hs9 := fun h : 0 ≤ x ∧ x < 6 => hsh x h
  refine GG.intro (ls := [some _, some _, some _]) (Nat.le_of_ble_eq_true rfl) rfl (fun μ F => ?_)
  refine g_aload_n F a_M_deed_0 rfl ?_
  refine g_iload_n F a_M_deed_1 rfl ?_
  refine g_v1 F a_M_deed_2 vc_M_236 mk_M_isMan ob_10 ck_10.1 rfl rfl (by decide) ⟨Nat.le_refl _, Nat.le_refl _⟩ rfl (Nat.le_of_ble_eq_true rfl) (sp_M_isMan hS hD (by omega) (fun c2 => GCr.v ?_) (fun c2 => GCr.v ?_))
  · refine g_ifeq1 F a_M_deed_5 ?_
    refine g_iload_n F a_M_deed_8 rfl ?_
    refine g_iconst F a_M_deed_9 ?_
    refine g_bipush F a_M_deed_10 (by decide) ?_
    refine g_s3 F a_M_deed_12 sc_M_91 mk_M_in rfl (by decide) ⟨Nat.le_refl _, Nat.le_refl _⟩ rfl (Nat.le_of_ble_eq_true rfl) (sp_M_in (by omega) (by omega) (by omega) (fun c12 => GCr.v ?_) (fun c12 => GCr.v ?_))
    · refine g_ifne1 F a_M_deed_15 ?_
      refine g_aload_n F a_M_deed_23 rfl ?_
      refine g_v0 F a_M_deed_24 vc_M_233 mk_M_notes ob_10 ck_10.1 rfl rfl (by decide) ⟨Nat.le_refl _, Nat.le_refl _⟩ rfl (Nat.le_of_ble_eq_true rfl) (sp_M_notes hu (GCr.n ?_))
      (try simp only [mset_app, mset_mset, fup_app, aup_app, fup_fup, aup_aup, false_and, and_false, true_and, and_true, and_self, reduceIte, Nat.reduceEqDiff, reduceCtorEq, fup_10, fs_4_5, fs_4_6, fs_5_6, nuM_A _ (show (2 : Nat) ≠ 10 by decide), Int.min_comm 90, gup_app, if_true])
      refine g_aload_n F a_M_deed_27 rfl ?_
      refine g_get_10_11 F a_M_deed_28 fl_M_16 ?_
      (try simp only [mset_app, mset_mset, fup_app, aup_app, fup_fup, aup_aup, false_and, and_false, true_and, and_true, and_self, reduceIte, Nat.reduceEqDiff, reduceCtorEq, fup_10, fs_4_5, fs_4_6, fs_5_6, nuM_A _ (show (2 : Nat) ≠ 10 by decide), Int.min_comm 90, gup_app, if_true])
      refine g_iload_n F a_M_deed_31 rfl ?_
      refine g_bipush F a_M_deed_32 (by decide) ?_
      refine g_aload_n F a_M_deed_34 rfl ?_
      refine g_get_10_11 F a_M_deed_35 fl_M_16 ?_
      (try simp only [mset_app, mset_mset, fup_app, aup_app, fup_fup, aup_aup, false_and, and_false, true_and, and_true, and_self, reduceIte, Nat.reduceEqDiff, reduceCtorEq, fup_10, fs_4_5, fs_4_6, fs_5_6, nuM_A _ (show (2 : Nat) ≠ 10 by decide), Int.min_comm 90, gup_app, if_true])
      refine g_iload_n F a_M_deed_38 rfl ?_
      refine g_ild_10_2 F a_M_deed_39 (by omega) ?_
      (try simp only [mset_app, mset_mset, fup_app, aup_app, fup_fup, aup_aup, false_and, and_false, true_and, and_true, and_self, reduceIte, Nat.reduceEqDiff, reduceCtorEq, fup_10, fs_4_5, fs_4_6, fs_5_6, nuM_A _ (show (2 : Nat) ≠ 10 by decide), Int.min_comm 90, gup_app, if_true])
      refine g_iload_n F a_M_deed_40 rfl ?_
      refine g_iadd F a_M_deed_41 ?_
      refine g_s2 F a_M_deed_42 sc_M_146 mk_M_lesser rfl (by decide) ⟨Nat.le_refl _, Nat.le_refl _⟩ rfl (Nat.le_of_ble_eq_true rfl) (sp_M_lesser (by omega) (by omega) (GCr.v ?_))
      (try simp only [mset_app, mset_mset, fup_app, aup_app, fup_fup, aup_aup, false_and, and_false, true_and, and_true, and_self, reduceIte, Nat.reduceEqDiff, reduceCtorEq, fup_10, fs_4_5, fs_4_6, fs_5_6, nuM_A _ (show (2 : Nat) ≠ 10 by decide), Int.min_comm 90, gup_app, if_true])
      refine g_ist_10_2 F a_M_deed_45 (by omega) ?_
      (try simp only [mset_app, mset_mset, fup_app, aup_app, fup_fup, aup_aup, false_and, and_false, true_and, and_true, and_self, reduceIte, Nat.reduceEqDiff, reduceCtorEq, fup_10, fs_4_5, fs_4_6, fs_5_6, nuM_A _ (show (2 : Nat) ≠ 10 by decide), Int.min_comm 90, gup_app, if_true])
      refine g_aload_n F a_M_deed_46 rfl ?_
      refine g_get_10_11 F a_M_deed_47 fl_M_16 ?_
      (try simp only [mset_app, mset_mset, fup_app, aup_app, fup_fup, aup_aup, false_and, and_false, true_and, and_true, and_self, reduceIte, Nat.reduceEqDiff, reduceCtorEq, fup_10, fs_4_5, fs_4_6, fs_5_6, nuM_A _ (show (2 : Nat) ≠ 10 by decide), Int.min_comm 90, gup_app, if_true])
      refine g_iload_n F a_M_deed_50 rfl ?_
      refine g_ild_10_2 F a_M_deed_51 (by omega) ?_
      (try simp only [mset_app, mset_mset, fup_app, aup_app, fup_fup, aup_aup, false_and, and_false, true_and, and_true, and_self, reduceIte, Nat.reduceEqDiff, reduceCtorEq, fup_10, fs_4_5, fs_4_6, fs_5_6, nuM_A _ (show (2 : Nat) ≠ 10 by decide), Int.min_comm 90, gup_app, if_true])
      refine g_iret F a_M_deed_52 rfl ⟨Nat.le_refl _, Nat.le_refl _⟩ ?_
      first | exact kb (by omega) | exact qv (k (by omega) (by omega)) (by first | rfl | simp [gup])
    · refine g_ifne0 F a_M_deed_15 ?_
      refine g_aload_n F a_M_deed_18 rfl ?_
      refine g_v0 F a_M_deed_19 vc_M_95 mk_M_bad ob_10 ck_10.1 rfl rfl (by decide) ⟨Nat.le_refl _, Nat.le_refl _⟩ rfl (Nat.le_of_ble_eq_true rfl) (sp_M_bad  (GCr.v ?_))
      refine g_iret F a_M_deed_22 rfl ⟨Nat.le_refl _, Nat.le_refl _⟩ ?_
      first | exact kb (by omega) | exact qv (k (by omega) (by omega)) (by first | rfl | simp [gup])
  · refine g_ifeq0 F a_M_deed_5 ?_
    refine g_aload_n F a_M_deed_18 rfl ?_
    refine g_v0 F a_M_deed_19 vc_M_95 mk_M_bad ob_10 ck_10.1 rfl rfl (by decide) ⟨Nat.le_refl _, Nat.le_refl _⟩ rfl (Nat.le_of_ble_eq_true rfl) (sp_M_bad  (GCr.v ?_))
    refine g_iret F a_M_deed_22 rfl ⟨Nat.le_refl _, Nat.le_refl _⟩ ?_
    first | exact kb (by omega) | exact qv (k (by omega) (by omega)) (by first | rfl | simp [gup])
set_option maxHeartbeats 1000000 in
theorem sp_M_undo {κ : Kx} {Q : Option Value → (Heap → Prop) → Prop} {m : Mem} {D : Int} (hS : okM D (m 10 0)) (hD : D ≤ 100000) (hu : 0 ≤ (m 10 0).1 23 ∧ (m 10 0).1 23 ≤ 8) (kn : (m 10 0).1 23 = 0 → Q (some (vi (-3))) (World κ (bmM m 1))) (k : 1 ≤ (m 10 0).1 23 → Q (some (vi ((m 10 0).2 10 (9 * ((m 10 0).1 23 - 1) + 2)))) (World κ (mset m 10 0 (stM (fup (m 10 0).1 23 ((m 10 0).1 23 - 1), (m 10 0).2) (tkS ((m 10 0).2 10) (9 * ((m 10 0).1 23 - 1)) (shM (m 10 0))))))) : GG κ G_M_undo 1 0 0 [.ref (ad κ 10 0)] (World κ m) Q := by
  obtain ⟨s0, s1, s2, s3, s4, s5, hfg, hkd, hsh, hgl⟩ := id hS
  refine GG.intro (ls := [some _]) (Nat.le_of_ble_eq_true rfl) rfl (fun μ F => ?_)
  refine g_aload_n F a_M_undo_0 rfl ?_
  refine g_get_10_23 F a_M_undo_1 fl_M_88 ?_
  refine g_if_ne F (by omega) a_M_undo_4 (fun h4 => ?_) (fun h4 => ?_)
  · refine g_aload_n F a_M_undo_12 rfl ?_
    refine g_dup F a_M_undo_13 rfl ?_
    refine g_get_10_23 F a_M_undo_14 fl_M_88 ?_
    refine g_iconst F a_M_undo_17 ?_
    refine g_isub F a_M_undo_18 ?_
    refine g_put_10_23 F a_M_undo_19 fl_M_88 ?_
    (try simp only [mset_app, mset_mset, fup_app, aup_app, fup_fup, aup_aup, false_and, and_false, true_and, and_true, and_self, reduceIte, Nat.reduceEqDiff, reduceCtorEq, fup_10, fs_4_5, fs_4_6, fs_5_6])
    refine g_aload_n F a_M_undo_22 rfl ?_
    refine g_aload_n F a_M_undo_23 rfl ?_
    refine g_get_10_22 F a_M_undo_24 fl_M_40 ?_
    (try simp only [mset_app, mset_mset, fup_app, aup_app, fup_fup, aup_aup, false_and, and_false, true_and, and_true, and_self, reduceIte, Nat.reduceEqDiff, reduceCtorEq, fup_10, fs_4_5, fs_4_6, fs_5_6])
    refine g_bipush F a_M_undo_27 (by decide) ?_
    refine g_aload_n F a_M_undo_29 rfl ?_
    refine g_get_10_23 F a_M_undo_30 fl_M_88 ?_
    (try simp only [mset_app, mset_mset, fup_app, aup_app, fup_fup, aup_aup, false_and, and_false, true_and, and_true, and_self, reduceIte, Nat.reduceEqDiff, reduceCtorEq, fup_10, fs_4_5, fs_4_6, fs_5_6])
    refine g_imul F a_M_undo_33 ?_
    refine g_v2 F a_M_undo_34 vc_M_239 mk_M_takes ob_10 ck_10.1 rfl rfl (by decide) ⟨Nat.le_refl _, Nat.le_refl _⟩ rfl (Nat.le_of_ble_eq_true rfl) (sp_M_takes (j := 10) (by decide) ⟨by omega, by show _ ≤ ((72 : Nat) : Int); omega⟩ (by decide) (GCr.n ?_))
    (try simp only [mset_app, mset_mset, fup_app, aup_app, fup_fup, aup_aup, false_and, and_false, true_and, and_true, and_self, reduceIte, Nat.reduceEqDiff, reduceCtorEq, fup_10, fs_4_5, fs_4_6, fs_5_6])
    refine g_aload_n F a_M_undo_37 rfl ?_
    refine g_get_10_6 F a_M_undo_38 fl_M_76 ?_
    (try simp only [mset_app, mset_mset, fup_app, aup_app, fup_fup, aup_aup, false_and, and_false, true_and, and_true, and_self, reduceIte, Nat.reduceEqDiff, reduceCtorEq, fup_10, fs_4_5, fs_4_6, fs_5_6])
    refine g_iret F a_M_undo_41 rfl ⟨Nat.le_refl _, Nat.le_refl _⟩ ?_
    first | exact kn (by omega) | (rw [sh_fup (by decide)]; exact k (by omega))
  · refine g_aload_n F a_M_undo_7 rfl ?_
    refine g_v0 F a_M_undo_8 vc_M_230 mk_M_no ob_10 ck_10.1 rfl rfl (by decide) ⟨Nat.le_refl _, Nat.le_refl _⟩ rfl (Nat.le_of_ble_eq_true rfl) (sp_M_no  (GCr.v ?_))
    refine g_iret F a_M_undo_11 rfl ⟨Nat.le_refl _, Nat.le_refl _⟩ ?_
    first | exact kn (by omega) | (rw [sh_fup (by decide)]; exact k (by omega))
set_option maxHeartbeats 1000000 in
theorem sp_M_nowOf {κ : Kx} {Q : Option Value → (Heap → Prop) → Prop} {m : Mem} {D : Int} (hS : okM D (m 10 0)) (hD : D ≤ 100000) {x : Int} (hx : 0 ≤ x ∧ x ≤ 3) (k : Q (some (vi (nowS (shM (m 10 0)) x))) (World κ m)) : GG κ G_M_nowOf 1 0 0 [.ref (ad κ 10 0), vi x] (World κ m) Q := by
  obtain ⟨s0, s1, s2, s3, s4, s5, hfg, hkd, hsh, hgl⟩ := id hS
  refine GG.intro (ls := [some _, some _]) (Nat.le_of_ble_eq_true rfl) rfl (fun μ F => ?_)
  refine g_iload_n F a_M_nowOf_0 rfl ?_
  refine g_if_ne F (by omega) a_M_nowOf_1 (fun h1 => ?_) (fun h1 => ?_)
  · refine g_iload_n F a_M_nowOf_11 rfl ?_
    refine g_iconst F a_M_nowOf_12 ?_
    refine g_icmp_ne F (by omega) (by omega) a_M_nowOf_13 (fun h13 => ?_) (fun h13 => ?_)
    · refine g_iload_n F a_M_nowOf_23 rfl ?_
      refine g_iconst F a_M_nowOf_24 ?_
      refine g_icmp_ne F (by omega) (by omega) a_M_nowOf_25 (fun h25 => ?_) (fun h25 => ?_)
      · refine g_aload_n F a_M_nowOf_35 rfl ?_
        refine g_v0 F a_M_nowOf_36 vc_M_206 mk_M_isFog ob_10 ck_10.1 rfl rfl (by decide) ⟨Nat.le_refl _, Nat.le_refl _⟩ rfl (Nat.le_of_ble_eq_true rfl) (sp_M_isFog hS hD (fun c36 => GCr.v ?_) (fun c36 => GCr.v ?_))
        · refine g_ifeq1 F a_M_nowOf_39 ?_
          refine g_iconst F a_M_nowOf_42 ?_
          refine g_goto F a_M_nowOf_43 ?_
          refine g_iret F a_M_nowOf_47 rfl ⟨Nat.le_refl _, Nat.le_refl _⟩ ?_
          first | exact qv k (by unfold nowS; rw [if_pos (by omega)]; rfl) | exact qv k (by unfold nowS; rw [if_neg (by omega), if_pos (by omega)]; rfl) | exact qv k (by unfold nowS; rw [if_neg (by omega), if_neg (by omega), if_pos (by omega)]; rfl) | exact qv k (by unfold nowS; rw [if_neg (by omega), if_neg (by omega), if_neg (by omega), if_pos c36]) | exact qv k (by unfold nowS; rw [if_neg (by omega), if_neg (by omega), if_neg (by omega), if_neg c36])
        · refine g_ifeq0 F a_M_nowOf_39 ?_
          refine g_iconst F a_M_nowOf_46 ?_
          refine g_iret F a_M_nowOf_47 rfl ⟨Nat.le_refl _, Nat.le_refl _⟩ ?_
          first | exact qv k (by unfold nowS; rw [if_pos (by omega)]; rfl) | exact qv k (by unfold nowS; rw [if_neg (by omega), if_pos (by omega)]; rfl) | exact qv k (by unfold nowS; rw [if_neg (by omega), if_neg (by omega), if_pos (by omega)]; rfl) | exact qv k (by unfold nowS; rw [if_neg (by omega), if_neg (by omega), if_neg (by omega), if_pos c36]) | exact qv k (by unfold nowS; rw [if_neg (by omega), if_neg (by omega), if_neg (by omega), if_neg c36])
      · refine g_aload_n F a_M_nowOf_28 rfl ?_
        refine g_get_10_3 F a_M_nowOf_29 fl_M_67 ?_
        refine g_goto F a_M_nowOf_32 ?_
        refine g_iret F a_M_nowOf_47 rfl ⟨Nat.le_refl _, Nat.le_refl _⟩ ?_
        first | exact qv k (by unfold nowS; rw [if_pos (by omega)]; rfl) | exact qv k (by unfold nowS; rw [if_neg (by omega), if_pos (by omega)]; rfl) | exact qv k (by unfold nowS; rw [if_neg (by omega), if_neg (by omega), if_pos (by omega)]; rfl) | exact qv k (by unfold nowS; rw [if_neg (by omega), if_neg (by omega), if_neg (by omega), if_pos c36]) | exact qv k (by unfold nowS; rw [if_neg (by omega), if_neg (by omega), if_neg (by omega), if_neg c36])
    · refine g_aload_n F a_M_nowOf_16 rfl ?_
      refine g_get_10_5 F a_M_nowOf_17 fl_M_73 ?_
      refine g_goto F a_M_nowOf_20 ?_
      refine g_iret F a_M_nowOf_47 rfl ⟨Nat.le_refl _, Nat.le_refl _⟩ ?_
      first | exact qv k (by unfold nowS; rw [if_pos (by omega)]; rfl) | exact qv k (by unfold nowS; rw [if_neg (by omega), if_pos (by omega)]; rfl) | exact qv k (by unfold nowS; rw [if_neg (by omega), if_neg (by omega), if_pos (by omega)]; rfl) | exact qv k (by unfold nowS; rw [if_neg (by omega), if_neg (by omega), if_neg (by omega), if_pos c36]) | exact qv k (by unfold nowS; rw [if_neg (by omega), if_neg (by omega), if_neg (by omega), if_neg c36])
  · refine g_aload_n F a_M_nowOf_4 rfl ?_
    refine g_get_10_4 F a_M_nowOf_5 fl_M_70 ?_
    refine g_goto F a_M_nowOf_8 ?_
    refine g_iret F a_M_nowOf_47 rfl ⟨Nat.le_refl _, Nat.le_refl _⟩ ?_
    first | exact qv k (by unfold nowS; rw [if_pos (by omega)]; rfl) | exact qv k (by unfold nowS; rw [if_neg (by omega), if_pos (by omega)]; rfl) | exact qv k (by unfold nowS; rw [if_neg (by omega), if_neg (by omega), if_pos (by omega)]; rfl) | exact qv k (by unfold nowS; rw [if_neg (by omega), if_neg (by omega), if_neg (by omega), if_pos c36]) | exact qv k (by unfold nowS; rw [if_neg (by omega), if_neg (by omega), if_neg (by omega), if_neg c36])
set_option maxHeartbeats 1000000 in
theorem sp_M_now {κ : Kx} {Q : Option Value → (Heap → Prop) → Prop} {m : Mem} {D : Int} (hS : okM D (m 10 0)) (hD : D ≤ 100000) {x : Int} (hx : R32 x) (kb : ¬ (0 ≤ x ∧ x ≤ 3) → Q (some (vi (-2))) (World κ (bmM m 0))) (k : 0 ≤ x ∧ x ≤ 3 → Q (some (vi (nowS (shM (m 10 0)) x))) (World κ m)) : GG κ G_M_now 2 0 0 [.ref (ad κ 10 0), vi x] (World κ m) Q := by
  obtain ⟨s0, s1, s2, s3, s4, s5, hfg, hkd, hsh, hgl⟩ := id hS
  refine GG.intro (ls := [some _, some _]) (Nat.le_of_ble_eq_true rfl) rfl (fun μ F => ?_)
  refine g_iload_n F a_M_now_0 rfl ?_
  refine g_iconst F a_M_now_1 ?_
  refine g_iconst F a_M_now_2 ?_
  refine g_s3 F a_M_now_3 sc_M_91 mk_M_in rfl (by decide) ⟨Nat.le_refl _, Nat.le_refl _⟩ rfl (Nat.le_of_ble_eq_true rfl) (sp_M_in (by omega) (by omega) (by omega) (fun c3 => GCr.v ?_) (fun c3 => GCr.v ?_))
  · refine g_ifeq1 F a_M_now_6 ?_
    refine g_aload_n F a_M_now_9 rfl ?_
    refine g_iload_n F a_M_now_10 rfl ?_
    refine g_v1 F a_M_now_11 vc_M_242 mk_M_nowOf ob_10 ck_10.1 rfl rfl (by decide) ⟨Nat.le_refl _, Nat.le_refl _⟩ rfl (Nat.le_of_ble_eq_true rfl) (sp_M_nowOf hS hD (by omega) (GCr.v ?_))
    refine g_goto F a_M_now_14 ?_
    refine g_iret F a_M_now_21 rfl ⟨Nat.le_refl _, Nat.le_refl _⟩ ?_
    first | exact kb (by omega) | exact k (by omega)
  · refine g_ifeq0 F a_M_now_6 ?_
    refine g_aload_n F a_M_now_17 rfl ?_
    refine g_v0 F a_M_now_18 vc_M_95 mk_M_bad ob_10 ck_10.1 rfl rfl (by decide) ⟨Nat.le_refl _, Nat.le_refl _⟩ rfl (Nat.le_of_ble_eq_true rfl) (sp_M_bad  (GCr.v ?_))
    refine g_iret F a_M_now_21 rfl ⟨Nat.le_refl _, Nat.le_refl _⟩ ?_
    first | exact kb (by omega) | exact k (by omega)
set_option maxHeartbeats 1000000 in
theorem sp_M_of {κ : Kx} {Q : Option Value → (Heap → Prop) → Prop} {m : Mem} {D : Int} (hS : okM D (m 10 0)) (hD : D ≤ 100000) {x y : Int} (hx : R32 x) (hy : R32 y) (kb : ¬ (0 ≤ x ∧ x < (m 10 0).1 1 ∧ 0 ≤ y ∧ y ≤ 1) → Q (some (vi (-2))) (World κ (bmM m 0))) (k : 0 ≤ x ∧ x < (m 10 0).1 1 → 0 ≤ y ∧ y ≤ 1 → Q (some (vi (if y = 0 then (m 10 0).2 1 x else (m 10 0).2 2 x))) (World κ m)) : GG κ G_M_of 2 0 0 [.ref (ad κ 10 0), vi x, vi y] (World κ m) Q := by
  obtain ⟨s0, s1, s2, s3, s4, s5, hfg, hkd, hsh, hgl⟩ := id hS
  refine GG.intro (ls := [some _, some _, some _]) (Nat.le_of_ble_eq_true rfl) rfl (fun μ F => ?_)
  refine g_aload_n F a_M_of_0 rfl ?_
  refine g_iload_n F a_M_of_1 rfl ?_
  refine g_v1 F a_M_of_2 vc_M_236 mk_M_isMan ob_10 ck_10.1 rfl rfl (by decide) ⟨Nat.le_refl _, Nat.le_refl _⟩ rfl (Nat.le_of_ble_eq_true rfl) (sp_M_isMan hS hD (by omega) (fun c2 => GCr.v ?_) (fun c2 => GCr.v ?_))
  · refine g_ifeq1 F a_M_of_5 ?_
    refine g_iload_n F a_M_of_8 rfl ?_
    refine g_iconst F a_M_of_9 ?_
    refine g_iconst F a_M_of_10 ?_
    refine g_s3 F a_M_of_11 sc_M_91 mk_M_in rfl (by decide) ⟨Nat.le_refl _, Nat.le_refl _⟩ rfl (Nat.le_of_ble_eq_true rfl) (sp_M_in (by omega) (by omega) (by omega) (fun c11 => GCr.v ?_) (fun c11 => GCr.v ?_))
    · refine g_ifne1 F a_M_of_14 ?_
      refine g_iload_n F a_M_of_22 rfl ?_
      refine g_if_ne F (by omega) a_M_of_23 (fun h23 => ?_) (fun h23 => ?_)
      · refine g_aload_n F a_M_of_35 rfl ?_
        refine g_get_10_11 F a_M_of_36 fl_M_16 ?_
        refine g_iload_n F a_M_of_39 rfl ?_
        refine g_ild_10_2 F a_M_of_40 (by omega) ?_
        refine g_iret F a_M_of_41 rfl ⟨Nat.le_refl _, Nat.le_refl _⟩ ?_
        first | exact kb (by omega) | exact qv (k (by omega) (by omega)) (by first | rw [if_pos (by omega)] | rw [if_neg (by omega)])
      · refine g_aload_n F a_M_of_26 rfl ?_
        refine g_get_10_10 F a_M_of_27 fl_M_13 ?_
        refine g_iload_n F a_M_of_30 rfl ?_
        refine g_ild_10_1 F a_M_of_31 (by omega) ?_
        refine g_goto F a_M_of_32 ?_
        refine g_iret F a_M_of_41 rfl ⟨Nat.le_refl _, Nat.le_refl _⟩ ?_
        first | exact kb (by omega) | exact qv (k (by omega) (by omega)) (by first | rw [if_pos (by omega)] | rw [if_neg (by omega)])
    · refine g_ifne0 F a_M_of_14 ?_
      refine g_aload_n F a_M_of_17 rfl ?_
      refine g_v0 F a_M_of_18 vc_M_95 mk_M_bad ob_10 ck_10.1 rfl rfl (by decide) ⟨Nat.le_refl _, Nat.le_refl _⟩ rfl (Nat.le_of_ble_eq_true rfl) (sp_M_bad  (GCr.v ?_))
      refine g_iret F a_M_of_21 rfl ⟨Nat.le_refl _, Nat.le_refl _⟩ ?_
      first | exact kb (by omega) | exact qv (k (by omega) (by omega)) (by first | rw [if_pos (by omega)] | rw [if_neg (by omega)])
  · refine g_ifeq0 F a_M_of_5 ?_
    refine g_aload_n F a_M_of_17 rfl ?_
    refine g_v0 F a_M_of_18 vc_M_95 mk_M_bad ob_10 ck_10.1 rfl rfl (by decide) ⟨Nat.le_refl _, Nat.le_refl _⟩ rfl (Nat.le_of_ble_eq_true rfl) (sp_M_bad  (GCr.v ?_))
    refine g_iret F a_M_of_21 rfl ⟨Nat.le_refl _, Nat.le_refl _⟩ ?_
    first | exact kb (by omega) | exact qv (k (by omega) (by omega)) (by first | rw [if_pos (by omega)] | rw [if_neg (by omega)])
set_option maxHeartbeats 1000000 in
theorem sp_M_angle {κ : Kx} {Q : Option Value → (Heap → Prop) → Prop} {m : Mem} {D : Int} (hS : okM D (m 10 0)) (hD : D ≤ 100000) {x : Int} (hx : R32 x) (kb : ¬ (0 ≤ x ∧ x < (m 10 0).1 1) → Q (some (vi (-2))) (World κ (bmM m 0))) (k : 0 ≤ x ∧ x < (m 10 0).1 1 → Q (some (vi (ang (shM (m 10 0)) x))) (World κ m)) : GG κ G_M_angle 3 0 0 [.ref (ad κ 10 0), vi x] (World κ m) Q := by
  obtain ⟨s0, s1, s2, s3, s4, s5, hfg, hkd, hsh, hgl⟩ := id hS
  refine GG.intro (ls := [some _, some _]) (Nat.le_of_ble_eq_true rfl) rfl (fun μ F => ?_)
  refine g_aload_n F a_M_angle_0 rfl ?_
  refine g_iload_n F a_M_angle_1 rfl ?_
  refine g_v1 F a_M_angle_2 vc_M_236 mk_M_isMan ob_10 ck_10.1 rfl rfl (by decide) ⟨Nat.le_refl _, Nat.le_refl _⟩ rfl (Nat.le_of_ble_eq_true rfl) (sp_M_isMan hS hD (by omega) (fun c2 => GCr.v ?_) (fun c2 => GCr.v ?_))
  · refine g_ifeq1 F a_M_angle_5 ?_
    refine g_aload_n F a_M_angle_8 rfl ?_
    refine g_iload_n F a_M_angle_9 rfl ?_
    refine g_v1 F a_M_angle_10 vc_M_200 mk_M_angleOf ob_10 ck_10.1 rfl rfl (by decide) ⟨Nat.le_refl _, Nat.le_refl _⟩ rfl (Nat.le_of_ble_eq_true rfl) (sp_M_angleOf hS hD (by omega) (GCr.v ?_))
    refine g_goto F a_M_angle_13 ?_
    refine g_iret F a_M_angle_20 rfl ⟨Nat.le_refl _, Nat.le_refl _⟩ ?_
    first | exact kb (by omega) | exact k (by omega)
  · refine g_ifeq0 F a_M_angle_5 ?_
    refine g_aload_n F a_M_angle_16 rfl ?_
    refine g_v0 F a_M_angle_17 vc_M_95 mk_M_bad ob_10 ck_10.1 rfl rfl (by decide) ⟨Nat.le_refl _, Nat.le_refl _⟩ rfl (Nat.le_of_ble_eq_true rfl) (sp_M_bad  (GCr.v ?_))
    refine g_iret F a_M_angle_20 rfl ⟨Nat.le_refl _, Nat.le_refl _⟩ ?_
    first | exact kb (by omega) | exact k (by omega)
set_option maxHeartbeats 1000000 in
theorem sp_M_reads {κ : Kx} {Q : Option Value → (Heap → Prop) → Prop} {m : Mem} {D : Int} (hS : okM D (m 10 0)) (hD : D ≤ 100000) {x y : Int} (hx : R32 x) (hy : R32 y) (kb : ¬ (0 ≤ x ∧ x < (m 10 0).1 1 ∧ 0 ≤ y ∧ y < (m 10 0).1 2) → Q (some (vi (-2))) (World κ (bmM m 0))) (k : 0 ≤ x ∧ x < (m 10 0).1 1 → 0 ≤ y ∧ y < (m 10 0).1 2 → Q (some (vi (sgt (shM (m 10 0)) x y))) (World κ m)) : GG κ G_M_reads 4 0 0 [.ref (ad κ 10 0), vi x, vi y] (World κ m) Q := by
  obtain ⟨s0, s1, s2, s3, s4, s5, hfg, hkd, hsh, hgl⟩ := id hS
  refine GG.intro (ls := [some _, some _, some _]) (Nat.le_of_ble_eq_true rfl) rfl (fun μ F => ?_)
  refine g_aload_n F a_M_reads_0 rfl ?_
  refine g_iload_n F a_M_reads_1 rfl ?_
  refine g_v1 F a_M_reads_2 vc_M_236 mk_M_isMan ob_10 ck_10.1 rfl rfl (by decide) ⟨Nat.le_refl _, Nat.le_refl _⟩ rfl (Nat.le_of_ble_eq_true rfl) (sp_M_isMan hS hD (by omega) (fun c2 => GCr.v ?_) (fun c2 => GCr.v ?_))
  · refine g_ifeq1 F a_M_reads_5 ?_
    refine g_aload_n F a_M_reads_8 rfl ?_
    refine g_iload_n F a_M_reads_9 rfl ?_
    refine g_v1 F a_M_reads_10 vc_M_227 mk_M_isReader ob_10 ck_10.1 rfl rfl (by decide) ⟨Nat.le_refl _, Nat.le_refl _⟩ rfl (Nat.le_of_ble_eq_true rfl) (sp_M_isReader hS hD (by omega) (fun c10 => GCr.v ?_) (fun c10 => GCr.v ?_))
    · refine g_ifeq1 F a_M_reads_13 ?_
      refine g_aload_n F a_M_reads_16 rfl ?_
      refine g_iload_n F a_M_reads_17 rfl ?_
      refine g_iload_n F a_M_reads_18 rfl ?_
      refine g_v2 F a_M_reads_19 vc_M_209 mk_M_readOf ob_10 ck_10.1 rfl rfl (by decide) ⟨Nat.le_refl _, Nat.le_refl _⟩ rfl (Nat.le_of_ble_eq_true rfl) (sp_M_readOf hS hD (by omega) (by omega) (GCr.v ?_))
      refine g_goto F a_M_reads_22 ?_
      refine g_iret F a_M_reads_29 rfl ⟨Nat.le_refl _, Nat.le_refl _⟩ ?_
      first | exact kb (by omega) | exact k (by omega) (by omega)
    · refine g_ifeq0 F a_M_reads_13 ?_
      refine g_aload_n F a_M_reads_25 rfl ?_
      refine g_v0 F a_M_reads_26 vc_M_95 mk_M_bad ob_10 ck_10.1 rfl rfl (by decide) ⟨Nat.le_refl _, Nat.le_refl _⟩ rfl (Nat.le_of_ble_eq_true rfl) (sp_M_bad  (GCr.v ?_))
      refine g_iret F a_M_reads_29 rfl ⟨Nat.le_refl _, Nat.le_refl _⟩ ?_
      first | exact kb (by omega) | exact k (by omega) (by omega)
  · refine g_ifeq0 F a_M_reads_5 ?_
    refine g_aload_n F a_M_reads_25 rfl ?_
    refine g_v0 F a_M_reads_26 vc_M_95 mk_M_bad ob_10 ck_10.1 rfl rfl (by decide) ⟨Nat.le_refl _, Nat.le_refl _⟩ rfl (Nat.le_of_ble_eq_true rfl) (sp_M_bad  (GCr.v ?_))
    refine g_iret F a_M_reads_29 rfl ⟨Nat.le_refl _, Nat.le_refl _⟩ ?_
    first | exact kb (by omega) | exact k (by omega) (by omega)
set_option maxHeartbeats 1000000 in
theorem sp_M_thousand {κ : Kx} {Q : Option Value → (Heap → Prop) → Prop} {m : Mem} (k : Q (some (vi (-1000))) (World κ (bmM m 0))) : GG κ G_M_thousand 1 0 0 [.ref (ad κ 10 0)] (World κ m) Q := by
  refine GG.intro (ls := [some _]) (Nat.le_of_ble_eq_true rfl) rfl (fun μ F => ?_)
  refine g_aload_n F a_M_thousand_0 rfl ?_
  refine g_v0 F a_M_thousand_1 vc_M_95 mk_M_bad ob_10 ck_10.1 rfl rfl (by decide) ⟨Nat.le_refl _, Nat.le_refl _⟩ rfl (Nat.le_of_ble_eq_true rfl) (sp_M_bad  (GCr.v ?_))
  refine g_pop F a_M_thousand_4 rfl ?_
  refine g_sipush F a_M_thousand_5 (by decide) ?_
  refine g_iret F a_M_thousand_8 rfl ⟨Nat.le_refl _, Nat.le_refl _⟩ ?_
  exact k
set_option maxHeartbeats 1000000 in
theorem sp_M_error {κ : Kx} {Q : Option Value → (Heap → Prop) → Prop} {m : Mem} {D : Int} (hS : okM D (m 10 0)) (hD : D ≤ 100000) {x y : Int} (hx : R32 x) (hy : R32 y) (kb : ¬ ((0 ≤ x ∧ x < 2 ^ ((m 10 0).1 1).toNat) ∧ 0 ≤ y ∧ y < (m 10 0).1 2) → Q (some (vi (-1000))) (World κ (bmM m 0))) (k : (0 ≤ x ∧ x < 2 ^ ((m 10 0).1 1).toNat) → 0 ≤ y ∧ y < (m 10 0).1 2 → Q (some (vi (errS (shM (m 10 0)) x y))) (World κ m)) : GG κ G_M_error 5 0 0 [.ref (ad κ 10 0), vi x, vi y] (World κ m) Q := by
  obtain ⟨s0, s1, s2, s3, s4, s5, hfg, hkd, hsh, hgl⟩ := id hS
  have hset6 : (0 ≤ x ∧ x < 2 ^ ((m 10 0).1 1).toNat) → 0 ≤ x ∧ x < 64 := fun h => by have := p64 (n := ((m 10 0).1 1).toNat) (by omega); omega
  refine GG.intro (ls := [some _, some _, some _]) (Nat.le_of_ble_eq_true rfl) rfl (fun μ F => ?_)
  refine g_aload_n F a_M_error_0 rfl ?_
  refine g_iload_n F a_M_error_1 rfl ?_
  refine g_v1 F a_M_error_2 vc_M_224 mk_M_areMen ob_10 ck_10.1 rfl rfl (by decide) ⟨Nat.le_refl _, Nat.le_refl _⟩ rfl (Nat.le_of_ble_eq_true rfl) (sp_M_areMen hS hD (by omega) (fun c2 => GCr.v ?_) (fun c2 => GCr.v ?_))
  · refine g_ifeq1 F a_M_error_5 ?_
    refine g_aload_n F a_M_error_8 rfl ?_
    refine g_iload_n F a_M_error_9 rfl ?_
    refine g_v1 F a_M_error_10 vc_M_227 mk_M_isReader ob_10 ck_10.1 rfl rfl (by decide) ⟨Nat.le_refl _, Nat.le_refl _⟩ rfl (Nat.le_of_ble_eq_true rfl) (sp_M_isReader hS hD (by omega) (fun c10 => GCr.v ?_) (fun c10 => GCr.v ?_))
    · refine g_ifeq1 F a_M_error_13 ?_
      refine g_aload_n F a_M_error_16 rfl ?_
      refine g_iload_n F a_M_error_17 rfl ?_
      refine g_iload_n F a_M_error_18 rfl ?_
      refine g_v2 F a_M_error_19 vc_M_215 mk_M_errorOf ob_10 ck_10.1 rfl rfl (by decide) ⟨Nat.le_refl _, Nat.le_refl _⟩ rfl (Nat.le_of_ble_eq_true rfl) (sp_M_errorOf hS hD (hset6 (by assumption)) (by omega) (GCr.v ?_))
      refine g_goto F a_M_error_22 ?_
      refine g_iret F a_M_error_29 rfl ⟨Nat.le_refl _, Nat.le_refl _⟩ ?_
      first | exact kb (fun q => absurd q.1 (by assumption)) | exact kb (fun q => absurd q.2 (by assumption)) | exact k (by assumption) (by assumption)
    · refine g_ifeq0 F a_M_error_13 ?_
      refine g_aload_n F a_M_error_25 rfl ?_
      refine g_v0 F a_M_error_26 vc_M_245 mk_M_thousand ob_10 ck_10.1 rfl rfl (by decide) ⟨Nat.le_refl _, Nat.le_refl _⟩ rfl (Nat.le_of_ble_eq_true rfl) (sp_M_thousand  (GCr.v ?_))
      refine g_iret F a_M_error_29 rfl ⟨Nat.le_refl _, Nat.le_refl _⟩ ?_
      first | exact kb (fun q => absurd q.1 (by assumption)) | exact kb (fun q => absurd q.2 (by assumption)) | exact k (by assumption) (by assumption)
  · refine g_ifeq0 F a_M_error_5 ?_
    refine g_aload_n F a_M_error_25 rfl ?_
    refine g_v0 F a_M_error_26 vc_M_245 mk_M_thousand ob_10 ck_10.1 rfl rfl (by decide) ⟨Nat.le_refl _, Nat.le_refl _⟩ rfl (Nat.le_of_ble_eq_true rfl) (sp_M_thousand  (GCr.v ?_))
    refine g_iret F a_M_error_29 rfl ⟨Nat.le_refl _, Nat.le_refl _⟩ ?_
    first | exact kb (fun q => absurd q.1 (by assumption)) | exact kb (fun q => absurd q.2 (by assumption)) | exact k (by assumption) (by assumption)
set_option maxHeartbeats 1000000 in
theorem sp_M_off {κ : Kx} {Q : Option Value → (Heap → Prop) → Prop} {m : Mem} {D : Int} (hS : okM D (m 10 0)) (hD : D ≤ 100000) (k : Q (some (vi (offS (shM (m 10 0))))) (World κ m)) : GG κ G_M_off 2 0 0 [.ref (ad κ 10 0)] (World κ m) Q := by
  obtain ⟨s0, s1, s2, s3, s4, s5, hfg, hkd, hsh, hgl⟩ := id hS
  refine GG.intro (ls := [some _]) (Nat.le_of_ble_eq_true rfl) rfl (fun μ F => ?_)
  refine g_aload_n F a_M_off_0 rfl ?_
  refine g_v0 F a_M_off_1 vc_M_248 mk_M_offNow ob_10 ck_10.1 rfl rfl (by decide) ⟨Nat.le_refl _, Nat.le_refl _⟩ rfl (Nat.le_of_ble_eq_true rfl) (sp_M_offNow hS hD (GCr.v ?_))
  refine g_iret F a_M_off_4 rfl ⟨Nat.le_refl _, Nat.le_refl _⟩ ?_
  exact k
