/-- how two longs stand -/
def cmpL (a b : Int) : Int := if b < a then 1 else if a = b then 0 else -1
theorem l_lt {a b : Int} (ha : -9223372036854775808 ≤ a ∧ a ≤ 9223372036854775807) (hb : -9223372036854775808 ≤ b ∧ b ≤ 9223372036854775807) : Int64.ofInt a < Int64.ofInt b ↔ a < b := by
  rw [Int64.lt_iff_toInt_lt, l2r ha, l2r hb]
theorem l_eq {a b : Int} (ha : -9223372036854775808 ≤ a ∧ a ≤ 9223372036854775807) (hb : -9223372036854775808 ≤ b ∧ b ≤ 9223372036854775807) : Int64.ofInt a = Int64.ofInt b ↔ a = b := by
  rw [← Int64.toInt_inj, l2r ha, l2r hb]
theorem cmpL_r (a b : Int) : -1 ≤ cmpL a b ∧ cmpL a b ≤ 1 := by
  unfold cmpL
  repeat' split
  all_goals omega
theorem cmpL_0 {a b : Int} : cmpL a b = 0 ↔ a = b := by
  unfold cmpL
  repeat' split
  all_goals omega
theorem g_lcmp {κ : Kx} {Γ : Gm} {d mc ms : Nat} {μ : MX} {Z : State → Prop} {kc ks pc nx : Nat} {ls : List (Option Value)} {st : List Value} {P : Heap → Prop} {a b : Int} (F : Fx κ Γ d mc ms μ) (ha : -9223372036854775808 ≤ a ∧ a ≤ 9223372036854775807) (hb : -9223372036854775808 ≤ b ∧ b ≤ 9223372036854775807) (hd : AT 1 Γ.2.1 pc .lcmp nx) (k : GC κ μ Z kc ks nx ls (vi (cmpL a b) :: st) P) : GC κ μ Z kc ks pc ls (vl b :: vl a :: st) P := by
  obtain ⟨hd, rfl⟩ := hd
  intro H locs la hS hP hl
  have e : lg_cmp (Int64.ofInt a) (Int64.ofInt b) = Int32.ofInt (cmpL a b) := by
    unfold lg_cmp cmpL
    have h1 := l_lt hb ha
    have h2 := l_eq ha hb
    by_cases q : b < a
    · simp [h1.mpr q, q]
    · have q1 : ¬ Int64.ofInt b < Int64.ofInt a := fun z => q (h1.mp z)
      by_cases q2 : a = b
      · simp [q2]
      · have q3 : ¬ Int64.ofInt a = Int64.ofInt b := fun z => q2 (h2.mp z)
        simp only [q, q1, q2, q3, if_false]
        rfl
  refine W.lcmp F.1 F.2.1 hd ?_
  rw [e]
  exact k H locs la hS hP hl
theorem g_lcmp0 {κ : Kx} {Γ : Gm} {d mc ms : Nat} {μ : MX} {Z : State → Prop} {kc ks pc nx : Nat} {ls : List (Option Value)} {st : List Value} {P : Heap → Prop} {z : Int64} (F : Fx κ Γ d mc ms μ) (hd : AT 1 Γ.2.1 pc .lcmp nx) (k : GC κ μ Z kc ks nx ls (vi 0 :: st) P) : GC κ μ Z kc ks pc ls (.long z :: .long z :: st) P := by
  obtain ⟨hd, rfl⟩ := hd
  intro H locs la hS hP hl
  have e : lg_cmp z z = Int32.ofInt 0 := by simp [lg_cmp]
  refine W.lcmp F.1 F.2.1 hd ?_
  rw [e]
  exact k H locs la hS hP hl
def okR (S : Rc) : Prop := (0 ≤ S.1 0 ∧ S.1 0 ≤ 6) ∧ (S.1 1 = 3 ∨ S.1 1 = 4) ∧ ∀ k : Int, 0 ≤ k ∧ k < 24 → 0 ≤ S.2 0 k ∧ S.2 0 k ≤ 99
def addR (S : Rc) (a b c e : Int) : Rc := (fup S.1 0 (S.1 0 + 1), aup S.2 0 (gup (gup (gup (gup (S.2 0) (S.1 0 * 4) a) (S.1 0 * 4 + 1) b) (S.1 0 * 4 + 2) c) (S.1 0 * 4 + 3) e))
def rwN (S : Rc) (h : Int) (row : Int) : Nat → Int
  | 0 => h
  | n + 1 => 31 * rwN S h row n + S.2 0 (row * 4 + n)
def rdN (S : Rc) (h : Int) : Nat → Int
  | 0 => h
  | n + 1 => rwN S (rdN S h n) n (S.1 1).toNat
theorem Ag3 {R R' : Rc} (h0 : R.1 0 = R'.1 0) (h1 : R.1 1 = R'.1 1) (a0 : ∀ x : Int, 0 ≤ x ∧ x < 24 → R.2 0 x = R'.2 0 x) : Ag 3 R R' := by
  refine ⟨fun k hk => ?_, fun j hj x x0 x1 => ?_⟩
  · have hk : k < 2 := hk
    match k, hk with
    | 0, _ => exact h0
    | 1, _ => exact h1
  · have hj : j < 1 := hj
    match j, hj, x1 with
    | 0, _, x1 => exact a0 x ⟨x0, x1⟩
theorem Ag4 {R R' : Rc} (h0 : R.1 0 = R'.1 0) (a0 : ∀ x : Int, 0 ≤ x ∧ x < 72 → R.2 0 x = R'.2 0 x) : Ag 4 R R' := by
  refine ⟨fun k hk => ?_, fun j hj x x0 x1 => ?_⟩
  · have hk : k < 1 := hk
    match k, hk with
    | 0, _ => exact h0
  · have hj : j < 1 := hj
    match j, hj, x1 with
    | 0, _, x1 => exact a0 x ⟨x0, x1⟩
set_option maxHeartbeats 1000000 in
theorem sp_R_isFull {κ : Kx} {Q : Option Value → (Heap → Prop) → Prop} {i : Nat} {m : Mem} (hi : i < 9) (hR : okR (m 3 i)) (k1 : 6 ≤ (m 3 i).1 0 → Q (some (vi 1)) (World κ m)) (k0 : (m 3 i).1 0 < 6 → Q (some (vi 0)) (World κ m)) : GG κ G_R_isFull 0 0 0 [.ref (ad κ 3 i)] (World κ m) Q := by
  obtain ⟨hsz, hwd, hce⟩ := id hR
  refine GG.intro (ls := [some _]) (Nat.le_of_ble_eq_true rfl) rfl (fun μ F => ?_)
  refine g_aload_n F a_R_isFull_0 rfl ?_
  refine g_get_3_0 F a_R_isFull_1 fl_R_19 (by first | assumption | decide | omega) ?_
  refine g_bipush F a_R_isFull_4 (by decide) ?_
  refine g_icmp_lt F (by omega) (by omega) a_R_isFull_6 (fun h6 => ?_) (fun h6 => ?_)
  · refine g_iconst F a_R_isFull_13 ?_
    refine g_zret F a_R_isFull_14 rfl rfl ⟨Nat.le_refl _, Nat.le_refl _⟩ ?_
    first | exact k1 (by omega) | exact k0 (by omega)
  · refine g_iconst F a_R_isFull_9 ?_
    refine g_goto F a_R_isFull_10 ?_
    refine g_zret F a_R_isFull_14 rfl rfl ⟨Nat.le_refl _, Nat.le_refl _⟩ ?_
    first | exact k1 (by omega) | exact k0 (by omega)
set_option maxHeartbeats 1000000 in
theorem sp_R_add {κ : Kx} {Q : Option Value → (Heap → Prop) → Prop} {i : Nat} {m : Mem} (hi : i < 9) (hR : okR (m 3 i)) {a b c e : Int} (hlt : (m 3 i).1 0 < 6) (k : Q (some (vi ((m 3 i).1 0 + 1))) (World κ (mset m 3 i (addR (m 3 i) a b c e)))) : GG κ G_R_add 1 0 0 [.ref (ad κ 3 i), vi a, vi b, vi c, vi e] (World κ m) Q := by
  obtain ⟨hsz, hwd, hce⟩ := id hR
  refine GG.intro (ls := [some _, some _, some _, some _, some _, none]) (Nat.le_of_ble_eq_true rfl) rfl (fun μ F => ?_)
  refine g_aload_n F a_R_add_0 rfl ?_
  refine g_v0 F a_R_add_1 vc_R_22 mk_R_isFull (ob_3 (by first | assumption | decide | omega)) ck_3.1 rfl rfl (by decide) ⟨Nat.le_refl _, Nat.le_refl _⟩ rfl (Nat.le_of_ble_eq_true rfl) (sp_R_isFull hi hR (fun c1 => GCr.v ?_) (fun c1 => GCr.v ?_))
  · refine g_ifeq1 F a_R_add_4 ?_
    refine g_bipush F a_R_add_7 (by decide) ?_
    refine g_iret F a_R_add_9 rfl ⟨Nat.le_refl _, Nat.le_refl _⟩ ?_
    first | (exfalso; omega) | exact k
  · refine g_ifeq0 F a_R_add_4 ?_
    refine g_aload_n F a_R_add_10 rfl ?_
    refine g_get_3_0 F a_R_add_11 fl_R_19 (by first | assumption | decide | omega) ?_
    refine g_iconst F a_R_add_14 ?_
    refine g_imul F a_R_add_15 ?_
    refine g_istore (ls' := [_, _, _, _, _, _]) F a_R_add_16 rfl rfl rfl ?_
    refine g_aload_n F a_R_add_18 rfl ?_
    refine g_get_3_2 F a_R_add_19 fl_R_11 (by first | assumption | decide | omega) ?_
    refine g_iload F a_R_add_22 rfl ?_
    refine g_iload_n F a_R_add_24 rfl ?_
    refine g_ist_3_0 F a_R_add_25 (by first | assumption | decide | omega) (by omega) ?_
    (try simp only [mset_app, mset_mset, fup_app, aup_app, fup_fup, aup_aup, false_and, and_false, true_and, and_true, and_self, reduceIte, Nat.reduceEqDiff, reduceCtorEq])
    refine g_aload_n F a_R_add_26 rfl ?_
    refine g_get_3_2 F a_R_add_27 fl_R_11 (by first | assumption | decide | omega) ?_
    (try simp only [mset_app, mset_mset, fup_app, aup_app, fup_fup, aup_aup, false_and, and_false, true_and, and_true, and_self, reduceIte, Nat.reduceEqDiff, reduceCtorEq])
    refine g_iload F a_R_add_30 rfl ?_
    refine g_iconst F a_R_add_32 ?_
    refine g_iadd F a_R_add_33 ?_
    refine g_iload_n F a_R_add_34 rfl ?_
    refine g_ist_3_0 F a_R_add_35 (by first | assumption | decide | omega) (by omega) ?_
    (try simp only [mset_app, mset_mset, fup_app, aup_app, fup_fup, aup_aup, false_and, and_false, true_and, and_true, and_self, reduceIte, Nat.reduceEqDiff, reduceCtorEq])
    refine g_aload_n F a_R_add_36 rfl ?_
    refine g_get_3_2 F a_R_add_37 fl_R_11 (by first | assumption | decide | omega) ?_
    (try simp only [mset_app, mset_mset, fup_app, aup_app, fup_fup, aup_aup, false_and, and_false, true_and, and_true, and_self, reduceIte, Nat.reduceEqDiff, reduceCtorEq])
    refine g_iload F a_R_add_40 rfl ?_
    refine g_iconst F a_R_add_42 ?_
    refine g_iadd F a_R_add_43 ?_
    refine g_iload_n F a_R_add_44 rfl ?_
    refine g_ist_3_0 F a_R_add_45 (by first | assumption | decide | omega) (by omega) ?_
    (try simp only [mset_app, mset_mset, fup_app, aup_app, fup_fup, aup_aup, false_and, and_false, true_and, and_true, and_self, reduceIte, Nat.reduceEqDiff, reduceCtorEq])
    refine g_aload_n F a_R_add_46 rfl ?_
    refine g_get_3_2 F a_R_add_47 fl_R_11 (by first | assumption | decide | omega) ?_
    (try simp only [mset_app, mset_mset, fup_app, aup_app, fup_fup, aup_aup, false_and, and_false, true_and, and_true, and_self, reduceIte, Nat.reduceEqDiff, reduceCtorEq])
    refine g_iload F a_R_add_50 rfl ?_
    refine g_iconst F a_R_add_52 ?_
    refine g_iadd F a_R_add_53 ?_
    refine g_iload F a_R_add_54 rfl ?_
    refine g_ist_3_0 F a_R_add_56 (by first | assumption | decide | omega) (by omega) ?_
    (try simp only [mset_app, mset_mset, fup_app, aup_app, fup_fup, aup_aup, false_and, and_false, true_and, and_true, and_self, reduceIte, Nat.reduceEqDiff, reduceCtorEq])
    refine g_aload_n F a_R_add_57 rfl ?_
    refine g_dup F a_R_add_58 rfl ?_
    refine g_get_3_0 F a_R_add_59 fl_R_19 (by first | assumption | decide | omega) ?_
    (try simp only [mset_app, mset_mset, fup_app, aup_app, fup_fup, aup_aup, false_and, and_false, true_and, and_true, and_self, reduceIte, Nat.reduceEqDiff, reduceCtorEq])
    refine g_iconst F a_R_add_62 ?_
    refine g_iadd F a_R_add_63 ?_
    refine g_put_3_0 F a_R_add_64 fl_R_19 (by first | assumption | decide | omega) ?_
    (try simp only [mset_app, mset_mset, fup_app, aup_app, fup_fup, aup_aup, false_and, and_false, true_and, and_true, and_self, reduceIte, Nat.reduceEqDiff, reduceCtorEq])
    refine g_aload_n F a_R_add_67 rfl ?_
    refine g_get_3_0 F a_R_add_68 fl_R_19 (by first | assumption | decide | omega) ?_
    (try simp only [mset_app, mset_mset, fup_app, aup_app, fup_fup, aup_aup, false_and, and_false, true_and, and_true, and_self, reduceIte, Nat.reduceEqDiff, reduceCtorEq])
    refine g_iret F a_R_add_71 rfl ⟨Nat.le_refl _, Nat.le_refl _⟩ ?_
    first | (exfalso; omega) | exact k
set_option maxHeartbeats 1000000 in
theorem sp_R_cell {κ : Kx} {Q : Option Value → (Heap → Prop) → Prop} {i : Nat} {m : Mem} (hi : i < 9) (hR : okR (m 3 i)) {a b : Int} (ha : 0 ≤ a ∧ a < (m 3 i).1 0) (hb : 0 ≤ b ∧ b < 4) (k : Q (some (vi ((m 3 i).2 0 (a * 4 + b)))) (World κ m)) : GG κ G_R_cell 0 0 0 [.ref (ad κ 3 i), vi a, vi b] (World κ m) Q := by
  obtain ⟨hsz, hwd, hce⟩ := id hR
  refine GG.intro (ls := [some _, some _, some _, none]) (Nat.le_of_ble_eq_true rfl) rfl (fun μ F => ?_)
  refine g_iload_n F a_R_cell_0 rfl ?_
  refine g_if_lt F (by omega) a_R_cell_1 (fun h1 => ?_) (fun h1 => ?_)
  · refine g_iconst F a_R_cell_25 ?_
    refine g_istore_n (ls' := [_, _, _, _]) F a_R_cell_26 rfl rfl rfl ?_
    refine g_iload_n F a_R_cell_27 rfl ?_
    refine g_ifeq0 F a_R_cell_28 ?_
    refine g_iconst F a_R_cell_44 ?_
    refine g_iret F a_R_cell_45 rfl ⟨Nat.le_refl _, Nat.le_refl _⟩ ?_
    first | exact k | (exfalso; omega)
  · refine g_iload_n F a_R_cell_4 rfl ?_
    refine g_aload_n F a_R_cell_5 rfl ?_
    refine g_get_3_0 F a_R_cell_6 fl_R_19 (by first | assumption | decide | omega) ?_
    refine g_icmp_ge F (by omega) (by omega) a_R_cell_9 (fun h9 => ?_) (fun h9 => ?_)
    · refine g_iconst F a_R_cell_25 ?_
      refine g_istore_n (ls' := [_, _, _, _]) F a_R_cell_26 rfl rfl rfl ?_
      refine g_iload_n F a_R_cell_27 rfl ?_
      refine g_ifeq0 F a_R_cell_28 ?_
      refine g_iconst F a_R_cell_44 ?_
      refine g_iret F a_R_cell_45 rfl ⟨Nat.le_refl _, Nat.le_refl _⟩ ?_
      first | exact k | (exfalso; omega)
    · refine g_iload_n F a_R_cell_12 rfl ?_
      refine g_if_lt F (by omega) a_R_cell_13 (fun h13 => ?_) (fun h13 => ?_)
      · refine g_iconst F a_R_cell_25 ?_
        refine g_istore_n (ls' := [_, _, _, _]) F a_R_cell_26 rfl rfl rfl ?_
        refine g_iload_n F a_R_cell_27 rfl ?_
        refine g_ifeq0 F a_R_cell_28 ?_
        refine g_iconst F a_R_cell_44 ?_
        refine g_iret F a_R_cell_45 rfl ⟨Nat.le_refl _, Nat.le_refl _⟩ ?_
        first | exact k | (exfalso; omega)
      · refine g_iload_n F a_R_cell_16 rfl ?_
        refine g_iconst F a_R_cell_17 ?_
        refine g_icmp_ge F (by omega) (by omega) a_R_cell_18 (fun h18 => ?_) (fun h18 => ?_)
        · refine g_iconst F a_R_cell_25 ?_
          refine g_istore_n (ls' := [_, _, _, _]) F a_R_cell_26 rfl rfl rfl ?_
          refine g_iload_n F a_R_cell_27 rfl ?_
          refine g_ifeq0 F a_R_cell_28 ?_
          refine g_iconst F a_R_cell_44 ?_
          refine g_iret F a_R_cell_45 rfl ⟨Nat.le_refl _, Nat.le_refl _⟩ ?_
          first | exact k | (exfalso; omega)
        · refine g_iconst F a_R_cell_21 ?_
          refine g_goto F a_R_cell_22 ?_
          refine g_istore_n (ls' := [_, _, _, _]) F a_R_cell_26 rfl rfl rfl ?_
          refine g_iload_n F a_R_cell_27 rfl ?_
          refine g_ifeq1 F a_R_cell_28 ?_
          refine g_aload_n F a_R_cell_31 rfl ?_
          refine g_get_3_2 F a_R_cell_32 fl_R_11 (by first | assumption | decide | omega) ?_
          refine g_iload_n F a_R_cell_35 rfl ?_
          refine g_iconst F a_R_cell_36 ?_
          refine g_imul F a_R_cell_37 ?_
          refine g_iload_n F a_R_cell_38 rfl ?_
          refine g_iadd F a_R_cell_39 ?_
          refine g_ild_3_0 F a_R_cell_40 (by first | assumption | decide | omega) (by omega) ?_
          refine g_goto F a_R_cell_41 ?_
          refine g_iret F a_R_cell_45 rfl ⟨Nat.le_refl _, Nat.le_refl _⟩ ?_
          first | exact k | (exfalso; omega)
set_option maxHeartbeats 1000000 in
theorem sp_R_empty {κ : Kx} {Q : Option Value → (Heap → Prop) → Prop} {i : Nat} {m : Mem} (hi : i < 9) (hR : okR (m 3 i)) (k : Q (some (vi ((m 3 i).1 0))) (World κ (mset m 3 i (fup (m 3 i).1 0 0, (m 3 i).2)))) : GG κ G_R_empty 0 0 0 [.ref (ad κ 3 i)] (World κ m) Q := by
  obtain ⟨hsz, hwd, hce⟩ := id hR
  refine GG.intro (ls := [some _, none]) (Nat.le_of_ble_eq_true rfl) rfl (fun μ F => ?_)
  refine g_aload_n F a_R_empty_0 rfl ?_
  refine g_get_3_0 F a_R_empty_1 fl_R_19 (by first | assumption | decide | omega) ?_
  refine g_istore_n (ls' := [_, _]) F a_R_empty_4 rfl rfl rfl ?_
  refine g_aload_n F a_R_empty_5 rfl ?_
  refine g_iconst F a_R_empty_6 ?_
  refine g_put_3_0 F a_R_empty_7 fl_R_19 (by first | assumption | decide | omega) ?_
  (try simp only [mset_app, mset_mset, fup_app, aup_app, fup_fup, aup_aup, false_and, and_false, true_and, and_true, and_self, reduceIte, Nat.reduceEqDiff, reduceCtorEq])
  refine g_iload_n F a_R_empty_10 rfl ?_
  refine g_iret F a_R_empty_11 rfl ⟨Nat.le_refl _, Nat.le_refl _⟩ ?_
  exact k
set_option maxHeartbeats 1000000 in
theorem sp_R_copy {κ : Kx} {Q : Option Value → (Heap → Prop) → Prop} {i j : Nat} {m : Mem} (hi : i < 9) (hj : j < 9) (hji : ¬ j = i) (k : Q none (World κ (mset m 3 i (fup (m 3 i).1 0 ((m 3 j).1 0), (m 3 j).2)))) : GG κ G_R_copy 1 0 0 [.ref (ad κ 3 i), .ref (ad κ 3 j)] (World κ m) Q := by
  refine GG.intro (ls := [some _, some _]) (Nat.le_of_ble_eq_true rfl) rfl (fun μ F => ?_)
  refine g_aload_n F a_R_copy_0 rfl ?_
  refine g_aload_n F a_R_copy_1 rfl ?_
  refine g_get_3_0 F a_R_copy_2 fl_R_19 (by first | assumption | decide | omega) ?_
  refine g_put_3_0 F a_R_copy_5 fl_R_19 (by first | assumption | decide | omega) ?_
  (try simp only [mset_app, mset_mset, fup_app, aup_app, fup_fup, aup_aup, false_and, and_false, true_and, and_true, and_self, reduceIte, Nat.reduceEqDiff, reduceCtorEq, hji])
  refine g_aload_n F a_R_copy_8 rfl ?_
  refine g_get_3_2 F a_R_copy_9 fl_R_11 (by first | assumption | decide | omega) ?_
  (try simp only [mset_app, mset_mset, fup_app, aup_app, fup_fup, aup_aup, false_and, and_false, true_and, and_true, and_self, reduceIte, Nat.reduceEqDiff, reduceCtorEq, hji])
  refine g_iconst F a_R_copy_12 ?_
  refine g_aload_n F a_R_copy_13 rfl ?_
  refine g_get_3_2 F a_R_copy_14 fl_R_11 (by first | assumption | decide | omega) ?_
  (try simp only [mset_app, mset_mset, fup_app, aup_app, fup_fup, aup_aup, false_and, and_false, true_and, and_true, and_self, reduceIte, Nat.reduceEqDiff, reduceCtorEq, hji])
  refine g_iconst F a_R_copy_17 ?_
  refine g_bipush F a_R_copy_18 (by decide) ?_
  refine g_copy F a_R_copy_20 sy_R_26 hj (by decide) (fun _ => rfl) hi (by decide) (fun _ => rfl) rfl (by decide) (Nat.le_of_ble_eq_true rfl) (by decide) (by decide) ?_
  (try simp only [mset_app, mset_mset, fup_app, aup_app, fup_fup, aup_aup, false_and, and_false, true_and, and_true, and_self, reduceIte, Nat.reduceEqDiff, reduceCtorEq, hji])
  refine g_ret F a_R_copy_23 rfl ⟨Nat.le_refl _, Nat.le_refl _⟩ ?_
  exact qs k (Ag3 rfl rfl (fun x hx => cpyI_0 _ _ hx))
set_option maxHeartbeats 2000000 in
theorem lp_R_dig2 {κ : Kx} {μ : MX} {Z : State → Prop} {i : Nat} {m : Mem} (hi : i < 9) (hR : okR (m 3 i)) {h r h1 : Int} (hr : 0 ≤ r ∧ r < (m 3 i).1 0) (k : GC κ μ Z 0 0 48 [some (.ref (ad κ 3 i)), some (vl h), none, some (vl (rwN (m 3 i) h1 r ((m 3 i).1 1).toNat)), none, some (vi r), none] [] (World κ m)) (F : Fx κ G_R_digestOn 1 0 0 μ) :
    ∀ (n : Nat) (j : Nat) (x e : Int), (m 3 i).1 1 < j + n → (j : Int) ≤ (m 3 i).1 1 → x = j → e = rwN (m 3 i) h1 r j →  GC κ μ Z 0 0 17 [some (.ref (ad κ 3 i)), some (vl h), none, some (vl e), none, some (vi r), some (vi x)] [] (World κ m) := by
  obtain ⟨hsz, hwd, hce⟩ := id hR
  intro n
  induction n with
  | zero =>
    intro j x e hn hj hx he
    exact absurd hn (by omega)
  | succ n ih =>
    intro j x e hn hj hx he
    have hg9 : x < 4 → R32 ((m 3 i).2 0 (r * 4 + x)) := fun _ => by have := hce (r * 4 + x) (by omega); omega
    refine g_iload F a_R_digestOn_17 rfl ?_
    refine g_aload_n F a_R_digestOn_19 rfl ?_
    refine g_get_3_1 F a_R_digestOn_20 fl_R_15 (by first | assumption | decide | omega) ?_
    refine g_icmp_ge F (by first | omega | exact hg9 (by omega)) (by first | omega | exact hg9 (by omega)) a_R_digestOn_23 (fun h23 => ?_) (fun h23 => ?_)
    · rw [← show j = ((m 3 i).1 1).toNat by omega, ← he] at k
      exact GC.loc2 k ⟨rfl, rfl, rfl, rfl, trivial⟩
    · refine g_ldc2 F a_R_digestOn_26 kl_R_32 ?_
      refine g_lload_n F a_R_digestOn_29 rfl ?_
      refine g_lmul F a_R_digestOn_30 ?_
      refine g_aload_n F a_R_digestOn_31 rfl ?_
      refine g_iload F a_R_digestOn_32 rfl ?_
      refine g_iload F a_R_digestOn_34 rfl ?_
      refine g_v2 F a_R_digestOn_36 vc_R_34 mk_R_cell (ob_3 (by first | assumption | decide | omega)) ck_3.1 rfl rfl (by decide) ⟨Nat.le_refl _, Nat.le_refl _⟩ rfl (Nat.le_of_ble_eq_true rfl) (sp_R_cell hi hR (by omega) (by omega) (GCr.v ?_))
      refine g_i2l F (by first | omega | exact hg9 (by omega)) a_R_digestOn_39 ?_
      refine g_ladd F a_R_digestOn_40 ?_
      refine g_lstore_n (ls' := [_, _, _, _, _, _, _]) F a_R_digestOn_41 rfl rfl rfl ?_
      refine g_iinc (ls' := [_, _, _, _, _, _, _]) F a_R_digestOn_42 rfl rfl rfl ?_
      refine g_goto F a_R_digestOn_45 ?_
      exact GC.loc2 (ih (j + 1) _ _ (by omega) (by omega) (by omega) (by rw [he, hx]; rfl)) ⟨rfl, rfl, rfl, rfl, rfl, trivial⟩
set_option maxHeartbeats 2000000 in
theorem lp_R_dig1 {κ : Kx} {μ : MX} {Q : Option Value → (Heap → Prop) → Prop} {i : Nat} {m : Mem} (hi : i < 9) (hR : okR (m 3 i)) {h : Int} (k : Q (some (vl (rdN (m 3 i) h ((m 3 i).1 0).toNat))) (World κ m)) (F : Fx κ G_R_digestOn 1 0 0 μ) :
    ∀ (n : Nat) (j : Nat) (x e : Int), (m 3 i).1 0 < j + n → (j : Int) ≤ (m 3 i).1 0 → x = j → e = rdN (m 3 i) h j →  GC κ μ (ZZ κ μ 0 0 Q) 0 0 5 [some (.ref (ad κ 3 i)), some (vl h), none, some (vl e), none, some (vi x), none] [] (World κ m) := by
  obtain ⟨hsz, hwd, hce⟩ := id hR
  intro n
  induction n with
  | zero =>
    intro j x e hn hj hx he
    exact absurd hn (by omega)
  | succ n ih =>
    intro j x e hn hj hx he
    refine g_iload F a_R_digestOn_5 rfl ?_
    refine g_aload_n F a_R_digestOn_7 rfl ?_
    refine g_get_3_0 F a_R_digestOn_8 fl_R_19 (by first | assumption | decide | omega) ?_
    refine g_icmp_ge F (by omega) (by omega) a_R_digestOn_11 (fun h11 => ?_) (fun h11 => ?_)
    · refine g_lload_n F a_R_digestOn_54 rfl ?_
      refine g_lret F a_R_digestOn_55 rfl ⟨Nat.le_refl _, Nat.le_refl _⟩ ?_
      exact ql k (by rw [he]; congr 1; omega)
    · refine g_iconst F a_R_digestOn_14 ?_
      refine g_istore (ls' := [_, _, _, _, _, _, _]) F a_R_digestOn_15 rfl rfl rfl ?_
      refine GC.loc2 (lp_R_dig2 hi hR (h := h) (r := x) (h1 := e) (by omega) ?_ F (((m 3 i).1 1).toNat + 1) 0 _ _ (by omega) (by omega) rfl rfl) ⟨rfl, rfl, rfl, rfl, rfl, trivial⟩
      refine g_iinc (ls' := [_, _, _, _, _, _, _]) F a_R_digestOn_48 rfl rfl rfl ?_
      refine g_goto F a_R_digestOn_51 ?_
      rw [hx]
      exact GC.loc2 (ih (j + 1) _ _ (by omega) (by omega) (by omega) (by rw [he]; rfl)) ⟨rfl, rfl, rfl, rfl, trivial⟩
set_option maxHeartbeats 1000000 in
theorem sp_R_digestOn {κ : Kx} {Q : Option Value → (Heap → Prop) → Prop} {i : Nat} {m : Mem} (hi : i < 9) (hR : okR (m 3 i)) {h : Int} (k : Q (some (vl (rdN (m 3 i) h ((m 3 i).1 0).toNat))) (World κ m)) : GG κ G_R_digestOn 1 0 0 [.ref (ad κ 3 i), vl h] (World κ m) Q := by
  obtain ⟨hsz, hwd, hce⟩ := id hR
  refine GG.intro (ls := [some _, some _, none, none, none, none, none]) (Nat.le_of_ble_eq_true rfl) rfl (fun μ F => ?_)
  refine g_lload_n F a_R_digestOn_0 rfl ?_
  refine g_lstore_n (ls' := [_, _, _, _, _, _, _]) F a_R_digestOn_1 rfl rfl rfl ?_
  refine g_iconst F a_R_digestOn_2 ?_
  refine g_istore (ls' := [_, _, _, _, _, _, _]) F a_R_digestOn_3 rfl rfl rfl ?_
  exact GC.loc2 (lp_R_dig1 hi hR k F (((m 3 i).1 0).toNat + 1) 0 _ _ (by omega) (by omega) rfl rfl) ⟨rfl, rfl, rfl, rfl, trivial⟩
def okPc (f : Int → Int) : Prop := ∀ t : Int, 0 ≤ t ∧ t < 8 → (∀ k : Int, 0 ≤ k ∧ k < 6 → 0 ≤ f (t * 9 + k) ∧ f (t * 9 + k) ≤ 90) ∧ (0 ≤ f (t * 9 + 6) ∧ f (t * 9 + 6) ≤ 99) ∧ (0 ≤ f (t * 9 + 7) ∧ f (t * 9 + 7) ≤ 99) ∧ (0 ≤ f (t * 9 + 8) ∧ f (t * 9 + 8) ≤ 999)
def okP (S : Rc) : Prop := (0 ≤ S.1 0 ∧ S.1 0 ≤ 8) ∧ okPc (S.2 0)
/-- a step laid down at place n -/
def layP (c : Int → Int) (n : Int) (S : Rc) : Int → Int := gup (gup (gup (cpyI (S.2 2) c 0 (n * 9) 6) (n * 9 + 6) (S.1 0)) (n * 9 + 6 + 1) (S.1 1)) (n * 9 + 6 + 2) (S.1 3)
def pushP (P S : Rc) : Rc := if P.1 0 < 8 then (fup P.1 0 (P.1 0 + 1), aup P.2 0 (layP (P.2 0) (P.1 0) S)) else (fup P.1 0 8, aup P.2 0 (layP (cpyI (P.2 0) (P.2 0) 9 0 63) 7 S))
def popS (P S : Rc) : Rc := (fup (fup (fup S.1 0 (P.2 0 ((P.1 0 - 1) * 9 + 6))) 1 (P.2 0 ((P.1 0 - 1) * 9 + 6 + 1))) 3 (P.2 0 ((P.1 0 - 1) * 9 + 6 + 2)), aup S.2 2 (fun k => P.2 0 ((P.1 0 - 1) * 9 + k)))
set_option maxHeartbeats 1000000 in
theorem sp_P_push {κ : Kx} {Q : Option Value → (Heap → Prop) → Prop} {i : Nat} {m : Mem} (hi : i < 3) (hP : okP (m 4 i)) {s : Nat} (hs : s < 9) (k : Q none (World κ (mset m 4 i (pushP (m 4 i) (m 2 s))))) : GG κ G_P_push 1 0 0 [.ref (ad κ 4 i), .ref (ad κ 2 s)] (World κ m) Q := by
  obtain ⟨hsz, hce⟩ := id hP
  have ha72 : alen 4 0 = 72 := rfl
  have ha6 : alen 2 2 = 6 := rfl
  refine GG.intro (ls := [some _, some _, none]) (Nat.le_of_ble_eq_true rfl) rfl (fun μ F => ?_)
  refine g_aload_n F a_P_push_0 rfl ?_
  refine g_get_4_0 F a_P_push_1 fl_P_15 (by first | assumption | decide | omega) ?_
  refine g_bipush F a_P_push_4 (by decide) ?_
  refine g_icmp_lt F (by omega) (by omega) a_P_push_6 (fun h6 => ?_) (fun h6 => ?_)
  · refine g_aload_n F a_P_push_31 rfl ?_
    refine g_get_4_0 F a_P_push_32 fl_P_15 (by first | assumption | decide | omega) ?_
    refine g_bipush F a_P_push_35 (by decide) ?_
    refine g_imul F a_P_push_37 ?_
    refine g_istore_n (ls' := [_, _, _]) F a_P_push_38 rfl rfl rfl ?_
    refine g_aload_n F a_P_push_39 rfl ?_
    refine g_get_2_8 F a_P_push_40 fl_P_25 (by first | assumption | decide | omega) ?_
    refine g_iconst F a_P_push_43 ?_
    refine g_aload_n F a_P_push_44 rfl ?_
    refine g_get_4_1 F a_P_push_45 fl_P_11 (by first | assumption | decide | omega) ?_
    refine g_iload_n F a_P_push_48 rfl ?_
    refine g_bipush F a_P_push_49 (by decide) ?_
    refine g_copy F a_P_push_51 sy_P_19 hs (by decide) (fun _ => rfl) hi (by decide) (fun _ => rfl) rfl (by decide) (Nat.le_of_ble_eq_true rfl) (by omega) (by decide) ?_
    (try simp only [mset_app, mset_mset, fup_app, aup_app, fup_fup, aup_aup, false_and, and_false, true_and, and_true, and_self, reduceIte, Nat.reduceEqDiff, reduceCtorEq])
    refine g_aload_n F a_P_push_54 rfl ?_
    refine g_get_4_1 F a_P_push_55 fl_P_11 (by first | assumption | decide | omega) ?_
    (try simp only [mset_app, mset_mset, fup_app, aup_app, fup_fup, aup_aup, false_and, and_false, true_and, and_true, and_self, reduceIte, Nat.reduceEqDiff, reduceCtorEq])
    refine g_iload_n F a_P_push_58 rfl ?_
    refine g_bipush F a_P_push_59 (by decide) ?_
    refine g_iadd F a_P_push_61 ?_
    refine g_aload_n F a_P_push_62 rfl ?_
    refine g_get_2_0 F a_P_push_63 fl_P_30 (by first | assumption | decide | omega) ?_
    (try simp only [mset_app, mset_mset, fup_app, aup_app, fup_fup, aup_aup, false_and, and_false, true_and, and_true, and_self, reduceIte, Nat.reduceEqDiff, reduceCtorEq])
    refine g_ist_4_0 F a_P_push_66 (by first | assumption | decide | omega) (by omega) ?_
    (try simp only [mset_app, mset_mset, fup_app, aup_app, fup_fup, aup_aup, false_and, and_false, true_and, and_true, and_self, reduceIte, Nat.reduceEqDiff, reduceCtorEq])
    refine g_aload_n F a_P_push_67 rfl ?_
    refine g_get_4_1 F a_P_push_68 fl_P_11 (by first | assumption | decide | omega) ?_
    (try simp only [mset_app, mset_mset, fup_app, aup_app, fup_fup, aup_aup, false_and, and_false, true_and, and_true, and_self, reduceIte, Nat.reduceEqDiff, reduceCtorEq])
    refine g_iload_n F a_P_push_71 rfl ?_
    refine g_bipush F a_P_push_72 (by decide) ?_
    refine g_iadd F a_P_push_74 ?_
    refine g_iconst F a_P_push_75 ?_
    refine g_iadd F a_P_push_76 ?_
    refine g_aload_n F a_P_push_77 rfl ?_
    refine g_get_2_1 F a_P_push_78 fl_P_33 (by first | assumption | decide | omega) ?_
    (try simp only [mset_app, mset_mset, fup_app, aup_app, fup_fup, aup_aup, false_and, and_false, true_and, and_true, and_self, reduceIte, Nat.reduceEqDiff, reduceCtorEq])
    refine g_ist_4_0 F a_P_push_81 (by first | assumption | decide | omega) (by omega) ?_
    (try simp only [mset_app, mset_mset, fup_app, aup_app, fup_fup, aup_aup, false_and, and_false, true_and, and_true, and_self, reduceIte, Nat.reduceEqDiff, reduceCtorEq])
    refine g_aload_n F a_P_push_82 rfl ?_
    refine g_get_4_1 F a_P_push_83 fl_P_11 (by first | assumption | decide | omega) ?_
    (try simp only [mset_app, mset_mset, fup_app, aup_app, fup_fup, aup_aup, false_and, and_false, true_and, and_true, and_self, reduceIte, Nat.reduceEqDiff, reduceCtorEq])
    refine g_iload_n F a_P_push_86 rfl ?_
    refine g_bipush F a_P_push_87 (by decide) ?_
    refine g_iadd F a_P_push_89 ?_
    refine g_iconst F a_P_push_90 ?_
    refine g_iadd F a_P_push_91 ?_
    refine g_aload_n F a_P_push_92 rfl ?_
    refine g_get_2_3 F a_P_push_93 fl_P_36 (by first | assumption | decide | omega) ?_
    (try simp only [mset_app, mset_mset, fup_app, aup_app, fup_fup, aup_aup, false_and, and_false, true_and, and_true, and_self, reduceIte, Nat.reduceEqDiff, reduceCtorEq])
    refine g_ist_4_0 F a_P_push_96 (by first | assumption | decide | omega) (by omega) ?_
    (try simp only [mset_app, mset_mset, fup_app, aup_app, fup_fup, aup_aup, false_and, and_false, true_and, and_true, and_self, reduceIte, Nat.reduceEqDiff, reduceCtorEq])
    refine g_aload_n F a_P_push_97 rfl ?_
    refine g_dup F a_P_push_98 rfl ?_
    refine g_get_4_0 F a_P_push_99 fl_P_15 (by first | assumption | decide | omega) ?_
    (try simp only [mset_app, mset_mset, fup_app, aup_app, fup_fup, aup_aup, false_and, and_false, true_and, and_true, and_self, reduceIte, Nat.reduceEqDiff, reduceCtorEq])
    refine g_iconst F a_P_push_102 ?_
    refine g_iadd F a_P_push_103 ?_
    refine g_put_4_0 F a_P_push_104 fl_P_15 (by first | assumption | decide | omega) ?_
    (try simp only [mset_app, mset_mset, fup_app, aup_app, fup_fup, aup_aup, false_and, and_false, true_and, and_true, and_self, reduceIte, Nat.reduceEqDiff, reduceCtorEq])
    refine g_ret F a_P_push_107 rfl ⟨Nat.le_refl _, Nat.le_refl _⟩ ?_
    first | (unfold pushP at k; rw [if_pos (by omega)] at k; exact k) | (unfold pushP at k; rw [if_neg (by omega)] at k; exact k)
  · refine g_aload_n F a_P_push_9 rfl ?_
    refine g_get_4_1 F a_P_push_10 fl_P_11 (by first | assumption | decide | omega) ?_
    refine g_bipush F a_P_push_13 (by decide) ?_
    refine g_aload_n F a_P_push_15 rfl ?_
    refine g_get_4_1 F a_P_push_16 fl_P_11 (by first | assumption | decide | omega) ?_
    refine g_iconst F a_P_push_19 ?_
    refine g_bipush F a_P_push_20 (by decide) ?_
    refine g_copy F a_P_push_22 sy_P_19 hi (by decide) (fun _ => rfl) hi (by decide) (fun _ => rfl) rfl (by decide) (Nat.le_of_ble_eq_true rfl) (by decide) (by decide) ?_
    (try simp only [mset_app, mset_mset, fup_app, aup_app, fup_fup, aup_aup, false_and, and_false, true_and, and_true, and_self, reduceIte, Nat.reduceEqDiff, reduceCtorEq])
    refine g_aload_n F a_P_push_25 rfl ?_
    refine g_bipush F a_P_push_26 (by decide) ?_
    refine g_put_4_0 F a_P_push_28 fl_P_15 (by first | assumption | decide | omega) ?_
    (try simp only [mset_app, mset_mset, fup_app, aup_app, fup_fup, aup_aup, false_and, and_false, true_and, and_true, and_self, reduceIte, Nat.reduceEqDiff, reduceCtorEq])
    refine g_aload_n F a_P_push_31 rfl ?_
    refine g_get_4_0 F a_P_push_32 fl_P_15 (by first | assumption | decide | omega) ?_
    (try simp only [mset_app, mset_mset, fup_app, aup_app, fup_fup, aup_aup, false_and, and_false, true_and, and_true, and_self, reduceIte, Nat.reduceEqDiff, reduceCtorEq])
    refine g_bipush F a_P_push_35 (by decide) ?_
    refine g_imul F a_P_push_37 ?_
    refine g_istore_n (ls' := [_, _, _]) F a_P_push_38 rfl rfl rfl ?_
    refine g_aload_n F a_P_push_39 rfl ?_
    refine g_get_2_8 F a_P_push_40 fl_P_25 (by first | assumption | decide | omega) ?_
    (try simp only [mset_app, mset_mset, fup_app, aup_app, fup_fup, aup_aup, false_and, and_false, true_and, and_true, and_self, reduceIte, Nat.reduceEqDiff, reduceCtorEq])
    refine g_iconst F a_P_push_43 ?_
    refine g_aload_n F a_P_push_44 rfl ?_
    refine g_get_4_1 F a_P_push_45 fl_P_11 (by first | assumption | decide | omega) ?_
    (try simp only [mset_app, mset_mset, fup_app, aup_app, fup_fup, aup_aup, false_and, and_false, true_and, and_true, and_self, reduceIte, Nat.reduceEqDiff, reduceCtorEq])
    refine g_iload_n F a_P_push_48 rfl ?_
    refine g_bipush F a_P_push_49 (by decide) ?_
    refine g_copy F a_P_push_51 sy_P_19 hs (by decide) (fun _ => rfl) hi (by decide) (fun _ => rfl) rfl (by decide) (Nat.le_of_ble_eq_true rfl) (by omega) (by decide) ?_
    (try simp only [mset_app, mset_mset, fup_app, aup_app, fup_fup, aup_aup, false_and, and_false, true_and, and_true, and_self, reduceIte, Nat.reduceEqDiff, reduceCtorEq])
    refine g_aload_n F a_P_push_54 rfl ?_
    refine g_get_4_1 F a_P_push_55 fl_P_11 (by first | assumption | decide | omega) ?_
    (try simp only [mset_app, mset_mset, fup_app, aup_app, fup_fup, aup_aup, false_and, and_false, true_and, and_true, and_self, reduceIte, Nat.reduceEqDiff, reduceCtorEq])
    refine g_iload_n F a_P_push_58 rfl ?_
    refine g_bipush F a_P_push_59 (by decide) ?_
    refine g_iadd F a_P_push_61 ?_
    refine g_aload_n F a_P_push_62 rfl ?_
    refine g_get_2_0 F a_P_push_63 fl_P_30 (by first | assumption | decide | omega) ?_
    (try simp only [mset_app, mset_mset, fup_app, aup_app, fup_fup, aup_aup, false_and, and_false, true_and, and_true, and_self, reduceIte, Nat.reduceEqDiff, reduceCtorEq])
    refine g_ist_4_0 F a_P_push_66 (by first | assumption | decide | omega) (by omega) ?_
    (try simp only [mset_app, mset_mset, fup_app, aup_app, fup_fup, aup_aup, false_and, and_false, true_and, and_true, and_self, reduceIte, Nat.reduceEqDiff, reduceCtorEq])
    refine g_aload_n F a_P_push_67 rfl ?_
    refine g_get_4_1 F a_P_push_68 fl_P_11 (by first | assumption | decide | omega) ?_
    (try simp only [mset_app, mset_mset, fup_app, aup_app, fup_fup, aup_aup, false_and, and_false, true_and, and_true, and_self, reduceIte, Nat.reduceEqDiff, reduceCtorEq])
    refine g_iload_n F a_P_push_71 rfl ?_
    refine g_bipush F a_P_push_72 (by decide) ?_
    refine g_iadd F a_P_push_74 ?_
    refine g_iconst F a_P_push_75 ?_
    refine g_iadd F a_P_push_76 ?_
    refine g_aload_n F a_P_push_77 rfl ?_
    refine g_get_2_1 F a_P_push_78 fl_P_33 (by first | assumption | decide | omega) ?_
    (try simp only [mset_app, mset_mset, fup_app, aup_app, fup_fup, aup_aup, false_and, and_false, true_and, and_true, and_self, reduceIte, Nat.reduceEqDiff, reduceCtorEq])
    refine g_ist_4_0 F a_P_push_81 (by first | assumption | decide | omega) (by omega) ?_
    (try simp only [mset_app, mset_mset, fup_app, aup_app, fup_fup, aup_aup, false_and, and_false, true_and, and_true, and_self, reduceIte, Nat.reduceEqDiff, reduceCtorEq])
    refine g_aload_n F a_P_push_82 rfl ?_
    refine g_get_4_1 F a_P_push_83 fl_P_11 (by first | assumption | decide | omega) ?_
    (try simp only [mset_app, mset_mset, fup_app, aup_app, fup_fup, aup_aup, false_and, and_false, true_and, and_true, and_self, reduceIte, Nat.reduceEqDiff, reduceCtorEq])
    refine g_iload_n F a_P_push_86 rfl ?_
    refine g_bipush F a_P_push_87 (by decide) ?_
    refine g_iadd F a_P_push_89 ?_
    refine g_iconst F a_P_push_90 ?_
    refine g_iadd F a_P_push_91 ?_
    refine g_aload_n F a_P_push_92 rfl ?_
    refine g_get_2_3 F a_P_push_93 fl_P_36 (by first | assumption | decide | omega) ?_
    (try simp only [mset_app, mset_mset, fup_app, aup_app, fup_fup, aup_aup, false_and, and_false, true_and, and_true, and_self, reduceIte, Nat.reduceEqDiff, reduceCtorEq])
    refine g_ist_4_0 F a_P_push_96 (by first | assumption | decide | omega) (by omega) ?_
    (try simp only [mset_app, mset_mset, fup_app, aup_app, fup_fup, aup_aup, false_and, and_false, true_and, and_true, and_self, reduceIte, Nat.reduceEqDiff, reduceCtorEq])
    refine g_aload_n F a_P_push_97 rfl ?_
    refine g_dup F a_P_push_98 rfl ?_
    refine g_get_4_0 F a_P_push_99 fl_P_15 (by first | assumption | decide | omega) ?_
    (try simp only [mset_app, mset_mset, fup_app, aup_app, fup_fup, aup_aup, false_and, and_false, true_and, and_true, and_self, reduceIte, Nat.reduceEqDiff, reduceCtorEq])
    refine g_iconst F a_P_push_102 ?_
    refine g_iadd F a_P_push_103 ?_
    refine g_put_4_0 F a_P_push_104 fl_P_15 (by first | assumption | decide | omega) ?_
    (try simp only [mset_app, mset_mset, fup_app, aup_app, fup_fup, aup_aup, false_and, and_false, true_and, and_true, and_self, reduceIte, Nat.reduceEqDiff, reduceCtorEq])
    refine g_ret F a_P_push_107 rfl ⟨Nat.le_refl _, Nat.le_refl _⟩ ?_
    first | (unfold pushP at k; rw [if_pos (by omega)] at k; exact k) | (unfold pushP at k; rw [if_neg (by omega)] at k; exact k)
set_option maxHeartbeats 1000000 in
theorem sp_P_pop {κ : Kx} {Q : Option Value → (Heap → Prop) → Prop} {i : Nat} {m : Mem} (hi : i < 3) (hP : okP (m 4 i)) {s : Nat} (hs : s < 9) (hp : 1 ≤ (m 4 i).1 0) (k : Q none (World κ (mset (mset m 4 i (fup (m 4 i).1 0 ((m 4 i).1 0 - 1), (m 4 i).2)) 2 s (popS (m 4 i) (m 2 s))))) : GG κ G_P_pop 1 0 0 [.ref (ad κ 4 i), .ref (ad κ 2 s)] (World κ m) Q := by
  obtain ⟨hsz, hce⟩ := id hP
  have ha72 : alen 4 0 = 72 := rfl
  have ha6 : alen 2 2 = 6 := rfl
  refine GG.intro (ls := [some _, some _, none]) (Nat.le_of_ble_eq_true rfl) rfl (fun μ F => ?_)
  refine g_aload_n F a_P_pop_0 rfl ?_
  refine g_get_4_0 F a_P_pop_1 fl_P_15 (by first | assumption | decide | omega) ?_
  refine g_if_gt F (by omega) a_P_pop_4 (fun h4 => ?_) (fun h4 => ?_)
  · refine g_aload_n F a_P_pop_8 rfl ?_
    refine g_dup F a_P_pop_9 rfl ?_
    refine g_get_4_0 F a_P_pop_10 fl_P_15 (by first | assumption | decide | omega) ?_
    refine g_iconst F a_P_pop_13 ?_
    refine g_isub F a_P_pop_14 ?_
    refine g_put_4_0 F a_P_pop_15 fl_P_15 (by first | assumption | decide | omega) ?_
    (try simp only [mset_app, mset_mset, fup_app, aup_app, fup_fup, aup_aup, false_and, and_false, true_and, and_true, and_self, reduceIte, Nat.reduceEqDiff, reduceCtorEq])
    refine g_aload_n F a_P_pop_18 rfl ?_
    refine g_get_4_0 F a_P_pop_19 fl_P_15 (by first | assumption | decide | omega) ?_
    (try simp only [mset_app, mset_mset, fup_app, aup_app, fup_fup, aup_aup, false_and, and_false, true_and, and_true, and_self, reduceIte, Nat.reduceEqDiff, reduceCtorEq])
    refine g_bipush F a_P_pop_22 (by decide) ?_
    refine g_imul F a_P_pop_24 ?_
    refine g_istore_n (ls' := [_, _, _]) F a_P_pop_25 rfl rfl rfl ?_
    refine g_aload_n F a_P_pop_26 rfl ?_
    refine g_get_4_1 F a_P_pop_27 fl_P_11 (by first | assumption | decide | omega) ?_
    (try simp only [mset_app, mset_mset, fup_app, aup_app, fup_fup, aup_aup, false_and, and_false, true_and, and_true, and_self, reduceIte, Nat.reduceEqDiff, reduceCtorEq])
    refine g_iload_n F a_P_pop_30 rfl ?_
    refine g_aload_n F a_P_pop_31 rfl ?_
    refine g_get_2_8 F a_P_pop_32 fl_P_25 (by first | assumption | decide | omega) ?_
    (try simp only [mset_app, mset_mset, fup_app, aup_app, fup_fup, aup_aup, false_and, and_false, true_and, and_true, and_self, reduceIte, Nat.reduceEqDiff, reduceCtorEq])
    refine g_iconst F a_P_pop_35 ?_
    refine g_bipush F a_P_pop_36 (by decide) ?_
    refine g_copy F a_P_pop_38 sy_P_19 hi (by decide) (fun _ => rfl) hs (by decide) (fun _ => rfl) rfl (by decide) (Nat.le_of_ble_eq_true rfl) (by omega) (by decide) ?_
    (try simp only [mset_app, mset_mset, fup_app, aup_app, fup_fup, aup_aup, false_and, and_false, true_and, and_true, and_self, reduceIte, Nat.reduceEqDiff, reduceCtorEq])
    refine g_aload_n F a_P_pop_41 rfl ?_
    refine g_aload_n F a_P_pop_42 rfl ?_
    refine g_get_4_1 F a_P_pop_43 fl_P_11 (by first | assumption | decide | omega) ?_
    (try simp only [mset_app, mset_mset, fup_app, aup_app, fup_fup, aup_aup, false_and, and_false, true_and, and_true, and_self, reduceIte, Nat.reduceEqDiff, reduceCtorEq])
    refine g_iload_n F a_P_pop_46 rfl ?_
    refine g_bipush F a_P_pop_47 (by decide) ?_
    refine g_iadd F a_P_pop_49 ?_
    refine g_ild_4_0 F a_P_pop_50 (by first | assumption | decide | omega) (by omega) ?_
    (try simp only [mset_app, mset_mset, fup_app, aup_app, fup_fup, aup_aup, false_and, and_false, true_and, and_true, and_self, reduceIte, Nat.reduceEqDiff, reduceCtorEq])
    refine g_put_2_0 F a_P_pop_51 fl_P_30 (by first | assumption | decide | omega) ?_
    (try simp only [mset_app, mset_mset, fup_app, aup_app, fup_fup, aup_aup, false_and, and_false, true_and, and_true, and_self, reduceIte, Nat.reduceEqDiff, reduceCtorEq])
    refine g_aload_n F a_P_pop_54 rfl ?_
    refine g_aload_n F a_P_pop_55 rfl ?_
    refine g_get_4_1 F a_P_pop_56 fl_P_11 (by first | assumption | decide | omega) ?_
    (try simp only [mset_app, mset_mset, fup_app, aup_app, fup_fup, aup_aup, false_and, and_false, true_and, and_true, and_self, reduceIte, Nat.reduceEqDiff, reduceCtorEq])
    refine g_iload_n F a_P_pop_59 rfl ?_
    refine g_bipush F a_P_pop_60 (by decide) ?_
    refine g_iadd F a_P_pop_62 ?_
    refine g_iconst F a_P_pop_63 ?_
    refine g_iadd F a_P_pop_64 ?_
    refine g_ild_4_0 F a_P_pop_65 (by first | assumption | decide | omega) (by omega) ?_
    (try simp only [mset_app, mset_mset, fup_app, aup_app, fup_fup, aup_aup, false_and, and_false, true_and, and_true, and_self, reduceIte, Nat.reduceEqDiff, reduceCtorEq])
    refine g_put_2_1 F a_P_pop_66 fl_P_33 (by first | assumption | decide | omega) ?_
    (try simp only [mset_app, mset_mset, fup_app, aup_app, fup_fup, aup_aup, false_and, and_false, true_and, and_true, and_self, reduceIte, Nat.reduceEqDiff, reduceCtorEq])
    refine g_aload_n F a_P_pop_69 rfl ?_
    refine g_aload_n F a_P_pop_70 rfl ?_
    refine g_get_4_1 F a_P_pop_71 fl_P_11 (by first | assumption | decide | omega) ?_
    (try simp only [mset_app, mset_mset, fup_app, aup_app, fup_fup, aup_aup, false_and, and_false, true_and, and_true, and_self, reduceIte, Nat.reduceEqDiff, reduceCtorEq])
    refine g_iload_n F a_P_pop_74 rfl ?_
    refine g_bipush F a_P_pop_75 (by decide) ?_
    refine g_iadd F a_P_pop_77 ?_
    refine g_iconst F a_P_pop_78 ?_
    refine g_iadd F a_P_pop_79 ?_
    refine g_ild_4_0 F a_P_pop_80 (by first | assumption | decide | omega) (by omega) ?_
    (try simp only [mset_app, mset_mset, fup_app, aup_app, fup_fup, aup_aup, false_and, and_false, true_and, and_true, and_self, reduceIte, Nat.reduceEqDiff, reduceCtorEq])
    refine g_put_2_3 F a_P_pop_81 fl_P_36 (by first | assumption | decide | omega) ?_
    (try simp only [mset_app, mset_mset, fup_app, aup_app, fup_fup, aup_aup, false_and, and_false, true_and, and_true, and_self, reduceIte, Nat.reduceEqDiff, reduceCtorEq])
    refine g_ret F a_P_pop_84 rfl ⟨Nat.le_refl _, Nat.le_refl _⟩ ?_
    refine qs k (Ag2 rfl rfl rfl rfl rfl rfl (fun _ _ => rfl) (fun _ _ => rfl) (fun x hx => ?_) (fun _ _ => rfl))
    show cpyI _ _ _ 0 6 x = _
    unfold cpyI
    rw [if_pos (by omega), show x - 0 = x by omega]
    rfl
  · refine g_ret F a_P_pop_7 rfl ⟨Nat.le_refl _, Nat.le_refl _⟩ ?_
    exfalso; omega
set_option maxHeartbeats 1000000 in
theorem sp_P_copy {κ : Kx} {Q : Option Value → (Heap → Prop) → Prop} {i j : Nat} {m : Mem} (hi : i < 3) (hj : j < 3) (hji : ¬ j = i) (k : Q none (World κ (mset m 4 i (m 4 j)))) : GG κ G_P_copy 1 0 0 [.ref (ad κ 4 i), .ref (ad κ 4 j)] (World κ m) Q := by
  refine GG.intro (ls := [some _, some _]) (Nat.le_of_ble_eq_true rfl) rfl (fun μ F => ?_)
  refine g_aload_n F a_P_copy_0 rfl ?_
  refine g_aload_n F a_P_copy_1 rfl ?_
  refine g_get_4_0 F a_P_copy_2 fl_P_15 (by first | assumption | decide | omega) ?_
  refine g_put_4_0 F a_P_copy_5 fl_P_15 (by first | assumption | decide | omega) ?_
  (try simp only [mset_app, mset_mset, fup_app, aup_app, fup_fup, aup_aup, false_and, and_false, true_and, and_true, and_self, reduceIte, Nat.reduceEqDiff, reduceCtorEq, hji])
  refine g_aload_n F a_P_copy_8 rfl ?_
  refine g_get_4_1 F a_P_copy_9 fl_P_11 (by first | assumption | decide | omega) ?_
  (try simp only [mset_app, mset_mset, fup_app, aup_app, fup_fup, aup_aup, false_and, and_false, true_and, and_true, and_self, reduceIte, Nat.reduceEqDiff, reduceCtorEq, hji])
  refine g_iconst F a_P_copy_12 ?_
  refine g_aload_n F a_P_copy_13 rfl ?_
  refine g_get_4_1 F a_P_copy_14 fl_P_11 (by first | assumption | decide | omega) ?_
  (try simp only [mset_app, mset_mset, fup_app, aup_app, fup_fup, aup_aup, false_and, and_false, true_and, and_true, and_self, reduceIte, Nat.reduceEqDiff, reduceCtorEq, hji])
  refine g_iconst F a_P_copy_17 ?_
  refine g_bipush F a_P_copy_18 (by decide) ?_
  refine g_copy F a_P_copy_20 sy_P_19 hj (by decide) (fun _ => rfl) hi (by decide) (fun _ => rfl) rfl (by decide) (Nat.le_of_ble_eq_true rfl) (by decide) (by decide) ?_
  (try simp only [mset_app, mset_mset, fup_app, aup_app, fup_fup, aup_aup, false_and, and_false, true_and, and_true, and_self, reduceIte, Nat.reduceEqDiff, reduceCtorEq, hji])
  refine g_ret F a_P_copy_23 rfl ⟨Nat.le_refl _, Nat.le_refl _⟩ ?_
  exact qs k (Ag4 rfl (fun x hx => cpyI_0 _ _ hx))
set_option maxHeartbeats 1000000 in
theorem sp_K_makes {κ : Kx} {Q : Option Value → (Heap → Prop) → Prop} {P : Heap → Prop} {a b c e : Int} (ha : a = 0 ∨ a = 1) (hb : 0 ≤ b ∧ b ≤ 5) (hc : 0 ≤ c ∧ c ≤ 90) (he : 0 ≤ e ∧ e ≤ 100000) (k : Q (some (vi (if a = 1 then stn b c e else see b c e))) P) : GG κ G_K_makes 1 0 0 [vi a, vi b, vi c, vi e] P Q := by
  refine GG.intro (ls := [some _, some _, some _, some _]) (Nat.le_of_ble_eq_true rfl) rfl (fun μ F => ?_)
  refine g_iload_n F a_K_makes_0 rfl ?_
  refine g_if_eq F (by omega) a_K_makes_1 (fun h1 => ?_) (fun h1 => ?_)
  · refine g_iload_n F a_K_makes_13 rfl ?_
    refine g_iload_n F a_K_makes_14 rfl ?_
    refine g_iload_n F a_K_makes_15 rfl ?_
    refine g_s3 F a_K_makes_16 sc_K_15 mk_K_sees rfl (by decide) ⟨Nat.le_refl _, Nat.le_refl _⟩ rfl (Nat.le_of_ble_eq_true rfl) (sp_K_sees (by omega) (by omega) (by omega) (GCr.v ?_))
    refine g_iret F a_K_makes_19 rfl ⟨Nat.le_refl _, Nat.le_refl _⟩ ?_
    exact qv k (by first | rw [if_pos (by omega)] | rw [if_neg (by omega)])
  · refine g_iload_n F a_K_makes_4 rfl ?_
    refine g_iload_n F a_K_makes_5 rfl ?_
    refine g_iload_n F a_K_makes_6 rfl ?_
    refine g_s3 F a_K_makes_7 sc_K_9 mk_K_stands rfl (by decide) ⟨Nat.le_refl _, Nat.le_refl _⟩ rfl (Nat.le_of_ble_eq_true rfl) (sp_K_stands (by omega) (by omega) (by omega) (GCr.v ?_))
    refine g_goto F a_K_makes_10 ?_
    refine g_iret F a_K_makes_19 rfl ⟨Nat.le_refl _, Nat.le_refl _⟩ ?_
    exact qv k (by first | rw [if_pos (by omega)] | rw [if_neg (by omega)])
set_option maxHeartbeats 1000000 in
theorem sp_S_begin {κ : Kx} {Q : Option Value → (Heap → Prop) → Prop} {i : Nat} {m : Mem} {c : Int} (hi : i < 3) (hc : R32 c) (k : Q none (World κ (mset (mset (mset (mset (mset m 2 i (begS c (m 2 i))) 3 (3 * i) (fup (m 3 (3 * i)).1 0 0, (m 3 (3 * i)).2)) 3 (3 * i + 1) (fup (m 3 (3 * i + 1)).1 0 0, (m 3 (3 * i + 1)).2)) 3 (3 * i + 2) (fup (m 3 (3 * i + 2)).1 0 0, (m 3 (3 * i + 2)).2)) 4 i (fup (m 4 i).1 0 0, (m 4 i).2)))) : GG κ G_S_begin 1 0 0 [.ref (ad κ 1 i), vi c] (World κ m) Q := by
  refine GG.intro (ls := [some _, some _]) (Nat.le_of_ble_eq_true rfl) rfl (fun μ F => ?_)
  refine g_aload_n F a_S_begin_0 rfl ?_
  refine g_get_1_0 F a_S_begin_1 fl_S_10 (by first | assumption | decide | omega) ?_
  refine g_iload_n F a_S_begin_4 rfl ?_
  refine g_v1 F a_S_begin_5 vc_S_42 mk_H_begin (ob_2 (by first | assumption | decide | omega)) ck_2.1 rfl rfl (by decide) ⟨Nat.le_refl _, Nat.le_refl _⟩ rfl (Nat.le_of_ble_eq_true rfl) (sp_H_begin (by omega) hc (GCr.n ?_))
  (try simp only [mset_app, mset_mset, fup_app, aup_app, fup_fup, aup_aup, false_and, and_false, true_and, and_true, and_self, reduceIte, Nat.reduceEqDiff, reduceCtorEq, show ¬ 3 * i + 1 = 3 * i by omega, show ¬ 3 * i + 2 = 3 * i by omega, show ¬ 3 * i + 2 = 3 * i + 1 by omega])
  refine g_aload_n F a_S_begin_8 rfl ?_
  refine g_get_1_1 F a_S_begin_9 fl_S_21 (by first | assumption | decide | omega) ?_
  (try simp only [mset_app, mset_mset, fup_app, aup_app, fup_fup, aup_aup, false_and, and_false, true_and, and_true, and_self, reduceIte, Nat.reduceEqDiff, reduceCtorEq, show ¬ 3 * i + 1 = 3 * i by omega, show ¬ 3 * i + 2 = 3 * i by omega, show ¬ 3 * i + 2 = 3 * i + 1 by omega])
  refine g_iconst F a_S_begin_12 ?_
  refine g_put_3_0 F a_S_begin_13 fl_S_45 (by first | assumption | decide | omega) ?_
  (try simp only [mset_app, mset_mset, fup_app, aup_app, fup_fup, aup_aup, false_and, and_false, true_and, and_true, and_self, reduceIte, Nat.reduceEqDiff, reduceCtorEq, show ¬ 3 * i + 1 = 3 * i by omega, show ¬ 3 * i + 2 = 3 * i by omega, show ¬ 3 * i + 2 = 3 * i + 1 by omega])
  refine g_aload_n F a_S_begin_16 rfl ?_
  refine g_get_1_2 F a_S_begin_17 fl_S_25 (by first | assumption | decide | omega) ?_
  (try simp only [mset_app, mset_mset, fup_app, aup_app, fup_fup, aup_aup, false_and, and_false, true_and, and_true, and_self, reduceIte, Nat.reduceEqDiff, reduceCtorEq, show ¬ 3 * i + 1 = 3 * i by omega, show ¬ 3 * i + 2 = 3 * i by omega, show ¬ 3 * i + 2 = 3 * i + 1 by omega])
  refine g_iconst F a_S_begin_20 ?_
  refine g_put_3_0 F a_S_begin_21 fl_S_45 (by first | assumption | decide | omega) ?_
  (try simp only [mset_app, mset_mset, fup_app, aup_app, fup_fup, aup_aup, false_and, and_false, true_and, and_true, and_self, reduceIte, Nat.reduceEqDiff, reduceCtorEq, show ¬ 3 * i + 1 = 3 * i by omega, show ¬ 3 * i + 2 = 3 * i by omega, show ¬ 3 * i + 2 = 3 * i + 1 by omega])
  refine g_aload_n F a_S_begin_24 rfl ?_
  refine g_get_1_3 F a_S_begin_25 fl_S_28 (by first | assumption | decide | omega) ?_
  (try simp only [mset_app, mset_mset, fup_app, aup_app, fup_fup, aup_aup, false_and, and_false, true_and, and_true, and_self, reduceIte, Nat.reduceEqDiff, reduceCtorEq, show ¬ 3 * i + 1 = 3 * i by omega, show ¬ 3 * i + 2 = 3 * i by omega, show ¬ 3 * i + 2 = 3 * i + 1 by omega])
  refine g_iconst F a_S_begin_28 ?_
  refine g_put_3_0 F a_S_begin_29 fl_S_45 (by first | assumption | decide | omega) ?_
  (try simp only [mset_app, mset_mset, fup_app, aup_app, fup_fup, aup_aup, false_and, and_false, true_and, and_true, and_self, reduceIte, Nat.reduceEqDiff, reduceCtorEq, show ¬ 3 * i + 1 = 3 * i by omega, show ¬ 3 * i + 2 = 3 * i by omega, show ¬ 3 * i + 2 = 3 * i + 1 by omega])
  refine g_aload_n F a_S_begin_32 rfl ?_
  refine g_get_1_4 F a_S_begin_33 fl_S_34 (by first | assumption | decide | omega) ?_
  (try simp only [mset_app, mset_mset, fup_app, aup_app, fup_fup, aup_aup, false_and, and_false, true_and, and_true, and_self, reduceIte, Nat.reduceEqDiff, reduceCtorEq, show ¬ 3 * i + 1 = 3 * i by omega, show ¬ 3 * i + 2 = 3 * i by omega, show ¬ 3 * i + 2 = 3 * i + 1 by omega])
  refine g_iconst F a_S_begin_36 ?_
  refine g_put_4_0 F a_S_begin_37 fl_S_48 (by first | assumption | decide | omega) ?_
  (try simp only [mset_app, mset_mset, fup_app, aup_app, fup_fup, aup_aup, false_and, and_false, true_and, and_true, and_self, reduceIte, Nat.reduceEqDiff, reduceCtorEq, show ¬ 3 * i + 1 = 3 * i by omega, show ¬ 3 * i + 2 = 3 * i by omega, show ¬ 3 * i + 2 = 3 * i + 1 by omega])
  refine g_ret F a_S_begin_40 rfl ⟨Nat.le_refl _, Nat.le_refl _⟩ ?_
  exact k
set_option maxHeartbeats 1000000 in
theorem sp_S_copy {κ : Kx} {Q : Option Value → (Heap → Prop) → Prop} {i j : Nat} {m : Mem} (hi : i < 3) (hj : j < 3) (hji : ¬ j = i) (k : Q none (World κ (mset (mset (mset (mset (mset m 2 i (m 2 j)) 3 (3 * i) (fup (m 3 (3 * i)).1 0 ((m 3 (3 * j)).1 0), (m 3 (3 * j)).2)) 3 (3 * i + 1) (fup (m 3 (3 * i + 1)).1 0 ((m 3 (3 * j + 1)).1 0), (m 3 (3 * j + 1)).2)) 3 (3 * i + 2) (fup (m 3 (3 * i + 2)).1 0 ((m 3 (3 * j + 2)).1 0), (m 3 (3 * j + 2)).2)) 4 i (m 4 j)))) : GG κ G_S_copy 2 0 0 [.ref (ad κ 1 i), .ref (ad κ 1 j)] (World κ m) Q := by
  refine GG.intro (ls := [some _, some _]) (Nat.le_of_ble_eq_true rfl) rfl (fun μ F => ?_)
  refine g_aload_n F a_S_copy_0 rfl ?_
  refine g_get_1_0 F a_S_copy_1 fl_S_10 (by first | assumption | decide | omega) ?_
  refine g_aload_n F a_S_copy_4 rfl ?_
  refine g_get_1_0 F a_S_copy_5 fl_S_10 (by first | assumption | decide | omega) ?_
  refine g_v1 F a_S_copy_8 vc_S_49 mk_H_copy (ob_2 (by first | assumption | decide | omega)) ck_2.1 rfl rfl (by decide) ⟨Nat.le_refl _, Nat.le_refl _⟩ rfl (Nat.le_of_ble_eq_true rfl) (sp_H_copy (by omega) (by omega) (by omega) (GCr.n ?_))
  (try simp only [mset_app, mset_mset, fup_app, aup_app, fup_fup, aup_aup, false_and, and_false, true_and, and_true, and_self, reduceIte, Nat.reduceEqDiff, reduceCtorEq, show ¬ 3 * i + 1 = 3 * i by omega, show ¬ 3 * i + 2 = 3 * i by omega, show ¬ 3 * i + 2 = 3 * i + 1 by omega, show ¬ 3 * j = 3 * i by omega, show ¬ 3 * j = 3 * i + 1 by omega, show ¬ 3 * j = 3 * i + 2 by omega, show ¬ 3 * j + 1 = 3 * i by omega, show ¬ 3 * j + 1 = 3 * i + 1 by omega, show ¬ 3 * j + 1 = 3 * i + 2 by omega, show ¬ 3 * j + 2 = 3 * i by omega, show ¬ 3 * j + 2 = 3 * i + 1 by omega, show ¬ 3 * j + 2 = 3 * i + 2 by omega])
  refine g_aload_n F a_S_copy_11 rfl ?_
  refine g_get_1_1 F a_S_copy_12 fl_S_21 (by first | assumption | decide | omega) ?_
  (try simp only [mset_app, mset_mset, fup_app, aup_app, fup_fup, aup_aup, false_and, and_false, true_and, and_true, and_self, reduceIte, Nat.reduceEqDiff, reduceCtorEq, show ¬ 3 * i + 1 = 3 * i by omega, show ¬ 3 * i + 2 = 3 * i by omega, show ¬ 3 * i + 2 = 3 * i + 1 by omega, show ¬ 3 * j = 3 * i by omega, show ¬ 3 * j = 3 * i + 1 by omega, show ¬ 3 * j = 3 * i + 2 by omega, show ¬ 3 * j + 1 = 3 * i by omega, show ¬ 3 * j + 1 = 3 * i + 1 by omega, show ¬ 3 * j + 1 = 3 * i + 2 by omega, show ¬ 3 * j + 2 = 3 * i by omega, show ¬ 3 * j + 2 = 3 * i + 1 by omega, show ¬ 3 * j + 2 = 3 * i + 2 by omega])
  refine g_aload_n F a_S_copy_15 rfl ?_
  refine g_get_1_1 F a_S_copy_16 fl_S_21 (by first | assumption | decide | omega) ?_
  (try simp only [mset_app, mset_mset, fup_app, aup_app, fup_fup, aup_aup, false_and, and_false, true_and, and_true, and_self, reduceIte, Nat.reduceEqDiff, reduceCtorEq, show ¬ 3 * i + 1 = 3 * i by omega, show ¬ 3 * i + 2 = 3 * i by omega, show ¬ 3 * i + 2 = 3 * i + 1 by omega, show ¬ 3 * j = 3 * i by omega, show ¬ 3 * j = 3 * i + 1 by omega, show ¬ 3 * j = 3 * i + 2 by omega, show ¬ 3 * j + 1 = 3 * i by omega, show ¬ 3 * j + 1 = 3 * i + 1 by omega, show ¬ 3 * j + 1 = 3 * i + 2 by omega, show ¬ 3 * j + 2 = 3 * i by omega, show ¬ 3 * j + 2 = 3 * i + 1 by omega, show ¬ 3 * j + 2 = 3 * i + 2 by omega])
  refine g_v1 F a_S_copy_19 vc_S_53 mk_R_copy (ob_3 (by first | assumption | decide | omega)) ck_3.1 rfl rfl (by decide) ⟨Nat.le_refl _, Nat.le_refl _⟩ rfl (Nat.le_of_ble_eq_true rfl) (sp_R_copy (by omega) (by omega) (by omega) (GCr.n ?_))
  (try simp only [mset_app, mset_mset, fup_app, aup_app, fup_fup, aup_aup, false_and, and_false, true_and, and_true, and_self, reduceIte, Nat.reduceEqDiff, reduceCtorEq, show ¬ 3 * i + 1 = 3 * i by omega, show ¬ 3 * i + 2 = 3 * i by omega, show ¬ 3 * i + 2 = 3 * i + 1 by omega, show ¬ 3 * j = 3 * i by omega, show ¬ 3 * j = 3 * i + 1 by omega, show ¬ 3 * j = 3 * i + 2 by omega, show ¬ 3 * j + 1 = 3 * i by omega, show ¬ 3 * j + 1 = 3 * i + 1 by omega, show ¬ 3 * j + 1 = 3 * i + 2 by omega, show ¬ 3 * j + 2 = 3 * i by omega, show ¬ 3 * j + 2 = 3 * i + 1 by omega, show ¬ 3 * j + 2 = 3 * i + 2 by omega])
  refine g_aload_n F a_S_copy_22 rfl ?_
  refine g_get_1_2 F a_S_copy_23 fl_S_25 (by first | assumption | decide | omega) ?_
  (try simp only [mset_app, mset_mset, fup_app, aup_app, fup_fup, aup_aup, false_and, and_false, true_and, and_true, and_self, reduceIte, Nat.reduceEqDiff, reduceCtorEq, show ¬ 3 * i + 1 = 3 * i by omega, show ¬ 3 * i + 2 = 3 * i by omega, show ¬ 3 * i + 2 = 3 * i + 1 by omega, show ¬ 3 * j = 3 * i by omega, show ¬ 3 * j = 3 * i + 1 by omega, show ¬ 3 * j = 3 * i + 2 by omega, show ¬ 3 * j + 1 = 3 * i by omega, show ¬ 3 * j + 1 = 3 * i + 1 by omega, show ¬ 3 * j + 1 = 3 * i + 2 by omega, show ¬ 3 * j + 2 = 3 * i by omega, show ¬ 3 * j + 2 = 3 * i + 1 by omega, show ¬ 3 * j + 2 = 3 * i + 2 by omega])
  refine g_aload_n F a_S_copy_26 rfl ?_
  refine g_get_1_2 F a_S_copy_27 fl_S_25 (by first | assumption | decide | omega) ?_
  (try simp only [mset_app, mset_mset, fup_app, aup_app, fup_fup, aup_aup, false_and, and_false, true_and, and_true, and_self, reduceIte, Nat.reduceEqDiff, reduceCtorEq, show ¬ 3 * i + 1 = 3 * i by omega, show ¬ 3 * i + 2 = 3 * i by omega, show ¬ 3 * i + 2 = 3 * i + 1 by omega, show ¬ 3 * j = 3 * i by omega, show ¬ 3 * j = 3 * i + 1 by omega, show ¬ 3 * j = 3 * i + 2 by omega, show ¬ 3 * j + 1 = 3 * i by omega, show ¬ 3 * j + 1 = 3 * i + 1 by omega, show ¬ 3 * j + 1 = 3 * i + 2 by omega, show ¬ 3 * j + 2 = 3 * i by omega, show ¬ 3 * j + 2 = 3 * i + 1 by omega, show ¬ 3 * j + 2 = 3 * i + 2 by omega])
  refine g_v1 F a_S_copy_30 vc_S_53 mk_R_copy (ob_3 (by first | assumption | decide | omega)) ck_3.1 rfl rfl (by decide) ⟨Nat.le_refl _, Nat.le_refl _⟩ rfl (Nat.le_of_ble_eq_true rfl) (sp_R_copy (by omega) (by omega) (by omega) (GCr.n ?_))
  (try simp only [mset_app, mset_mset, fup_app, aup_app, fup_fup, aup_aup, false_and, and_false, true_and, and_true, and_self, reduceIte, Nat.reduceEqDiff, reduceCtorEq, show ¬ 3 * i + 1 = 3 * i by omega, show ¬ 3 * i + 2 = 3 * i by omega, show ¬ 3 * i + 2 = 3 * i + 1 by omega, show ¬ 3 * j = 3 * i by omega, show ¬ 3 * j = 3 * i + 1 by omega, show ¬ 3 * j = 3 * i + 2 by omega, show ¬ 3 * j + 1 = 3 * i by omega, show ¬ 3 * j + 1 = 3 * i + 1 by omega, show ¬ 3 * j + 1 = 3 * i + 2 by omega, show ¬ 3 * j + 2 = 3 * i by omega, show ¬ 3 * j + 2 = 3 * i + 1 by omega, show ¬ 3 * j + 2 = 3 * i + 2 by omega])
  refine g_aload_n F a_S_copy_33 rfl ?_
  refine g_get_1_3 F a_S_copy_34 fl_S_28 (by first | assumption | decide | omega) ?_
  (try simp only [mset_app, mset_mset, fup_app, aup_app, fup_fup, aup_aup, false_and, and_false, true_and, and_true, and_self, reduceIte, Nat.reduceEqDiff, reduceCtorEq, show ¬ 3 * i + 1 = 3 * i by omega, show ¬ 3 * i + 2 = 3 * i by omega, show ¬ 3 * i + 2 = 3 * i + 1 by omega, show ¬ 3 * j = 3 * i by omega, show ¬ 3 * j = 3 * i + 1 by omega, show ¬ 3 * j = 3 * i + 2 by omega, show ¬ 3 * j + 1 = 3 * i by omega, show ¬ 3 * j + 1 = 3 * i + 1 by omega, show ¬ 3 * j + 1 = 3 * i + 2 by omega, show ¬ 3 * j + 2 = 3 * i by omega, show ¬ 3 * j + 2 = 3 * i + 1 by omega, show ¬ 3 * j + 2 = 3 * i + 2 by omega])
  refine g_aload_n F a_S_copy_37 rfl ?_
  refine g_get_1_3 F a_S_copy_38 fl_S_28 (by first | assumption | decide | omega) ?_
  (try simp only [mset_app, mset_mset, fup_app, aup_app, fup_fup, aup_aup, false_and, and_false, true_and, and_true, and_self, reduceIte, Nat.reduceEqDiff, reduceCtorEq, show ¬ 3 * i + 1 = 3 * i by omega, show ¬ 3 * i + 2 = 3 * i by omega, show ¬ 3 * i + 2 = 3 * i + 1 by omega, show ¬ 3 * j = 3 * i by omega, show ¬ 3 * j = 3 * i + 1 by omega, show ¬ 3 * j = 3 * i + 2 by omega, show ¬ 3 * j + 1 = 3 * i by omega, show ¬ 3 * j + 1 = 3 * i + 1 by omega, show ¬ 3 * j + 1 = 3 * i + 2 by omega, show ¬ 3 * j + 2 = 3 * i by omega, show ¬ 3 * j + 2 = 3 * i + 1 by omega, show ¬ 3 * j + 2 = 3 * i + 2 by omega])
  refine g_v1 F a_S_copy_41 vc_S_53 mk_R_copy (ob_3 (by first | assumption | decide | omega)) ck_3.1 rfl rfl (by decide) ⟨Nat.le_refl _, Nat.le_refl _⟩ rfl (Nat.le_of_ble_eq_true rfl) (sp_R_copy (by omega) (by omega) (by omega) (GCr.n ?_))
  (try simp only [mset_app, mset_mset, fup_app, aup_app, fup_fup, aup_aup, false_and, and_false, true_and, and_true, and_self, reduceIte, Nat.reduceEqDiff, reduceCtorEq, show ¬ 3 * i + 1 = 3 * i by omega, show ¬ 3 * i + 2 = 3 * i by omega, show ¬ 3 * i + 2 = 3 * i + 1 by omega, show ¬ 3 * j = 3 * i by omega, show ¬ 3 * j = 3 * i + 1 by omega, show ¬ 3 * j = 3 * i + 2 by omega, show ¬ 3 * j + 1 = 3 * i by omega, show ¬ 3 * j + 1 = 3 * i + 1 by omega, show ¬ 3 * j + 1 = 3 * i + 2 by omega, show ¬ 3 * j + 2 = 3 * i by omega, show ¬ 3 * j + 2 = 3 * i + 1 by omega, show ¬ 3 * j + 2 = 3 * i + 2 by omega])
  refine g_aload_n F a_S_copy_44 rfl ?_
  refine g_get_1_4 F a_S_copy_45 fl_S_34 (by first | assumption | decide | omega) ?_
  (try simp only [mset_app, mset_mset, fup_app, aup_app, fup_fup, aup_aup, false_and, and_false, true_and, and_true, and_self, reduceIte, Nat.reduceEqDiff, reduceCtorEq, show ¬ 3 * i + 1 = 3 * i by omega, show ¬ 3 * i + 2 = 3 * i by omega, show ¬ 3 * i + 2 = 3 * i + 1 by omega, show ¬ 3 * j = 3 * i by omega, show ¬ 3 * j = 3 * i + 1 by omega, show ¬ 3 * j = 3 * i + 2 by omega, show ¬ 3 * j + 1 = 3 * i by omega, show ¬ 3 * j + 1 = 3 * i + 1 by omega, show ¬ 3 * j + 1 = 3 * i + 2 by omega, show ¬ 3 * j + 2 = 3 * i by omega, show ¬ 3 * j + 2 = 3 * i + 1 by omega, show ¬ 3 * j + 2 = 3 * i + 2 by omega])
  refine g_aload_n F a_S_copy_48 rfl ?_
  refine g_get_1_4 F a_S_copy_49 fl_S_34 (by first | assumption | decide | omega) ?_
  (try simp only [mset_app, mset_mset, fup_app, aup_app, fup_fup, aup_aup, false_and, and_false, true_and, and_true, and_self, reduceIte, Nat.reduceEqDiff, reduceCtorEq, show ¬ 3 * i + 1 = 3 * i by omega, show ¬ 3 * i + 2 = 3 * i by omega, show ¬ 3 * i + 2 = 3 * i + 1 by omega, show ¬ 3 * j = 3 * i by omega, show ¬ 3 * j = 3 * i + 1 by omega, show ¬ 3 * j = 3 * i + 2 by omega, show ¬ 3 * j + 1 = 3 * i by omega, show ¬ 3 * j + 1 = 3 * i + 1 by omega, show ¬ 3 * j + 1 = 3 * i + 2 by omega, show ¬ 3 * j + 2 = 3 * i by omega, show ¬ 3 * j + 2 = 3 * i + 1 by omega, show ¬ 3 * j + 2 = 3 * i + 2 by omega])
  refine g_v1 F a_S_copy_52 vc_S_56 mk_P_copy (ob_4 (by first | assumption | decide | omega)) ck_4.1 rfl rfl (by decide) ⟨Nat.le_refl _, Nat.le_refl _⟩ rfl (Nat.le_of_ble_eq_true rfl) (sp_P_copy (by omega) (by omega) (by omega) (GCr.n ?_))
  (try simp only [mset_app, mset_mset, fup_app, aup_app, fup_fup, aup_aup, false_and, and_false, true_and, and_true, and_self, reduceIte, Nat.reduceEqDiff, reduceCtorEq, show ¬ 3 * i + 1 = 3 * i by omega, show ¬ 3 * i + 2 = 3 * i by omega, show ¬ 3 * i + 2 = 3 * i + 1 by omega, show ¬ 3 * j = 3 * i by omega, show ¬ 3 * j = 3 * i + 1 by omega, show ¬ 3 * j = 3 * i + 2 by omega, show ¬ 3 * j + 1 = 3 * i by omega, show ¬ 3 * j + 1 = 3 * i + 1 by omega, show ¬ 3 * j + 1 = 3 * i + 2 by omega, show ¬ 3 * j + 2 = 3 * i by omega, show ¬ 3 * j + 2 = 3 * i + 1 by omega, show ¬ 3 * j + 2 = 3 * i + 2 by omega])
  refine g_ret F a_S_copy_55 rfl ⟨Nat.le_refl _, Nat.le_refl _⟩ ?_
  exact k
