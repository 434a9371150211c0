def bM (κ : Kx) (i : Nat) : List va_E := (.inr (10, [.ref (kb κ + (i + 1)), vi 0, vi 0, vi 0, vi 0, vi 0, vi 0, vi 0, vi 0, vi 0, .ref (kb κ + (i + 2)), .ref (kb κ + (i + 3)), .ref (kb κ + (i + 4)), .ref (kb κ + (i + 5)), .ref (kb κ + (i + 6)), .ref (kb κ + (i + 7)), .ref (kb κ + (i + 8)), .ref (kb κ + (i + 9)), vi 0, vi 0, vi 0, .ref (kb κ + (i + 10)), .ref (kb κ + (i + 11)), vi 0, .ref (kb κ + (i + 12)), vl 0, vl 1, .ref (kb κ + (i + 13)), .ref (kb κ + (i + 14)), vl 0]) :: (izA κ 3 :: (izA κ 6 :: (izA κ 6 :: (izA κ 3 :: (izA κ 6 :: (izA κ 18 :: (izA κ 24 :: (izA κ 24 :: (izA κ 150 :: (izA κ 180 :: (izA κ 72 :: (izA κ 9 :: (izA κ 360 :: (izA κ 2 :: [])))))))))))))))
def m0 : Mem := fun c i => (fun k => if c = 2 ∧ k = 2 ∧ i < 3 then 5 else if c = 3 ∧ k = 1 then (if i % 3 = 0 then 3 else 4) else if c = 9 ∧ k = 1 then 1 else if c = 10 ∧ k = 26 then 1 else 0, fun _ _ => 0)
theorem ofFn_q {cA : ClassId} {n : Nat} {f g : Nat → Option Nat} (h : ∀ k : Nat, k < n → f k = g k) : vp_cell cA (n, .inr (.inr (.inr (.inr f)))) = vp_cell cA (n, .inr (.inr (.inr (.inr g)))) := by
  rw [vp_cell_q, vp_cell_q]
  unfold arrV
  congr 2
  funext k
  show va_rf (f k.1) = va_rf (g k.1)
  rw [h k.1 k.2]
theorem GC.wk2 {κ : Kx} {μ : MX} {Z : State → Prop} {kc ks pc : Nat} {ls : List (Option Value)} {st : List Value} {P P' : Heap → Prop} (h : ∀ H : Heap, P H → P' H) (k : GC κ μ Z kc ks pc ls st P') : GC κ μ Z kc ks pc ls st P := fun H locs la hS hP hl => k H locs la hS (h H hP) hl
set_option maxHeartbeats 8000000 in
set_option maxRecDepth 20000 in
theorem made_at {κ : Kx} {H : Heap} (hP : LW κ (bA κ 0 ++ bM κ 87) H) : ∀ k : Nat, k < 102 → va_at (kD κ) classes (kb κ + k, cellAt κ m0 k) H := by
  intro k hk
  match k, hk with
  | 0, _ => exact hP.2 0 _ rfl
  | 1, _ => exact hP.2 1 _ rfl
  | 2, _ => exact hP.2 2 _ rfl
  | 3, _ => exact hP.2 3 _ rfl
  | 4, _ => exact hP.2 4 _ rfl
  | 5, _ => exact hP.2 5 _ rfl
  | 6, _ => exact hP.2 6 _ rfl
  | 7, _ => exact hP.2 7 _ rfl
  | 8, _ => exact hP.2 8 _ rfl
  | 9, _ => exact hP.2 9 _ rfl
  | 10, _ => exact hP.2 10 _ rfl
  | 11, _ => exact hP.2 11 _ rfl
  | 12, _ => exact hP.2 12 _ rfl
  | 13, _ => exact hP.2 13 _ rfl
  | 14, _ => exact hP.2 14 _ rfl
  | 15, _ => 
    have h := hP.2 15 _ rfl
    refine h.trans (congrArg some (ofFn_q (cA := kS κ) (n := 2) (fun j hj => ?_)))
    match j, hj with
    | 0, _ => rfl
    | 1, _ => rfl
  | 16, _ => exact hP.2 16 _ rfl
  | 17, _ => exact hP.2 17 _ rfl
  | 18, _ => exact hP.2 18 _ rfl
  | 19, _ => exact hP.2 19 _ rfl
  | 20, _ => exact hP.2 20 _ rfl
  | 21, _ => exact hP.2 21 _ rfl
  | 22, _ => exact hP.2 22 _ rfl
  | 23, _ => exact hP.2 23 _ rfl
  | 24, _ => exact hP.2 24 _ rfl
  | 25, _ => exact hP.2 25 _ rfl
  | 26, _ => 
    have h := hP.2 26 _ rfl
    refine h.trans (congrArg some (ofFn_q (cA := kH κ) (n := 5) (fun j hj => ?_)))
    match j, hj with
    | 0, _ => rfl
    | 1, _ => rfl
    | 2, _ => rfl
    | 3, _ => rfl
    | 4, _ => rfl
  | 27, _ => exact hP.2 27 _ rfl
  | 28, _ => exact hP.2 28 _ rfl
  | 29, _ => exact hP.2 29 _ rfl
  | 30, _ => exact hP.2 30 _ rfl
  | 31, _ => exact hP.2 31 _ rfl
  | 32, _ => exact hP.2 32 _ rfl
  | 33, _ => exact hP.2 33 _ rfl
  | 34, _ => exact hP.2 34 _ rfl
  | 35, _ => exact hP.2 35 _ rfl
  | 36, _ => exact hP.2 36 _ rfl
  | 37, _ => exact hP.2 37 _ rfl
  | 38, _ => exact hP.2 38 _ rfl
  | 39, _ => exact hP.2 39 _ rfl
  | 40, _ => exact hP.2 40 _ rfl
  | 41, _ => exact hP.2 41 _ rfl
  | 42, _ => exact hP.2 42 _ rfl
  | 43, _ => exact hP.2 43 _ rfl
  | 44, _ => exact hP.2 44 _ rfl
  | 45, _ => exact hP.2 45 _ rfl
  | 46, _ => exact hP.2 46 _ rfl
  | 47, _ => exact hP.2 47 _ rfl
  | 48, _ => exact hP.2 48 _ rfl
  | 49, _ => exact hP.2 49 _ rfl
  | 50, _ => exact hP.2 50 _ rfl
  | 51, _ => exact hP.2 51 _ rfl
  | 52, _ => exact hP.2 52 _ rfl
  | 53, _ => exact hP.2 53 _ rfl
  | 54, _ => exact hP.2 54 _ rfl
  | 55, _ => exact hP.2 55 _ rfl
  | 56, _ => exact hP.2 56 _ rfl
  | 57, _ => exact hP.2 57 _ rfl
  | 58, _ => exact hP.2 58 _ rfl
  | 59, _ => exact hP.2 59 _ rfl
  | 60, _ => exact hP.2 60 _ rfl
  | 61, _ => exact hP.2 61 _ rfl
  | 62, _ => exact hP.2 62 _ rfl
  | 63, _ => exact hP.2 63 _ rfl
  | 64, _ => exact hP.2 64 _ rfl
  | 65, _ => exact hP.2 65 _ rfl
  | 66, _ => exact hP.2 66 _ rfl
  | 67, _ => exact hP.2 67 _ rfl
  | 68, _ => exact hP.2 68 _ rfl
  | 69, _ => exact hP.2 69 _ rfl
  | 70, _ => exact hP.2 70 _ rfl
  | 71, _ => exact hP.2 71 _ rfl
  | 72, _ => exact hP.2 72 _ rfl
  | 73, _ => exact hP.2 73 _ rfl
  | 74, _ => exact hP.2 74 _ rfl
  | 75, _ => exact hP.2 75 _ rfl
  | 76, _ => exact hP.2 76 _ rfl
  | 77, _ => exact hP.2 77 _ rfl
  | 78, _ => exact hP.2 78 _ rfl
  | 79, _ => exact hP.2 79 _ rfl
  | 80, _ => exact hP.2 80 _ rfl
  | 81, _ => exact hP.2 81 _ rfl
  | 82, _ => exact hP.2 82 _ rfl
  | 83, _ => exact hP.2 83 _ rfl
  | 84, _ => exact hP.2 84 _ rfl
  | 85, _ => exact hP.2 85 _ rfl
  | 86, _ => exact hP.2 86 _ rfl
  | 87, _ => exact hP.2 87 _ rfl
  | 88, _ => exact hP.2 88 _ rfl
  | 89, _ => exact hP.2 89 _ rfl
  | 90, _ => exact hP.2 90 _ rfl
  | 91, _ => exact hP.2 91 _ rfl
  | 92, _ => exact hP.2 92 _ rfl
  | 93, _ => exact hP.2 93 _ rfl
  | 94, _ => exact hP.2 94 _ rfl
  | 95, _ => exact hP.2 95 _ rfl
  | 96, _ => exact hP.2 96 _ rfl
  | 97, _ => exact hP.2 97 _ rfl
  | 98, _ => exact hP.2 98 _ rfl
  | 99, _ => exact hP.2 99 _ rfl
  | 100, _ => exact hP.2 100 _ rfl
  | 101, _ => exact hP.2 101 _ rfl
  | n + 102, h => exact absurd h (by omega)
theorem made_ok {κ : Kx} {H : Heap} (hP : LW κ (bA κ 0 ++ bM κ 87) H) : World κ m0 H := by
  intro k q hk
  by_cases h : k < 102
  · rw [wl_at h] at hk
    cases hk
    exact made_at hP k h
  · rw [List.getElem?_eq_none (by simpa [wl] using h)] at hk
    cases hk
def m1 : Mem := mset m0 10 0 (bgM 5 (m0 10 0))
set_option maxHeartbeats 8000000 in
set_option maxRecDepth 20000 in
theorem co_M_init {κ : Kx} {pre : List va_E} {Q : Option Value → (Heap → Prop) → Prop} (hpre : pre = bA κ 0) (k : Q none (World κ m1)) : GG κ G_M_init 1 14 863 [.ref (kb κ + pre.length)] (LW κ (pre ++ [.inr (10, [.null, vi 0, vi 0, vi 0, vi 0, vi 0, vi 0, vi 0, vi 0, vi 0, .null, .null, .null, .null, .null, .null, .null, .null, vi 0, vi 0, vi 0, .null, .null, vi 0, .null, vl 0, vl 0, .null, .null, vl 0])])) Q := by
  refine GG.intro (ls := [some _]) (Nat.le_of_ble_eq_true rfl) rfl (fun μ F => ?_)
  show GC κ μ _ 0 0 0 _ _ (LW κ (pre ++ (.inr (10, [.null, vi 0, vi 0, vi 0, vi 0, vi 0, vi 0, vi 0, vi 0, vi 0, .null, .null, .null, .null, .null, .null, .null, .null, vi 0, vi 0, vi 0, .null, .null, vi 0, .null, vl 0, vl 0, .null, .null, vl 0]) :: [])))
  refine g_aload_n F a_M_init_0 rfl ?_
  refine g_objInit F a_M_init_1 oi_M rfl (by decide) (Nat.le_of_ble_eq_true rfl) ?_
  refine g_aload_n F a_M_init_4 rfl ?_
  refine g_iconst F a_M_init_5 ?_
  refine g_newIP (z := 3) (n := 1) (l' := (.inr (10, [.null, vi 0, vi 0, vi 0, vi 0, vi 0, vi 0, vi 0, vi 0, vi 0, .null, .null, .null, .null, .null, .null, .null, .null, vi 0, vi 0, vi 0, .null, .null, vi 0, .null, vl 0, vl 0, .null, .null, vl 0]) :: (izA κ 3 :: []))) F a_M_init_6 rfl (by decide) (by decide) rfl rfl ?_
  refine g_putP (j0 := 0) (l' := (.inr (10, [.ref (kb κ + (pre.length + 1)), vi 0, vi 0, vi 0, vi 0, vi 0, vi 0, vi 0, vi 0, vi 0, .null, .null, .null, .null, .null, .null, .null, .null, vi 0, vi 0, vi 0, .null, .null, vi 0, .null, vl 0, vl 0, .null, .null, vl 0]) :: (izA κ 3 :: []))) F a_M_init_8 fl_M_1 ck_10 rfl (Or.inr ⟨rfl, rfl, rfl⟩) rfl rfl (Nat.le_of_ble_eq_true rfl) rfl ?_
  refine g_aload_n F a_M_init_11 rfl ?_
  refine g_bipush F a_M_init_12 (by decide) ?_
  refine g_newIP (z := 6) (n := 2) (l' := (.inr (10, [.ref (kb κ + (pre.length + 1)), vi 0, vi 0, vi 0, vi 0, vi 0, vi 0, vi 0, vi 0, vi 0, .null, .null, .null, .null, .null, .null, .null, .null, vi 0, vi 0, vi 0, .null, .null, vi 0, .null, vl 0, vl 0, .null, .null, vl 0]) :: (izA κ 3 :: (izA κ 6 :: [])))) F a_M_init_14 rfl (by decide) (by decide) rfl rfl ?_
  refine g_putP (j0 := 0) (l' := (.inr (10, [.ref (kb κ + (pre.length + 1)), vi 0, vi 0, vi 0, vi 0, vi 0, vi 0, vi 0, vi 0, vi 0, .ref (kb κ + (pre.length + 2)), .null, .null, .null, .null, .null, .null, .null, vi 0, vi 0, vi 0, .null, .null, vi 0, .null, vl 0, vl 0, .null, .null, vl 0]) :: (izA κ 3 :: (izA κ 6 :: [])))) F a_M_init_16 fl_M_13 ck_10 rfl (Or.inr ⟨rfl, rfl, rfl⟩) rfl rfl (Nat.le_of_ble_eq_true rfl) rfl ?_
  refine g_aload_n F a_M_init_19 rfl ?_
  refine g_bipush F a_M_init_20 (by decide) ?_
  refine g_newIP (z := 6) (n := 3) (l' := (.inr (10, [.ref (kb κ + (pre.length + 1)), vi 0, vi 0, vi 0, vi 0, vi 0, vi 0, vi 0, vi 0, vi 0, .ref (kb κ + (pre.length + 2)), .null, .null, .null, .null, .null, .null, .null, vi 0, vi 0, vi 0, .null, .null, vi 0, .null, vl 0, vl 0, .null, .null, vl 0]) :: (izA κ 3 :: (izA κ 6 :: (izA κ 6 :: []))))) F a_M_init_22 rfl (by decide) (by decide) rfl rfl ?_
  refine g_putP (j0 := 0) (l' := (.inr (10, [.ref (kb κ + (pre.length + 1)), vi 0, vi 0, vi 0, vi 0, vi 0, vi 0, vi 0, vi 0, vi 0, .ref (kb κ + (pre.length + 2)), .ref (kb κ + (pre.length + 3)), .null, .null, .null, .null, .null, .null, vi 0, vi 0, vi 0, .null, .null, vi 0, .null, vl 0, vl 0, .null, .null, vl 0]) :: (izA κ 3 :: (izA κ 6 :: (izA κ 6 :: []))))) F a_M_init_24 fl_M_16 ck_10 rfl (Or.inr ⟨rfl, rfl, rfl⟩) rfl rfl (Nat.le_of_ble_eq_true rfl) rfl ?_
  refine g_aload_n F a_M_init_27 rfl ?_
  refine g_iconst F a_M_init_28 ?_
  refine g_newIP (z := 3) (n := 4) (l' := (.inr (10, [.ref (kb κ + (pre.length + 1)), vi 0, vi 0, vi 0, vi 0, vi 0, vi 0, vi 0, vi 0, vi 0, .ref (kb κ + (pre.length + 2)), .ref (kb κ + (pre.length + 3)), .null, .null, .null, .null, .null, .null, vi 0, vi 0, vi 0, .null, .null, vi 0, .null, vl 0, vl 0, .null, .null, vl 0]) :: (izA κ 3 :: (izA κ 6 :: (izA κ 6 :: (izA κ 3 :: [])))))) F a_M_init_29 rfl (by decide) (by decide) rfl rfl ?_
  refine g_putP (j0 := 0) (l' := (.inr (10, [.ref (kb κ + (pre.length + 1)), vi 0, vi 0, vi 0, vi 0, vi 0, vi 0, vi 0, vi 0, vi 0, .ref (kb κ + (pre.length + 2)), .ref (kb κ + (pre.length + 3)), .ref (kb κ + (pre.length + 4)), .null, .null, .null, .null, .null, vi 0, vi 0, vi 0, .null, .null, vi 0, .null, vl 0, vl 0, .null, .null, vl 0]) :: (izA κ 3 :: (izA κ 6 :: (izA κ 6 :: (izA κ 3 :: [])))))) F a_M_init_31 fl_M_19 ck_10 rfl (Or.inr ⟨rfl, rfl, rfl⟩) rfl rfl (Nat.le_of_ble_eq_true rfl) rfl ?_
  refine g_aload_n F a_M_init_34 rfl ?_
  refine g_bipush F a_M_init_35 (by decide) ?_
  refine g_newIP (z := 6) (n := 5) (l' := (.inr (10, [.ref (kb κ + (pre.length + 1)), vi 0, vi 0, vi 0, vi 0, vi 0, vi 0, vi 0, vi 0, vi 0, .ref (kb κ + (pre.length + 2)), .ref (kb κ + (pre.length + 3)), .ref (kb κ + (pre.length + 4)), .null, .null, .null, .null, .null, vi 0, vi 0, vi 0, .null, .null, vi 0, .null, vl 0, vl 0, .null, .null, vl 0]) :: (izA κ 3 :: (izA κ 6 :: (izA κ 6 :: (izA κ 3 :: (izA κ 6 :: []))))))) F a_M_init_37 rfl (by decide) (by decide) rfl rfl ?_
  refine g_putP (j0 := 0) (l' := (.inr (10, [.ref (kb κ + (pre.length + 1)), vi 0, vi 0, vi 0, vi 0, vi 0, vi 0, vi 0, vi 0, vi 0, .ref (kb κ + (pre.length + 2)), .ref (kb κ + (pre.length + 3)), .ref (kb κ + (pre.length + 4)), .ref (kb κ + (pre.length + 5)), .null, .null, .null, .null, vi 0, vi 0, vi 0, .null, .null, vi 0, .null, vl 0, vl 0, .null, .null, vl 0]) :: (izA κ 3 :: (izA κ 6 :: (izA κ 6 :: (izA κ 3 :: (izA κ 6 :: []))))))) F a_M_init_39 fl_M_22 ck_10 rfl (Or.inr ⟨rfl, rfl, rfl⟩) rfl rfl (Nat.le_of_ble_eq_true rfl) rfl ?_
  refine g_aload_n F a_M_init_42 rfl ?_
  refine g_bipush F a_M_init_43 (by decide) ?_
  refine g_newIP (z := 18) (n := 6) (l' := (.inr (10, [.ref (kb κ + (pre.length + 1)), vi 0, vi 0, vi 0, vi 0, vi 0, vi 0, vi 0, vi 0, vi 0, .ref (kb κ + (pre.length + 2)), .ref (kb κ + (pre.length + 3)), .ref (kb κ + (pre.length + 4)), .ref (kb κ + (pre.length + 5)), .null, .null, .null, .null, vi 0, vi 0, vi 0, .null, .null, vi 0, .null, vl 0, vl 0, .null, .null, vl 0]) :: (izA κ 3 :: (izA κ 6 :: (izA κ 6 :: (izA κ 3 :: (izA κ 6 :: (izA κ 18 :: [])))))))) F a_M_init_45 rfl (by decide) (by decide) rfl rfl ?_
  refine g_putP (j0 := 0) (l' := (.inr (10, [.ref (kb κ + (pre.length + 1)), vi 0, vi 0, vi 0, vi 0, vi 0, vi 0, vi 0, vi 0, vi 0, .ref (kb κ + (pre.length + 2)), .ref (kb κ + (pre.length + 3)), .ref (kb κ + (pre.length + 4)), .ref (kb κ + (pre.length + 5)), .ref (kb κ + (pre.length + 6)), .null, .null, .null, vi 0, vi 0, vi 0, .null, .null, vi 0, .null, vl 0, vl 0, .null, .null, vl 0]) :: (izA κ 3 :: (izA κ 6 :: (izA κ 6 :: (izA κ 3 :: (izA κ 6 :: (izA κ 18 :: [])))))))) F a_M_init_47 fl_M_25 ck_10 rfl (Or.inr ⟨rfl, rfl, rfl⟩) rfl rfl (Nat.le_of_ble_eq_true rfl) rfl ?_
  refine g_aload_n F a_M_init_50 rfl ?_
  refine g_bipush F a_M_init_51 (by decide) ?_
  refine g_newIP (z := 24) (n := 7) (l' := (.inr (10, [.ref (kb κ + (pre.length + 1)), vi 0, vi 0, vi 0, vi 0, vi 0, vi 0, vi 0, vi 0, vi 0, .ref (kb κ + (pre.length + 2)), .ref (kb κ + (pre.length + 3)), .ref (kb κ + (pre.length + 4)), .ref (kb κ + (pre.length + 5)), .ref (kb κ + (pre.length + 6)), .null, .null, .null, vi 0, vi 0, vi 0, .null, .null, vi 0, .null, vl 0, vl 0, .null, .null, vl 0]) :: (izA κ 3 :: (izA κ 6 :: (izA κ 6 :: (izA κ 3 :: (izA κ 6 :: (izA κ 18 :: (izA κ 24 :: []))))))))) F a_M_init_53 rfl (by decide) (by decide) rfl rfl ?_
  refine g_putP (j0 := 0) (l' := (.inr (10, [.ref (kb κ + (pre.length + 1)), vi 0, vi 0, vi 0, vi 0, vi 0, vi 0, vi 0, vi 0, vi 0, .ref (kb κ + (pre.length + 2)), .ref (kb κ + (pre.length + 3)), .ref (kb κ + (pre.length + 4)), .ref (kb κ + (pre.length + 5)), .ref (kb κ + (pre.length + 6)), .ref (kb κ + (pre.length + 7)), .null, .null, vi 0, vi 0, vi 0, .null, .null, vi 0, .null, vl 0, vl 0, .null, .null, vl 0]) :: (izA κ 3 :: (izA κ 6 :: (izA κ 6 :: (izA κ 3 :: (izA κ 6 :: (izA κ 18 :: (izA κ 24 :: []))))))))) F a_M_init_55 fl_M_28 ck_10 rfl (Or.inr ⟨rfl, rfl, rfl⟩) rfl rfl (Nat.le_of_ble_eq_true rfl) rfl ?_
  refine g_aload_n F a_M_init_58 rfl ?_
  refine g_bipush F a_M_init_59 (by decide) ?_
  refine g_newIP (z := 24) (n := 8) (l' := (.inr (10, [.ref (kb κ + (pre.length + 1)), vi 0, vi 0, vi 0, vi 0, vi 0, vi 0, vi 0, vi 0, vi 0, .ref (kb κ + (pre.length + 2)), .ref (kb κ + (pre.length + 3)), .ref (kb κ + (pre.length + 4)), .ref (kb κ + (pre.length + 5)), .ref (kb κ + (pre.length + 6)), .ref (kb κ + (pre.length + 7)), .null, .null, vi 0, vi 0, vi 0, .null, .null, vi 0, .null, vl 0, vl 0, .null, .null, vl 0]) :: (izA κ 3 :: (izA κ 6 :: (izA κ 6 :: (izA κ 3 :: (izA κ 6 :: (izA κ 18 :: (izA κ 24 :: (izA κ 24 :: [])))))))))) F a_M_init_61 rfl (by decide) (by decide) rfl rfl ?_
  refine g_putP (j0 := 0) (l' := (.inr (10, [.ref (kb κ + (pre.length + 1)), vi 0, vi 0, vi 0, vi 0, vi 0, vi 0, vi 0, vi 0, vi 0, .ref (kb κ + (pre.length + 2)), .ref (kb κ + (pre.length + 3)), .ref (kb κ + (pre.length + 4)), .ref (kb κ + (pre.length + 5)), .ref (kb κ + (pre.length + 6)), .ref (kb κ + (pre.length + 7)), .ref (kb κ + (pre.length + 8)), .null, vi 0, vi 0, vi 0, .null, .null, vi 0, .null, vl 0, vl 0, .null, .null, vl 0]) :: (izA κ 3 :: (izA κ 6 :: (izA κ 6 :: (izA κ 3 :: (izA κ 6 :: (izA κ 18 :: (izA κ 24 :: (izA κ 24 :: [])))))))))) F a_M_init_63 fl_M_31 ck_10 rfl (Or.inr ⟨rfl, rfl, rfl⟩) rfl rfl (Nat.le_of_ble_eq_true rfl) rfl ?_
  refine g_aload_n F a_M_init_66 rfl ?_
  refine g_sipush F a_M_init_67 (by decide) ?_
  refine g_newIP (z := 150) (n := 9) (l' := (.inr (10, [.ref (kb κ + (pre.length + 1)), vi 0, vi 0, vi 0, vi 0, vi 0, vi 0, vi 0, vi 0, vi 0, .ref (kb κ + (pre.length + 2)), .ref (kb κ + (pre.length + 3)), .ref (kb κ + (pre.length + 4)), .ref (kb κ + (pre.length + 5)), .ref (kb κ + (pre.length + 6)), .ref (kb κ + (pre.length + 7)), .ref (kb κ + (pre.length + 8)), .null, vi 0, vi 0, vi 0, .null, .null, vi 0, .null, vl 0, vl 0, .null, .null, vl 0]) :: (izA κ 3 :: (izA κ 6 :: (izA κ 6 :: (izA κ 3 :: (izA κ 6 :: (izA κ 18 :: (izA κ 24 :: (izA κ 24 :: (izA κ 150 :: []))))))))))) F a_M_init_70 rfl (by decide) (by decide) rfl rfl ?_
  refine g_putP (j0 := 0) (l' := (.inr (10, [.ref (kb κ + (pre.length + 1)), vi 0, vi 0, vi 0, vi 0, vi 0, vi 0, vi 0, vi 0, vi 0, .ref (kb κ + (pre.length + 2)), .ref (kb κ + (pre.length + 3)), .ref (kb κ + (pre.length + 4)), .ref (kb κ + (pre.length + 5)), .ref (kb κ + (pre.length + 6)), .ref (kb κ + (pre.length + 7)), .ref (kb κ + (pre.length + 8)), .ref (kb κ + (pre.length + 9)), vi 0, vi 0, vi 0, .null, .null, vi 0, .null, vl 0, vl 0, .null, .null, vl 0]) :: (izA κ 3 :: (izA κ 6 :: (izA κ 6 :: (izA κ 3 :: (izA κ 6 :: (izA κ 18 :: (izA κ 24 :: (izA κ 24 :: (izA κ 150 :: []))))))))))) F a_M_init_72 fl_M_34 ck_10 rfl (Or.inr ⟨rfl, rfl, rfl⟩) rfl rfl (Nat.le_of_ble_eq_true rfl) rfl ?_
  refine g_aload_n F a_M_init_75 rfl ?_
  refine g_sipush F a_M_init_76 (by decide) ?_
  refine g_newIP (z := 180) (n := 10) (l' := (.inr (10, [.ref (kb κ + (pre.length + 1)), vi 0, vi 0, vi 0, vi 0, vi 0, vi 0, vi 0, vi 0, vi 0, .ref (kb κ + (pre.length + 2)), .ref (kb κ + (pre.length + 3)), .ref (kb κ + (pre.length + 4)), .ref (kb κ + (pre.length + 5)), .ref (kb κ + (pre.length + 6)), .ref (kb κ + (pre.length + 7)), .ref (kb κ + (pre.length + 8)), .ref (kb κ + (pre.length + 9)), vi 0, vi 0, vi 0, .null, .null, vi 0, .null, vl 0, vl 0, .null, .null, vl 0]) :: (izA κ 3 :: (izA κ 6 :: (izA κ 6 :: (izA κ 3 :: (izA κ 6 :: (izA κ 18 :: (izA κ 24 :: (izA κ 24 :: (izA κ 150 :: (izA κ 180 :: [])))))))))))) F a_M_init_79 rfl (by decide) (by decide) rfl rfl ?_
  refine g_putP (j0 := 0) (l' := (.inr (10, [.ref (kb κ + (pre.length + 1)), vi 0, vi 0, vi 0, vi 0, vi 0, vi 0, vi 0, vi 0, vi 0, .ref (kb κ + (pre.length + 2)), .ref (kb κ + (pre.length + 3)), .ref (kb κ + (pre.length + 4)), .ref (kb κ + (pre.length + 5)), .ref (kb κ + (pre.length + 6)), .ref (kb κ + (pre.length + 7)), .ref (kb κ + (pre.length + 8)), .ref (kb κ + (pre.length + 9)), vi 0, vi 0, vi 0, .ref (kb κ + (pre.length + 10)), .null, vi 0, .null, vl 0, vl 0, .null, .null, vl 0]) :: (izA κ 3 :: (izA κ 6 :: (izA κ 6 :: (izA κ 3 :: (izA κ 6 :: (izA κ 18 :: (izA κ 24 :: (izA κ 24 :: (izA κ 150 :: (izA κ 180 :: [])))))))))))) F a_M_init_81 fl_M_37 ck_10 rfl (Or.inr ⟨rfl, rfl, rfl⟩) rfl rfl (Nat.le_of_ble_eq_true rfl) rfl ?_
  refine g_aload_n F a_M_init_84 rfl ?_
  refine g_bipush F a_M_init_85 (by decide) ?_
  refine g_newIP (z := 72) (n := 11) (l' := (.inr (10, [.ref (kb κ + (pre.length + 1)), vi 0, vi 0, vi 0, vi 0, vi 0, vi 0, vi 0, vi 0, vi 0, .ref (kb κ + (pre.length + 2)), .ref (kb κ + (pre.length + 3)), .ref (kb κ + (pre.length + 4)), .ref (kb κ + (pre.length + 5)), .ref (kb κ + (pre.length + 6)), .ref (kb κ + (pre.length + 7)), .ref (kb κ + (pre.length + 8)), .ref (kb κ + (pre.length + 9)), vi 0, vi 0, vi 0, .ref (kb κ + (pre.length + 10)), .null, vi 0, .null, vl 0, vl 0, .null, .null, vl 0]) :: (izA κ 3 :: (izA κ 6 :: (izA κ 6 :: (izA κ 3 :: (izA κ 6 :: (izA κ 18 :: (izA κ 24 :: (izA κ 24 :: (izA κ 150 :: (izA κ 180 :: (izA κ 72 :: []))))))))))))) F a_M_init_87 rfl (by decide) (by decide) rfl rfl ?_
  refine g_putP (j0 := 0) (l' := (.inr (10, [.ref (kb κ + (pre.length + 1)), vi 0, vi 0, vi 0, vi 0, vi 0, vi 0, vi 0, vi 0, vi 0, .ref (kb κ + (pre.length + 2)), .ref (kb κ + (pre.length + 3)), .ref (kb κ + (pre.length + 4)), .ref (kb κ + (pre.length + 5)), .ref (kb κ + (pre.length + 6)), .ref (kb κ + (pre.length + 7)), .ref (kb κ + (pre.length + 8)), .ref (kb κ + (pre.length + 9)), vi 0, vi 0, vi 0, .ref (kb κ + (pre.length + 10)), .ref (kb κ + (pre.length + 11)), vi 0, .null, vl 0, vl 0, .null, .null, vl 0]) :: (izA κ 3 :: (izA κ 6 :: (izA κ 6 :: (izA κ 3 :: (izA κ 6 :: (izA κ 18 :: (izA κ 24 :: (izA κ 24 :: (izA κ 150 :: (izA κ 180 :: (izA κ 72 :: []))))))))))))) F a_M_init_89 fl_M_40 ck_10 rfl (Or.inr ⟨rfl, rfl, rfl⟩) rfl rfl (Nat.le_of_ble_eq_true rfl) rfl ?_
  refine g_aload_n F a_M_init_92 rfl ?_
  refine g_bipush F a_M_init_93 (by decide) ?_
  refine g_newIP (z := 9) (n := 12) (l' := (.inr (10, [.ref (kb κ + (pre.length + 1)), vi 0, vi 0, vi 0, vi 0, vi 0, vi 0, vi 0, vi 0, vi 0, .ref (kb κ + (pre.length + 2)), .ref (kb κ + (pre.length + 3)), .ref (kb κ + (pre.length + 4)), .ref (kb κ + (pre.length + 5)), .ref (kb κ + (pre.length + 6)), .ref (kb κ + (pre.length + 7)), .ref (kb κ + (pre.length + 8)), .ref (kb κ + (pre.length + 9)), vi 0, vi 0, vi 0, .ref (kb κ + (pre.length + 10)), .ref (kb κ + (pre.length + 11)), vi 0, .null, vl 0, vl 0, .null, .null, vl 0]) :: (izA κ 3 :: (izA κ 6 :: (izA κ 6 :: (izA κ 3 :: (izA κ 6 :: (izA κ 18 :: (izA κ 24 :: (izA κ 24 :: (izA κ 150 :: (izA κ 180 :: (izA κ 72 :: (izA κ 9 :: [])))))))))))))) F a_M_init_95 rfl (by decide) (by decide) rfl rfl ?_
  refine g_putP (j0 := 0) (l' := (.inr (10, [.ref (kb κ + (pre.length + 1)), vi 0, vi 0, vi 0, vi 0, vi 0, vi 0, vi 0, vi 0, vi 0, .ref (kb κ + (pre.length + 2)), .ref (kb κ + (pre.length + 3)), .ref (kb κ + (pre.length + 4)), .ref (kb κ + (pre.length + 5)), .ref (kb κ + (pre.length + 6)), .ref (kb κ + (pre.length + 7)), .ref (kb κ + (pre.length + 8)), .ref (kb κ + (pre.length + 9)), vi 0, vi 0, vi 0, .ref (kb κ + (pre.length + 10)), .ref (kb κ + (pre.length + 11)), vi 0, .ref (kb κ + (pre.length + 12)), vl 0, vl 0, .null, .null, vl 0]) :: (izA κ 3 :: (izA κ 6 :: (izA κ 6 :: (izA κ 3 :: (izA κ 6 :: (izA κ 18 :: (izA κ 24 :: (izA κ 24 :: (izA κ 150 :: (izA κ 180 :: (izA κ 72 :: (izA κ 9 :: [])))))))))))))) F a_M_init_97 fl_M_43 ck_10 rfl (Or.inr ⟨rfl, rfl, rfl⟩) rfl rfl (Nat.le_of_ble_eq_true rfl) rfl ?_
  refine g_aload_n F a_M_init_100 rfl ?_
  refine g_lconst1 F a_M_init_101 ?_
  refine g_putP (j0 := 0) (l' := (.inr (10, [.ref (kb κ + (pre.length + 1)), vi 0, vi 0, vi 0, vi 0, vi 0, vi 0, vi 0, vi 0, vi 0, .ref (kb κ + (pre.length + 2)), .ref (kb κ + (pre.length + 3)), .ref (kb κ + (pre.length + 4)), .ref (kb κ + (pre.length + 5)), .ref (kb κ + (pre.length + 6)), .ref (kb κ + (pre.length + 7)), .ref (kb κ + (pre.length + 8)), .ref (kb κ + (pre.length + 9)), vi 0, vi 0, vi 0, .ref (kb κ + (pre.length + 10)), .ref (kb κ + (pre.length + 11)), vi 0, .ref (kb κ + (pre.length + 12)), vl 0, vl 1, .null, .null, vl 0]) :: (izA κ 3 :: (izA κ 6 :: (izA κ 6 :: (izA κ 3 :: (izA κ 6 :: (izA κ 18 :: (izA κ 24 :: (izA κ 24 :: (izA κ 150 :: (izA κ 180 :: (izA κ 72 :: (izA κ 9 :: [])))))))))))))) F a_M_init_102 fl_M_46 ck_10 rfl (Or.inl rfl) rfl rfl (Nat.le_of_ble_eq_true rfl) rfl ?_
  refine g_aload_n F a_M_init_105 rfl ?_
  refine g_sipush F a_M_init_106 (by decide) ?_
  refine g_newIP (z := 360) (n := 13) (l' := (.inr (10, [.ref (kb κ + (pre.length + 1)), vi 0, vi 0, vi 0, vi 0, vi 0, vi 0, vi 0, vi 0, vi 0, .ref (kb κ + (pre.length + 2)), .ref (kb κ + (pre.length + 3)), .ref (kb κ + (pre.length + 4)), .ref (kb κ + (pre.length + 5)), .ref (kb κ + (pre.length + 6)), .ref (kb κ + (pre.length + 7)), .ref (kb κ + (pre.length + 8)), .ref (kb κ + (pre.length + 9)), vi 0, vi 0, vi 0, .ref (kb κ + (pre.length + 10)), .ref (kb κ + (pre.length + 11)), vi 0, .ref (kb κ + (pre.length + 12)), vl 0, vl 1, .null, .null, vl 0]) :: (izA κ 3 :: (izA κ 6 :: (izA κ 6 :: (izA κ 3 :: (izA κ 6 :: (izA κ 18 :: (izA κ 24 :: (izA κ 24 :: (izA κ 150 :: (izA κ 180 :: (izA κ 72 :: (izA κ 9 :: (izA κ 360 :: []))))))))))))))) F a_M_init_109 rfl (by decide) (by decide) rfl rfl ?_
  refine g_putP (j0 := 0) (l' := (.inr (10, [.ref (kb κ + (pre.length + 1)), vi 0, vi 0, vi 0, vi 0, vi 0, vi 0, vi 0, vi 0, vi 0, .ref (kb κ + (pre.length + 2)), .ref (kb κ + (pre.length + 3)), .ref (kb κ + (pre.length + 4)), .ref (kb κ + (pre.length + 5)), .ref (kb κ + (pre.length + 6)), .ref (kb κ + (pre.length + 7)), .ref (kb κ + (pre.length + 8)), .ref (kb κ + (pre.length + 9)), vi 0, vi 0, vi 0, .ref (kb κ + (pre.length + 10)), .ref (kb κ + (pre.length + 11)), vi 0, .ref (kb κ + (pre.length + 12)), vl 0, vl 1, .ref (kb κ + (pre.length + 13)), .null, vl 0]) :: (izA κ 3 :: (izA κ 6 :: (izA κ 6 :: (izA κ 3 :: (izA κ 6 :: (izA κ 18 :: (izA κ 24 :: (izA κ 24 :: (izA κ 150 :: (izA κ 180 :: (izA κ 72 :: (izA κ 9 :: (izA κ 360 :: []))))))))))))))) F a_M_init_111 fl_M_50 ck_10 rfl (Or.inr ⟨rfl, rfl, rfl⟩) rfl rfl (Nat.le_of_ble_eq_true rfl) rfl ?_
  refine g_aload_n F a_M_init_114 rfl ?_
  refine g_iconst F a_M_init_115 ?_
  refine g_newIP (z := 2) (n := 14) (l' := (.inr (10, [.ref (kb κ + (pre.length + 1)), vi 0, vi 0, vi 0, vi 0, vi 0, vi 0, vi 0, vi 0, vi 0, .ref (kb κ + (pre.length + 2)), .ref (kb κ + (pre.length + 3)), .ref (kb κ + (pre.length + 4)), .ref (kb κ + (pre.length + 5)), .ref (kb κ + (pre.length + 6)), .ref (kb κ + (pre.length + 7)), .ref (kb κ + (pre.length + 8)), .ref (kb κ + (pre.length + 9)), vi 0, vi 0, vi 0, .ref (kb κ + (pre.length + 10)), .ref (kb κ + (pre.length + 11)), vi 0, .ref (kb κ + (pre.length + 12)), vl 0, vl 1, .ref (kb κ + (pre.length + 13)), .null, vl 0]) :: (izA κ 3 :: (izA κ 6 :: (izA κ 6 :: (izA κ 3 :: (izA κ 6 :: (izA κ 18 :: (izA κ 24 :: (izA κ 24 :: (izA κ 150 :: (izA κ 180 :: (izA κ 72 :: (izA κ 9 :: (izA κ 360 :: (izA κ 2 :: [])))))))))))))))) F a_M_init_116 rfl (by decide) (by decide) rfl rfl ?_
  refine g_putP (j0 := 0) (l' := (.inr (10, [.ref (kb κ + (pre.length + 1)), vi 0, vi 0, vi 0, vi 0, vi 0, vi 0, vi 0, vi 0, vi 0, .ref (kb κ + (pre.length + 2)), .ref (kb κ + (pre.length + 3)), .ref (kb κ + (pre.length + 4)), .ref (kb κ + (pre.length + 5)), .ref (kb κ + (pre.length + 6)), .ref (kb κ + (pre.length + 7)), .ref (kb κ + (pre.length + 8)), .ref (kb κ + (pre.length + 9)), vi 0, vi 0, vi 0, .ref (kb κ + (pre.length + 10)), .ref (kb κ + (pre.length + 11)), vi 0, .ref (kb κ + (pre.length + 12)), vl 0, vl 1, .ref (kb κ + (pre.length + 13)), .ref (kb κ + (pre.length + 14)), vl 0]) :: (izA κ 3 :: (izA κ 6 :: (izA κ 6 :: (izA κ 3 :: (izA κ 6 :: (izA κ 18 :: (izA κ 24 :: (izA κ 24 :: (izA κ 150 :: (izA κ 180 :: (izA κ 72 :: (izA κ 9 :: (izA κ 360 :: (izA κ 2 :: [])))))))))))))))) F a_M_init_118 fl_M_53 ck_10 rfl (Or.inr ⟨rfl, rfl, rfl⟩) rfl rfl (Nat.le_of_ble_eq_true rfl) rfl ?_
  refine g_aload_n F a_M_init_121 rfl ?_
  refine g_iconst F a_M_init_122 ?_
  subst hpre
  refine GC.wk2 (P' := World κ m0) (fun H hP => made_ok hP) ?_
  have hl87 : (bA κ 0).length = 87 := rfl
  rw [hl87]
  refine g_v1 F a_M_init_123 vc_M_56 mk_M_begin ob_10 ck_10.1 rfl rfl (by decide) ⟨by decide, by decide⟩ rfl (Nat.le_of_ble_eq_true rfl) (sp_M_begin (GCr.n ?_))
  refine g_ret F a_M_init_126 rfl ⟨by decide, by decide⟩ ?_
  exact k
