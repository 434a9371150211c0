theorem qv {Q : Option Value → (Heap → Prop) → Prop} {P : Heap → Prop} {x y : Int} (k : Q (some (vi x)) P) (h : y = x) : Q (some (vi y)) P := h ▸ k
/-- ranges -/
abbrev R32 (a : Int) : Prop := -2147483648 ≤ a ∧ a ≤ 2147483647
def bc (s : Int) : Int := s % 2 + s / 2 % 2 + s / 4 % 2 + s / 8 % 2 + s / 16 % 2 + s / 32 % 2
def bcE (x : Int) : Int := (fun x1 => (fun x2 => (fun x3 => (fun x4 => bAnd (x4 + bUsh x4 16) 63) (x3 + bUsh x3 8)) (bAnd (x2 + bUsh x2 4) 252645135)) (bAnd x1 858993459 + bAnd (bUsh x1 2) 858993459)) (x - bAnd (bUsh x 1) 1431655765)
theorem bc_dec : ∀ n : Nat, n < 64 → bcE (n : Int) = bc (n : Int) := by decide +kernel
theorem bc_eq {s : Int} (h : 0 ≤ s ∧ s < 64) : bcE s = bc s := by
  have := bc_dec s.toNat (by omega)
  rw [Int.toNat_of_nonneg h.1] at this
  exact this
theorem bc_r {s : Int} (h : 0 ≤ s ∧ s < 64) : 0 ≤ bc s ∧ bc s ≤ 6 := by unfold bc; omega
theorem i32_r (x : Int32) : R32 x.toInt := by
  have h1 := Int32.le_toInt x
  have h2 := Int32.toInt_lt x
  exact ⟨h1, by omega⟩
theorem bXor_r (a b : Int) : R32 (bXor a b) := i32_r _
theorem bAnd_r (a b : Int) : R32 (bAnd a b) := i32_r _
theorem bOr_r (a b : Int) : R32 (bOr a b) := i32_r _
theorem bShl_r (a b : Int) : R32 (bShl a b) := i32_r _
theorem bShr_r (a b : Int) : R32 (bShr a b) := i32_r _
theorem bXor_neg (a b : Int) (ha : R32 a) (hb : 0 ≤ b ∧ b ≤ 2147483647) : bXor a b < 0 ↔ a < 0 := by
  unfold bXor
  have h1 : ((Int32.ofInt a) ^^^ (Int32.ofInt b)).toInt = ((Int32.ofInt a) ^^^ (Int32.ofInt b)).toBitVec.toInt := rfl
  have h2 := BitVec.msb_eq_toInt (x := ((Int32.ofInt a) ^^^ (Int32.ofInt b)).toBitVec)
  have h3 := BitVec.msb_eq_toInt (x := (Int32.ofInt a).toBitVec)
  have h4 := BitVec.msb_eq_toInt (x := (Int32.ofInt b).toBitVec)
  have e1 : (Int32.ofInt a).toBitVec.toInt = a := i2r ha
  have e2 : (Int32.ofInt b).toBitVec.toInt = b := i2r (by omega)
  rw [e1] at h3
  rw [e2] at h4
  rw [h1]
  rw [Int32.toBitVec_xor, BitVec.msb_xor, h3, h4] at h2
  have hb0 : ¬ b < 0 := by omega
  simp only [hb0, decide_false, Bool.xor_false] at h2
  rw [Int32.toBitVec_xor]
  exact (decide_eq_decide.mp h2).symm
theorem tm100 (x : Int) : x.tmod 100 = if 0 ≤ x then x % 100 else -((-x) % 100) := by
  split
  · exact Int.tmod_eq_emod_of_nonneg (by assumption)
  · have : x = -(-x) := by omega
    rw [this, Int.neg_tmod, Int.tmod_eq_emod_of_nonneg (by omega)]
    simp
/-- at what angle one stands -/
def stn (k s d : Int) : Int := if k = 1 then min (s + 5) 90 else if k = 2 then max (s - 10) 0 else if k = 3 then (if d % 7 = 0 then 90 else min (s + 5) 90) else if k = 4 then min (s + (s + 1) / 2) 90 else if k = 5 then max (s - 10) 0 / 3 else s
/-- what is read of an angle -/
def see (k a d : Int) : Int := if k = 1 then a + 2 else if k = 2 then max (a - 3) 0 else if k = 3 then a + 2 + a / 30 else if k = 4 then a - a % 10 else if k = 5 then max (max (a - 3) 0 - d % 2) 0 else a
theorem stn_r {k s d : Int} (hs : 0 ≤ s ∧ s ≤ 90) : 0 ≤ stn k s d ∧ stn k s d ≤ 90 := by
  unfold stn
  repeat' split
  all_goals omega
theorem see_r {k a d : Int} (hs : 0 ≤ a ∧ a ≤ 90) : 0 ≤ see k a d ∧ see k a d ≤ 95 := by
  unfold see
  repeat' split
  all_goals omega
set_option maxHeartbeats 1000000 in
theorem sp_J_min {κ : Kx} {Q : Option Value → (Heap → Prop) → Prop} {P : Heap → Prop} {a b : Int} (ha : R32 a) (hb : R32 b) (k : Q (some (vi (min a b))) P) : GG κ G_J_min 0 0 0 [vi a, vi b] P Q := by
  refine GG.intro (ls := [some _, some _]) (Nat.le_of_ble_eq_true rfl) rfl (fun μ F => ?_)
  refine g_iload_n F a_J_min_0 rfl ?_
  refine g_iload_n F a_J_min_1 rfl ?_
  refine g_icmp_gt F (by omega) (by omega) a_J_min_2 (fun h2 => ?_) (fun h2 => ?_)
  · refine g_iload_n F a_J_min_9 rfl ?_
    refine g_iret F a_J_min_10 rfl ⟨Nat.le_refl _, Nat.le_refl _⟩ ?_
    exact qv k (by omega)
  · refine g_iload_n F a_J_min_5 rfl ?_
    refine g_goto F a_J_min_6 ?_
    refine g_iret F a_J_min_10 rfl ⟨Nat.le_refl _, Nat.le_refl _⟩ ?_
    exact qv k (by omega)
set_option maxHeartbeats 1000000 in
theorem sp_J_max {κ : Kx} {Q : Option Value → (Heap → Prop) → Prop} {P : Heap → Prop} {a b : Int} (ha : R32 a) (hb : R32 b) (k : Q (some (vi (max a b))) P) : GG κ G_J_max 0 0 0 [vi a, vi b] P Q := by
  refine GG.intro (ls := [some _, some _]) (Nat.le_of_ble_eq_true rfl) rfl (fun μ F => ?_)
  refine g_iload_n F a_J_max_0 rfl ?_
  refine g_iload_n F a_J_max_1 rfl ?_
  refine g_icmp_lt F (by omega) (by omega) a_J_max_2 (fun h2 => ?_) (fun h2 => ?_)
  · refine g_iload_n F a_J_max_9 rfl ?_
    refine g_iret F a_J_max_10 rfl ⟨Nat.le_refl _, Nat.le_refl _⟩ ?_
    exact qv k (by omega)
  · refine g_iload_n F a_J_max_5 rfl ?_
    refine g_goto F a_J_max_6 ?_
    refine g_iret F a_J_max_10 rfl ⟨Nat.le_refl _, Nat.le_refl _⟩ ?_
    exact qv k (by omega)
set_option maxHeartbeats 1000000 in
theorem sp_J_abs {κ : Kx} {Q : Option Value → (Heap → Prop) → Prop} {P : Heap → Prop} {a : Int} (ha : -1000000 ≤ a ∧ a ≤ 1000000) (k : Q (some (vi (max a (-a)))) P) : GG κ G_J_abs 0 0 0 [vi a] P Q := by
  refine GG.intro (ls := [some _]) (Nat.le_of_ble_eq_true rfl) rfl (fun μ F => ?_)
  refine g_iload_n F a_J_abs_0 rfl ?_
  refine g_if_ge F (by omega) a_J_abs_1 (fun h1 => ?_) (fun h1 => ?_)
  · refine g_iload_n F a_J_abs_9 rfl ?_
    refine g_iret F a_J_abs_10 rfl ⟨Nat.le_refl _, Nat.le_refl _⟩ ?_
    exact qv k (by omega)
  · refine g_iload_n F a_J_abs_4 rfl ?_
    refine g_ineg F a_J_abs_5 ?_
    refine g_goto F a_J_abs_6 ?_
    refine g_iret F a_J_abs_10 rfl ⟨Nat.le_refl _, Nat.le_refl _⟩ ?_
    exact qv k (by omega)
set_option maxHeartbeats 1000000 in
theorem sp_J_floorMod {κ : Kx} {Q : Option Value → (Heap → Prop) → Prop} {P : Heap → Prop} {a b : Int} (ha : R32 a) (hb : b = 100) (k : Q (some (vi (a % 100))) P) : GG κ G_J_floorMod 0 0 0 [vi a, vi b] P Q := by
  subst hb
  have hxn := bXor_neg a 100 ha (by omega)
  have htm := tm100 a
  rw [apply_ite (fun z : Int => a.tmod 100 = z)] at htm
  have htm1 : 0 ≤ a → a.tmod 100 = a % 100 := fun h => by rw [tm100, if_pos h]
  have htm2 : a < 0 → a.tmod 100 = -((-a) % 100) := fun h => by rw [tm100, if_neg (by omega)]
  have ht3 : R32 (a.tmod 100) := by rcases Int.lt_or_le a 0 with h | h
                                    · rw [htm2 h]; omega
                                    · rw [htm1 h]; omega
  refine GG.intro (ls := [some _, some _, none]) (Nat.le_of_ble_eq_true rfl) rfl (fun μ F => ?_)
  refine g_iload_n F a_J_floorMod_0 rfl ?_
  refine g_iload_n F a_J_floorMod_1 rfl ?_
  refine g_iremS F (by first | omega | exact bXor_r _ _) (by first | omega | exact bXor_r _ _) a_J_floorMod_2 ?_
  refine g_istore_n (ls' := [_, _, _]) F a_J_floorMod_3 rfl rfl rfl ?_
  refine g_iload_n F a_J_floorMod_4 rfl ?_
  refine g_iload_n F a_J_floorMod_5 rfl ?_
  refine g_ixor F a_J_floorMod_6 ?_
  refine g_if_ge F (by first | omega | exact bXor_r _ _) a_J_floorMod_7 (fun h7 => ?_) (fun h7 => ?_)
  · refine g_iload_n F a_J_floorMod_18 rfl ?_
    refine g_iret F a_J_floorMod_19 rfl ⟨Nat.le_refl _, Nat.le_refl _⟩ ?_
    exact qv k (by omega)
  · refine g_iload_n F a_J_floorMod_10 rfl ?_
    refine g_if_eq F (by first | omega | exact bXor_r _ _) a_J_floorMod_11 (fun h11 => ?_) (fun h11 => ?_)
    · refine g_iload_n F a_J_floorMod_18 rfl ?_
      refine g_iret F a_J_floorMod_19 rfl ⟨Nat.le_refl _, Nat.le_refl _⟩ ?_
      exact qv k (by omega)
    · refine g_iload_n F a_J_floorMod_14 rfl ?_
      refine g_iload_n F a_J_floorMod_15 rfl ?_
      refine g_iadd F a_J_floorMod_16 ?_
      refine g_iret F a_J_floorMod_17 rfl ⟨Nat.le_refl _, Nat.le_refl _⟩ ?_
      exact qv k (by omega)
set_option maxHeartbeats 1000000 in
theorem sp_J_bitCount {κ : Kx} {Q : Option Value → (Heap → Prop) → Prop} {P : Heap → Prop} {a : Int} (ha : 0 ≤ a ∧ a < 64) (k : Q (some (vi (bc a))) P) : GG κ G_J_bitCount 0 0 0 [vi a] P Q := by
  refine GG.intro (ls := [some _]) (Nat.le_of_ble_eq_true rfl) rfl (fun μ F => ?_)
  refine g_iload_n F a_J_bitCount_0 rfl ?_
  refine g_iload_n F a_J_bitCount_1 rfl ?_
  refine g_iconst F a_J_bitCount_2 ?_
  refine g_iushr F a_J_bitCount_3 ?_
  refine g_ldcw F a_J_bitCount_4 kc_J_265 ?_
  refine g_iand F a_J_bitCount_7 ?_
  refine g_isub F a_J_bitCount_8 ?_
  refine g_istore_n (ls' := [_]) F a_J_bitCount_9 rfl rfl rfl ?_
  refine g_iload_n F a_J_bitCount_10 rfl ?_
  refine g_ldcw F a_J_bitCount_11 kc_J_266 ?_
  refine g_iand F a_J_bitCount_14 ?_
  refine g_iload_n F a_J_bitCount_15 rfl ?_
  refine g_iconst F a_J_bitCount_16 ?_
  refine g_iushr F a_J_bitCount_17 ?_
  refine g_ldcw F a_J_bitCount_18 kc_J_266 ?_
  refine g_iand F a_J_bitCount_21 ?_
  refine g_iadd F a_J_bitCount_22 ?_
  refine g_istore_n (ls' := [_]) F a_J_bitCount_23 rfl rfl rfl ?_
  refine g_iload_n F a_J_bitCount_24 rfl ?_
  refine g_iload_n F a_J_bitCount_25 rfl ?_
  refine g_iconst F a_J_bitCount_26 ?_
  refine g_iushr F a_J_bitCount_27 ?_
  refine g_iadd F a_J_bitCount_28 ?_
  refine g_ldcw F a_J_bitCount_29 kc_J_267 ?_
  refine g_iand F a_J_bitCount_32 ?_
  refine g_istore_n (ls' := [_]) F a_J_bitCount_33 rfl rfl rfl ?_
  refine g_iload_n F a_J_bitCount_34 rfl ?_
  refine g_iload_n F a_J_bitCount_35 rfl ?_
  refine g_bipush F a_J_bitCount_36 (by decide) ?_
  refine g_iushr F a_J_bitCount_38 ?_
  refine g_iadd F a_J_bitCount_39 ?_
  refine g_istore_n (ls' := [_]) F a_J_bitCount_40 rfl rfl rfl ?_
  refine g_iload_n F a_J_bitCount_41 rfl ?_
  refine g_iload_n F a_J_bitCount_42 rfl ?_
  refine g_bipush F a_J_bitCount_43 (by decide) ?_
  refine g_iushr F a_J_bitCount_45 ?_
  refine g_iadd F a_J_bitCount_46 ?_
  refine g_istore_n (ls' := [_]) F a_J_bitCount_47 rfl rfl rfl ?_
  refine g_iload_n F a_J_bitCount_48 rfl ?_
  refine g_bipush F a_J_bitCount_49 (by decide) ?_
  refine g_iand F a_J_bitCount_51 ?_
  refine g_iret F a_J_bitCount_52 rfl ⟨Nat.le_refl _, Nat.le_refl _⟩ ?_
  exact qv k (bc_eq ha)
set_option maxHeartbeats 1000000 in
theorem sp_K_stands {κ : Kx} {Q : Option Value → (Heap → Prop) → Prop} {P : Heap → Prop} {a b c : Int} (ha : 0 ≤ a ∧ a ≤ 5) (hb : 0 ≤ b ∧ b ≤ 90) (hc : 0 ≤ c ∧ c ≤ 100000) (k : Q (some (vi (stn a b c))) P) : GG κ G_K_stands 0 0 0 [vi a, vi b, vi c] P Q := by
  refine GG.intro (ls := [some _, some _, some _, none, none, none]) (Nat.le_of_ble_eq_true rfl) rfl (fun μ F => ?_)
  refine g_iload_n F a_K_stands_0 rfl ?_
  refine g_iconst F a_K_stands_1 ?_
  refine g_iadd F a_K_stands_2 ?_
  refine g_bipush F a_K_stands_3 (by decide) ?_
  refine g_icmp_ge F (by omega) (by omega) a_K_stands_5 (fun h5 => ?_) (fun h5 => ?_)
  · refine g_bipush F a_K_stands_14 (by decide) ?_
    refine g_istore_n (ls' := [_, _, _, _, _, _]) F a_K_stands_16 rfl rfl rfl ?_
    refine g_iload_n F a_K_stands_17 rfl ?_
    refine g_bipush F a_K_stands_18 (by decide) ?_
    refine g_icmp_le F (by omega) (by omega) a_K_stands_20 (fun h20 => ?_) (fun h20 => ?_)
    · refine g_iconst F a_K_stands_30 ?_
      refine g_istore (ls' := [_, _, _, _, _, _]) F a_K_stands_31 rfl rfl rfl ?_
      refine g_iload_n F a_K_stands_33 rfl ?_
      refine g_iload_n F a_K_stands_34 rfl ?_
      refine g_iconst F a_K_stands_35 ?_
      refine g_iadd F a_K_stands_36 ?_
      refine g_iconst F a_K_stands_37 ?_
      refine g_idiv F (by omega) (by omega) a_K_stands_38 ?_
      refine g_iadd F a_K_stands_39 ?_
      refine g_istore (ls' := [_, _, _, _, _, _]) F a_K_stands_40 rfl rfl rfl ?_
      refine g_iload_n F a_K_stands_42 rfl ?_
      rcases (show a = 1 ∨ a = 2 ∨ a = 3 ∨ a = 4 ∨ a = 5 ∨ a = 0 by omega) with h43 | h43 | h43 | h43 | h43 | h43
      · refine g_tsw (tg := 76) F (by omega) a_K_stands_43 (by omega) (by omega) (j := 0) (by omega) rfl (by decide) ?_
        refine g_iload_n F a_K_stands_76 rfl ?_
        refine g_iret F a_K_stands_77 rfl ⟨Nat.le_refl _, Nat.le_refl _⟩ ?_
        exact qv k (by simp [stn, h43] <;> omega)
      · refine g_tsw (tg := 78) F (by omega) a_K_stands_43 (by omega) (by omega) (j := 1) (by omega) rfl (by decide) ?_
        refine g_iload F a_K_stands_78 rfl ?_
        refine g_iret F a_K_stands_80 rfl ⟨Nat.le_refl _, Nat.le_refl _⟩ ?_
        exact qv k (by simp [stn, h43] <;> omega)
      · refine g_tsw (tg := 81) F (by omega) a_K_stands_43 (by omega) (by omega) (j := 2) (by omega) rfl (by decide) ?_
        refine g_iload_n F a_K_stands_81 rfl ?_
        refine g_bipush F a_K_stands_82 (by decide) ?_
        refine g_irem F (by omega) (by omega) a_K_stands_84 ?_
        refine g_if_ne F (by omega) a_K_stands_85 (fun h85 => ?_) (fun h85 => ?_)
        · refine g_iload_n F a_K_stands_93 rfl ?_
          refine g_iret F a_K_stands_94 rfl ⟨Nat.le_refl _, Nat.le_refl _⟩ ?_
          exact qv k (by simp [stn, h43] <;> omega)
        · refine g_bipush F a_K_stands_88 (by decide) ?_
          refine g_goto F a_K_stands_90 ?_
          refine g_iret F a_K_stands_94 rfl ⟨Nat.le_refl _, Nat.le_refl _⟩ ?_
          exact qv k (by simp [stn, h43] <;> omega)
      · refine g_tsw (tg := 95) F (by omega) a_K_stands_43 (by omega) (by omega) (j := 3) (by omega) rfl (by decide) ?_
        refine g_iload F a_K_stands_95 rfl ?_
        refine g_bipush F a_K_stands_97 (by decide) ?_
        refine g_icmp_ge F (by omega) (by omega) a_K_stands_99 (fun h99 => ?_) (fun h99 => ?_)
        · refine g_bipush F a_K_stands_107 (by decide) ?_
          refine g_iret F a_K_stands_109 rfl ⟨Nat.le_refl _, Nat.le_refl _⟩ ?_
          exact qv k (by simp [stn, h43] <;> omega)
        · refine g_iload F a_K_stands_102 rfl ?_
          refine g_goto F a_K_stands_104 ?_
          refine g_iret F a_K_stands_109 rfl ⟨Nat.le_refl _, Nat.le_refl _⟩ ?_
          exact qv k (by simp [stn, h43] <;> omega)
      · refine g_tsw (tg := 110) F (by omega) a_K_stands_43 (by omega) (by omega) (j := 4) (by omega) rfl (by decide) ?_
        refine g_iload F a_K_stands_110 rfl ?_
        refine g_iconst F a_K_stands_112 ?_
        refine g_idiv F (by omega) (by omega) a_K_stands_113 ?_
        refine g_iret F a_K_stands_114 rfl ⟨Nat.le_refl _, Nat.le_refl _⟩ ?_
        exact qv k (by simp [stn, h43] <;> omega)
      · refine g_tswD (tg := 115) F (by omega) a_K_stands_43 (by omega) (by decide) ?_
        refine g_iload_n F a_K_stands_115 rfl ?_
        refine g_iret F a_K_stands_116 rfl ⟨Nat.le_refl _, Nat.le_refl _⟩ ?_
        exact qv k (by simp [stn, h43] <;> omega)
    · refine g_iload_n F a_K_stands_23 rfl ?_
      refine g_bipush F a_K_stands_24 (by decide) ?_
      refine g_isub F a_K_stands_26 ?_
      refine g_goto F a_K_stands_27 ?_
      refine g_istore (ls' := [_, _, _, _, _, _]) F a_K_stands_31 rfl rfl rfl ?_
      refine g_iload_n F a_K_stands_33 rfl ?_
      refine g_iload_n F a_K_stands_34 rfl ?_
      refine g_iconst F a_K_stands_35 ?_
      refine g_iadd F a_K_stands_36 ?_
      refine g_iconst F a_K_stands_37 ?_
      refine g_idiv F (by omega) (by omega) a_K_stands_38 ?_
      refine g_iadd F a_K_stands_39 ?_
      refine g_istore (ls' := [_, _, _, _, _, _]) F a_K_stands_40 rfl rfl rfl ?_
      refine g_iload_n F a_K_stands_42 rfl ?_
      rcases (show a = 1 ∨ a = 2 ∨ a = 3 ∨ a = 4 ∨ a = 5 ∨ a = 0 by omega) with h43 | h43 | h43 | h43 | h43 | h43
      · refine g_tsw (tg := 76) F (by omega) a_K_stands_43 (by omega) (by omega) (j := 0) (by omega) rfl (by decide) ?_
        refine g_iload_n F a_K_stands_76 rfl ?_
        refine g_iret F a_K_stands_77 rfl ⟨Nat.le_refl _, Nat.le_refl _⟩ ?_
        exact qv k (by simp [stn, h43] <;> omega)
      · refine g_tsw (tg := 78) F (by omega) a_K_stands_43 (by omega) (by omega) (j := 1) (by omega) rfl (by decide) ?_
        refine g_iload F a_K_stands_78 rfl ?_
        refine g_iret F a_K_stands_80 rfl ⟨Nat.le_refl _, Nat.le_refl _⟩ ?_
        exact qv k (by simp [stn, h43] <;> omega)
      · refine g_tsw (tg := 81) F (by omega) a_K_stands_43 (by omega) (by omega) (j := 2) (by omega) rfl (by decide) ?_
        refine g_iload_n F a_K_stands_81 rfl ?_
        refine g_bipush F a_K_stands_82 (by decide) ?_
        refine g_irem F (by omega) (by omega) a_K_stands_84 ?_
        refine g_if_ne F (by omega) a_K_stands_85 (fun h85 => ?_) (fun h85 => ?_)
        · refine g_iload_n F a_K_stands_93 rfl ?_
          refine g_iret F a_K_stands_94 rfl ⟨Nat.le_refl _, Nat.le_refl _⟩ ?_
          exact qv k (by simp [stn, h43] <;> omega)
        · refine g_bipush F a_K_stands_88 (by decide) ?_
          refine g_goto F a_K_stands_90 ?_
          refine g_iret F a_K_stands_94 rfl ⟨Nat.le_refl _, Nat.le_refl _⟩ ?_
          exact qv k (by simp [stn, h43] <;> omega)
      · refine g_tsw (tg := 95) F (by omega) a_K_stands_43 (by omega) (by omega) (j := 3) (by omega) rfl (by decide) ?_
        refine g_iload F a_K_stands_95 rfl ?_
        refine g_bipush F a_K_stands_97 (by decide) ?_
        refine g_icmp_ge F (by omega) (by omega) a_K_stands_99 (fun h99 => ?_) (fun h99 => ?_)
        · refine g_bipush F a_K_stands_107 (by decide) ?_
          refine g_iret F a_K_stands_109 rfl ⟨Nat.le_refl _, Nat.le_refl _⟩ ?_
          exact qv k (by simp [stn, h43] <;> omega)
        · refine g_iload F a_K_stands_102 rfl ?_
          refine g_goto F a_K_stands_104 ?_
          refine g_iret F a_K_stands_109 rfl ⟨Nat.le_refl _, Nat.le_refl _⟩ ?_
          exact qv k (by simp [stn, h43] <;> omega)
      · refine g_tsw (tg := 110) F (by omega) a_K_stands_43 (by omega) (by omega) (j := 4) (by omega) rfl (by decide) ?_
        refine g_iload F a_K_stands_110 rfl ?_
        refine g_iconst F a_K_stands_112 ?_
        refine g_idiv F (by omega) (by omega) a_K_stands_113 ?_
        refine g_iret F a_K_stands_114 rfl ⟨Nat.le_refl _, Nat.le_refl _⟩ ?_
        exact qv k (by simp [stn, h43] <;> omega)
      · refine g_tswD (tg := 115) F (by omega) a_K_stands_43 (by omega) (by decide) ?_
        refine g_iload_n F a_K_stands_115 rfl ?_
        refine g_iret F a_K_stands_116 rfl ⟨Nat.le_refl _, Nat.le_refl _⟩ ?_
        exact qv k (by simp [stn, h43] <;> omega)
  · refine g_iload_n F a_K_stands_8 rfl ?_
    refine g_iconst F a_K_stands_9 ?_
    refine g_iadd F a_K_stands_10 ?_
    refine g_goto F a_K_stands_11 ?_
    refine g_istore_n (ls' := [_, _, _, _, _, _]) F a_K_stands_16 rfl rfl rfl ?_
    refine g_iload_n F a_K_stands_17 rfl ?_
    refine g_bipush F a_K_stands_18 (by decide) ?_
    refine g_icmp_le F (by omega) (by omega) a_K_stands_20 (fun h20 => ?_) (fun h20 => ?_)
    · refine g_iconst F a_K_stands_30 ?_
      refine g_istore (ls' := [_, _, _, _, _, _]) F a_K_stands_31 rfl rfl rfl ?_
      refine g_iload_n F a_K_stands_33 rfl ?_
      refine g_iload_n F a_K_stands_34 rfl ?_
      refine g_iconst F a_K_stands_35 ?_
      refine g_iadd F a_K_stands_36 ?_
      refine g_iconst F a_K_stands_37 ?_
      refine g_idiv F (by omega) (by omega) a_K_stands_38 ?_
      refine g_iadd F a_K_stands_39 ?_
      refine g_istore (ls' := [_, _, _, _, _, _]) F a_K_stands_40 rfl rfl rfl ?_
      refine g_iload_n F a_K_stands_42 rfl ?_
      rcases (show a = 1 ∨ a = 2 ∨ a = 3 ∨ a = 4 ∨ a = 5 ∨ a = 0 by omega) with h43 | h43 | h43 | h43 | h43 | h43
      · refine g_tsw (tg := 76) F (by omega) a_K_stands_43 (by omega) (by omega) (j := 0) (by omega) rfl (by decide) ?_
        refine g_iload_n F a_K_stands_76 rfl ?_
        refine g_iret F a_K_stands_77 rfl ⟨Nat.le_refl _, Nat.le_refl _⟩ ?_
        exact qv k (by simp [stn, h43] <;> omega)
      · refine g_tsw (tg := 78) F (by omega) a_K_stands_43 (by omega) (by omega) (j := 1) (by omega) rfl (by decide) ?_
        refine g_iload F a_K_stands_78 rfl ?_
        refine g_iret F a_K_stands_80 rfl ⟨Nat.le_refl _, Nat.le_refl _⟩ ?_
        exact qv k (by simp [stn, h43] <;> omega)
      · refine g_tsw (tg := 81) F (by omega) a_K_stands_43 (by omega) (by omega) (j := 2) (by omega) rfl (by decide) ?_
        refine g_iload_n F a_K_stands_81 rfl ?_
        refine g_bipush F a_K_stands_82 (by decide) ?_
        refine g_irem F (by omega) (by omega) a_K_stands_84 ?_
        refine g_if_ne F (by omega) a_K_stands_85 (fun h85 => ?_) (fun h85 => ?_)
        · refine g_iload_n F a_K_stands_93 rfl ?_
          refine g_iret F a_K_stands_94 rfl ⟨Nat.le_refl _, Nat.le_refl _⟩ ?_
          exact qv k (by simp [stn, h43] <;> omega)
        · refine g_bipush F a_K_stands_88 (by decide) ?_
          refine g_goto F a_K_stands_90 ?_
          refine g_iret F a_K_stands_94 rfl ⟨Nat.le_refl _, Nat.le_refl _⟩ ?_
          exact qv k (by simp [stn, h43] <;> omega)
      · refine g_tsw (tg := 95) F (by omega) a_K_stands_43 (by omega) (by omega) (j := 3) (by omega) rfl (by decide) ?_
        refine g_iload F a_K_stands_95 rfl ?_
        refine g_bipush F a_K_stands_97 (by decide) ?_
        refine g_icmp_ge F (by omega) (by omega) a_K_stands_99 (fun h99 => ?_) (fun h99 => ?_)
        · refine g_bipush F a_K_stands_107 (by decide) ?_
          refine g_iret F a_K_stands_109 rfl ⟨Nat.le_refl _, Nat.le_refl _⟩ ?_
          exact qv k (by simp [stn, h43] <;> omega)
        · refine g_iload F a_K_stands_102 rfl ?_
          refine g_goto F a_K_stands_104 ?_
          refine g_iret F a_K_stands_109 rfl ⟨Nat.le_refl _, Nat.le_refl _⟩ ?_
          exact qv k (by simp [stn, h43] <;> omega)
      · refine g_tsw (tg := 110) F (by omega) a_K_stands_43 (by omega) (by omega) (j := 4) (by omega) rfl (by decide) ?_
        refine g_iload F a_K_stands_110 rfl ?_
        refine g_iconst F a_K_stands_112 ?_
        refine g_idiv F (by omega) (by omega) a_K_stands_113 ?_
        refine g_iret F a_K_stands_114 rfl ⟨Nat.le_refl _, Nat.le_refl _⟩ ?_
        exact qv k (by simp [stn, h43] <;> omega)
      · refine g_tswD (tg := 115) F (by omega) a_K_stands_43 (by omega) (by decide) ?_
        refine g_iload_n F a_K_stands_115 rfl ?_
        refine g_iret F a_K_stands_116 rfl ⟨Nat.le_refl _, Nat.le_refl _⟩ ?_
        exact qv k (by simp [stn, h43] <;> omega)
    · refine g_iload_n F a_K_stands_23 rfl ?_
      refine g_bipush F a_K_stands_24 (by decide) ?_
      refine g_isub F a_K_stands_26 ?_
      refine g_goto F a_K_stands_27 ?_
      refine g_istore (ls' := [_, _, _, _, _, _]) F a_K_stands_31 rfl rfl rfl ?_
      refine g_iload_n F a_K_stands_33 rfl ?_
      refine g_iload_n F a_K_stands_34 rfl ?_
      refine g_iconst F a_K_stands_35 ?_
      refine g_iadd F a_K_stands_36 ?_
      refine g_iconst F a_K_stands_37 ?_
      refine g_idiv F (by omega) (by omega) a_K_stands_38 ?_
      refine g_iadd F a_K_stands_39 ?_
      refine g_istore (ls' := [_, _, _, _, _, _]) F a_K_stands_40 rfl rfl rfl ?_
      refine g_iload_n F a_K_stands_42 rfl ?_
      rcases (show a = 1 ∨ a = 2 ∨ a = 3 ∨ a = 4 ∨ a = 5 ∨ a = 0 by omega) with h43 | h43 | h43 | h43 | h43 | h43
      · refine g_tsw (tg := 76) F (by omega) a_K_stands_43 (by omega) (by omega) (j := 0) (by omega) rfl (by decide) ?_
        refine g_iload_n F a_K_stands_76 rfl ?_
        refine g_iret F a_K_stands_77 rfl ⟨Nat.le_refl _, Nat.le_refl _⟩ ?_
        exact qv k (by simp [stn, h43] <;> omega)
      · refine g_tsw (tg := 78) F (by omega) a_K_stands_43 (by omega) (by omega) (j := 1) (by omega) rfl (by decide) ?_
        refine g_iload F a_K_stands_78 rfl ?_
        refine g_iret F a_K_stands_80 rfl ⟨Nat.le_refl _, Nat.le_refl _⟩ ?_
        exact qv k (by simp [stn, h43] <;> omega)
      · refine g_tsw (tg := 81) F (by omega) a_K_stands_43 (by omega) (by omega) (j := 2) (by omega) rfl (by decide) ?_
        refine g_iload_n F a_K_stands_81 rfl ?_
        refine g_bipush F a_K_stands_82 (by decide) ?_
        refine g_irem F (by omega) (by omega) a_K_stands_84 ?_
        refine g_if_ne F (by omega) a_K_stands_85 (fun h85 => ?_) (fun h85 => ?_)
        · refine g_iload_n F a_K_stands_93 rfl ?_
          refine g_iret F a_K_stands_94 rfl ⟨Nat.le_refl _, Nat.le_refl _⟩ ?_
          exact qv k (by simp [stn, h43] <;> omega)
        · refine g_bipush F a_K_stands_88 (by decide) ?_
          refine g_goto F a_K_stands_90 ?_
          refine g_iret F a_K_stands_94 rfl ⟨Nat.le_refl _, Nat.le_refl _⟩ ?_
          exact qv k (by simp [stn, h43] <;> omega)
      · refine g_tsw (tg := 95) F (by omega) a_K_stands_43 (by omega) (by omega) (j := 3) (by omega) rfl (by decide) ?_
        refine g_iload F a_K_stands_95 rfl ?_
        refine g_bipush F a_K_stands_97 (by decide) ?_
        refine g_icmp_ge F (by omega) (by omega) a_K_stands_99 (fun h99 => ?_) (fun h99 => ?_)
        · refine g_bipush F a_K_stands_107 (by decide) ?_
          refine g_iret F a_K_stands_109 rfl ⟨Nat.le_refl _, Nat.le_refl _⟩ ?_
          exact qv k (by simp [stn, h43] <;> omega)
        · refine g_iload F a_K_stands_102 rfl ?_
          refine g_goto F a_K_stands_104 ?_
          refine g_iret F a_K_stands_109 rfl ⟨Nat.le_refl _, Nat.le_refl _⟩ ?_
          exact qv k (by simp [stn, h43] <;> omega)
      · refine g_tsw (tg := 110) F (by omega) a_K_stands_43 (by omega) (by omega) (j := 4) (by omega) rfl (by decide) ?_
        refine g_iload F a_K_stands_110 rfl ?_
        refine g_iconst F a_K_stands_112 ?_
        refine g_idiv F (by omega) (by omega) a_K_stands_113 ?_
        refine g_iret F a_K_stands_114 rfl ⟨Nat.le_refl _, Nat.le_refl _⟩ ?_
        exact qv k (by simp [stn, h43] <;> omega)
      · refine g_tswD (tg := 115) F (by omega) a_K_stands_43 (by omega) (by decide) ?_
        refine g_iload_n F a_K_stands_115 rfl ?_
        refine g_iret F a_K_stands_116 rfl ⟨Nat.le_refl _, Nat.le_refl _⟩ ?_
        exact qv k (by simp [stn, h43] <;> omega)
set_option maxHeartbeats 1000000 in
theorem sp_K_sees {κ : Kx} {Q : Option Value → (Heap → Prop) → Prop} {P : Heap → Prop} {a b c : Int} (ha : 0 ≤ a ∧ a ≤ 5) (hb : 0 ≤ b ∧ b ≤ 90) (hc : 0 ≤ c ∧ c ≤ 100000) (k : Q (some (vi (see a b c))) P) : GG κ G_K_sees 0 0 0 [vi a, vi b, vi c] P Q := by
  refine GG.intro (ls := [some _, some _, some _, none, none, none]) (Nat.le_of_ble_eq_true rfl) rfl (fun μ F => ?_)
  refine g_iload_n F a_K_sees_0 rfl ?_
  refine g_iconst F a_K_sees_1 ?_
  refine g_iadd F a_K_sees_2 ?_
  refine g_istore_n (ls' := [_, _, _, _, _, _]) F a_K_sees_3 rfl rfl rfl ?_
  refine g_iload_n F a_K_sees_4 rfl ?_
  refine g_iconst F a_K_sees_5 ?_
  refine g_icmp_le F (by omega) (by omega) a_K_sees_6 (fun h6 => ?_) (fun h6 => ?_)
  · refine g_iconst F a_K_sees_15 ?_
    refine g_istore (ls' := [_, _, _, _, _, _]) F a_K_sees_16 rfl rfl rfl ?_
    refine g_iload F a_K_sees_18 rfl ?_
    refine g_iload_n F a_K_sees_20 rfl ?_
    refine g_iconst F a_K_sees_21 ?_
    refine g_irem F (by omega) (by omega) a_K_sees_22 ?_
    refine g_isub F a_K_sees_23 ?_
    refine g_istore (ls' := [_, _, _, _, _, _]) F a_K_sees_24 rfl rfl rfl ?_
    refine g_iload_n F a_K_sees_26 rfl ?_
    rcases (show a = 1 ∨ a = 2 ∨ a = 3 ∨ a = 4 ∨ a = 5 ∨ a = 0 by omega) with h27 | h27 | h27 | h27 | h27 | h27
    · refine g_tsw (tg := 60) F (by omega) a_K_sees_27 (by omega) (by omega) (j := 0) (by omega) rfl (by decide) ?_
      refine g_iload_n F a_K_sees_60 rfl ?_
      refine g_iret F a_K_sees_61 rfl ⟨Nat.le_refl _, Nat.le_refl _⟩ ?_
      exact qv k (by simp [see, h27] <;> omega)
    · refine g_tsw (tg := 62) F (by omega) a_K_sees_27 (by omega) (by omega) (j := 1) (by omega) rfl (by decide) ?_
      refine g_iload F a_K_sees_62 rfl ?_
      refine g_iret F a_K_sees_64 rfl ⟨Nat.le_refl _, Nat.le_refl _⟩ ?_
      exact qv k (by simp [see, h27] <;> omega)
    · refine g_tsw (tg := 65) F (by omega) a_K_sees_27 (by omega) (by omega) (j := 2) (by omega) rfl (by decide) ?_
      refine g_iload_n F a_K_sees_65 rfl ?_
      refine g_iload_n F a_K_sees_66 rfl ?_
      refine g_bipush F a_K_sees_67 (by decide) ?_
      refine g_idiv F (by omega) (by omega) a_K_sees_69 ?_
      refine g_iadd F a_K_sees_70 ?_
      refine g_iret F a_K_sees_71 rfl ⟨Nat.le_refl _, Nat.le_refl _⟩ ?_
      exact qv k (by simp [see, h27] <;> omega)
    · refine g_tsw (tg := 72) F (by omega) a_K_sees_27 (by omega) (by omega) (j := 3) (by omega) rfl (by decide) ?_
      refine g_iload_n F a_K_sees_72 rfl ?_
      refine g_iload_n F a_K_sees_73 rfl ?_
      refine g_bipush F a_K_sees_74 (by decide) ?_
      refine g_irem F (by omega) (by omega) a_K_sees_76 ?_
      refine g_isub F a_K_sees_77 ?_
      refine g_iret F a_K_sees_78 rfl ⟨Nat.le_refl _, Nat.le_refl _⟩ ?_
      exact qv k (by simp [see, h27] <;> omega)
    · refine g_tsw (tg := 79) F (by omega) a_K_sees_27 (by omega) (by omega) (j := 4) (by omega) rfl (by decide) ?_
      refine g_iload F a_K_sees_79 rfl ?_
      refine g_if_le F (by omega) a_K_sees_81 (fun h81 => ?_) (fun h81 => ?_)
      · refine g_iconst F a_K_sees_89 ?_
        refine g_iret F a_K_sees_90 rfl ⟨Nat.le_refl _, Nat.le_refl _⟩ ?_
        exact qv k (by simp [see, h27] <;> omega)
      · refine g_iload F a_K_sees_84 rfl ?_
        refine g_goto F a_K_sees_86 ?_
        refine g_iret F a_K_sees_90 rfl ⟨Nat.le_refl _, Nat.le_refl _⟩ ?_
        exact qv k (by simp [see, h27] <;> omega)
    · refine g_tswD (tg := 91) F (by omega) a_K_sees_27 (by omega) (by decide) ?_
      refine g_iload_n F a_K_sees_91 rfl ?_
      refine g_iret F a_K_sees_92 rfl ⟨Nat.le_refl _, Nat.le_refl _⟩ ?_
      exact qv k (by simp [see, h27] <;> omega)
  · refine g_iload_n F a_K_sees_9 rfl ?_
    refine g_iconst F a_K_sees_10 ?_
    refine g_isub F a_K_sees_11 ?_
    refine g_goto F a_K_sees_12 ?_
    refine g_istore (ls' := [_, _, _, _, _, _]) F a_K_sees_16 rfl rfl rfl ?_
    refine g_iload F a_K_sees_18 rfl ?_
    refine g_iload_n F a_K_sees_20 rfl ?_
    refine g_iconst F a_K_sees_21 ?_
    refine g_irem F (by omega) (by omega) a_K_sees_22 ?_
    refine g_isub F a_K_sees_23 ?_
    refine g_istore (ls' := [_, _, _, _, _, _]) F a_K_sees_24 rfl rfl rfl ?_
    refine g_iload_n F a_K_sees_26 rfl ?_
    rcases (show a = 1 ∨ a = 2 ∨ a = 3 ∨ a = 4 ∨ a = 5 ∨ a = 0 by omega) with h27 | h27 | h27 | h27 | h27 | h27
    · refine g_tsw (tg := 60) F (by omega) a_K_sees_27 (by omega) (by omega) (j := 0) (by omega) rfl (by decide) ?_
      refine g_iload_n F a_K_sees_60 rfl ?_
      refine g_iret F a_K_sees_61 rfl ⟨Nat.le_refl _, Nat.le_refl _⟩ ?_
      exact qv k (by simp [see, h27] <;> omega)
    · refine g_tsw (tg := 62) F (by omega) a_K_sees_27 (by omega) (by omega) (j := 1) (by omega) rfl (by decide) ?_
      refine g_iload F a_K_sees_62 rfl ?_
      refine g_iret F a_K_sees_64 rfl ⟨Nat.le_refl _, Nat.le_refl _⟩ ?_
      exact qv k (by simp [see, h27] <;> omega)
    · refine g_tsw (tg := 65) F (by omega) a_K_sees_27 (by omega) (by omega) (j := 2) (by omega) rfl (by decide) ?_
      refine g_iload_n F a_K_sees_65 rfl ?_
      refine g_iload_n F a_K_sees_66 rfl ?_
      refine g_bipush F a_K_sees_67 (by decide) ?_
      refine g_idiv F (by omega) (by omega) a_K_sees_69 ?_
      refine g_iadd F a_K_sees_70 ?_
      refine g_iret F a_K_sees_71 rfl ⟨Nat.le_refl _, Nat.le_refl _⟩ ?_
      exact qv k (by simp [see, h27] <;> omega)
    · refine g_tsw (tg := 72) F (by omega) a_K_sees_27 (by omega) (by omega) (j := 3) (by omega) rfl (by decide) ?_
      refine g_iload_n F a_K_sees_72 rfl ?_
      refine g_iload_n F a_K_sees_73 rfl ?_
      refine g_bipush F a_K_sees_74 (by decide) ?_
      refine g_irem F (by omega) (by omega) a_K_sees_76 ?_
      refine g_isub F a_K_sees_77 ?_
      refine g_iret F a_K_sees_78 rfl ⟨Nat.le_refl _, Nat.le_refl _⟩ ?_
      exact qv k (by simp [see, h27] <;> omega)
    · refine g_tsw (tg := 79) F (by omega) a_K_sees_27 (by omega) (by omega) (j := 4) (by omega) rfl (by decide) ?_
      refine g_iload F a_K_sees_79 rfl ?_
      refine g_if_le F (by omega) a_K_sees_81 (fun h81 => ?_) (fun h81 => ?_)
      · refine g_iconst F a_K_sees_89 ?_
        refine g_iret F a_K_sees_90 rfl ⟨Nat.le_refl _, Nat.le_refl _⟩ ?_
        exact qv k (by simp [see, h27] <;> omega)
      · refine g_iload F a_K_sees_84 rfl ?_
        refine g_goto F a_K_sees_86 ?_
        refine g_iret F a_K_sees_90 rfl ⟨Nat.le_refl _, Nat.le_refl _⟩ ?_
        exact qv k (by simp [see, h27] <;> omega)
    · refine g_tswD (tg := 91) F (by omega) a_K_sees_27 (by omega) (by decide) ?_
      refine g_iload_n F a_K_sees_91 rfl ?_
      refine g_iret F a_K_sees_92 rfl ⟨Nat.le_refl _, Nat.le_refl _⟩ ?_
      exact qv k (by simp [see, h27] <;> omega)
