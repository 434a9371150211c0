set_option maxHeartbeats 1000000 in
theorem sp_H_hasMan {κ : Kx} {Q : Option Value → (Heap → Prop) → Prop} {i : Nat} {m : Mem} {D : Int} {x : Int} (hi : i < 9) (hS : okS D (m 2 i)) (hD : D ≤ 100000) (hx : R32 x) (k1 : 0 ≤ x ∧ x < (m 2 i).1 4 → Q (some (vi 1)) (World κ m)) (k0 : ¬ (0 ≤ x ∧ x < (m 2 i).1 4) → Q (some (vi 0)) (World κ m)) : GG κ G_H_hasMan 0 0 0 [.ref (ad κ 2 i), vi x] (World κ m) Q := by
  obtain ⟨h0, h1, h2, h3, h4, h5, hfg, hkd, hsh, hgl⟩ := id hS
  refine GG.intro (ls := [some _, some _]) (Nat.le_of_ble_eq_true rfl) rfl (fun μ F => ?_)
  refine g_iload_n F a_H_hasMan_0 rfl ?_
  refine g_if_lt F (by omega) a_H_hasMan_1 (fun h1 => ?_) (fun h1 => ?_)
  · refine g_iconst F a_H_hasMan_16 ?_
    refine g_zret F a_H_hasMan_17 rfl rfl ⟨Nat.le_refl _, Nat.le_refl _⟩ ?_
    first | exact k1 (by omega) | exact k0 (by omega)
  · refine g_iload_n F a_H_hasMan_4 rfl ?_
    refine g_aload_n F a_H_hasMan_5 rfl ?_
    refine g_get_2_4 F a_H_hasMan_6 fl_H_37 (by first | assumption | decide | omega) ?_
    refine g_icmp_ge F (by omega) (by omega) a_H_hasMan_9 (fun h9 => ?_) (fun h9 => ?_)
    · refine g_iconst F a_H_hasMan_16 ?_
      refine g_zret F a_H_hasMan_17 rfl rfl ⟨Nat.le_refl _, Nat.le_refl _⟩ ?_
      first | exact k1 (by omega) | exact k0 (by omega)
    · refine g_iconst F a_H_hasMan_12 ?_
      refine g_goto F a_H_hasMan_13 ?_
      refine g_zret F a_H_hasMan_17 rfl rfl ⟨Nat.le_refl _, Nat.le_refl _⟩ ?_
      first | exact k1 (by omega) | exact k0 (by omega)
set_option maxHeartbeats 1000000 in
theorem sp_H_hasReader {κ : Kx} {Q : Option Value → (Heap → Prop) → Prop} {i : Nat} {m : Mem} {D : Int} {x : Int} (hi : i < 9) (hS : okS D (m 2 i)) (hD : D ≤ 100000) (hx : R32 x) (k1 : 0 ≤ x ∧ x < (m 2 i).1 5 → Q (some (vi 1)) (World κ m)) (k0 : ¬ (0 ≤ x ∧ x < (m 2 i).1 5) → Q (some (vi 0)) (World κ m)) : GG κ G_H_hasReader 0 0 0 [.ref (ad κ 2 i), vi x] (World κ m) Q := by
  obtain ⟨h0, h1, h2, h3, h4, h5, hfg, hkd, hsh, hgl⟩ := id hS
  refine GG.intro (ls := [some _, some _]) (Nat.le_of_ble_eq_true rfl) rfl (fun μ F => ?_)
  refine g_iload_n F a_H_hasReader_0 rfl ?_
  refine g_if_lt F (by omega) a_H_hasReader_1 (fun h1 => ?_) (fun h1 => ?_)
  · refine g_iconst F a_H_hasReader_16 ?_
    refine g_zret F a_H_hasReader_17 rfl rfl ⟨Nat.le_refl _, Nat.le_refl _⟩ ?_
    first | exact k1 (by omega) | exact k0 (by omega)
  · refine g_iload_n F a_H_hasReader_4 rfl ?_
    refine g_aload_n F a_H_hasReader_5 rfl ?_
    refine g_get_2_5 F a_H_hasReader_6 fl_H_40 (by first | assumption | decide | omega) ?_
    refine g_icmp_ge F (by omega) (by omega) a_H_hasReader_9 (fun h9 => ?_) (fun h9 => ?_)
    · refine g_iconst F a_H_hasReader_16 ?_
      refine g_zret F a_H_hasReader_17 rfl rfl ⟨Nat.le_refl _, Nat.le_refl _⟩ ?_
      first | exact k1 (by omega) | exact k0 (by omega)
    · refine g_iconst F a_H_hasReader_12 ?_
      refine g_goto F a_H_hasReader_13 ?_
      refine g_zret F a_H_hasReader_17 rfl rfl ⟨Nat.le_refl _, Nat.le_refl _⟩ ?_
      first | exact k1 (by omega) | exact k0 (by omega)
set_option maxHeartbeats 1000000 in
theorem sp_H_hasSet {κ : Kx} {Q : Option Value → (Heap → Prop) → Prop} {i : Nat} {m : Mem} {D : Int} {x : Int} (hi : i < 9) (hS : okS D (m 2 i)) (hD : D ≤ 100000) (hx : R32 x) (k1 : 0 ≤ x ∧ x < 2 ^ ((m 2 i).1 4).toNat → Q (some (vi 1)) (World κ m)) (k0 : ¬ (0 ≤ x ∧ x < 2 ^ ((m 2 i).1 4).toNat) → Q (some (vi 0)) (World κ m)) : GG κ G_H_hasSet 0 0 0 [.ref (ad κ 2 i), vi x] (World κ m) Q := by
  obtain ⟨h0, h1, h2, h3, h4, h5, hfg, hkd, hsh, hgl⟩ := id hS
  have hpw := pow_le (i := (m 2 i).1 4) (by omega)
  have hpr : R32 (2 ^ ((m 2 i).1 4).toNat) := ⟨by omega, by omega⟩
  refine GG.intro (ls := [some _, some _]) (Nat.le_of_ble_eq_true rfl) rfl (fun μ F => ?_)
  refine g_iload_n F a_H_hasSet_0 rfl ?_
  refine g_if_lt F (by first | omega | exact hpr) a_H_hasSet_1 (fun h1 => ?_) (fun h1 => ?_)
  · refine g_iconst F a_H_hasSet_18 ?_
    refine g_zret F a_H_hasSet_19 rfl rfl ⟨Nat.le_refl _, Nat.le_refl _⟩ ?_
    first | exact k1 (by omega) | exact k0 (by omega)
  · refine g_iload_n F a_H_hasSet_4 rfl ?_
    refine g_iconst F a_H_hasSet_5 ?_
    refine g_aload_n F a_H_hasSet_6 rfl ?_
    refine g_get_2_4 F a_H_hasSet_7 fl_H_37 (by first | assumption | decide | omega) ?_
    refine g_ishl F a_H_hasSet_10 ?_
    rw [shl_eq (by omega)]
    refine g_icmp_ge F (by first | omega | exact hpr) (by first | omega | exact hpr) a_H_hasSet_11 (fun h11 => ?_) (fun h11 => ?_)
    · refine g_iconst F a_H_hasSet_18 ?_
      refine g_zret F a_H_hasSet_19 rfl rfl ⟨Nat.le_refl _, Nat.le_refl _⟩ ?_
      first | exact k1 (by omega) | exact k0 (by omega)
    · refine g_iconst F a_H_hasSet_14 ?_
      refine g_goto F a_H_hasSet_15 ?_
      refine g_zret F a_H_hasSet_19 rfl rfl ⟨Nat.le_refl _, Nat.le_refl _⟩ ?_
      first | exact k1 (by omega) | exact k0 (by omega)
set_option maxHeartbeats 1000000 in
theorem sp_H_foggy {κ : Kx} {Q : Option Value → (Heap → Prop) → Prop} {i : Nat} {m : Mem} {D : Int} (hi : i < 9) (hS : okS D (m 2 i)) (hD : D ≤ 100000) (k1 : fogB (m 2 i) → Q (some (vi 1)) (World κ m)) (k0 : ¬ fogB (m 2 i) → Q (some (vi 0)) (World κ m)) : GG κ G_H_foggy 0 0 0 [.ref (ad κ 2 i)] (World κ m) Q := by
  obtain ⟨h0, h1, h2, h3, h4, h5, hfg, hkd, hsh, hgl⟩ := id hS
  have hf1 := hfg ((m 2 i).1 3 % 6) (by omega)
  refine GG.intro (ls := [some _]) (Nat.le_of_ble_eq_true rfl) rfl (fun μ F => ?_)
  refine g_aload_n F a_H_foggy_0 rfl ?_
  refine g_get_2_6 F a_H_foggy_1 fl_H_9 (by first | assumption | decide | omega) ?_
  refine g_aload_n F a_H_foggy_4 rfl ?_
  refine g_get_2_3 F a_H_foggy_5 fl_H_34 (by first | assumption | decide | omega) ?_
  refine g_bipush F a_H_foggy_8 (by decide) ?_
  refine g_irem F (by omega) (by omega) a_H_foggy_10 ?_
  refine g_ild_2_0 F a_H_foggy_11 (by first | assumption | decide | omega) (by omega) ?_
  refine g_if_eq F (by omega) a_H_foggy_12 (fun h12 => ?_) (fun h12 => ?_)
  · refine g_iconst F a_H_foggy_19 ?_
    refine g_zret F a_H_foggy_20 rfl rfl ⟨Nat.le_refl _, Nat.le_refl _⟩ ?_
    first | exact k1 (by unfold fogB; omega) | exact k0 (by unfold fogB; omega)
  · refine g_iconst F a_H_foggy_15 ?_
    refine g_goto F a_H_foggy_16 ?_
    refine g_zret F a_H_foggy_20 rfl rfl ⟨Nat.le_refl _, Nat.le_refl _⟩ ?_
    first | exact k1 (by unfold fogB; omega) | exact k0 (by unfold fogB; omega)
set_option maxHeartbeats 1000000 in
theorem sp_H_angleOf {κ : Kx} {Q : Option Value → (Heap → Prop) → Prop} {i : Nat} {m : Mem} {D : Int} {x : Int} (hi : i < 9) (hS : okS D (m 2 i)) (hD : D ≤ 100000) (hx : R32 x) (k : Q (some (vi (if 0 ≤ x ∧ x < (m 2 i).1 4 then ang (m 2 i) x else 0))) (World κ m)) : GG κ G_H_angleOf 1 0 0 [.ref (ad κ 2 i), vi x] (World κ m) Q := by
  obtain ⟨h0, h1, h2, h3, h4, h5, hfg, hkd, hsh, hgl⟩ := id hS
  refine GG.intro (ls := [some _, some _]) (Nat.le_of_ble_eq_true rfl) rfl (fun μ F => ?_)
  refine g_aload_n F a_H_angleOf_0 rfl ?_
  refine g_iload_n F a_H_angleOf_1 rfl ?_
  refine g_v1 F a_H_angleOf_2 vc_H_49 mk_H_hasMan (ob_2 (by first | assumption | decide | omega)) ck_2.1 rfl rfl (by decide) ⟨Nat.le_refl _, Nat.le_refl _⟩ rfl (Nat.le_of_ble_eq_true rfl) (sp_H_hasMan hi hS hD (by omega) (fun c2 => GCr.v ?_) (fun c2 => GCr.v ?_))
  · refine g_ifeq1 F a_H_angleOf_5 ?_
    refine g_aload_n F a_H_angleOf_8 rfl ?_
    refine g_get_2_7 F a_H_angleOf_9 fl_H_15 (by first | assumption | decide | omega) ?_
    refine g_iload_n F a_H_angleOf_12 rfl ?_
    refine g_ild_2_1 F a_H_angleOf_13 (by first | assumption | decide | omega) (by omega) ?_
    refine g_aload_n F a_H_angleOf_14 rfl ?_
    refine g_get_2_8 F a_H_angleOf_15 fl_H_18 (by first | assumption | decide | omega) ?_
    refine g_iload_n F a_H_angleOf_18 rfl ?_
    refine g_ild_2_2 F a_H_angleOf_19 (by first | assumption | decide | omega) (by omega) ?_
    refine g_aload_n F a_H_angleOf_20 rfl ?_
    refine g_get_2_3 F a_H_angleOf_21 fl_H_34 (by first | assumption | decide | omega) ?_
    refine g_s3 F a_H_angleOf_24 sc_H_59 mk_K_stands rfl (by decide) ⟨Nat.le_refl _, Nat.le_refl _⟩ rfl (Nat.le_of_ble_eq_true rfl) (sp_K_stands (hkd _ (by omega)) (hsh _ (by omega)) (by omega) (GCr.v ?_))
    refine g_goto F a_H_angleOf_27 ?_
    refine g_iret F a_H_angleOf_31 rfl ⟨Nat.le_refl _, Nat.le_refl _⟩ ?_
    exact qv k (by first | rw [if_pos c2]; rfl | rw [if_neg c2])
  · refine g_ifeq0 F a_H_angleOf_5 ?_
    refine g_iconst F a_H_angleOf_30 ?_
    refine g_iret F a_H_angleOf_31 rfl ⟨Nat.le_refl _, Nat.le_refl _⟩ ?_
    exact qv k (by first | rw [if_pos c2]; rfl | rw [if_neg c2])
set_option maxHeartbeats 1000000 in
theorem sp_H_sightOf {κ : Kx} {Q : Option Value → (Heap → Prop) → Prop} {i : Nat} {m : Mem} {D : Int} {x r : Int} (hi : i < 9) (hS : okS D (m 2 i)) (hD : D ≤ 100000) (hx : 0 ≤ x ∧ x < (m 2 i).1 4) (hr : R32 r) (k : Q (some (vi (if 0 ≤ r ∧ r < (m 2 i).1 5 then sgt (m 2 i) x r else 0))) (World κ m)) : GG κ G_H_sightOf 2 0 0 [.ref (ad κ 2 i), vi x, vi r] (World κ m) Q := by
  obtain ⟨h0, h1, h2, h3, h4, h5, hfg, hkd, hsh, hgl⟩ := id hS
  have ha := ang_r hS (x := x) (by omega)
  refine GG.intro (ls := [some _, some _, some _]) (Nat.le_of_ble_eq_true rfl) rfl (fun μ F => ?_)
  refine g_aload_n F a_H_sightOf_0 rfl ?_
  refine g_iload_n F a_H_sightOf_1 rfl ?_
  refine g_v1 F a_H_sightOf_2 vc_H_65 mk_H_hasReader (ob_2 (by first | assumption | decide | omega)) ck_2.1 rfl rfl (by decide) ⟨Nat.le_refl _, Nat.le_refl _⟩ rfl (Nat.le_of_ble_eq_true rfl) (sp_H_hasReader hi hS hD (by omega) (fun c2 => GCr.v ?_) (fun c2 => GCr.v ?_))
  · refine g_ifeq1 F a_H_sightOf_5 ?_
    refine g_aload_n F a_H_sightOf_8 rfl ?_
    refine g_get_2_9 F a_H_sightOf_9 fl_H_21 (by first | assumption | decide | omega) ?_
    refine g_iload_n F a_H_sightOf_12 rfl ?_
    refine g_ild_2_3 F a_H_sightOf_13 (by first | assumption | decide | omega) (by omega) ?_
    refine g_aload_n F a_H_sightOf_14 rfl ?_
    refine g_iload_n F a_H_sightOf_15 rfl ?_
    refine g_v1 F a_H_sightOf_16 vc_H_68 mk_H_angleOf (ob_2 (by first | assumption | decide | omega)) ck_2.1 rfl rfl (by decide) ⟨Nat.le_refl _, Nat.le_refl _⟩ rfl (Nat.le_of_ble_eq_true rfl) (sp_H_angleOf hi hS hD (by omega) (GCr.v ?_))
    rw [if_pos hx]
    refine g_aload_n F a_H_sightOf_19 rfl ?_
    refine g_get_2_3 F a_H_sightOf_20 fl_H_34 (by first | assumption | decide | omega) ?_
    refine g_s3 F a_H_sightOf_23 sc_H_72 mk_K_sees rfl (by decide) ⟨Nat.le_refl _, Nat.le_refl _⟩ rfl (Nat.le_of_ble_eq_true rfl) (sp_K_sees (hgl _ (by omega)) ha (by omega) (GCr.v ?_))
    refine g_goto F a_H_sightOf_26 ?_
    refine g_iret F a_H_sightOf_30 rfl ⟨Nat.le_refl _, Nat.le_refl _⟩ ?_
    exact qv k (by first | rw [if_pos c2]; rfl | rw [if_neg c2])
  · refine g_ifeq0 F a_H_sightOf_5 ?_
    refine g_iconst F a_H_sightOf_29 ?_
    refine g_iret F a_H_sightOf_30 rfl ⟨Nat.le_refl _, Nat.le_refl _⟩ ?_
    exact qv k (by first | rw [if_pos c2]; rfl | rw [if_neg c2])
theorem errN_succ (S : Rc) (set r : Int) (n : Nat) : errN S set r (n + 1) = errN S set r n + if set / 2 ^ n % 2 = 1 then sgt S n r - ang S n else 0 := rfl
set_option maxHeartbeats 2000000 in
theorem lp_H_errorOf {κ : Kx} {μ : MX} {Q : Option Value → (Heap → Prop) → Prop} {i : Nat} {m : Mem} {D : Int} {set r : Int} (hi : i < 9) (hS : okS D (m 2 i)) (hD : D ≤ 100000) (hset : 0 ≤ set ∧ set < 64) (hr : 0 ≤ r ∧ r < (m 2 i).1 5) (k : Q (some (vi (errN (m 2 i) set r ((m 2 i).1 4).toNat))) (World κ m)) (F : Fx κ G_H_errorOf 1 0 0 μ) :
    ∀ (n : Nat) (j : Nat) (x e : Int), (m 2 i).1 4 < j + n → (j : Int) ≤ (m 2 i).1 4 → x = j → e = errN (m 2 i) set r j →  GC κ μ (ZZ κ μ 0 0 Q) 0 0 20 [some (.ref (ad κ 2 i)), some (vi set), some (vi r), some (vi e), some (vi x), none] [] (World κ m) := by
  obtain ⟨h0, h1, h2, h3, h4, h5, hfg, hkd, hsh, hgl⟩ := id hS
  intro n
  induction n with
  | zero =>
    intro j x e hn hj hx he
    exact absurd hn (by omega)
  | succ n ih =>
    intro j x e hn hj hx he
    have hE := errN_r hS set r j (by omega)
    have hbt : (j : Int) < 6 → bAnd (bShr set x) 1 = set / 2 ^ j % 2 := fun _ => by rw [bit_eq hset (by omega), hx, Int.toNat_natCast]
    have hb01 : 0 ≤ set / 2 ^ j % 2 ∧ set / 2 ^ j % 2 ≤ 1 := by omega
    have ha : x < 6 → 0 ≤ ang (m 2 i) x ∧ ang (m 2 i) x ≤ 90 := fun h => ang_r hS (by omega)
    refine g_iload F a_H_errorOf_20 rfl ?_
    refine g_aload_n F a_H_errorOf_22 rfl ?_
    refine g_get_2_4 F a_H_errorOf_23 fl_H_37 (by first | assumption | decide | omega) ?_
    refine g_icmp_ge F (by omega) (by omega) a_H_errorOf_26 (fun h26 => ?_) (fun h26 => ?_)
    · refine g_iload_n F a_H_errorOf_88 rfl ?_
      refine g_iret F a_H_errorOf_89 rfl ⟨Nat.le_refl _, Nat.le_refl _⟩ ?_
      exact qv k (by rw [he]; congr 1; omega)
    · refine g_iload_n F a_H_errorOf_29 rfl ?_
      refine g_iload F a_H_errorOf_30 rfl ?_
      refine g_ishr F a_H_errorOf_32 ?_
      refine g_iconst F a_H_errorOf_33 ?_
      refine g_iand F a_H_errorOf_34 ?_
      rw [hbt (by omega)]
      refine g_if_eq F (by omega) a_H_errorOf_35 (fun h35 => ?_) (fun h35 => ?_)
      · refine g_iinc (ls' := [_, _, _, _, _, _]) F a_H_errorOf_82 rfl rfl rfl ?_
        refine g_goto F a_H_errorOf_85 ?_
        exact GC.loc2 (ih (j + 1) _ _ (by omega) (by omega) (by omega) (by rw [errN_succ, he, if_neg (by omega)]; omega)) ⟨rfl, rfl, rfl, rfl, rfl, trivial⟩
      · refine g_aload_n F a_H_errorOf_38 rfl ?_
        refine g_get_2_7 F a_H_errorOf_39 fl_H_15 (by first | assumption | decide | omega) ?_
        refine g_iload F a_H_errorOf_42 rfl ?_
        refine g_ild_2_1 F a_H_errorOf_44 (by first | assumption | decide | omega) (by omega) ?_
        refine g_aload_n F a_H_errorOf_45 rfl ?_
        refine g_get_2_8 F a_H_errorOf_46 fl_H_18 (by first | assumption | decide | omega) ?_
        refine g_iload F a_H_errorOf_49 rfl ?_
        refine g_ild_2_2 F a_H_errorOf_51 (by first | assumption | decide | omega) (by omega) ?_
        refine g_aload_n F a_H_errorOf_52 rfl ?_
        refine g_get_2_3 F a_H_errorOf_53 fl_H_34 (by first | assumption | decide | omega) ?_
        refine g_s3 F a_H_errorOf_56 sc_H_59 mk_K_stands rfl (by decide) ⟨Nat.le_refl _, Nat.le_refl _⟩ rfl (Nat.le_of_ble_eq_true rfl) (sp_K_stands (hkd _ (by omega)) (hsh _ (by omega)) (by omega) (GCr.v ?_))
        refine g_istore (ls' := [_, _, _, _, _, _]) F a_H_errorOf_59 rfl rfl rfl ?_
        refine g_iload_n F a_H_errorOf_61 rfl ?_
        refine g_aload_n F a_H_errorOf_62 rfl ?_
        refine g_get_2_9 F a_H_errorOf_63 fl_H_21 (by first | assumption | decide | omega) ?_
        refine g_iload_n F a_H_errorOf_66 rfl ?_
        refine g_ild_2_3 F a_H_errorOf_67 (by first | assumption | decide | omega) (by omega) ?_
        refine g_iload F a_H_errorOf_68 rfl ?_
        refine g_aload_n F a_H_errorOf_70 rfl ?_
        refine g_get_2_3 F a_H_errorOf_71 fl_H_34 (by first | assumption | decide | omega) ?_
        refine g_s3 F a_H_errorOf_74 sc_H_72 mk_K_sees rfl (by decide) ⟨Nat.le_refl _, Nat.le_refl _⟩ rfl (Nat.le_of_ble_eq_true rfl) (sp_K_sees (hgl _ (by omega)) (ha (by omega)) (by omega) (GCr.v ?_))
        refine g_iload F a_H_errorOf_77 rfl ?_
        refine g_isub F a_H_errorOf_79 ?_
        refine g_iadd F a_H_errorOf_80 ?_
        refine g_istore_n (ls' := [_, _, _, _, _, _]) F a_H_errorOf_81 rfl rfl rfl ?_
        refine g_iinc (ls' := [_, _, _, _, _, _]) F a_H_errorOf_82 rfl rfl rfl ?_
        refine g_goto F a_H_errorOf_85 ?_
        exact GC.loc2 (ih (j + 1) _ _ (by omega) (by omega) (by omega) (by rw [errN_succ, he, if_pos (by omega), ← hx]; rfl)) ⟨rfl, rfl, rfl, rfl, rfl, trivial⟩
set_option maxHeartbeats 1000000 in
theorem sp_H_errorOf {κ : Kx} {Q : Option Value → (Heap → Prop) → Prop} {i : Nat} {m : Mem} {D : Int} {set r : Int} (hi : i < 9) (hS : okS D (m 2 i)) (hD : D ≤ 100000) (hset : 0 ≤ set ∧ set < 64) (hr : R32 r) (k : Q (some (vi (errS (m 2 i) set r))) (World κ m)) : GG κ G_H_errorOf 1 0 0 [.ref (ad κ 2 i), vi set, vi r] (World κ m) Q := by
  obtain ⟨h0, h1, h2, h3, h4, h5, hfg, hkd, hsh, hgl⟩ := id hS
  refine GG.intro (ls := [some _, some _, some _, none, none, none]) (Nat.le_of_ble_eq_true rfl) rfl (fun μ F => ?_)
  refine g_iconst F a_H_errorOf_0 ?_
  refine g_istore_n (ls' := [_, _, _, _, _, _]) F a_H_errorOf_1 rfl rfl rfl ?_
  refine g_aload_n F a_H_errorOf_2 rfl ?_
  refine g_iload_n F a_H_errorOf_3 rfl ?_
  refine g_v1 F a_H_errorOf_4 vc_H_65 mk_H_hasReader (ob_2 (by first | assumption | decide | omega)) ck_2.1 rfl rfl (by decide) ⟨Nat.le_refl _, Nat.le_refl _⟩ rfl (Nat.le_of_ble_eq_true rfl) (sp_H_hasReader hi hS hD (by omega) (fun c4 => GCr.v ?_) (fun c4 => GCr.v ?_))
  · refine g_ifeq1 F a_H_errorOf_7 ?_
    refine g_aload_n F a_H_errorOf_10 rfl ?_
    refine g_v0 F a_H_errorOf_11 vc_H_75 mk_H_foggy (ob_2 (by first | assumption | decide | omega)) ck_2.1 rfl rfl (by decide) ⟨Nat.le_refl _, Nat.le_refl _⟩ rfl (Nat.le_of_ble_eq_true rfl) (sp_H_foggy hi hS hD (fun c11 => GCr.v ?_) (fun c11 => GCr.v ?_))
    · refine g_ifne1 F a_H_errorOf_14 ?_
      refine g_iload_n F a_H_errorOf_88 rfl ?_
      refine g_iret F a_H_errorOf_89 rfl ⟨Nat.le_refl _, Nat.le_refl _⟩ ?_
      exact qv k (by unfold errS; rw [if_neg (fun h => by first | exact c4 h.1 | exact h.2 c11)])
    · refine g_ifne0 F a_H_errorOf_14 ?_
      refine g_iconst F a_H_errorOf_17 ?_
      refine g_istore (ls' := [_, _, _, _, _, _]) F a_H_errorOf_18 rfl rfl rfl ?_
      exact GC.loc2 (lp_H_errorOf hi hS hD hset c4 (qv k (by unfold errS; rw [if_pos ⟨c4, c11⟩])) F (((m 2 i).1 4).toNat + 1) 0 _ _ (by omega) (by omega) rfl rfl) ⟨rfl, rfl, rfl, rfl, rfl, trivial⟩
  · refine g_ifeq0 F a_H_errorOf_7 ?_
    refine g_iload_n F a_H_errorOf_88 rfl ?_
    refine g_iret F a_H_errorOf_89 rfl ⟨Nat.le_refl _, Nat.le_refl _⟩ ?_
    exact qv k (by unfold errS; rw [if_neg (fun h => by first | exact c4 h.1 | exact h.2 c11)])
set_option maxHeartbeats 1000000 in
theorem sp_H_placeBehind {κ : Kx} {Q : Option Value → (Heap → Prop) → Prop} {i : Nat} {m : Mem} {D : Int} {e : Int} (hi : i < 9) (hS : okS D (m 2 i)) (hD : D ≤ 100000) (he : -1000 ≤ e ∧ e ≤ 1000) (k : Q (some (vi (((m 2 i).1 0 + (m 2 i).1 2 + e) % 100))) (World κ m)) : GG κ G_H_placeBehind 1 0 0 [.ref (ad κ 2 i), vi e] (World κ m) Q := by
  obtain ⟨h0, h1, h2, h3, h4, h5, hfg, hkd, hsh, hgl⟩ := id hS
  refine GG.intro (ls := [some _, some _]) (Nat.le_of_ble_eq_true rfl) rfl (fun μ F => ?_)
  refine g_aload_n F a_H_placeBehind_0 rfl ?_
  refine g_get_2_0 F a_H_placeBehind_1 fl_H_24 (by first | assumption | decide | omega) ?_
  refine g_aload_n F a_H_placeBehind_4 rfl ?_
  refine g_get_2_2 F a_H_placeBehind_5 fl_H_31 (by first | assumption | decide | omega) ?_
  refine g_iadd F a_H_placeBehind_8 ?_
  refine g_iload_n F a_H_placeBehind_9 rfl ?_
  refine g_iadd F a_H_placeBehind_10 ?_
  refine g_bipush F a_H_placeBehind_11 (by decide) ?_
  refine g_s2 F a_H_placeBehind_13 sc_H_79 mk_J_floorMod rfl (by decide) ⟨Nat.le_refl _, Nat.le_refl _⟩ rfl (Nat.le_of_ble_eq_true rfl) (sp_J_floorMod (by omega) rfl (GCr.v ?_))
  refine g_iret F a_H_placeBehind_16 rfl ⟨Nat.le_refl _, Nat.le_refl _⟩ ?_
  exact k
set_option maxHeartbeats 1000000 in
theorem sp_H_drift {κ : Kx} {Q : Option Value → (Heap → Prop) → Prop} {i : Nat} {m : Mem} {D : Int} (hi : i < 9) (hS : okS D (m 2 i)) (hD : D ≤ 100000) (k : Q (some (vi (offS (m 2 i)))) (World κ m)) : GG κ G_H_drift 1 0 0 [.ref (ad κ 2 i)] (World κ m) Q := by
  obtain ⟨h0, h1, h2, h3, h4, h5, hfg, hkd, hsh, hgl⟩ := id hS
  refine GG.intro (ls := [some _]) (Nat.le_of_ble_eq_true rfl) rfl (fun μ F => ?_)
  refine g_aload_n F a_H_drift_0 rfl ?_
  refine g_get_2_0 F a_H_drift_1 fl_H_24 (by first | assumption | decide | omega) ?_
  refine g_aload_n F a_H_drift_4 rfl ?_
  refine g_get_2_1 F a_H_drift_5 fl_H_28 (by first | assumption | decide | omega) ?_
  refine g_isub F a_H_drift_8 ?_
  refine g_bipush F a_H_drift_9 (by decide) ?_
  refine g_iadd F a_H_drift_11 ?_
  refine g_bipush F a_H_drift_12 (by decide) ?_
  refine g_s2 F a_H_drift_14 sc_H_79 mk_J_floorMod rfl (by decide) ⟨Nat.le_refl _, Nat.le_refl _⟩ rfl (Nat.le_of_ble_eq_true rfl) (sp_J_floorMod (by omega) rfl (GCr.v ?_))
  refine g_bipush F a_H_drift_17 (by decide) ?_
  refine g_isub F a_H_drift_19 ?_
  refine g_iret F a_H_drift_20 rfl ⟨Nat.le_refl _, Nat.le_refl _⟩ ?_
  exact k
theorem shN_zero (S : Rc) (set : Int) : shN S set 0 = S.2 2 := by
  funext k
  unfold shN
  rw [if_neg (by omega)]
theorem aup_self (f : Nat → Int → Int) (j : Nat) : aup f j (f j) = f := by
  funext k
  by_cases h : k = j
  · subst h; simp [aup]
  · simp [aup, h]
theorem shN_succ {S : Rc} {set x : Int} {j : Nat} (hx : x = j) (v : Int) (hv : v = if set / 2 ^ j % 2 = 1 then max (S.2 2 x - 1) 0 else min (S.2 2 x + 3) 90) : gup (shN S set j) x v = shN S set (j + 1) := by
  funext k
  unfold gup
  by_cases h : k = x
  · subst h
    have hc : 0 ≤ k ∧ k < ((j + 1 : Nat) : Int) := by omega
    rw [if_pos rfl, hv]
    unfold shN
    rw [if_pos hc, show k.toNat = j by omega]
  · rw [if_neg h]
    unfold shN
    by_cases h1 : 0 ≤ k ∧ k < (j : Int)
    · have hc : 0 ≤ k ∧ k < ((j + 1 : Nat) : Int) := by omega
      rw [if_pos h1, if_pos hc]
    · have hc : ¬ (0 ≤ k ∧ k < ((j + 1 : Nat) : Int)) := by omega
      rw [if_neg h1, if_neg hc]
theorem shN_at {S : Rc} {set x : Int} {j : Nat} (hx : x = j) : shN S set j x = S.2 2 x := by
  unfold shN
  rw [if_neg (by omega)]
/-- the ship behind a noon's first half: SHAMES, DAY -/
def dayS (S : Rc) (set : Int) : Rc := (fup S.1 3 (S.1 3 + 1), aup S.2 2 (if fogB S then S.2 2 else shN S set (S.1 4).toNat))
set_option maxHeartbeats 2000000 in
theorem lp_H_sail {κ : Kx} {μ : MX} {Q : Option Value → (Heap → Prop) → Prop} {i : Nat} {m : Mem} {D : Int} {set r : Int} (hi : i < 9) (hS : okS D (m 2 i)) (hD : D ≤ 100000) (hset : 0 ≤ set ∧ set < 64) (hfo : ¬ fogB (m 2 i)) (k : Q none (World κ (mset m 2 i (dayS (m 2 i) set)))) (F : Fx κ G_H_sail 2 0 0 μ) :
    ∀ (n : Nat) (j : Nat) (x : Int), (m 2 i).1 4 < j + n → (j : Int) ≤ (m 2 i).1 4 → x = j →  GC κ μ (ZZ κ μ 0 0 Q) 0 0 39 [some (.ref (ad κ 2 i)), some (vi set), some (vi r), some (vi x), none] [] (World κ (mset m 2 i ((m 2 i).1, aup (m 2 i).2 2 (shN (m 2 i) set j)))) := by
  obtain ⟨h0, h1, h2, h3, h4, h5, hfg, hkd, hsh, hgl⟩ := id hS
  intro n
  induction n with
  | zero =>
    intro j x hn hj hx
    exact absurd hn (by omega)
  | succ n ih =>
    intro j x hn hj hx
    have hbt : (j : Int) < 6 → bAnd (bShr set x) 1 = set / 2 ^ j % 2 := fun _ => by rw [bit_eq hset (by omega), hx, Int.toNat_natCast]
    have hb01 : 0 ≤ set / 2 ^ j % 2 ∧ set / 2 ^ j % 2 ≤ 1 := by omega
    have hs9 : (j : Int) < 6 → 0 ≤ (m 2 i).2 2 x ∧ (m 2 i).2 2 x ≤ 90 := fun _ => hsh x (by omega)
    refine g_iload_n F a_H_sail_39 rfl ?_
    refine g_aload_n F a_H_sail_40 rfl ?_
    refine g_get_2_4 F a_H_sail_41 fl_H_37 (by first | assumption | decide | omega) ?_
    (try simp only [mset_app, mset_mset, fup_app, aup_app, fup_fup, aup_aup, false_and, and_false, true_and, and_true, and_self, reduceIte, Nat.reduceEqDiff, reduceCtorEq])
    refine g_icmp_ge F (by omega) (by omega) a_H_sail_44 (fun h44 => ?_) (fun h44 => ?_)
    · refine g_aload_n F a_H_sail_107 rfl ?_
      refine g_dup F a_H_sail_108 rfl ?_
      refine g_get_2_3 F a_H_sail_109 fl_H_34 (by first | assumption | decide | omega) ?_
      (try simp only [mset_app, mset_mset, fup_app, aup_app, fup_fup, aup_aup, false_and, and_false, true_and, and_true, and_self, reduceIte, Nat.reduceEqDiff, reduceCtorEq])
      refine g_iconst F a_H_sail_112 ?_
      refine g_iadd F a_H_sail_113 ?_
      refine g_put_2_3 F a_H_sail_114 fl_H_34 (by first | assumption | decide | omega) ?_
      (try simp only [mset_app, mset_mset, fup_app, aup_app, fup_fup, aup_aup, false_and, and_false, true_and, and_true, and_self, reduceIte, Nat.reduceEqDiff, reduceCtorEq])
      refine g_ret F a_H_sail_117 rfl ⟨Nat.le_refl _, Nat.le_refl _⟩ ?_
      unfold dayS at k; rw [if_neg hfo] at k; rw [show j = ((m 2 i).1 4).toNat by omega]; exact k
    · refine g_iload_n F a_H_sail_47 rfl ?_
      refine g_iload_n F a_H_sail_48 rfl ?_
      refine g_ishr F a_H_sail_49 ?_
      refine g_iconst F a_H_sail_50 ?_
      refine g_iand F a_H_sail_51 ?_
      rw [hbt (by omega)]
      refine g_if_eq F (by omega) a_H_sail_52 (fun h52 => ?_) (fun h52 => ?_)
      · refine g_iconst F a_H_sail_59 ?_
        refine g_istore (ls' := [_, _, _, _, _]) F a_H_sail_60 rfl rfl rfl ?_
        refine g_aload_n F a_H_sail_62 rfl ?_
        refine g_get_2_8 F a_H_sail_63 fl_H_18 (by first | assumption | decide | omega) ?_
        (try simp only [mset_app, mset_mset, fup_app, aup_app, fup_fup, aup_aup, false_and, and_false, true_and, and_true, and_self, reduceIte, Nat.reduceEqDiff, reduceCtorEq])
        refine g_iload_n F a_H_sail_66 rfl ?_
        refine g_iload F a_H_sail_67 rfl ?_
        refine g_ifeq0 F a_H_sail_69 ?_
        refine g_aload_n F a_H_sail_87 rfl ?_
        refine g_get_2_8 F a_H_sail_88 fl_H_18 (by first | assumption | decide | omega) ?_
        (try simp only [mset_app, mset_mset, fup_app, aup_app, fup_fup, aup_aup, false_and, and_false, true_and, and_true, and_self, reduceIte, Nat.reduceEqDiff, reduceCtorEq])
        refine g_iload_n F a_H_sail_91 rfl ?_
        refine g_ild_2_2 F a_H_sail_92 (by first | assumption | decide | omega) (by omega) ?_
        (try simp only [mset_app, mset_mset, fup_app, aup_app, fup_fup, aup_aup, false_and, and_false, true_and, and_true, and_self, reduceIte, Nat.reduceEqDiff, reduceCtorEq])
        rw [shN_at hx]
        refine g_iconst F a_H_sail_93 ?_
        refine g_iadd F a_H_sail_94 ?_
        refine g_bipush F a_H_sail_95 (by decide) ?_
        refine g_s2 F a_H_sail_97 sc_H_53 mk_J_min rfl (by decide) ⟨Nat.le_refl _, Nat.le_refl _⟩ rfl (Nat.le_of_ble_eq_true rfl) (sp_J_min (by omega) (by omega) (GCr.v ?_))
        (try simp only [mset_app, mset_mset, fup_app, aup_app, fup_fup, aup_aup, false_and, and_false, true_and, and_true, and_self, reduceIte, Nat.reduceEqDiff, reduceCtorEq])
        refine g_ist_2_2 F a_H_sail_100 (by first | assumption | decide | omega) (by omega) ?_
        (try simp only [mset_app, mset_mset, fup_app, aup_app, fup_fup, aup_aup, false_and, and_false, true_and, and_true, and_self, reduceIte, Nat.reduceEqDiff, reduceCtorEq])
        refine g_iinc (ls' := [_, _, _, _, _]) F a_H_sail_101 rfl rfl rfl ?_
        refine g_goto F a_H_sail_104 ?_
        rw [shN_succ hx _ (by rw [if_neg (by omega)])]
        exact GC.loc2 (ih (j + 1) _ (by omega) (by omega) (by omega)) ⟨rfl, rfl, rfl, rfl, trivial⟩
      · refine g_iconst F a_H_sail_55 ?_
        refine g_goto F a_H_sail_56 ?_
        refine g_istore (ls' := [_, _, _, _, _]) F a_H_sail_60 rfl rfl rfl ?_
        refine g_aload_n F a_H_sail_62 rfl ?_
        refine g_get_2_8 F a_H_sail_63 fl_H_18 (by first | assumption | decide | omega) ?_
        (try simp only [mset_app, mset_mset, fup_app, aup_app, fup_fup, aup_aup, false_and, and_false, true_and, and_true, and_self, reduceIte, Nat.reduceEqDiff, reduceCtorEq])
        refine g_iload_n F a_H_sail_66 rfl ?_
        refine g_iload F a_H_sail_67 rfl ?_
        refine g_ifeq1 F a_H_sail_69 ?_
        refine g_aload_n F a_H_sail_72 rfl ?_
        refine g_get_2_8 F a_H_sail_73 fl_H_18 (by first | assumption | decide | omega) ?_
        (try simp only [mset_app, mset_mset, fup_app, aup_app, fup_fup, aup_aup, false_and, and_false, true_and, and_true, and_self, reduceIte, Nat.reduceEqDiff, reduceCtorEq])
        refine g_iload_n F a_H_sail_76 rfl ?_
        refine g_ild_2_2 F a_H_sail_77 (by first | assumption | decide | omega) (by omega) ?_
        (try simp only [mset_app, mset_mset, fup_app, aup_app, fup_fup, aup_aup, false_and, and_false, true_and, and_true, and_self, reduceIte, Nat.reduceEqDiff, reduceCtorEq])
        rw [shN_at hx]
        refine g_iconst F a_H_sail_78 ?_
        refine g_isub F a_H_sail_79 ?_
        refine g_iconst F a_H_sail_80 ?_
        refine g_s2 F a_H_sail_81 sc_H_88 mk_J_max rfl (by decide) ⟨Nat.le_refl _, Nat.le_refl _⟩ rfl (Nat.le_of_ble_eq_true rfl) (sp_J_max (by omega) (by omega) (GCr.v ?_))
        (try simp only [mset_app, mset_mset, fup_app, aup_app, fup_fup, aup_aup, false_and, and_false, true_and, and_true, and_self, reduceIte, Nat.reduceEqDiff, reduceCtorEq])
        refine g_goto F a_H_sail_84 ?_
        refine g_ist_2_2 F a_H_sail_100 (by first | assumption | decide | omega) (by omega) ?_
        (try simp only [mset_app, mset_mset, fup_app, aup_app, fup_fup, aup_aup, false_and, and_false, true_and, and_true, and_self, reduceIte, Nat.reduceEqDiff, reduceCtorEq])
        refine g_iinc (ls' := [_, _, _, _, _]) F a_H_sail_101 rfl rfl rfl ?_
        refine g_goto F a_H_sail_104 ?_
        rw [shN_succ hx _ (by rw [if_pos (by omega)])]
        exact GC.loc2 (ih (j + 1) _ (by omega) (by omega) (by omega)) ⟨rfl, rfl, rfl, rfl, trivial⟩
theorem Ag2 {R R' : Rc} (h0 : R.1 0 = R'.1 0) (h1 : R.1 1 = R'.1 1) (h2 : R.1 2 = R'.1 2) (h3 : R.1 3 = R'.1 3) (h4 : R.1 4 = R'.1 4) (h5 : R.1 5 = R'.1 5) (a0 : ∀ x : Int, 0 ≤ x ∧ x < 6 → R.2 0 x = R'.2 0 x) (a1 : ∀ x : Int, 0 ≤ x ∧ x < 6 → R.2 1 x = R'.2 1 x) (a2 : ∀ x : Int, 0 ≤ x ∧ x < 6 → R.2 2 x = R'.2 2 x) (a3 : ∀ x : Int, 0 ≤ x ∧ x < 3 → R.2 3 x = R'.2 3 x) : Ag 2 R R' := by
  refine ⟨fun k hk => ?_, fun j hj x x0 x1 => ?_⟩
  · have hk : k < 6 := hk
    match k, hk with
    | 0, _ => exact h0
    | 1, _ => exact h1
    | 2, _ => exact h2
    | 3, _ => exact h3
    | 4, _ => exact h4
    | 5, _ => exact h5
  · have hj : j < 4 := hj
    match j, hj, x1 with
    | 0, _, x1 => exact a0 x ⟨x0, x1⟩
    | 1, _, x1 => exact a1 x ⟨x0, x1⟩
    | 2, _, x1 => exact a2 x ⟨x0, x1⟩
    | 3, _, x1 => exact a3 x ⟨x0, x1⟩
theorem dayS_l {S : Rc} {set r : Int} : dayS (fup (fup S.1 0 ((S.1 0 + S.1 2 + errS S set r) % 100)) 1 ((S.1 1 + S.1 2) % 100), S.2) set = sailS S set r := rfl
set_option maxHeartbeats 2000000 in
theorem tl_H_sail {κ : Kx} {Q : Option Value → (Heap → Prop) → Prop} {μ : MX} (F : Fx κ G_H_sail 2 0 0 μ) {i : Nat} {m : Mem} {D : Int} {set r : Int} (hi : i < 9) (hS : okS D (m 2 i)) (hD : D ≤ 100000) (hset : 0 ≤ set ∧ set < 64) (k : Q none (World κ (mset m 2 i (dayS (m 2 i) set)))) : GC κ μ (ZZ κ μ 0 0 Q) 0 0 30 [some (.ref (ad κ 2 i)), some (vi set), some (vi r), none, none] [] (World κ m) := by
  obtain ⟨h0, h1, h2, h3, h4, h5, hfg, hkd, hsh, hgl⟩ := id hS
  refine g_aload_n F a_H_sail_30 rfl ?_
  refine g_v0 F a_H_sail_31 vc_H_75 mk_H_foggy (ob_2 (by first | assumption | decide | omega)) ck_2.1 rfl rfl (by decide) ⟨Nat.le_refl _, Nat.le_refl _⟩ rfl (Nat.le_of_ble_eq_true rfl) (sp_H_foggy hi hS hD (fun c31 => GCr.v ?_) (fun c31 => GCr.v ?_))
  · refine g_ifne1 F a_H_sail_34 ?_
    refine g_aload_n F a_H_sail_107 rfl ?_
    refine g_dup F a_H_sail_108 rfl ?_
    refine g_get_2_3 F a_H_sail_109 fl_H_34 (by first | assumption | decide | omega) ?_
    refine g_iconst F a_H_sail_112 ?_
    refine g_iadd F a_H_sail_113 ?_
    refine g_put_2_3 F a_H_sail_114 fl_H_34 (by first | assumption | decide | omega) ?_
    refine g_ret F a_H_sail_117 rfl ⟨Nat.le_refl _, Nat.le_refl _⟩ ?_
    unfold dayS at k; rw [if_pos c31, aup_self] at k; exact k
  · refine g_ifne0 F a_H_sail_34 ?_
    refine g_iconst F a_H_sail_37 ?_
    refine g_istore_n (ls' := [_, _, _, _, _]) F a_H_sail_38 rfl rfl rfl ?_
    have hz := lp_H_sail (κ := κ) (r := r) hi hS hD hset c31 k F (((m 2 i).1 4).toNat + 1) 0 0 (by omega) (by omega) rfl
    rw [shN_zero, aup_self, mset_self] at hz
    exact GC.loc2 hz ⟨rfl, rfl, rfl, rfl, trivial⟩
set_option maxHeartbeats 1000000 in
theorem sp_H_sail {κ : Kx} {Q : Option Value → (Heap → Prop) → Prop} {i : Nat} {m : Mem} {D : Int} {set r : Int} (hi : i < 9) (hS : okS D (m 2 i)) (hD : D ≤ 100000) (hset : 0 ≤ set ∧ set < 64) (hr : R32 r) (k : Q none (World κ (mset m 2 i (sailS (m 2 i) set r)))) : GG κ G_H_sail 2 0 0 [.ref (ad κ 2 i), vi set, vi r] (World κ m) Q := by
  obtain ⟨h0, h1, h2, h3, h4, h5, hfg, hkd, hsh, hgl⟩ := id hS
  have hER := errS_r hS set r
  refine GG.intro (ls := [some _, some _, some _, none, none]) (Nat.le_of_ble_eq_true rfl) rfl (fun μ F => ?_)
  refine g_aload_n F a_H_sail_0 rfl ?_
  refine g_aload_n F a_H_sail_1 rfl ?_
  refine g_aload_n F a_H_sail_2 rfl ?_
  refine g_iload_n F a_H_sail_3 rfl ?_
  refine g_iload_n F a_H_sail_4 rfl ?_
  refine g_v2 F a_H_sail_5 vc_H_82 mk_H_errorOf (ob_2 (by first | assumption | decide | omega)) ck_2.1 rfl rfl (by decide) ⟨Nat.le_refl _, Nat.le_refl _⟩ rfl (Nat.le_of_ble_eq_true rfl) (sp_H_errorOf hi hS hD hset hr (GCr.v ?_))
  refine g_v1 F a_H_sail_8 vc_H_85 mk_H_placeBehind (ob_2 (by first | assumption | decide | omega)) ck_2.1 rfl rfl (by decide) ⟨Nat.le_refl _, Nat.le_refl _⟩ rfl (Nat.le_of_ble_eq_true rfl) (sp_H_placeBehind hi hS hD (by omega) (GCr.v ?_))
  refine g_put_2_0 F a_H_sail_11 fl_H_24 (by first | assumption | decide | omega) ?_
  (try simp only [mset_app, mset_mset, fup_app, aup_app, fup_fup, aup_aup, false_and, and_false, true_and, and_true, and_self, reduceIte, Nat.reduceEqDiff, reduceCtorEq])
  refine g_aload_n F a_H_sail_14 rfl ?_
  refine g_aload_n F a_H_sail_15 rfl ?_
  refine g_get_2_1 F a_H_sail_16 fl_H_28 (by first | assumption | decide | omega) ?_
  (try simp only [mset_app, mset_mset, fup_app, aup_app, fup_fup, aup_aup, false_and, and_false, true_and, and_true, and_self, reduceIte, Nat.reduceEqDiff, reduceCtorEq])
  refine g_aload_n F a_H_sail_19 rfl ?_
  refine g_get_2_2 F a_H_sail_20 fl_H_31 (by first | assumption | decide | omega) ?_
  (try simp only [mset_app, mset_mset, fup_app, aup_app, fup_fup, aup_aup, false_and, and_false, true_and, and_true, and_self, reduceIte, Nat.reduceEqDiff, reduceCtorEq])
  refine g_iadd F a_H_sail_23 ?_
  refine g_bipush F a_H_sail_24 (by decide) ?_
  refine g_irem F (by omega) (by omega) a_H_sail_26 ?_
  refine g_put_2_1 F a_H_sail_27 fl_H_28 (by first | assumption | decide | omega) ?_
  (try simp only [mset_app, mset_mset, fup_app, aup_app, fup_fup, aup_aup, false_and, and_false, true_and, and_true, and_self, reduceIte, Nat.reduceEqDiff, reduceCtorEq])
  refine tl_H_sail F hi (D := D) (by rw [mset_same]; exact ⟨⟨by show 0 ≤ (_ : Int) % 100; omega, by show (_ : Int) % 100 < 100; omega⟩, ⟨by show 0 ≤ (_ : Int) % 100; omega, by show (_ : Int) % 100 < 100; omega⟩, hS.2.2⟩) hD hset ?_
  rw [mset_same, mset_mset, dayS_l]
  exact k
def sumN (S : Rc) : Nat → Int
  | 0 => 0
  | n + 1 => sumN S n + S.2 2 n
theorem sumN_r {D : Int} {S : Rc} (h : okS D S) : ∀ n : Nat, n ≤ 6 → 0 ≤ sumN S n ∧ sumN S n ≤ 90 * (n : Int)
  | 0, _ => by simp [sumN]
  | n + 1, hn => by
    have ih := sumN_r h n (by omega)
    have h1 := h.2.2.2.2.2.2.2.2.1 n (by omega)
    unfold sumN
    omega
/-- clear days of the first d ones that leave j, by 6, for j < n -/
def clN (S : Rc) (d : Int) : Nat → Int
  | 0 => 0
  | n + 1 => clN S d n + if S.2 0 n = 0 then (d + 6 - 1 - n) / 6 else 0
theorem clN_r (S : Rc) (d : Int) (hd : 0 ≤ d ∧ d ≤ 99) : ∀ n : Nat, n ≤ 6 → 0 ≤ clN S d n ∧ clN S d n ≤ 20 * (n : Int)
  | 0, _ => by simp [clN]
  | n + 1, hn => by
    have ih := clN_r S d hd n (by omega)
    unfold clN
    split <;> omega
def fgN (S : Rc) (h : Int) : Nat → Int
  | 0 => h
  | n + 1 => 31 * fgN S h n + S.2 0 n
def mnN (S : Rc) (h : Int) : Nat → Int
  | 0 => h
  | n + 1 => 31 * (31 * mnN S h n + S.2 1 n) + S.2 2 n
def glN (S : Rc) (h : Int) : Nat → Int
  | 0 => h
  | n + 1 => 31 * glN S h n + S.2 3 n
/-- the ship's part of the digest -/
def digS (S : Rc) (h : Int) : Int := glN S (mnN S (fgN S h 6) (S.1 4).toNat) (S.1 5).toNat
theorem ql {Q : Option Value → (Heap → Prop) → Prop} {P : Heap → Prop} {x y : Int} (k : Q (some (vl x)) P) (h : y = x) : Q (some (vl y)) P := h ▸ k
set_option maxHeartbeats 2000000 in
theorem lp_H_shameOfAll {κ : Kx} {μ : MX} {Q : Option Value → (Heap → Prop) → Prop} {i : Nat} {m : Mem} {D : Int} (hi : i < 9) (hS : okS D (m 2 i)) (hD : D ≤ 100000) (k : Q (some (vi (sumN (m 2 i) ((m 2 i).1 4).toNat))) (World κ m)) (F : Fx κ G_H_shameOfAll 0 0 0 μ) :
    ∀ (n : Nat) (j : Nat) (x e : Int), (m 2 i).1 4 < j + n → (j : Int) ≤ (m 2 i).1 4 → x = j → e = sumN (m 2 i) j →  GC κ μ (ZZ κ μ 0 0 Q) 0 0 4 [some (.ref (ad κ 2 i)), some (vi e), some (vi x)] [] (World κ m) := by
  obtain ⟨h0, h1, h2, h3, h4, h5, hfg, hkd, hsh, hgl⟩ := id hS
  intro n
  induction n with
  | zero =>
    intro j x e hn hj hx he
    exact absurd hn (by omega)
  | succ n ih =>
    intro j x e hn hj hx he
    refine g_iload_n F a_H_shameOfAll_4 rfl ?_
    refine g_aload_n F a_H_shameOfAll_5 rfl ?_
    refine g_get_2_4 F a_H_shameOfAll_6 fl_H_37 (by first | assumption | decide | omega) ?_
    refine g_icmp_ge F (by omega) (by omega) a_H_shameOfAll_9 (fun h9 => ?_) (fun h9 => ?_)
    · refine g_iload_n F a_H_shameOfAll_27 rfl ?_
      refine g_iret F a_H_shameOfAll_28 rfl ⟨Nat.le_refl _, Nat.le_refl _⟩ ?_
      exact qv k (by rw [he]; congr 1; omega)
    · refine g_iload_n F a_H_shameOfAll_12 rfl ?_
      refine g_aload_n F a_H_shameOfAll_13 rfl ?_
      refine g_get_2_8 F a_H_shameOfAll_14 fl_H_18 (by first | assumption | decide | omega) ?_
      refine g_iload_n F a_H_shameOfAll_17 rfl ?_
      refine g_ild_2_2 F a_H_shameOfAll_18 (by first | assumption | decide | omega) (by omega) ?_
      refine g_iadd F a_H_shameOfAll_19 ?_
      refine g_istore_n (ls' := [_, _, _]) F a_H_shameOfAll_20 rfl rfl rfl ?_
      refine g_iinc (ls' := [_, _, _]) F a_H_shameOfAll_21 rfl rfl rfl ?_
      refine g_goto F a_H_shameOfAll_24 ?_
      exact GC.loc2 (ih (j + 1) _ _ (by omega) (by omega) (by omega) (by rw [he, hx]; rfl)) ⟨rfl, rfl, rfl, trivial⟩
set_option maxHeartbeats 1000000 in
theorem sp_H_shameOfAll {κ : Kx} {Q : Option Value → (Heap → Prop) → Prop} {i : Nat} {m : Mem} {D : Int} (hi : i < 9) (hS : okS D (m 2 i)) (hD : D ≤ 100000) (k : Q (some (vi (sumN (m 2 i) ((m 2 i).1 4).toNat))) (World κ m)) : GG κ G_H_shameOfAll 0 0 0 [.ref (ad κ 2 i)] (World κ m) Q := by
  obtain ⟨h0, h1, h2, h3, h4, h5, hfg, hkd, hsh, hgl⟩ := id hS
  refine GG.intro (ls := [some _, none, none]) (Nat.le_of_ble_eq_true rfl) rfl (fun μ F => ?_)
  refine g_iconst F a_H_shameOfAll_0 ?_
  refine g_istore_n (ls' := [_, _, _]) F a_H_shameOfAll_1 rfl rfl rfl ?_
  refine g_iconst F a_H_shameOfAll_2 ?_
  refine g_istore_n (ls' := [_, _, _]) F a_H_shameOfAll_3 rfl rfl rfl ?_
  exact GC.loc2 (lp_H_shameOfAll hi hS hD k F (((m 2 i).1 4).toNat + 1) 0 _ _ (by omega) (by omega) rfl rfl) ⟨rfl, rfl, rfl, trivial⟩
set_option maxHeartbeats 2000000 in
theorem lp_H_shameBy {κ : Kx} {μ : MX} {Q : Option Value → (Heap → Prop) → Prop} {i : Nat} {m : Mem} {D : Int} (hi : i < 9) (hS : okS D (m 2 i)) (hD : D ≤ 100000) {a b : Int} (ha : 0 ≤ a ∧ a ≤ 90) (hb : 0 ≤ b ∧ b ≤ 99) (k : Q (some (vi (min (a + 3 * clN (m 2 i) b 6) 90))) (World κ m)) (F : Fx κ G_H_shameBy 1 0 0 μ) :
    ∀ (n : Nat) (j : Nat) (x e : Int), 6 < j + n → (j : Int) ≤ 6 → x = j → e = clN (m 2 i) b j →  GC κ μ (ZZ κ μ 0 0 Q) 0 0 5 [some (.ref (ad κ 2 i)), some (vi a), some (vi b), some (vi e), some (vi x)] [] (World κ m) := by
  obtain ⟨h0, h1, h2, h3, h4, h5, hfg, hkd, hsh, hgl⟩ := id hS
  intro n
  induction n with
  | zero =>
    intro j x e hn hj hx he
    exact absurd hn (by omega)
  | succ n ih =>
    intro j x e hn hj hx he
    have hcl := clN_r (m 2 i) b hb j (by omega)
    have hff : x < 6 → R32 ((m 2 i).2 0 x) := fun _ => by have := hfg x (by omega); omega
    refine g_iload F a_H_shameBy_5 rfl ?_
    refine g_bipush F a_H_shameBy_7 (by decide) ?_
    refine g_icmp_ge F (by first | omega | exact hff (by omega)) (by first | omega | exact hff (by omega)) a_H_shameBy_9 (fun h9 => ?_) (fun h9 => ?_)
    · refine g_iload_n F a_H_shameBy_43 rfl ?_
      refine g_iconst F a_H_shameBy_44 ?_
      refine g_iload_n F a_H_shameBy_45 rfl ?_
      refine g_imul F a_H_shameBy_46 ?_
      refine g_iadd F a_H_shameBy_47 ?_
      refine g_bipush F a_H_shameBy_48 (by decide) ?_
      refine g_s2 F a_H_shameBy_50 sc_H_53 mk_J_min rfl (by decide) ⟨Nat.le_refl _, Nat.le_refl _⟩ rfl (Nat.le_of_ble_eq_true rfl) (sp_J_min (by omega) (by omega) (GCr.v ?_))
      refine g_iret F a_H_shameBy_53 rfl ⟨Nat.le_refl _, Nat.le_refl _⟩ ?_
      exact qv k (by rw [he, show j = 6 by omega])
    · refine g_aload_n F a_H_shameBy_12 rfl ?_
      refine g_get_2_6 F a_H_shameBy_13 fl_H_9 (by first | assumption | decide | omega) ?_
      refine g_iload F a_H_shameBy_16 rfl ?_
      refine g_ild_2_0 F a_H_shameBy_18 (by first | assumption | decide | omega) (by omega) ?_
      refine g_if_ne F (by first | omega | exact hff (by omega)) a_H_shameBy_19 (fun h19 => ?_) (fun h19 => ?_)
      · refine g_iinc (ls' := [_, _, _, _, _]) F a_H_shameBy_37 rfl rfl rfl ?_
        refine g_goto F a_H_shameBy_40 ?_
        exact GC.loc2 (ih (j + 1) _ _ (by omega) (by omega) (by omega) (by unfold clN; rw [if_neg (by rw [← hx]; exact h19)]; omega)) ⟨rfl, rfl, rfl, rfl, rfl, trivial⟩
      · refine g_iload_n F a_H_shameBy_22 rfl ?_
        refine g_iload_n F a_H_shameBy_23 rfl ?_
        refine g_bipush F a_H_shameBy_24 (by decide) ?_
        refine g_iadd F a_H_shameBy_26 ?_
        refine g_iconst F a_H_shameBy_27 ?_
        refine g_isub F a_H_shameBy_28 ?_
        refine g_iload F a_H_shameBy_29 rfl ?_
        refine g_isub F a_H_shameBy_31 ?_
        refine g_bipush F a_H_shameBy_32 (by decide) ?_
        refine g_idiv F (by first | omega | exact hff (by omega)) (by first | omega | exact hff (by omega)) a_H_shameBy_34 ?_
        refine g_iadd F a_H_shameBy_35 ?_
        refine g_istore_n (ls' := [_, _, _, _, _]) F a_H_shameBy_36 rfl rfl rfl ?_
        refine g_iinc (ls' := [_, _, _, _, _]) F a_H_shameBy_37 rfl rfl rfl ?_
        refine g_goto F a_H_shameBy_40 ?_
        exact GC.loc2 (ih (j + 1) _ _ (by omega) (by omega) (by omega) (by unfold clN; rw [if_pos (by rw [← hx]; exact h19), he, hx])) ⟨rfl, rfl, rfl, rfl, rfl, trivial⟩
set_option maxHeartbeats 1000000 in
theorem sp_H_shameBy {κ : Kx} {Q : Option Value → (Heap → Prop) → Prop} {i : Nat} {m : Mem} {D : Int} (hi : i < 9) (hS : okS D (m 2 i)) (hD : D ≤ 100000) {a b : Int} (ha : 0 ≤ a ∧ a ≤ 90) (hb : 0 ≤ b ∧ b ≤ 99) (k : Q (some (vi (min (a + 3 * clN (m 2 i) b 6) 90))) (World κ m)) : GG κ G_H_shameBy 1 0 0 [.ref (ad κ 2 i), vi a, vi b] (World κ m) Q := by
  obtain ⟨h0, h1, h2, h3, h4, h5, hfg, hkd, hsh, hgl⟩ := id hS
  refine GG.intro (ls := [some _, some _, some _, none, none]) (Nat.le_of_ble_eq_true rfl) rfl (fun μ F => ?_)
  refine g_iconst F a_H_shameBy_0 ?_
  refine g_istore_n (ls' := [_, _, _, _, _]) F a_H_shameBy_1 rfl rfl rfl ?_
  refine g_iconst F a_H_shameBy_2 ?_
  refine g_istore (ls' := [_, _, _, _, _]) F a_H_shameBy_3 rfl rfl rfl ?_
  exact GC.loc2 (lp_H_shameBy hi hS hD ha hb k F 7 0 _ _ (by omega) (by omega) rfl rfl) ⟨rfl, rfl, rfl, rfl, rfl, trivial⟩
set_option maxHeartbeats 2000000 in
theorem lp_H_dig3 {κ : Kx} {μ : MX} {Q : Option Value → (Heap → Prop) → Prop} {i : Nat} {m : Mem} {D : Int} (hi : i < 9) (hS : okS D (m 2 i)) (hD : D ≤ 100000) {h h1 : Int} (k : Q (some (vl (glN (m 2 i) h1 ((m 2 i).1 5).toNat))) (World κ m)) (F : Fx κ G_H_digestOn 0 0 0 μ) :
    ∀ (n : Nat) (j : Nat) (x e : Int), (m 2 i).1 5 < j + n → (j : Int) ≤ (m 2 i).1 5 → x = j → e = glN (m 2 i) h1 j →  GC κ μ (ZZ κ μ 0 0 Q) 0 0 84 [some (.ref (ad κ 2 i)), some (vl h), none, some (vl e), none, some (vi x)] [] (World κ m) := by
  obtain ⟨h0, h1, h2, h3, h4, h5, hfg, hkd, hsh, hgl⟩ := id hS
  intro n
  induction n with
  | zero =>
    intro j x e hn hj hx he
    exact absurd hn (by omega)
  | succ n ih =>
    intro j x e hn hj hx he
    have hg9 : x < 3 → R32 ((m 2 i).2 3 x) := fun _ => by have := hgl x (by omega); omega
    refine g_iload F a_H_digestOn_84 rfl ?_
    refine g_aload_n F a_H_digestOn_86 rfl ?_
    refine g_get_2_5 F a_H_digestOn_87 fl_H_40 (by first | assumption | decide | omega) ?_
    refine g_icmp_ge F (by first | omega | exact hg9 (by omega)) (by first | omega | exact hg9 (by omega)) a_H_digestOn_90 (fun h90 => ?_) (fun h90 => ?_)
    · refine g_lload_n F a_H_digestOn_114 rfl ?_
      refine g_lret F a_H_digestOn_115 rfl ⟨Nat.le_refl _, Nat.le_refl _⟩ ?_
      exact ql k (by rw [he]; congr 1; omega)
    · refine g_ldc2 F a_H_digestOn_93 kl_H_91 ?_
      refine g_lload_n F a_H_digestOn_96 rfl ?_
      refine g_lmul F a_H_digestOn_97 ?_
      refine g_aload_n F a_H_digestOn_98 rfl ?_
      refine g_get_2_9 F a_H_digestOn_99 fl_H_21 (by first | assumption | decide | omega) ?_
      refine g_iload F a_H_digestOn_102 rfl ?_
      refine g_ild_2_3 F a_H_digestOn_104 (by first | assumption | decide | omega) (by omega) ?_
      refine g_i2l F (by first | omega | exact hg9 (by omega)) a_H_digestOn_105 ?_
      refine g_ladd F a_H_digestOn_106 ?_
      refine g_lstore_n (ls' := [_, _, _, _, _, _]) F a_H_digestOn_107 rfl rfl rfl ?_
      refine g_iinc (ls' := [_, _, _, _, _, _]) F a_H_digestOn_108 rfl rfl rfl ?_
      refine g_goto F a_H_digestOn_111 ?_
      exact GC.loc2 (ih (j + 1) _ _ (by omega) (by omega) (by omega) (by rw [he, hx]; rfl)) ⟨rfl, rfl, rfl, rfl, trivial⟩
set_option maxHeartbeats 2000000 in
theorem lp_H_dig2 {κ : Kx} {μ : MX} {Q : Option Value → (Heap → Prop) → Prop} {i : Nat} {m : Mem} {D : Int} (hi : i < 9) (hS : okS D (m 2 i)) (hD : D ≤ 100000) {h h1 : Int} (k : Q (some (vl (glN (m 2 i) (mnN (m 2 i) h1 ((m 2 i).1 4).toNat) ((m 2 i).1 5).toNat))) (World κ m)) (F : Fx κ G_H_digestOn 0 0 0 μ) :
    ∀ (n : Nat) (j : Nat) (x e : Int), (m 2 i).1 4 < j + n → (j : Int) ≤ (m 2 i).1 4 → x = j → e = mnN (m 2 i) h1 j →  GC κ μ (ZZ κ μ 0 0 Q) 0 0 36 [some (.ref (ad κ 2 i)), some (vl h), none, some (vl e), none, some (vi x)] [] (World κ m) := by
  obtain ⟨h0, h1, h2, h3, h4, h5, hfg, hkd, hsh, hgl⟩ := id hS
  intro n
  induction n with
  | zero =>
    intro j x e hn hj hx he
    exact absurd hn (by omega)
  | succ n ih =>
    intro j x e hn hj hx he
    have hg9 : x < 6 → R32 ((m 2 i).2 1 x) := fun _ => by have := hkd x (by omega); omega
    have hg8 : x < 6 → R32 ((m 2 i).2 2 x) := fun _ => by have := hsh x (by omega); omega
    refine g_iload F a_H_digestOn_36 rfl ?_
    refine g_aload_n F a_H_digestOn_38 rfl ?_
    refine g_get_2_4 F a_H_digestOn_39 fl_H_37 (by first | assumption | decide | omega) ?_
    refine g_icmp_ge F (by first | omega | exact hg8 (by omega) | exact hg9 (by omega)) (by first | omega | exact hg8 (by omega) | exact hg9 (by omega)) a_H_digestOn_42 (fun h42 => ?_) (fun h42 => ?_)
    · refine g_iconst F a_H_digestOn_81 ?_
      refine g_istore (ls' := [_, _, _, _, _, _]) F a_H_digestOn_82 rfl rfl rfl ?_
      exact GC.loc2 (lp_H_dig3 hi hS hD (h1 := e) (by rw [he, show j = ((m 2 i).1 4).toNat by omega]; exact k) F (((m 2 i).1 5).toNat + 1) 0 _ _ (by omega) (by omega) rfl rfl) ⟨rfl, rfl, rfl, rfl, trivial⟩
    · refine g_ldc2 F a_H_digestOn_45 kl_H_91 ?_
      refine g_lload_n F a_H_digestOn_48 rfl ?_
      refine g_lmul F a_H_digestOn_49 ?_
      refine g_aload_n F a_H_digestOn_50 rfl ?_
      refine g_get_2_7 F a_H_digestOn_51 fl_H_15 (by first | assumption | decide | omega) ?_
      refine g_iload F a_H_digestOn_54 rfl ?_
      refine g_ild_2_1 F a_H_digestOn_56 (by first | assumption | decide | omega) (by omega) ?_
      refine g_i2l F (by first | omega | exact hg8 (by omega) | exact hg9 (by omega)) a_H_digestOn_57 ?_
      refine g_ladd F a_H_digestOn_58 ?_
      refine g_lstore_n (ls' := [_, _, _, _, _, _]) F a_H_digestOn_59 rfl rfl rfl ?_
      refine g_ldc2 F a_H_digestOn_60 kl_H_91 ?_
      refine g_lload_n F a_H_digestOn_63 rfl ?_
      refine g_lmul F a_H_digestOn_64 ?_
      refine g_aload_n F a_H_digestOn_65 rfl ?_
      refine g_get_2_8 F a_H_digestOn_66 fl_H_18 (by first | assumption | decide | omega) ?_
      refine g_iload F a_H_digestOn_69 rfl ?_
      refine g_ild_2_2 F a_H_digestOn_71 (by first | assumption | decide | omega) (by omega) ?_
      refine g_i2l F (by first | omega | exact hg8 (by omega) | exact hg9 (by omega)) a_H_digestOn_72 ?_
      refine g_ladd F a_H_digestOn_73 ?_
      refine g_lstore_n (ls' := [_, _, _, _, _, _]) F a_H_digestOn_74 rfl rfl rfl ?_
      refine g_iinc (ls' := [_, _, _, _, _, _]) F a_H_digestOn_75 rfl rfl rfl ?_
      refine g_goto F a_H_digestOn_78 ?_
      exact GC.loc2 (ih (j + 1) _ _ (by omega) (by omega) (by omega) (by rw [he, hx]; rfl)) ⟨rfl, rfl, rfl, rfl, trivial⟩
set_option maxHeartbeats 2000000 in
theorem lp_H_dig1 {κ : Kx} {μ : MX} {Q : Option Value → (Heap → Prop) → Prop} {i : Nat} {m : Mem} {D : Int} (hi : i < 9) (hS : okS D (m 2 i)) (hD : D ≤ 100000) {h : Int} (k : Q (some (vl (digS (m 2 i) h))) (World κ m)) (F : Fx κ G_H_digestOn 0 0 0 μ) :
    ∀ (n : Nat) (j : Nat) (x e : Int), 6 < j + n → (j : Int) ≤ 6 → x = j → e = fgN (m 2 i) h j →  GC κ μ (ZZ κ μ 0 0 Q) 0 0 5 [some (.ref (ad κ 2 i)), some (vl h), none, some (vl e), none, some (vi x)] [] (World κ m) := by
  obtain ⟨h0, h1, h2, h3, h4, h5, hfg, hkd, hsh, hgl⟩ := id hS
  intro n
  induction n with
  | zero =>
    intro j x e hn hj hx he
    exact absurd hn (by omega)
  | succ n ih =>
    intro j x e hn hj hx he
    have hg9 : x < 6 → R32 ((m 2 i).2 0 x) := fun _ => by have := hfg x (by omega); omega
    refine g_iload F a_H_digestOn_5 rfl ?_
    refine g_bipush F a_H_digestOn_7 (by decide) ?_
    refine g_icmp_ge F (by first | omega | exact hg9 (by omega)) (by first | omega | exact hg9 (by omega)) a_H_digestOn_9 (fun h9 => ?_) (fun h9 => ?_)
    · refine g_iconst F a_H_digestOn_33 ?_
      refine g_istore (ls' := [_, _, _, _, _, _]) F a_H_digestOn_34 rfl rfl rfl ?_
      exact GC.loc2 (lp_H_dig2 hi hS hD (h1 := e) (by rw [he, show j = 6 by omega]; exact k) F (((m 2 i).1 4).toNat + 1) 0 _ _ (by omega) (by omega) rfl rfl) ⟨rfl, rfl, rfl, rfl, trivial⟩
    · refine g_ldc2 F a_H_digestOn_12 kl_H_91 ?_
      refine g_lload_n F a_H_digestOn_15 rfl ?_
      refine g_lmul F a_H_digestOn_16 ?_
      refine g_aload_n F a_H_digestOn_17 rfl ?_
      refine g_get_2_6 F a_H_digestOn_18 fl_H_9 (by first | assumption | decide | omega) ?_
      refine g_iload F a_H_digestOn_21 rfl ?_
      refine g_ild_2_0 F a_H_digestOn_23 (by first | assumption | decide | omega) (by omega) ?_
      refine g_i2l F (by first | omega | exact hg9 (by omega)) a_H_digestOn_24 ?_
      refine g_ladd F a_H_digestOn_25 ?_
      refine g_lstore_n (ls' := [_, _, _, _, _, _]) F a_H_digestOn_26 rfl rfl rfl ?_
      refine g_iinc (ls' := [_, _, _, _, _, _]) F a_H_digestOn_27 rfl rfl rfl ?_
      refine g_goto F a_H_digestOn_30 ?_
      exact GC.loc2 (ih (j + 1) _ _ (by omega) (by omega) (by omega) (by rw [he, hx]; rfl)) ⟨rfl, rfl, rfl, rfl, trivial⟩
set_option maxHeartbeats 1000000 in
theorem sp_H_digestOn {κ : Kx} {Q : Option Value → (Heap → Prop) → Prop} {i : Nat} {m : Mem} {D : Int} (hi : i < 9) (hS : okS D (m 2 i)) (hD : D ≤ 100000) {h : Int} (k : Q (some (vl (digS (m 2 i) h))) (World κ m)) : GG κ G_H_digestOn 0 0 0 [.ref (ad κ 2 i), vl h] (World κ m) Q := by
  obtain ⟨h0, h1, h2, h3, h4, h5, hfg, hkd, hsh, hgl⟩ := id hS
  refine GG.intro (ls := [some _, some _, none, none, none, none]) (Nat.le_of_ble_eq_true rfl) rfl (fun μ F => ?_)
  refine g_lload_n F a_H_digestOn_0 rfl ?_
  refine g_lstore_n (ls' := [_, _, _, _, _, _]) F a_H_digestOn_1 rfl rfl rfl ?_
  refine g_iconst F a_H_digestOn_2 ?_
  refine g_istore (ls' := [_, _, _, _, _, _]) F a_H_digestOn_3 rfl rfl rfl ?_
  exact GC.loc2 (lp_H_dig1 hi hS hD k F 7 0 _ _ (by omega) (by omega) rfl rfl) ⟨rfl, rfl, rfl, rfl, trivial⟩
set_option maxHeartbeats 1000000 in
theorem sp_H_begin {κ : Kx} {Q : Option Value → (Heap → Prop) → Prop} {i : Nat} {m : Mem} {c : Int} (hi : i < 9) (hc : R32 c) (k : Q none (World κ (mset m 2 i (begS c (m 2 i))))) : GG κ G_H_begin 0 0 0 [.ref (ad κ 2 i), vi c] (World κ m) Q := by
  refine GG.intro (ls := [some _, some _, none]) (Nat.le_of_ble_eq_true rfl) rfl (fun μ F => ?_)
  refine g_aload_n F a_H_begin_0 rfl ?_
  refine g_iconst F a_H_begin_1 ?_
  refine g_put_2_0 F a_H_begin_2 fl_H_24 (by first | assumption | decide | omega) ?_
  (try simp only [mset_app, mset_mset, fup_app, aup_app, fup_fup, aup_aup, false_and, and_false, true_and, and_true, and_self, reduceIte, Nat.reduceEqDiff, reduceCtorEq])
  refine g_aload_n F a_H_begin_5 rfl ?_
  refine g_iconst F a_H_begin_6 ?_
  refine g_put_2_1 F a_H_begin_7 fl_H_28 (by first | assumption | decide | omega) ?_
  (try simp only [mset_app, mset_mset, fup_app, aup_app, fup_fup, aup_aup, false_and, and_false, true_and, and_true, and_self, reduceIte, Nat.reduceEqDiff, reduceCtorEq])
  refine g_aload_n F a_H_begin_10 rfl ?_
  refine g_iload_n F a_H_begin_11 rfl ?_
  refine g_put_2_2 F a_H_begin_12 fl_H_31 (by first | assumption | decide | omega) ?_
  (try simp only [mset_app, mset_mset, fup_app, aup_app, fup_fup, aup_aup, false_and, and_false, true_and, and_true, and_self, reduceIte, Nat.reduceEqDiff, reduceCtorEq])
  refine g_aload_n F a_H_begin_15 rfl ?_
  refine g_iconst F a_H_begin_16 ?_
  refine g_put_2_3 F a_H_begin_17 fl_H_34 (by first | assumption | decide | omega) ?_
  (try simp only [mset_app, mset_mset, fup_app, aup_app, fup_fup, aup_aup, false_and, and_false, true_and, and_true, and_self, reduceIte, Nat.reduceEqDiff, reduceCtorEq])
  refine g_aload_n F a_H_begin_20 rfl ?_
  refine g_iconst F a_H_begin_21 ?_
  refine g_put_2_4 F a_H_begin_22 fl_H_37 (by first | assumption | decide | omega) ?_
  (try simp only [mset_app, mset_mset, fup_app, aup_app, fup_fup, aup_aup, false_and, and_false, true_and, and_true, and_self, reduceIte, Nat.reduceEqDiff, reduceCtorEq])
  refine g_aload_n F a_H_begin_25 rfl ?_
  refine g_iconst F a_H_begin_26 ?_
  refine g_put_2_5 F a_H_begin_27 fl_H_40 (by first | assumption | decide | omega) ?_
  (try simp only [mset_app, mset_mset, fup_app, aup_app, fup_fup, aup_aup, false_and, and_false, true_and, and_true, and_self, reduceIte, Nat.reduceEqDiff, reduceCtorEq])
  refine g_iconst F a_H_begin_30 ?_
  refine g_istore_n (ls' := [_, _, _]) F a_H_begin_31 rfl rfl rfl ?_
  refine g_iload_n F a_H_begin_32 rfl ?_
  refine g_bipush F a_H_begin_33 (by decide) ?_
  refine g_icmp_ge F (by decide) (by decide) a_H_begin_35 (fun hz => absurd hz (by decide)) (fun hz => ?_)
  refine g_aload_n F a_H_begin_38 rfl ?_
  refine g_get_2_6 F a_H_begin_39 fl_H_9 (by first | assumption | decide | omega) ?_
  (try simp only [mset_app, mset_mset, fup_app, aup_app, fup_fup, aup_aup, false_and, and_false, true_and, and_true, and_self, reduceIte, Nat.reduceEqDiff, reduceCtorEq])
  refine g_iload_n F a_H_begin_42 rfl ?_
  refine g_iconst F a_H_begin_43 ?_
  refine g_ist_2_0 F a_H_begin_44 (by first | assumption | decide | omega) (by decide) ?_
  (try simp only [mset_app, mset_mset, fup_app, aup_app, fup_fup, aup_aup, false_and, and_false, true_and, and_true, and_self, reduceIte, Nat.reduceEqDiff, reduceCtorEq])
  refine g_iinc (ls' := [_, _, some (vi 1)]) F a_H_begin_45 rfl rfl rfl ?_
  refine g_goto F a_H_begin_48 ?_
  refine g_iload_n F a_H_begin_32 rfl ?_
  refine g_bipush F a_H_begin_33 (by decide) ?_
  refine g_icmp_ge F (by decide) (by decide) a_H_begin_35 (fun hz => absurd hz (by decide)) (fun hz => ?_)
  refine g_aload_n F a_H_begin_38 rfl ?_
  refine g_get_2_6 F a_H_begin_39 fl_H_9 (by first | assumption | decide | omega) ?_
  (try simp only [mset_app, mset_mset, fup_app, aup_app, fup_fup, aup_aup, false_and, and_false, true_and, and_true, and_self, reduceIte, Nat.reduceEqDiff, reduceCtorEq])
  refine g_iload_n F a_H_begin_42 rfl ?_
  refine g_iconst F a_H_begin_43 ?_
  refine g_ist_2_0 F a_H_begin_44 (by first | assumption | decide | omega) (by decide) ?_
  (try simp only [mset_app, mset_mset, fup_app, aup_app, fup_fup, aup_aup, false_and, and_false, true_and, and_true, and_self, reduceIte, Nat.reduceEqDiff, reduceCtorEq])
  refine g_iinc (ls' := [_, _, some (vi 2)]) F a_H_begin_45 rfl rfl rfl ?_
  refine g_goto F a_H_begin_48 ?_
  refine g_iload_n F a_H_begin_32 rfl ?_
  refine g_bipush F a_H_begin_33 (by decide) ?_
  refine g_icmp_ge F (by decide) (by decide) a_H_begin_35 (fun hz => absurd hz (by decide)) (fun hz => ?_)
  refine g_aload_n F a_H_begin_38 rfl ?_
  refine g_get_2_6 F a_H_begin_39 fl_H_9 (by first | assumption | decide | omega) ?_
  (try simp only [mset_app, mset_mset, fup_app, aup_app, fup_fup, aup_aup, false_and, and_false, true_and, and_true, and_self, reduceIte, Nat.reduceEqDiff, reduceCtorEq])
  refine g_iload_n F a_H_begin_42 rfl ?_
  refine g_iconst F a_H_begin_43 ?_
  refine g_ist_2_0 F a_H_begin_44 (by first | assumption | decide | omega) (by decide) ?_
  (try simp only [mset_app, mset_mset, fup_app, aup_app, fup_fup, aup_aup, false_and, and_false, true_and, and_true, and_self, reduceIte, Nat.reduceEqDiff, reduceCtorEq])
  refine g_iinc (ls' := [_, _, some (vi 3)]) F a_H_begin_45 rfl rfl rfl ?_
  refine g_goto F a_H_begin_48 ?_
  refine g_iload_n F a_H_begin_32 rfl ?_
  refine g_bipush F a_H_begin_33 (by decide) ?_
  refine g_icmp_ge F (by decide) (by decide) a_H_begin_35 (fun hz => absurd hz (by decide)) (fun hz => ?_)
  refine g_aload_n F a_H_begin_38 rfl ?_
  refine g_get_2_6 F a_H_begin_39 fl_H_9 (by first | assumption | decide | omega) ?_
  (try simp only [mset_app, mset_mset, fup_app, aup_app, fup_fup, aup_aup, false_and, and_false, true_and, and_true, and_self, reduceIte, Nat.reduceEqDiff, reduceCtorEq])
  refine g_iload_n F a_H_begin_42 rfl ?_
  refine g_iconst F a_H_begin_43 ?_
  refine g_ist_2_0 F a_H_begin_44 (by first | assumption | decide | omega) (by decide) ?_
  (try simp only [mset_app, mset_mset, fup_app, aup_app, fup_fup, aup_aup, false_and, and_false, true_and, and_true, and_self, reduceIte, Nat.reduceEqDiff, reduceCtorEq])
  refine g_iinc (ls' := [_, _, some (vi 4)]) F a_H_begin_45 rfl rfl rfl ?_
  refine g_goto F a_H_begin_48 ?_
  refine g_iload_n F a_H_begin_32 rfl ?_
  refine g_bipush F a_H_begin_33 (by decide) ?_
  refine g_icmp_ge F (by decide) (by decide) a_H_begin_35 (fun hz => absurd hz (by decide)) (fun hz => ?_)
  refine g_aload_n F a_H_begin_38 rfl ?_
  refine g_get_2_6 F a_H_begin_39 fl_H_9 (by first | assumption | decide | omega) ?_
  (try simp only [mset_app, mset_mset, fup_app, aup_app, fup_fup, aup_aup, false_and, and_false, true_and, and_true, and_self, reduceIte, Nat.reduceEqDiff, reduceCtorEq])
  refine g_iload_n F a_H_begin_42 rfl ?_
  refine g_iconst F a_H_begin_43 ?_
  refine g_ist_2_0 F a_H_begin_44 (by first | assumption | decide | omega) (by decide) ?_
  (try simp only [mset_app, mset_mset, fup_app, aup_app, fup_fup, aup_aup, false_and, and_false, true_and, and_true, and_self, reduceIte, Nat.reduceEqDiff, reduceCtorEq])
  refine g_iinc (ls' := [_, _, some (vi 5)]) F a_H_begin_45 rfl rfl rfl ?_
  refine g_goto F a_H_begin_48 ?_
  refine g_iload_n F a_H_begin_32 rfl ?_
  refine g_bipush F a_H_begin_33 (by decide) ?_
  refine g_icmp_ge F (by decide) (by decide) a_H_begin_35 (fun hz => absurd hz (by decide)) (fun hz => ?_)
  refine g_aload_n F a_H_begin_38 rfl ?_
  refine g_get_2_6 F a_H_begin_39 fl_H_9 (by first | assumption | decide | omega) ?_
  (try simp only [mset_app, mset_mset, fup_app, aup_app, fup_fup, aup_aup, false_and, and_false, true_and, and_true, and_self, reduceIte, Nat.reduceEqDiff, reduceCtorEq])
  refine g_iload_n F a_H_begin_42 rfl ?_
  refine g_iconst F a_H_begin_43 ?_
  refine g_ist_2_0 F a_H_begin_44 (by first | assumption | decide | omega) (by decide) ?_
  (try simp only [mset_app, mset_mset, fup_app, aup_app, fup_fup, aup_aup, false_and, and_false, true_and, and_true, and_self, reduceIte, Nat.reduceEqDiff, reduceCtorEq])
  refine g_iinc (ls' := [_, _, some (vi 6)]) F a_H_begin_45 rfl rfl rfl ?_
  refine g_goto F a_H_begin_48 ?_
  refine g_iload_n F a_H_begin_32 rfl ?_
  refine g_bipush F a_H_begin_33 (by decide) ?_
  refine g_icmp_ge F (by decide) (by decide) a_H_begin_35 (fun hz => ?_) (fun hz => absurd hz (by decide))
  refine g_ret F a_H_begin_51 rfl ⟨Nat.le_refl _, Nat.le_refl _⟩ ?_
  refine qs k (Ag2 rfl rfl rfl rfl rfl rfl (fun x hx => ?_) (fun _ _ => rfl) (fun _ _ => rfl) (fun _ _ => rfl))
  have h6 : x = 0 ∨ x = 1 ∨ x = 2 ∨ x = 3 ∨ x = 4 ∨ x = 5 := by omega
  rcases h6 with rfl | rfl | rfl | rfl | rfl | rfl <;> rfl
set_option maxHeartbeats 1000000 in
theorem sp_H_copy {κ : Kx} {Q : Option Value → (Heap → Prop) → Prop} {i j : Nat} {m : Mem} (hi : i < 9) (hj : j < 9) (hji : ¬ j = i) (k : Q none (World κ (mset m 2 i (m 2 j)))) : GG κ G_H_copy 1 0 0 [.ref (ad κ 2 i), .ref (ad κ 2 j)] (World κ m) Q := by
  refine GG.intro (ls := [some _, some _]) (Nat.le_of_ble_eq_true rfl) rfl (fun μ F => ?_)
  refine g_aload_n F a_H_copy_0 rfl ?_
  refine g_aload_n F a_H_copy_1 rfl ?_
  refine g_get_2_0 F a_H_copy_2 fl_H_24 (by first | assumption | decide | omega) ?_
  refine g_put_2_0 F a_H_copy_5 fl_H_24 (by first | assumption | decide | omega) ?_
  (try simp only [mset_app, mset_mset, fup_app, aup_app, fup_fup, aup_aup, false_and, and_false, true_and, and_true, and_self, reduceIte, Nat.reduceEqDiff, reduceCtorEq, hji])
  refine g_aload_n F a_H_copy_8 rfl ?_
  refine g_aload_n F a_H_copy_9 rfl ?_
  refine g_get_2_1 F a_H_copy_10 fl_H_28 (by first | assumption | decide | omega) ?_
  (try simp only [mset_app, mset_mset, fup_app, aup_app, fup_fup, aup_aup, false_and, and_false, true_and, and_true, and_self, reduceIte, Nat.reduceEqDiff, reduceCtorEq, hji])
  refine g_put_2_1 F a_H_copy_13 fl_H_28 (by first | assumption | decide | omega) ?_
  (try simp only [mset_app, mset_mset, fup_app, aup_app, fup_fup, aup_aup, false_and, and_false, true_and, and_true, and_self, reduceIte, Nat.reduceEqDiff, reduceCtorEq, hji])
  refine g_aload_n F a_H_copy_16 rfl ?_
  refine g_aload_n F a_H_copy_17 rfl ?_
  refine g_get_2_2 F a_H_copy_18 fl_H_31 (by first | assumption | decide | omega) ?_
  (try simp only [mset_app, mset_mset, fup_app, aup_app, fup_fup, aup_aup, false_and, and_false, true_and, and_true, and_self, reduceIte, Nat.reduceEqDiff, reduceCtorEq, hji])
  refine g_put_2_2 F a_H_copy_21 fl_H_31 (by first | assumption | decide | omega) ?_
  (try simp only [mset_app, mset_mset, fup_app, aup_app, fup_fup, aup_aup, false_and, and_false, true_and, and_true, and_self, reduceIte, Nat.reduceEqDiff, reduceCtorEq, hji])
  refine g_aload_n F a_H_copy_24 rfl ?_
  refine g_aload_n F a_H_copy_25 rfl ?_
  refine g_get_2_3 F a_H_copy_26 fl_H_34 (by first | assumption | decide | omega) ?_
  (try simp only [mset_app, mset_mset, fup_app, aup_app, fup_fup, aup_aup, false_and, and_false, true_and, and_true, and_self, reduceIte, Nat.reduceEqDiff, reduceCtorEq, hji])
  refine g_put_2_3 F a_H_copy_29 fl_H_34 (by first | assumption | decide | omega) ?_
  (try simp only [mset_app, mset_mset, fup_app, aup_app, fup_fup, aup_aup, false_and, and_false, true_and, and_true, and_self, reduceIte, Nat.reduceEqDiff, reduceCtorEq, hji])
  refine g_aload_n F a_H_copy_32 rfl ?_
  refine g_aload_n F a_H_copy_33 rfl ?_
  refine g_get_2_4 F a_H_copy_34 fl_H_37 (by first | assumption | decide | omega) ?_
  (try simp only [mset_app, mset_mset, fup_app, aup_app, fup_fup, aup_aup, false_and, and_false, true_and, and_true, and_self, reduceIte, Nat.reduceEqDiff, reduceCtorEq, hji])
  refine g_put_2_4 F a_H_copy_37 fl_H_37 (by first | assumption | decide | omega) ?_
  (try simp only [mset_app, mset_mset, fup_app, aup_app, fup_fup, aup_aup, false_and, and_false, true_and, and_true, and_self, reduceIte, Nat.reduceEqDiff, reduceCtorEq, hji])
  refine g_aload_n F a_H_copy_40 rfl ?_
  refine g_aload_n F a_H_copy_41 rfl ?_
  refine g_get_2_5 F a_H_copy_42 fl_H_40 (by first | assumption | decide | omega) ?_
  (try simp only [mset_app, mset_mset, fup_app, aup_app, fup_fup, aup_aup, false_and, and_false, true_and, and_true, and_self, reduceIte, Nat.reduceEqDiff, reduceCtorEq, hji])
  refine g_put_2_5 F a_H_copy_45 fl_H_40 (by first | assumption | decide | omega) ?_
  (try simp only [mset_app, mset_mset, fup_app, aup_app, fup_fup, aup_aup, false_and, and_false, true_and, and_true, and_self, reduceIte, Nat.reduceEqDiff, reduceCtorEq, hji])
  refine g_aload_n F a_H_copy_48 rfl ?_
  refine g_get_2_6 F a_H_copy_49 fl_H_9 (by first | assumption | decide | omega) ?_
  (try simp only [mset_app, mset_mset, fup_app, aup_app, fup_fup, aup_aup, false_and, and_false, true_and, and_true, and_self, reduceIte, Nat.reduceEqDiff, reduceCtorEq, hji])
  refine g_iconst F a_H_copy_52 ?_
  refine g_aload_n F a_H_copy_53 rfl ?_
  refine g_get_2_6 F a_H_copy_54 fl_H_9 (by first | assumption | decide | omega) ?_
  (try simp only [mset_app, mset_mset, fup_app, aup_app, fup_fup, aup_aup, false_and, and_false, true_and, and_true, and_self, reduceIte, Nat.reduceEqDiff, reduceCtorEq, hji])
  refine g_iconst F a_H_copy_57 ?_
  refine g_bipush F a_H_copy_58 (by decide) ?_
  refine g_copy F a_H_copy_60 sy_H_43 hj (by decide) (fun _ => rfl) hi (by decide) (fun _ => rfl) rfl (by decide) (Nat.le_of_ble_eq_true rfl) (by decide) (by decide) ?_
  (try simp only [mset_app, mset_mset, fup_app, aup_app, fup_fup, aup_aup, false_and, and_false, true_and, and_true, and_self, reduceIte, Nat.reduceEqDiff, reduceCtorEq, hji])
  refine g_aload_n F a_H_copy_63 rfl ?_
  refine g_get_2_7 F a_H_copy_64 fl_H_15 (by first | assumption | decide | omega) ?_
  (try simp only [mset_app, mset_mset, fup_app, aup_app, fup_fup, aup_aup, false_and, and_false, true_and, and_true, and_self, reduceIte, Nat.reduceEqDiff, reduceCtorEq, hji])
  refine g_iconst F a_H_copy_67 ?_
  refine g_aload_n F a_H_copy_68 rfl ?_
  refine g_get_2_7 F a_H_copy_69 fl_H_15 (by first | assumption | decide | omega) ?_
  (try simp only [mset_app, mset_mset, fup_app, aup_app, fup_fup, aup_aup, false_and, and_false, true_and, and_true, and_self, reduceIte, Nat.reduceEqDiff, reduceCtorEq, hji])
  refine g_iconst F a_H_copy_72 ?_
  refine g_bipush F a_H_copy_73 (by decide) ?_
  refine g_copy F a_H_copy_75 sy_H_43 hj (by decide) (fun _ => rfl) hi (by decide) (fun _ => rfl) rfl (by decide) (Nat.le_of_ble_eq_true rfl) (by decide) (by decide) ?_
  (try simp only [mset_app, mset_mset, fup_app, aup_app, fup_fup, aup_aup, false_and, and_false, true_and, and_true, and_self, reduceIte, Nat.reduceEqDiff, reduceCtorEq, hji])
  refine g_aload_n F a_H_copy_78 rfl ?_
  refine g_get_2_8 F a_H_copy_79 fl_H_18 (by first | assumption | decide | omega) ?_
  (try simp only [mset_app, mset_mset, fup_app, aup_app, fup_fup, aup_aup, false_and, and_false, true_and, and_true, and_self, reduceIte, Nat.reduceEqDiff, reduceCtorEq, hji])
  refine g_iconst F a_H_copy_82 ?_
  refine g_aload_n F a_H_copy_83 rfl ?_
  refine g_get_2_8 F a_H_copy_84 fl_H_18 (by first | assumption | decide | omega) ?_
  (try simp only [mset_app, mset_mset, fup_app, aup_app, fup_fup, aup_aup, false_and, and_false, true_and, and_true, and_self, reduceIte, Nat.reduceEqDiff, reduceCtorEq, hji])
  refine g_iconst F a_H_copy_87 ?_
  refine g_bipush F a_H_copy_88 (by decide) ?_
  refine g_copy F a_H_copy_90 sy_H_43 hj (by decide) (fun _ => rfl) hi (by decide) (fun _ => rfl) rfl (by decide) (Nat.le_of_ble_eq_true rfl) (by decide) (by decide) ?_
  (try simp only [mset_app, mset_mset, fup_app, aup_app, fup_fup, aup_aup, false_and, and_false, true_and, and_true, and_self, reduceIte, Nat.reduceEqDiff, reduceCtorEq, hji])
  refine g_aload_n F a_H_copy_93 rfl ?_
  refine g_get_2_9 F a_H_copy_94 fl_H_21 (by first | assumption | decide | omega) ?_
  (try simp only [mset_app, mset_mset, fup_app, aup_app, fup_fup, aup_aup, false_and, and_false, true_and, and_true, and_self, reduceIte, Nat.reduceEqDiff, reduceCtorEq, hji])
  refine g_iconst F a_H_copy_97 ?_
  refine g_aload_n F a_H_copy_98 rfl ?_
  refine g_get_2_9 F a_H_copy_99 fl_H_21 (by first | assumption | decide | omega) ?_
  (try simp only [mset_app, mset_mset, fup_app, aup_app, fup_fup, aup_aup, false_and, and_false, true_and, and_true, and_self, reduceIte, Nat.reduceEqDiff, reduceCtorEq, hji])
  refine g_iconst F a_H_copy_102 ?_
  refine g_iconst F a_H_copy_103 ?_
  refine g_copy F a_H_copy_104 sy_H_43 hj (by decide) (fun _ => rfl) hi (by decide) (fun _ => rfl) rfl (by decide) (Nat.le_of_ble_eq_true rfl) (by decide) (by decide) ?_
  (try simp only [mset_app, mset_mset, fup_app, aup_app, fup_fup, aup_aup, false_and, and_false, true_and, and_true, and_self, reduceIte, Nat.reduceEqDiff, reduceCtorEq, hji])
  refine g_ret F a_H_copy_107 rfl ⟨Nat.le_refl _, Nat.le_refl _⟩ ?_
  refine qs k (Ag2 rfl rfl rfl rfl rfl rfl (fun x hx => ?_) (fun x hx => ?_) (fun x hx => ?_) (fun x hx => ?_))
  all_goals exact cpyI_0 _ _ hx
set_option maxHeartbeats 1000000 in
theorem sp_H_addMan {κ : Kx} {Q : Option Value → (Heap → Prop) → Prop} {i : Nat} {m : Mem} {D : Int} (hi : i < 9) (hS : okS D (m 2 i)) (hD : D ≤ 100000) {a b : Int} (hm : (m 2 i).1 4 < 6) (ha : R32 a) (hb : R32 b) (k : Q (some (vi ((m 2 i).1 4))) (World κ (mset m 2 i (fup (m 2 i).1 4 ((m 2 i).1 4 + 1), aup (aup (m 2 i).2 1 (gup ((m 2 i).2 1) ((m 2 i).1 4) a)) 2 (gup ((m 2 i).2 2) ((m 2 i).1 4) b))))) : GG κ G_H_addMan 0 0 0 [.ref (ad κ 2 i), vi a, vi b] (World κ m) Q := by
  obtain ⟨h0, h1, h2, h3, h4, h5, hfg, hkd, hsh, hgl⟩ := id hS
  refine GG.intro (ls := [some _, some _, some _]) (Nat.le_of_ble_eq_true rfl) rfl (fun μ F => ?_)
  refine g_aload_n F a_H_addMan_0 rfl ?_
  refine g_get_2_4 F a_H_addMan_1 fl_H_37 (by first | assumption | decide | omega) ?_
  refine g_bipush F a_H_addMan_4 (by decide) ?_
  refine g_icmp_lt F (by omega) (by omega) a_H_addMan_6 (fun h6 => ?_) (fun h6 => ?_)
  · refine g_aload_n F a_H_addMan_12 rfl ?_
    refine g_get_2_7 F a_H_addMan_13 fl_H_15 (by first | assumption | decide | omega) ?_
    refine g_aload_n F a_H_addMan_16 rfl ?_
    refine g_get_2_4 F a_H_addMan_17 fl_H_37 (by first | assumption | decide | omega) ?_
    refine g_iload_n F a_H_addMan_20 rfl ?_
    refine g_ist_2_1 F a_H_addMan_21 (by first | assumption | decide | omega) (by omega) ?_
    (try simp only [mset_app, mset_mset, fup_app, aup_app, fup_fup, aup_aup, false_and, and_false, true_and, and_true, and_self, reduceIte, Nat.reduceEqDiff, reduceCtorEq])
    refine g_aload_n F a_H_addMan_22 rfl ?_
    refine g_get_2_8 F a_H_addMan_23 fl_H_18 (by first | assumption | decide | omega) ?_
    (try simp only [mset_app, mset_mset, fup_app, aup_app, fup_fup, aup_aup, false_and, and_false, true_and, and_true, and_self, reduceIte, Nat.reduceEqDiff, reduceCtorEq])
    refine g_aload_n F a_H_addMan_26 rfl ?_
    refine g_get_2_4 F a_H_addMan_27 fl_H_37 (by first | assumption | decide | omega) ?_
    (try simp only [mset_app, mset_mset, fup_app, aup_app, fup_fup, aup_aup, false_and, and_false, true_and, and_true, and_self, reduceIte, Nat.reduceEqDiff, reduceCtorEq])
    refine g_iload_n F a_H_addMan_30 rfl ?_
    refine g_ist_2_2 F a_H_addMan_31 (by first | assumption | decide | omega) (by omega) ?_
    (try simp only [mset_app, mset_mset, fup_app, aup_app, fup_fup, aup_aup, false_and, and_false, true_and, and_true, and_self, reduceIte, Nat.reduceEqDiff, reduceCtorEq])
    refine g_aload_n F a_H_addMan_32 rfl ?_
    refine g_dup F a_H_addMan_33 rfl ?_
    refine g_get_2_4 F a_H_addMan_34 fl_H_37 (by first | assumption | decide | omega) ?_
    (try simp only [mset_app, mset_mset, fup_app, aup_app, fup_fup, aup_aup, false_and, and_false, true_and, and_true, and_self, reduceIte, Nat.reduceEqDiff, reduceCtorEq])
    refine g_iconst F a_H_addMan_37 ?_
    refine g_iadd F a_H_addMan_38 ?_
    refine g_put_2_4 F a_H_addMan_39 fl_H_37 (by first | assumption | decide | omega) ?_
    (try simp only [mset_app, mset_mset, fup_app, aup_app, fup_fup, aup_aup, false_and, and_false, true_and, and_true, and_self, reduceIte, Nat.reduceEqDiff, reduceCtorEq])
    refine g_aload_n F a_H_addMan_42 rfl ?_
    refine g_get_2_4 F a_H_addMan_43 fl_H_37 (by first | assumption | decide | omega) ?_
    (try simp only [mset_app, mset_mset, fup_app, aup_app, fup_fup, aup_aup, false_and, and_false, true_and, and_true, and_self, reduceIte, Nat.reduceEqDiff, reduceCtorEq])
    refine g_iconst F a_H_addMan_46 ?_
    refine g_isub F a_H_addMan_47 ?_
    refine g_iret F a_H_addMan_48 rfl ⟨Nat.le_refl _, Nat.le_refl _⟩ ?_
    first | (exfalso; omega) | exact qv k (by omega)
  · refine g_bipush F a_H_addMan_9 (by decide) ?_
    refine g_iret F a_H_addMan_11 rfl ⟨Nat.le_refl _, Nat.le_refl _⟩ ?_
    first | (exfalso; omega) | exact qv k (by omega)
set_option maxHeartbeats 1000000 in
theorem sp_H_addReader {κ : Kx} {Q : Option Value → (Heap → Prop) → Prop} {i : Nat} {m : Mem} {D : Int} (hi : i < 9) (hS : okS D (m 2 i)) (hD : D ≤ 100000) {a : Int} (hm : (m 2 i).1 5 < 3) (ha : R32 a) (k : Q (some (vi ((m 2 i).1 5))) (World κ (mset m 2 i (fup (m 2 i).1 5 ((m 2 i).1 5 + 1), aup (m 2 i).2 3 (gup ((m 2 i).2 3) ((m 2 i).1 5) a))))) : GG κ G_H_addReader 0 0 0 [.ref (ad κ 2 i), vi a] (World κ m) Q := by
  obtain ⟨h0, h1, h2, h3, h4, h5, hfg, hkd, hsh, hgl⟩ := id hS
  refine GG.intro (ls := [some _, some _]) (Nat.le_of_ble_eq_true rfl) rfl (fun μ F => ?_)
  refine g_aload_n F a_H_addReader_0 rfl ?_
  refine g_get_2_5 F a_H_addReader_1 fl_H_40 (by first | assumption | decide | omega) ?_
  refine g_iconst F a_H_addReader_4 ?_
  refine g_icmp_lt F (by omega) (by omega) a_H_addReader_5 (fun h5 => ?_) (fun h5 => ?_)
  · refine g_aload_n F a_H_addReader_11 rfl ?_
    refine g_get_2_9 F a_H_addReader_12 fl_H_21 (by first | assumption | decide | omega) ?_
    refine g_aload_n F a_H_addReader_15 rfl ?_
    refine g_get_2_5 F a_H_addReader_16 fl_H_40 (by first | assumption | decide | omega) ?_
    refine g_iload_n F a_H_addReader_19 rfl ?_
    refine g_ist_2_3 F a_H_addReader_20 (by first | assumption | decide | omega) (by omega) ?_
    (try simp only [mset_app, mset_mset, fup_app, aup_app, fup_fup, aup_aup, false_and, and_false, true_and, and_true, and_self, reduceIte, Nat.reduceEqDiff, reduceCtorEq])
    refine g_aload_n F a_H_addReader_21 rfl ?_
    refine g_dup F a_H_addReader_22 rfl ?_
    refine g_get_2_5 F a_H_addReader_23 fl_H_40 (by first | assumption | decide | omega) ?_
    (try simp only [mset_app, mset_mset, fup_app, aup_app, fup_fup, aup_aup, false_and, and_false, true_and, and_true, and_self, reduceIte, Nat.reduceEqDiff, reduceCtorEq])
    refine g_iconst F a_H_addReader_26 ?_
    refine g_iadd F a_H_addReader_27 ?_
    refine g_put_2_5 F a_H_addReader_28 fl_H_40 (by first | assumption | decide | omega) ?_
    (try simp only [mset_app, mset_mset, fup_app, aup_app, fup_fup, aup_aup, false_and, and_false, true_and, and_true, and_self, reduceIte, Nat.reduceEqDiff, reduceCtorEq])
    refine g_aload_n F a_H_addReader_31 rfl ?_
    refine g_get_2_5 F a_H_addReader_32 fl_H_40 (by first | assumption | decide | omega) ?_
    (try simp only [mset_app, mset_mset, fup_app, aup_app, fup_fup, aup_aup, false_and, and_false, true_and, and_true, and_self, reduceIte, Nat.reduceEqDiff, reduceCtorEq])
    refine g_iconst F a_H_addReader_35 ?_
    refine g_isub F a_H_addReader_36 ?_
    refine g_iret F a_H_addReader_37 rfl ⟨Nat.le_refl _, Nat.le_refl _⟩ ?_
    first | (exfalso; omega) | exact qv k (by omega)
  · refine g_bipush F a_H_addReader_8 (by decide) ?_
    refine g_iret F a_H_addReader_10 rfl ⟨Nat.le_refl _, Nat.le_refl _⟩ ?_
    first | (exfalso; omega) | exact qv k (by omega)
set_option maxHeartbeats 1000000 in
theorem sp_H_addShame {κ : Kx} {Q : Option Value → (Heap → Prop) → Prop} {i : Nat} {m : Mem} {D : Int} (hi : i < 9) (hS : okS D (m 2 i)) (hD : D ≤ 100000) {x n : Int} (hx : 0 ≤ x ∧ x < (m 2 i).1 4) (hn : 0 ≤ n ∧ n ≤ 90) (k : Q none (World κ (mset m 2 i ((m 2 i).1, aup (m 2 i).2 2 (gup ((m 2 i).2 2) x (min ((m 2 i).2 2 x + n) 90)))))) : GG κ G_H_addShame 1 0 0 [.ref (ad κ 2 i), vi x, vi n] (World κ m) Q := by
  obtain ⟨h0, h1, h2, h3, h4, h5, hfg, hkd, hsh, hgl⟩ := id hS
  have hs9 := hsh x (by omega)
  refine GG.intro (ls := [some _, some _, some _]) (Nat.le_of_ble_eq_true rfl) rfl (fun μ F => ?_)
  refine g_aload_n F a_H_addShame_0 rfl ?_
  refine g_iload_n F a_H_addShame_1 rfl ?_
  refine g_v1 F a_H_addShame_2 vc_H_49 mk_H_hasMan (ob_2 (by first | assumption | decide | omega)) ck_2.1 rfl rfl (by decide) ⟨Nat.le_refl _, Nat.le_refl _⟩ rfl (Nat.le_of_ble_eq_true rfl) (sp_H_hasMan hi hS hD (by omega) (fun c2 => GCr.v ?_) (fun c2 => GCr.v ?_))
  · refine g_ifeq1 F a_H_addShame_5 ?_
    refine g_aload_n F a_H_addShame_8 rfl ?_
    refine g_get_2_8 F a_H_addShame_9 fl_H_18 (by first | assumption | decide | omega) ?_
    refine g_iload_n F a_H_addShame_12 rfl ?_
    refine g_aload_n F a_H_addShame_13 rfl ?_
    refine g_get_2_8 F a_H_addShame_14 fl_H_18 (by first | assumption | decide | omega) ?_
    refine g_iload_n F a_H_addShame_17 rfl ?_
    refine g_ild_2_2 F a_H_addShame_18 (by first | assumption | decide | omega) (by omega) ?_
    refine g_iload_n F a_H_addShame_19 rfl ?_
    refine g_iadd F a_H_addShame_20 ?_
    refine g_bipush F a_H_addShame_21 (by decide) ?_
    refine g_s2 F a_H_addShame_23 sc_H_53 mk_J_min rfl (by decide) ⟨Nat.le_refl _, Nat.le_refl _⟩ rfl (Nat.le_of_ble_eq_true rfl) (sp_J_min (by omega) (by omega) (GCr.v ?_))
    refine g_ist_2_2 F a_H_addShame_26 (by first | assumption | decide | omega) (by omega) ?_
    (try simp only [mset_app, mset_mset, fup_app, aup_app, fup_fup, aup_aup, false_and, and_false, true_and, and_true, and_self, reduceIte, Nat.reduceEqDiff, reduceCtorEq])
    refine g_ret F a_H_addShame_27 rfl ⟨Nat.le_refl _, Nat.le_refl _⟩ ?_
    first | exact k | exact absurd hx c2
  · refine g_ifeq0 F a_H_addShame_5 ?_
    refine g_ret F a_H_addShame_27 rfl ⟨Nat.le_refl _, Nat.le_refl _⟩ ?_
    first | exact k | exact absurd hx c2
