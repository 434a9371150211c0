/-! ===== from the entry ===== -/
theorem inv_0 : Inv 0 m1 := by
  have z : ∀ k : Int, (0 : Int) ≤ 0 ∧ (0 : Int) ≤ 1 := fun _ => by decide
  have s0 : okS 999 (m1 2 0) := ⟨by decide, by decide, by decide, by decide, by decide, by decide, fun _ _ => (by decide : (0 : Int) ≤ 0 ∧ (0 : Int) ≤ 1), fun _ _ => (by decide : (0 : Int) ≤ 0 ∧ (0 : Int) ≤ 5), fun _ _ => (by decide : (0 : Int) ≤ 0 ∧ (0 : Int) ≤ 90), fun _ _ => (by decide : (0 : Int) ≤ 0 ∧ (0 : Int) ≤ 5)⟩
  have sM : okM 999 (m1 10 0) := ⟨by decide, by decide, by decide, by decide, by decide, by decide, fun _ _ => (by decide : (0 : Int) ≤ 0 ∧ (0 : Int) ≤ 1), fun _ _ => (by decide : (0 : Int) ≤ 0 ∧ (0 : Int) ≤ 5), fun _ _ => (by decide : (0 : Int) ≤ 0 ∧ (0 : Int) ≤ 90), fun _ _ => (by decide : (0 : Int) ≤ 0 ∧ (0 : Int) ≤ 5)⟩
  have s3 : okS (1100 + 150 * ((0 : Nat) : Int)) (m1 2 3) := ⟨by decide, by decide, by decide, by decide, by decide, by decide, fun _ _ => (by decide : (0 : Int) ≤ 0 ∧ (0 : Int) ≤ 1), fun _ _ => (by decide : (0 : Int) ≤ 0 ∧ (0 : Int) ≤ 5), fun _ _ => (by decide : (0 : Int) ≤ 0 ∧ (0 : Int) ≤ 90), fun _ _ => (by decide : (0 : Int) ≤ 0 ∧ (0 : Int) ≤ 5)⟩
  refine ⟨⟨⟨s0, sM, ⟨rfl, rfl, rfl, rfl, rfl, rfl⟩, fun _ _ => rfl, fun _ _ => rfl, fun _ _ => rfl, fun _ _ => rfl⟩, ?_, ?_, ?_, ⟨by decide, fun t ht => ?_⟩, fun t ht => ?_, rfl, fun t ht => ?_⟩, s3, ⟨rfl, rfl, 0, rfl, by decide, fun k hk => ?_⟩, ⟨rfl, rfl⟩, ⟨rfl, rfl, rfl⟩, ⟨⟨rfl, rfl, rfl⟩, ⟨rfl, Or.inl rfl⟩, fun h => absurd h (by decide)⟩, ⟨⟨rfl, rfl, rfl⟩, ⟨rfl, Or.inl rfl⟩, fun h => absurd h (by decide)⟩⟩
  · refine ⟨⟨by decide, Or.inl rfl, fun _ _ => (by decide : (0 : Int) ≤ 0 ∧ (0 : Int) ≤ 99)⟩, rfl, ⟨by decide, Or.inl rfl, fun k hk => ?_⟩, ⟨⟨rfl, rfl⟩, fun t c ht hc => ?_⟩, fun h => absurd h (by decide)⟩
    · show 0 ≤ (if k % 4 = 3 then (0 : Int) else 0) ∧ (if k % 4 = 3 then (0 : Int) else 0) ≤ 99
      split <;> decide
    · have ht : 0 ≤ t ∧ t < 0 := ht
      omega
  · exact ⟨⟨by decide, Or.inr rfl, fun _ _ => (by decide : (0 : Int) ≤ 0 ∧ (0 : Int) ≤ 99)⟩, rfl, ⟨by decide, Or.inr rfl, fun _ _ => (by decide : (0 : Int) ≤ 0 ∧ (0 : Int) ≤ 99)⟩, ⟨⟨rfl, rfl⟩, fun _ _ _ _ => rfl⟩, fun _ _ _ => (by decide : (0 : Int) ≤ 90)⟩
  · exact ⟨⟨by decide, Or.inr rfl, fun _ _ => (by decide : (0 : Int) ≤ 0 ∧ (0 : Int) ≤ 99)⟩, rfl, ⟨by decide, Or.inr rfl, fun _ _ => (by decide : (0 : Int) ≤ 0 ∧ (0 : Int) ≤ 99)⟩, ⟨⟨rfl, rfl⟩, fun _ _ _ _ => rfl⟩, fun _ _ _ => (by decide : (0 : Int) ≤ 90)⟩
  · exact ⟨fun _ _ => (by decide : (0 : Int) ≤ 0 ∧ (0 : Int) ≤ 90), (by decide : (0 : Int) ≤ 0 ∧ (0 : Int) ≤ 99), (by decide : (0 : Int) ≤ 0 ∧ (0 : Int) ≤ 99), (by decide : (0 : Int) ≤ 0 ∧ (0 : Int) ≤ 999)⟩
  · exact ⟨fun _ _ => (by decide : (0 : Int) ≤ 0 ∧ (0 : Int) ≤ 90), (by decide : (0 : Int) ≤ 0 ∧ (0 : Int) ≤ 99), (by decide : (0 : Int) ≤ 0 ∧ (0 : Int) ≤ 99), (by decide : (0 : Int) ≤ 0 ∧ (0 : Int) ≤ 999)⟩
  · have ht : 0 ≤ t ∧ t < 0 := ht
    omega
  · omega
set_option maxHeartbeats 4000000 in
set_option maxRecDepth 20000 in
theorem law_start {κ : Kx} {μ : MX} {Z : State → Prop} {b L : Nat} {xs : Nat → Int32} {nm : String} (F : Fx κ (G_Ln nm) 100 600000 7302250 μ) (hX : SX κ μ b L xs) (kz : ∀ kc ks : Nat, kc ≤ 600000 ∧ ks ≤ 7302250 → ∀ (ls : List (Option Value)) (m : Mem), GC κ μ Z kc ks 1394 ls [vi 1] (World κ m)) : GC κ μ Z 0 0 0 [some (.ref b), none, none, none] [] (LW κ []) := by
  refine g_newP (q := (RC0, TC0, 12)) (pre := []) (l := []) (n := 0) (l' := [.inr (0, [.null, .null, .null, .null, .null, .null, .null, .null, .null, vi 0, vi 0, vi 0])]) F a_L_law_0 cl_L_7 ck_0 df_0 (by decide) rfl rfl ?_
  refine g_dup F a_L_law_3 rfl ?_
  refine g_inP (pre := []) (l0 := []) (j0 := 0) (As := []) (l' := bA κ 0) F a_L_law_4 (Or.inl ic_L_9) mk_A_init rfl (by decide) (by decide) rfl (Nat.le_of_ble_eq_true rfl) rfl rfl (fun Q k => co_A_init (pre := []) k) ?_
  refine g_astore_n (ls' := [_, _, _, _]) F a_L_law_7 rfl rfl rfl ?_
  show GC κ μ Z _ _ 8 _ _ (LW κ (bA κ 0))
  rw [← List.append_nil (bA κ 0)]
  refine g_newP (q := (RC10, TC10, 30)) (pre := bA κ 0) (l := []) (n := 0) (l' := [.inr (10, [.null, vi 0, vi 0, vi 0, vi 0, vi 0, vi 0, vi 0, vi 0, vi 0, .null, .null, .null, .null, .null, .null, .null, .null, vi 0, vi 0, vi 0, .null, .null, vi 0, .null, vl 0, vl 0, .null, .null, vl 0])]) F a_L_law_8 cl_L_10 ck_10 df_10 (by decide) rfl rfl ?_
  refine g_dup F a_L_law_11 rfl ?_
  refine g_callI (As := []) F a_L_law_12 ic_L_12 mk_M_init rfl (by decide) (by decide) rfl (Nat.le_of_ble_eq_true rfl) (co_M_init (pre := bA κ 0) rfl ?_)
  refine g_astore_n (ls' := [_, _, _, _]) F a_L_law_15 rfl rfl rfl ?_
  refine g_iconst F a_L_law_16 ?_
  refine g_istore_n (ls' := [_, _, _, _]) F a_L_law_17 rfl rfl rfl ?_
  exact GC.loc2 (lp_law F (by decide) hX (kz _ _ (by decide)) 513 0 m1 0 (by decide) (by decide) (by decide) inv_0) ⟨rfl, rfl, rfl, rfl, trivial⟩
