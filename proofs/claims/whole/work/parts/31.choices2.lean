theorem allM {D : Int} {M : Rc} (h : okM D M) : (allN (shM M) : Int) = 2 ^ (M.1 1).toNat ∧ 1 ≤ (allN (shM M) : Int) ∧ (allN (shM M) : Int) ≤ 64 := ⟨allN_i (shM M), allN_r (okM_S h)⟩
theorem loN_2 {D : Int} {S : Rc} (h : okS D S) (nn r : Int) (n : Nat) : 0 ≤ (loN S nn r n).2 ∧ (loN S nn r n).2 ≤ 1048576 := by
  rcases loN_far h nn r n with h1 | h1
  · omega
  · have := farS_r h (loN S nn r n).1 r
    omega
theorem loN_s {S : Rc} {nn r : Int} {n : Nat} (h : bc n = nn ∧ farS S n r < (loN S nn r n).2) : loN S nn r (n + 1) = ((n : Int), farS S n r) := if_pos h
theorem loN_k {S : Rc} {nn r : Int} {n : Nat} (h : ¬ (bc n = nn ∧ farS S n r < (loN S nn r n).2)) : loN S nn r (n + 1) = loN S nn r n := if_neg h
set_option maxHeartbeats 2000000 in
theorem lp_M_best {κ : Kx} {μ : MX} {Q : Option Value → (Heap → Prop) → Prop} {m : Mem} {D : Int} (hS : okM D (m 10 0)) (hD : D ≤ 100000) {x y t : Int} (hx : 0 ≤ x ∧ x ≤ (m 10 0).1 1) (hy : 0 ≤ y ∧ y < (m 10 0).1 2) (ht : 0 ≤ t ∧ t ≤ 1) (k : Q (some (vi (if t = 0 then (loN (shM (m 10 0)) x y (allN (shM (m 10 0)))).1 else (loN (shM (m 10 0)) x y (allN (shM (m 10 0)))).2))) (World κ m)) (F : Fx κ G_M_best 5 0 0 μ) :
    ∀ (n : Nat) (j : Nat) (b l v : Int), (allN (shM (m 10 0))) < j + n → j ≤ (allN (shM (m 10 0))) → v = (j : Int) → b = (loN (shM (m 10 0)) x y j).1 → l = (loN (shM (m 10 0)) x y j).2 →  GC κ μ (ZZ κ μ 0 0 Q) 0 0 44 [some (.ref (ad κ 10 0)), some (vi x), some (vi y), some (vi t), some (vi b), some (vi l), some (vi v), none] [] (World κ m) := by
  obtain ⟨s0, s1, s2, s3, s4, s5, hfg, hkd, hsh, hgl⟩ := id hS
  obtain ⟨ha1, ha2, ha3⟩ := allM hS
  intro n
  induction n with
  | zero =>
    intro j b l v hn hj hv hb hl
    exact absurd hn (by omega)
  | succ n ih =>
    intro j b l v hn hj hv hb hl
    have hbv : 0 ≤ v ∧ v < 64 → 0 ≤ bc v ∧ bc v ≤ 6 := fun h => bc_r h
    have hlr := loN_2 (okM_S hS) x y j
    have her := errS_r (okM_S hS) v y
    refine g_iload F a_M_best_44 rfl ?_
    refine g_iconst F a_M_best_46 ?_
    refine g_aload_n F a_M_best_47 rfl ?_
    refine g_get_10_1 F a_M_best_48 fl_M_60 ?_
    refine g_ishl F a_M_best_51 ?_
    rw [shl_eq (by omega)]
    refine g_icmp_ge F (by omega) (by omega) a_M_best_52 (fun h52 => ?_) (fun h52 => ?_)
    · refine g_iload_n F a_M_best_112 rfl ?_
      refine g_if_ne F (by omega) a_M_best_113 (fun h113 => ?_) (fun h113 => ?_)
      · refine g_iload F a_M_best_121 rfl ?_
        refine g_iret F a_M_best_123 rfl ⟨Nat.le_refl _, Nat.le_refl _⟩ ?_
        obtain rfl : j = (allN (shM (m 10 0))) := by omega
        exact qv k (by rw [if_neg (by omega), hl])
      · refine g_iload F a_M_best_116 rfl ?_
        refine g_goto F a_M_best_118 ?_
        refine g_iret F a_M_best_123 rfl ⟨Nat.le_refl _, Nat.le_refl _⟩ ?_
        obtain rfl : j = (allN (shM (m 10 0))) := by omega
        exact qv k (by rw [if_pos (by omega), hb])
    · refine g_iload F a_M_best_55 rfl ?_
      refine g_s1 F a_M_best_57 sc_M_149 mk_M_bits rfl (by decide) ⟨Nat.le_refl _, Nat.le_refl _⟩ rfl (Nat.le_of_ble_eq_true rfl) (sp_M_bits (by omega) (GCr.v ?_))
      refine g_iload_n F a_M_best_60 rfl ?_
      refine g_icmp_ne F (by omega) (by omega) a_M_best_61 (fun h61 => ?_) (fun h61 => ?_)
      · refine g_ldc F a_M_best_77 kc_M_251 ?_
        refine g_istore (ls' := [_, _, _, _, _, _, _, _]) F a_M_best_79 rfl rfl rfl ?_
        refine g_iload F a_M_best_81 rfl ?_
        refine g_iload F a_M_best_83 rfl ?_
        refine g_icmp_ge F (by omega) (by omega) a_M_best_85 (fun h85 => ?_) (fun h85 => ?_)
        · refine g_iload F a_M_best_93 rfl ?_
          refine g_istore (ls' := [_, _, _, _, _, _, _, _]) F a_M_best_95 rfl rfl rfl ?_
          refine g_iload F a_M_best_97 rfl ?_
          refine g_iload F a_M_best_99 rfl ?_
          refine g_s2 F a_M_best_101 sc_M_146 mk_M_lesser rfl (by decide) ⟨Nat.le_refl _, Nat.le_refl _⟩ rfl (Nat.le_of_ble_eq_true rfl) (sp_M_lesser (by omega) (by omega) (GCr.v ?_))
          refine g_istore (ls' := [_, _, _, _, _, _, _, _]) F a_M_best_104 rfl rfl rfl ?_
          refine g_iinc (ls' := [_, _, _, _, _, _, _, _]) F a_M_best_106 rfl rfl rfl ?_
          refine g_goto F a_M_best_109 ?_
          refine GC.loc2 (ih (j + 1) _ _ _ (by omega) (by omega) (by omega) ?_ ?_) ⟨rfl, rfl, rfl, rfl, rfl, rfl, rfl, trivial⟩
          · rw [loN_k (by intro q; rw [← hv] at q; exact absurd q.1 (by assumption)), hb]
          · rw [loN_k (by intro q; rw [← hv] at q; exact absurd q.1 (by assumption))]; omega
        · refine g_iload F a_M_best_88 rfl ?_
          refine g_goto F a_M_best_90 ?_
          refine g_istore (ls' := [_, _, _, _, _, _, _, _]) F a_M_best_95 rfl rfl rfl ?_
          refine g_iload F a_M_best_97 rfl ?_
          refine g_iload F a_M_best_99 rfl ?_
          refine g_s2 F a_M_best_101 sc_M_146 mk_M_lesser rfl (by decide) ⟨Nat.le_refl _, Nat.le_refl _⟩ rfl (Nat.le_of_ble_eq_true rfl) (sp_M_lesser (by omega) (by omega) (GCr.v ?_))
          refine g_istore (ls' := [_, _, _, _, _, _, _, _]) F a_M_best_104 rfl rfl rfl ?_
          refine g_iinc (ls' := [_, _, _, _, _, _, _, _]) F a_M_best_106 rfl rfl rfl ?_
          refine g_goto F a_M_best_109 ?_
          exfalso; omega
      · refine g_aload_n F a_M_best_64 rfl ?_
        refine g_iload F a_M_best_65 rfl ?_
        refine g_iload_n F a_M_best_67 rfl ?_
        refine g_v2 F a_M_best_68 vc_M_215 mk_M_errorOf ob_10 ck_10.1 rfl rfl (by decide) ⟨Nat.le_refl _, Nat.le_refl _⟩ rfl (Nat.le_of_ble_eq_true rfl) (sp_M_errorOf hS hD (by omega) hy (GCr.v ?_))
        refine g_s1 F a_M_best_71 sc_M_252 mk_M_far rfl (by decide) ⟨Nat.le_refl _, Nat.le_refl _⟩ rfl (Nat.le_of_ble_eq_true rfl) (sp_M_far (by omega) (GCr.v ?_))
        refine g_goto F a_M_best_74 ?_
        refine g_istore (ls' := [_, _, _, _, _, _, _, _]) F a_M_best_79 rfl rfl rfl ?_
        refine g_iload F a_M_best_81 rfl ?_
        refine g_iload F a_M_best_83 rfl ?_
        refine g_icmp_ge F (by omega) (by omega) a_M_best_85 (fun h85 => ?_) (fun h85 => ?_)
        · refine g_iload F a_M_best_93 rfl ?_
          refine g_istore (ls' := [_, _, _, _, _, _, _, _]) F a_M_best_95 rfl rfl rfl ?_
          refine g_iload F a_M_best_97 rfl ?_
          refine g_iload F a_M_best_99 rfl ?_
          refine g_s2 F a_M_best_101 sc_M_146 mk_M_lesser rfl (by decide) ⟨Nat.le_refl _, Nat.le_refl _⟩ rfl (Nat.le_of_ble_eq_true rfl) (sp_M_lesser (by omega) (by omega) (GCr.v ?_))
          refine g_istore (ls' := [_, _, _, _, _, _, _, _]) F a_M_best_104 rfl rfl rfl ?_
          refine g_iinc (ls' := [_, _, _, _, _, _, _, _]) F a_M_best_106 rfl rfl rfl ?_
          refine g_goto F a_M_best_109 ?_
          refine GC.loc2 (ih (j + 1) _ _ _ (by omega) (by omega) (by omega) ?_ ?_) ⟨rfl, rfl, rfl, rfl, rfl, rfl, rfl, trivial⟩
          · rw [loN_k (by intro q; rw [← hv] at q; unfold farS at q; exact absurd q.2 (by omega)), hb]
          · rw [loN_k (by intro q; rw [← hv] at q; unfold farS at q; exact absurd q.2 (by omega))]; omega
        · refine g_iload F a_M_best_88 rfl ?_
          refine g_goto F a_M_best_90 ?_
          refine g_istore (ls' := [_, _, _, _, _, _, _, _]) F a_M_best_95 rfl rfl rfl ?_
          refine g_iload F a_M_best_97 rfl ?_
          refine g_iload F a_M_best_99 rfl ?_
          refine g_s2 F a_M_best_101 sc_M_146 mk_M_lesser rfl (by decide) ⟨Nat.le_refl _, Nat.le_refl _⟩ rfl (Nat.le_of_ble_eq_true rfl) (sp_M_lesser (by omega) (by omega) (GCr.v ?_))
          refine g_istore (ls' := [_, _, _, _, _, _, _, _]) F a_M_best_104 rfl rfl rfl ?_
          refine g_iinc (ls' := [_, _, _, _, _, _, _, _]) F a_M_best_106 rfl rfl rfl ?_
          refine g_goto F a_M_best_109 ?_
          refine GC.loc2 (ih (j + 1) _ _ _ (by omega) (by omega) (by omega) ?_ ?_) ⟨rfl, rfl, rfl, rfl, rfl, rfl, rfl, trivial⟩
          · rw [loN_s (by rw [← hv]; exact ⟨by first | assumption | omega, by unfold farS; omega⟩)]; exact hv
          · rw [loN_s (by rw [← hv]; exact ⟨by first | assumption | omega, by unfold farS; omega⟩)]; show _ = farS _ _ _; rw [← hv]; unfold farS; omega
set_option maxHeartbeats 1000000 in
theorem sp_M_best {κ : Kx} {Q : Option Value → (Heap → Prop) → Prop} {m : Mem} {D : Int} (hS : okM D (m 10 0)) (hD : D ≤ 100000) {x y t : Int} (hx : R32 x) (hy : R32 y) (ht : R32 t) (kb : ¬ ((0 ≤ x ∧ x ≤ (m 10 0).1 1) ∧ (0 ≤ y ∧ y < (m 10 0).1 2) ∧ 0 ≤ t ∧ t ≤ 1) → Q (some (vi (-2))) (World κ (bmM m 0))) (k : (0 ≤ x ∧ x ≤ (m 10 0).1 1) → (0 ≤ y ∧ y < (m 10 0).1 2) → (0 ≤ t ∧ t ≤ 1) → Q (some (vi (if t = 0 then (loN (shM (m 10 0)) x y (allN (shM (m 10 0)))).1 else (loN (shM (m 10 0)) x y (allN (shM (m 10 0)))).2))) (World κ m)) : GG κ G_M_best 5 0 0 [.ref (ad κ 10 0), vi x, vi y, vi t] (World κ m) Q := by
  obtain ⟨s0, s1, s2, s3, s4, s5, hfg, hkd, hsh, hgl⟩ := id hS
  refine GG.intro (ls := [some _, some _, some _, some _, none, none, none, none]) (Nat.le_of_ble_eq_true rfl) rfl (fun μ F => ?_)
  refine g_iload_n F a_M_best_0 rfl ?_
  refine g_iconst F a_M_best_1 ?_
  refine g_aload_n F a_M_best_2 rfl ?_
  refine g_get_10_1 F a_M_best_3 fl_M_60 ?_
  refine g_s3 F a_M_best_6 sc_M_91 mk_M_in rfl (by decide) ⟨Nat.le_refl _, Nat.le_refl _⟩ rfl (Nat.le_of_ble_eq_true rfl) (sp_M_in (by omega) (by omega) (by omega) (fun c6 => GCr.v ?_) (fun c6 => GCr.v ?_))
  · refine g_ifeq1 F a_M_best_9 ?_
    refine g_aload_n F a_M_best_12 rfl ?_
    refine g_iload_n F a_M_best_13 rfl ?_
    refine g_v1 F a_M_best_14 vc_M_227 mk_M_isReader ob_10 ck_10.1 rfl rfl (by decide) ⟨Nat.le_refl _, Nat.le_refl _⟩ rfl (Nat.le_of_ble_eq_true rfl) (sp_M_isReader hS hD (by omega) (fun c14 => GCr.v ?_) (fun c14 => GCr.v ?_))
    · refine g_ifeq1 F a_M_best_17 ?_
      refine g_iload_n F a_M_best_20 rfl ?_
      refine g_iconst F a_M_best_21 ?_
      refine g_iconst F a_M_best_22 ?_
      refine g_s3 F a_M_best_23 sc_M_91 mk_M_in rfl (by decide) ⟨Nat.le_refl _, Nat.le_refl _⟩ rfl (Nat.le_of_ble_eq_true rfl) (sp_M_in (by omega) (by omega) (by omega) (fun c23 => GCr.v ?_) (fun c23 => GCr.v ?_))
      · refine g_ifne1 F a_M_best_26 ?_
        refine g_iconst F a_M_best_34 ?_
        refine g_istore (ls' := [_, _, _, _, _, _, _, _]) F a_M_best_35 rfl rfl rfl ?_
        refine g_ldc F a_M_best_37 kc_M_251 ?_
        refine g_istore (ls' := [_, _, _, _, _, _, _, _]) F a_M_best_39 rfl rfl rfl ?_
        refine g_iconst F a_M_best_41 ?_
        refine g_istore (ls' := [_, _, _, _, _, _, _, _]) F a_M_best_42 rfl rfl rfl ?_
        exact GC.loc2 (lp_M_best hS hD (by assumption) (by assumption) (by assumption) (k (by assumption) (by assumption) (by assumption)) F ((allN (shM (m 10 0))) + 1) 0 _ _ _ (by omega) (by omega) rfl rfl rfl) ⟨rfl, rfl, rfl, rfl, rfl, rfl, rfl, trivial⟩
      · refine g_ifne0 F a_M_best_26 ?_
        refine g_aload_n F a_M_best_29 rfl ?_
        refine g_v0 F a_M_best_30 vc_M_95 mk_M_bad ob_10 ck_10.1 rfl rfl (by decide) ⟨Nat.le_refl _, Nat.le_refl _⟩ rfl (Nat.le_of_ble_eq_true rfl) (sp_M_bad  (GCr.v ?_))
        refine g_iret F a_M_best_33 rfl ⟨Nat.le_refl _, Nat.le_refl _⟩ ?_
        exact kb (by omega)
    · refine g_ifeq0 F a_M_best_17 ?_
      refine g_aload_n F a_M_best_29 rfl ?_
      refine g_v0 F a_M_best_30 vc_M_95 mk_M_bad ob_10 ck_10.1 rfl rfl (by decide) ⟨Nat.le_refl _, Nat.le_refl _⟩ rfl (Nat.le_of_ble_eq_true rfl) (sp_M_bad  (GCr.v ?_))
      refine g_iret F a_M_best_33 rfl ⟨Nat.le_refl _, Nat.le_refl _⟩ ?_
      exact kb (by omega)
  · refine g_ifeq0 F a_M_best_9 ?_
    refine g_aload_n F a_M_best_29 rfl ?_
    refine g_v0 F a_M_best_30 vc_M_95 mk_M_bad ob_10 ck_10.1 rfl rfl (by decide) ⟨Nat.le_refl _, Nat.le_refl _⟩ rfl (Nat.le_of_ble_eq_true rfl) (sp_M_bad  (GCr.v ?_))
    refine g_iret F a_M_best_33 rfl ⟨Nat.le_refl _, Nat.le_refl _⟩ ?_
    exact kb (by omega)
theorem feN_s {S : Rc} {e r : Int} {n : Nat} (h : (feN S e r n = -1 ∨ bc n < bc (feN S e r n)) ∧ errS S n r = e) : feN S e r (n + 1) = n := if_pos h
theorem feN_k {S : Rc} {e r : Int} {n : Nat} (h : ¬ ((feN S e r n = -1 ∨ bc n < bc (feN S e r n)) ∧ errS S n r = e)) : feN S e r (n + 1) = feN S e r n := if_neg h
def fwF (b : Int) : Int := if b = -1 then 1048576 else bc b
set_option maxHeartbeats 2000000 in
theorem lp_M_fewest {κ : Kx} {μ : MX} {Q : Option Value → (Heap → Prop) → Prop} {m : Mem} {D : Int} (hS : okM D (m 10 0)) (hD : D ≤ 100000) {x y : Int} (hx : -99 ≤ x ∧ x ≤ 99) (hy : 0 ≤ y ∧ y < (m 10 0).1 2) (k : Q (some (vi (feN (shM (m 10 0)) x y (allN (shM (m 10 0)))))) (World κ m)) (F : Fx κ G_M_fewest 5 0 0 μ) :
    ∀ (n : Nat) (j : Nat) (b l v : Int), (allN (shM (m 10 0))) < j + n → j ≤ (allN (shM (m 10 0))) → v = (j : Int) → b = (feN (shM (m 10 0)) x y j) → l = fwF (feN (shM (m 10 0)) x y j) →  GC κ μ (ZZ κ μ 0 0 Q) 0 0 33 [some (.ref (ad κ 10 0)), some (vi x), some (vi y), some (vi b), some (vi l), some (vi v), none] [] (World κ m) := by
  obtain ⟨s0, s1, s2, s3, s4, s5, hfg, hkd, hsh, hgl⟩ := id hS
  obtain ⟨ha1, ha2, ha3⟩ := allM hS
  intro n
  induction n with
  | zero =>
    intro j b l v hn hj hv hb hl
    exact absurd hn (by omega)
  | succ n ih =>
    intro j b l v hn hj hv hb hl
    have her := errS_r (okM_S hS) v y
    have hfr := feN_r (shM (m 10 0)) x y j
    have hbv : 0 ≤ v ∧ v < 64 → 0 ≤ bc v ∧ bc v ≤ 6 := fun h => bc_r h
    have hlr : (b = -1 ∧ l = 1048576) ∨ (b ≠ -1 ∧ l = bc b ∧ 0 ≤ bc b ∧ bc b ≤ 6) := by
      rw [hl, ← hb]
      unfold fwF
      by_cases q : b = -1
      · rw [if_pos q]; exact Or.inl ⟨q, rfl⟩
      · rw [if_neg q]; exact Or.inr ⟨q, rfl, bc_r (by omega)⟩
    refine g_iload F a_M_fewest_33 rfl ?_
    refine g_iconst F a_M_fewest_35 ?_
    refine g_aload_n F a_M_fewest_36 rfl ?_
    refine g_get_10_1 F a_M_fewest_37 fl_M_60 ?_
    refine g_ishl F a_M_fewest_40 ?_
    rw [shl_eq (by omega)]
    refine g_icmp_ge F (by omega) (by omega) a_M_fewest_41 (fun h41 => ?_) (fun h41 => ?_)
    · refine g_iload_n F a_M_fewest_107 rfl ?_
      refine g_iret F a_M_fewest_108 rfl ⟨Nat.le_refl _, Nat.le_refl _⟩ ?_
      obtain rfl : j = (allN (shM (m 10 0))) := by omega
      exact qv k hb
    · refine g_iload F a_M_fewest_44 rfl ?_
      refine g_s1 F a_M_fewest_46 sc_M_149 mk_M_bits rfl (by decide) ⟨Nat.le_refl _, Nat.le_refl _⟩ rfl (Nat.le_of_ble_eq_true rfl) (sp_M_bits (by omega) (GCr.v ?_))
      refine g_iload F a_M_fewest_49 rfl ?_
      refine g_icmp_ge F (by omega) (by omega) a_M_fewest_51 (fun h51 => ?_) (fun h51 => ?_)
      · refine g_iconst F a_M_fewest_69 ?_
        refine g_istore (ls' := [_, _, _, _, _, _, _]) F a_M_fewest_70 rfl rfl rfl ?_
        refine g_iload F a_M_fewest_72 rfl ?_
        refine g_ifeq0 F a_M_fewest_74 ?_
        refine g_iload_n F a_M_fewest_82 rfl ?_
        refine g_istore_n (ls' := [_, _, _, _, _, _, _]) F a_M_fewest_83 rfl rfl rfl ?_
        refine g_iload F a_M_fewest_84 rfl ?_
        refine g_ifeq0 F a_M_fewest_86 ?_
        refine g_iload F a_M_fewest_97 rfl ?_
        refine g_istore (ls' := [_, _, _, _, _, _, _]) F a_M_fewest_99 rfl rfl rfl ?_
        refine g_iinc (ls' := [_, _, _, _, _, _, _]) F a_M_fewest_101 rfl rfl rfl ?_
        refine g_goto F a_M_fewest_104 ?_
        refine GC.loc2 (ih (j + 1) _ _ _ (by omega) (by omega) (by omega) ?_ ?_) ⟨rfl, rfl, rfl, rfl, rfl, rfl, trivial⟩
        · rw [feN_k (by intro q; rw [← hb, ← hv] at q; rcases q.1 with z | z <;> omega), hb]
        · rw [feN_k (by intro q; rw [← hb, ← hv] at q; rcases q.1 with z | z <;> omega), hl]
      · refine g_aload_n F a_M_fewest_54 rfl ?_
        refine g_iload F a_M_fewest_55 rfl ?_
        refine g_iload_n F a_M_fewest_57 rfl ?_
        refine g_v2 F a_M_fewest_58 vc_M_215 mk_M_errorOf ob_10 ck_10.1 rfl rfl (by decide) ⟨Nat.le_refl _, Nat.le_refl _⟩ rfl (Nat.le_of_ble_eq_true rfl) (sp_M_errorOf hS hD (by omega) hy (GCr.v ?_))
        refine g_iload_n F a_M_fewest_61 rfl ?_
        refine g_icmp_ne F (by omega) (by omega) a_M_fewest_62 (fun h62 => ?_) (fun h62 => ?_)
        · refine g_iconst F a_M_fewest_69 ?_
          refine g_istore (ls' := [_, _, _, _, _, _, _]) F a_M_fewest_70 rfl rfl rfl ?_
          refine g_iload F a_M_fewest_72 rfl ?_
          refine g_ifeq0 F a_M_fewest_74 ?_
          refine g_iload_n F a_M_fewest_82 rfl ?_
          refine g_istore_n (ls' := [_, _, _, _, _, _, _]) F a_M_fewest_83 rfl rfl rfl ?_
          refine g_iload F a_M_fewest_84 rfl ?_
          refine g_ifeq0 F a_M_fewest_86 ?_
          refine g_iload F a_M_fewest_97 rfl ?_
          refine g_istore (ls' := [_, _, _, _, _, _, _]) F a_M_fewest_99 rfl rfl rfl ?_
          refine g_iinc (ls' := [_, _, _, _, _, _, _]) F a_M_fewest_101 rfl rfl rfl ?_
          refine g_goto F a_M_fewest_104 ?_
          refine GC.loc2 (ih (j + 1) _ _ _ (by omega) (by omega) (by omega) ?_ ?_) ⟨rfl, rfl, rfl, rfl, rfl, rfl, trivial⟩
          · rw [feN_k (by intro q; rw [← hv] at q; exact absurd q.2 (by assumption)), hb]
          · rw [feN_k (by intro q; rw [← hv] at q; exact absurd q.2 (by assumption)), hl]
        · refine g_iconst F a_M_fewest_65 ?_
          refine g_goto F a_M_fewest_66 ?_
          refine g_istore (ls' := [_, _, _, _, _, _, _]) F a_M_fewest_70 rfl rfl rfl ?_
          refine g_iload F a_M_fewest_72 rfl ?_
          refine g_ifeq1 F a_M_fewest_74 ?_
          refine g_iload F a_M_fewest_77 rfl ?_
          refine g_goto F a_M_fewest_79 ?_
          refine g_istore_n (ls' := [_, _, _, _, _, _, _]) F a_M_fewest_83 rfl rfl rfl ?_
          refine g_iload F a_M_fewest_84 rfl ?_
          refine g_ifeq1 F a_M_fewest_86 ?_
          refine g_iload F a_M_fewest_89 rfl ?_
          refine g_s1 F a_M_fewest_91 sc_M_149 mk_M_bits rfl (by decide) ⟨Nat.le_refl _, Nat.le_refl _⟩ rfl (Nat.le_of_ble_eq_true rfl) (sp_M_bits (by omega) (GCr.v ?_))
          refine g_goto F a_M_fewest_94 ?_
          refine g_istore (ls' := [_, _, _, _, _, _, _]) F a_M_fewest_99 rfl rfl rfl ?_
          refine g_iinc (ls' := [_, _, _, _, _, _, _]) F a_M_fewest_101 rfl rfl rfl ?_
          refine g_goto F a_M_fewest_104 ?_
          refine GC.loc2 (ih (j + 1) _ _ _ (by omega) (by omega) (by omega) ?_ ?_) ⟨rfl, rfl, rfl, rfl, rfl, rfl, trivial⟩
          · rw [feN_s (by rw [← hb, ← hv]; exact ⟨by omega, by first | assumption | exact Classical.not_not.mp (by assumption)⟩)]; exact hv
          · rw [feN_s (by rw [← hb, ← hv]; exact ⟨by omega, by first | assumption | exact Classical.not_not.mp (by assumption)⟩), ← hv]; unfold fwF; rw [if_neg (by omega)]
set_option maxHeartbeats 1000000 in
theorem sp_M_fewest {κ : Kx} {Q : Option Value → (Heap → Prop) → Prop} {m : Mem} {D : Int} (hS : okM D (m 10 0)) (hD : D ≤ 100000) {x y : Int} (hx : R32 x) (hy : R32 y) (kb : ¬ ((-99 ≤ x ∧ x ≤ 99) ∧ 0 ≤ y ∧ y < (m 10 0).1 2) → Q (some (vi (-2))) (World κ (bmM m 0))) (k : (-99 ≤ x ∧ x ≤ 99) → (0 ≤ y ∧ y < (m 10 0).1 2) → Q (some (vi (feN (shM (m 10 0)) x y (allN (shM (m 10 0)))))) (World κ m)) : GG κ G_M_fewest 5 0 0 [.ref (ad κ 10 0), vi x, vi y] (World κ m) Q := by
  obtain ⟨s0, s1, s2, s3, s4, s5, hfg, hkd, hsh, hgl⟩ := id hS
  refine GG.intro (ls := [some _, some _, some _, none, none, none, none]) (Nat.le_of_ble_eq_true rfl) rfl (fun μ F => ?_)
  refine g_iload_n F a_M_fewest_0 rfl ?_
  refine g_bipush F a_M_fewest_1 (by decide) ?_
  refine g_bipush F a_M_fewest_3 (by decide) ?_
  refine g_s3 F a_M_fewest_5 sc_M_91 mk_M_in rfl (by decide) ⟨Nat.le_refl _, Nat.le_refl _⟩ rfl (Nat.le_of_ble_eq_true rfl) (sp_M_in (by omega) (by omega) (by omega) (fun c5 => GCr.v ?_) (fun c5 => GCr.v ?_))
  · refine g_ifeq1 F a_M_fewest_8 ?_
    refine g_aload_n F a_M_fewest_11 rfl ?_
    refine g_iload_n F a_M_fewest_12 rfl ?_
    refine g_v1 F a_M_fewest_13 vc_M_227 mk_M_isReader ob_10 ck_10.1 rfl rfl (by decide) ⟨Nat.le_refl _, Nat.le_refl _⟩ rfl (Nat.le_of_ble_eq_true rfl) (sp_M_isReader hS hD (by omega) (fun c13 => GCr.v ?_) (fun c13 => GCr.v ?_))
    · refine g_ifne1 F a_M_fewest_16 ?_
      refine g_iconst F a_M_fewest_24 ?_
      refine g_istore_n (ls' := [_, _, _, _, _, _, _]) F a_M_fewest_25 rfl rfl rfl ?_
      refine g_ldc F a_M_fewest_26 kc_M_251 ?_
      refine g_istore (ls' := [_, _, _, _, _, _, _]) F a_M_fewest_28 rfl rfl rfl ?_
      refine g_iconst F a_M_fewest_30 ?_
      refine g_istore (ls' := [_, _, _, _, _, _, _]) F a_M_fewest_31 rfl rfl rfl ?_
      exact GC.loc2 (lp_M_fewest hS hD (by assumption) (by assumption) (k (by assumption) (by assumption)) F ((allN (shM (m 10 0))) + 1) 0 _ _ _ (by omega) (by omega) rfl rfl rfl) ⟨rfl, rfl, rfl, rfl, rfl, rfl, trivial⟩
    · refine g_ifne0 F a_M_fewest_16 ?_
      refine g_aload_n F a_M_fewest_19 rfl ?_
      refine g_v0 F a_M_fewest_20 vc_M_95 mk_M_bad ob_10 ck_10.1 rfl rfl (by decide) ⟨Nat.le_refl _, Nat.le_refl _⟩ rfl (Nat.le_of_ble_eq_true rfl) (sp_M_bad  (GCr.v ?_))
      refine g_iret F a_M_fewest_23 rfl ⟨Nat.le_refl _, Nat.le_refl _⟩ ?_
      exact kb (by omega)
  · refine g_ifeq0 F a_M_fewest_8 ?_
    refine g_aload_n F a_M_fewest_19 rfl ?_
    refine g_v0 F a_M_fewest_20 vc_M_95 mk_M_bad ob_10 ck_10.1 rfl rfl (by decide) ⟨Nat.le_refl _, Nat.le_refl _⟩ rfl (Nat.le_of_ble_eq_true rfl) (sp_M_bad  (GCr.v ?_))
    refine g_iret F a_M_fewest_23 rfl ⟨Nat.le_refl _, Nat.le_refl _⟩ ?_
    exact kb (by omega)
theorem or0_dec : ∀ s : Nat, s < 64 → bOr (s : Int) 0 = (s : Int) := by decide +kernel
theorem or0 {s : Int} (h : 0 ≤ s ∧ s < 64) : bOr s 0 = s := by
  have := or0_dec s.toNat (by omega)
  rw [Int.toNat_of_nonneg h.1] at this
  exact this
theorem moN_s {S : Rc} {r : Int} {n : Nat} : moN S r (n + 1) = if bc (moN S r n) < bc (alS S r n (S.1 4).toNat) then alS S r n (S.1 4).toNat else moN S r n := rfl
set_option maxHeartbeats 2000000 in
theorem lp_M_mut2 {κ : Kx} {μ : MX} {Z : State → Prop} {m : Mem} {D : Int} (hS : okM D (m 10 0)) (hD : D ≤ 100000) {y v b : Int} (hy : 0 ≤ y ∧ y < (m 10 0).1 2) (hv : 0 ≤ v ∧ v < (m 10 0).1 1) (k : GC κ μ Z 0 0 75 [some (.ref (ad κ 10 0)), some (vi y), some (vi b), some (vi v), some (vi (alS (shM (m 10 0)) y v ((m 10 0).1 1).toNat)), none] [] (World κ m)) (F : Fx κ G_M_mutiny 4 0 0 μ) :
    ∀ (n : Nat) (j : Nat) (a c : Int), (m 10 0).1 1 < j + n → (j : Int) ≤ (m 10 0).1 1 → c = (j : Int) → a = alS (shM (m 10 0)) y v j →  GC κ μ Z 0 0 31 [some (.ref (ad κ 10 0)), some (vi y), some (vi b), some (vi v), some (vi a), some (vi c)] [] (World κ m) := by
  obtain ⟨s0, s1, s2, s3, s4, s5, hfg, hkd, hsh, hgl⟩ := id hS
  intro n
  induction n with
  | zero =>
    intro j a c hn hj hc ha
    exact absurd hn (by omega)
  | succ n ih =>
    intro j a c hn hj hc ha
    have har := alS_r (shM (m 10 0)) y v j
    have hp6 : (2 : Int) ^ j ≤ 64 := (p64 (by omega)).2
    have hg1 := sgt_r (okM_S hS) (x := v) (r := y) (by omega)
    have hg2 := fun h : c < 6 => sgt_r (okM_S hS) (x := c) (r := y) (by omega)
    refine g_iload F a_M_mutiny_31 rfl ?_
    refine g_aload_n F a_M_mutiny_33 rfl ?_
    refine g_get_10_1 F a_M_mutiny_34 fl_M_60 ?_
    refine g_icmp_ge F (by omega) (by omega) a_M_mutiny_37 (fun h37 => ?_) (fun h37 => ?_)
    · obtain rfl : j = ((m 10 0).1 1).toNat := by omega
      rw [ha]
      exact GC.loc2 k ⟨rfl, rfl, rfl, rfl, rfl, trivial⟩
    · refine g_iload F a_M_mutiny_40 rfl ?_
      refine g_aload_n F a_M_mutiny_42 rfl ?_
      refine g_iload F a_M_mutiny_43 rfl ?_
      refine g_iload_n F a_M_mutiny_45 rfl ?_
      refine g_v2 F a_M_mutiny_46 vc_M_209 mk_M_readOf ob_10 ck_10.1 rfl rfl (by decide) ⟨Nat.le_refl _, Nat.le_refl _⟩ rfl (Nat.le_of_ble_eq_true rfl) (sp_M_readOf hS hD (by omega) (by omega) (GCr.v ?_))
      refine g_aload_n F a_M_mutiny_49 rfl ?_
      refine g_iload_n F a_M_mutiny_50 rfl ?_
      refine g_iload_n F a_M_mutiny_51 rfl ?_
      refine g_v2 F a_M_mutiny_52 vc_M_209 mk_M_readOf ob_10 ck_10.1 rfl rfl (by decide) ⟨Nat.le_refl _, Nat.le_refl _⟩ rfl (Nat.le_of_ble_eq_true rfl) (sp_M_readOf hS hD (by omega) (by omega) (GCr.v ?_))
      refine g_icmp_ne F (by omega) (by omega) a_M_mutiny_55 (fun h55 => ?_) (fun h55 => ?_)
      · refine g_iconst F a_M_mutiny_65 ?_
        refine g_ior F a_M_mutiny_66 ?_
        rw [or0 (by omega)]
        refine g_istore (ls' := [_, _, _, _, _, _]) F a_M_mutiny_67 rfl rfl rfl ?_
        refine g_iinc (ls' := [_, _, _, _, _, _]) F a_M_mutiny_69 rfl rfl rfl ?_
        refine g_goto F a_M_mutiny_72 ?_
        exact GC.loc2 (ih (j + 1) _ _ (by omega) (by omega) (by omega) (by unfold alS; rw [if_neg (fun q => absurd (hc ▸ q.symm) h55), Int.add_zero]; exact ha)) ⟨rfl, rfl, rfl, rfl, rfl, rfl, trivial⟩
      · refine g_iconst F a_M_mutiny_58 ?_
        refine g_iload F a_M_mutiny_59 rfl ?_
        refine g_ishl F a_M_mutiny_61 ?_
        refine g_goto F a_M_mutiny_62 ?_
        refine g_ior F a_M_mutiny_66 ?_
        rw [shl_n (by omega) hc, orp (by omega) (by rw [ha]; exact har)]
        refine g_istore (ls' := [_, _, _, _, _, _]) F a_M_mutiny_67 rfl rfl rfl ?_
        refine g_iinc (ls' := [_, _, _, _, _, _]) F a_M_mutiny_69 rfl rfl rfl ?_
        refine g_goto F a_M_mutiny_72 ?_
        exact GC.loc2 (ih (j + 1) _ _ (by omega) (by omega) (by omega) (by unfold alS; rw [if_pos (by rw [← hc]; exact h55.symm), ha])) ⟨rfl, rfl, rfl, rfl, rfl, rfl, trivial⟩
set_option maxHeartbeats 2000000 in
theorem lp_M_mut1 {κ : Kx} {μ : MX} {Q : Option Value → (Heap → Prop) → Prop} {m : Mem} {D : Int} (hS : okM D (m 10 0)) (hD : D ≤ 100000) {y : Int} (hy : 0 ≤ y ∧ y < (m 10 0).1 2) (k : Q (some (vi (moN (shM (m 10 0)) y ((m 10 0).1 1).toNat))) (World κ m)) (F : Fx κ G_M_mutiny 4 0 0 μ) :
    ∀ (n : Nat) (j : Nat) (b v : Int), (m 10 0).1 1 < j + n → (j : Int) ≤ (m 10 0).1 1 → v = (j : Int) → b = moN (shM (m 10 0)) y j →  GC κ μ (ZZ κ μ 0 0 Q) 0 0 17 [some (.ref (ad κ 10 0)), some (vi y), some (vi b), some (vi v), none, none] [] (World κ m) := by
  obtain ⟨s0, s1, s2, s3, s4, s5, hfg, hkd, hsh, hgl⟩ := id hS
  intro n
  induction n with
  | zero =>
    intro j b v hn hj hv hb
    exact absurd hn (by omega)
  | succ n ih =>
    intro j b v hn hj hv hb
    have hmr := moN_r (okM_S hS) y j
    have har := alS_r (shM (m 10 0)) y v ((m 10 0).1 1).toNat
    have hp6 : (2 : Int) ^ ((m 10 0).1 1).toNat ≤ 64 := (p64 (by omega)).2
    have hb1 := bc_r (s := b) (by omega)
    have hb2 := bc_r (s := alS (shM (m 10 0)) y v ((m 10 0).1 1).toNat) (by omega)
    refine g_iload_n F a_M_mutiny_17 rfl ?_
    refine g_aload_n F a_M_mutiny_18 rfl ?_
    refine g_get_10_1 F a_M_mutiny_19 fl_M_60 ?_
    refine g_icmp_ge F (by omega) (by omega) a_M_mutiny_22 (fun h22 => ?_) (fun h22 => ?_)
    · refine g_iload_n F a_M_mutiny_100 rfl ?_
      refine g_iret F a_M_mutiny_101 rfl ⟨Nat.le_refl _, Nat.le_refl _⟩ ?_
      obtain rfl : j = ((m 10 0).1 1).toNat := by omega
      exact qv k hb
    · refine g_iconst F a_M_mutiny_25 ?_
      refine g_istore (ls' := [_, _, _, _, _, _]) F a_M_mutiny_26 rfl rfl rfl ?_
      refine g_iconst F a_M_mutiny_28 ?_
      refine g_istore (ls' := [_, _, _, _, _, _]) F a_M_mutiny_29 rfl rfl rfl ?_
      refine GC.loc2 (lp_M_mut2 hS hD hy (v := v) (b := b) (by omega) ?_ F (((m 10 0).1 1).toNat + 1) 0 _ _ (by omega) (by omega) rfl rfl) ⟨rfl, rfl, rfl, rfl, rfl, rfl, trivial⟩
      refine g_iload F a_M_mutiny_75 rfl ?_
      refine g_s1 F a_M_mutiny_77 sc_M_149 mk_M_bits rfl (by decide) ⟨Nat.le_refl _, Nat.le_refl _⟩ rfl (Nat.le_of_ble_eq_true rfl) (sp_M_bits (by omega) (GCr.v ?_))
      refine g_iload_n F a_M_mutiny_80 rfl ?_
      refine g_s1 F a_M_mutiny_81 sc_M_149 mk_M_bits rfl (by decide) ⟨Nat.le_refl _, Nat.le_refl _⟩ rfl (Nat.le_of_ble_eq_true rfl) (sp_M_bits (by omega) (GCr.v ?_))
      refine g_icmp_le F (by omega) (by omega) a_M_mutiny_84 (fun h84 => ?_) (fun h84 => ?_)
      · refine g_iload_n F a_M_mutiny_92 rfl ?_
        refine g_istore_n (ls' := [_, _, _, _, _, _]) F a_M_mutiny_93 rfl rfl rfl ?_
        refine g_iinc (ls' := [_, _, _, _, _, _]) F a_M_mutiny_94 rfl rfl rfl ?_
        refine g_goto F a_M_mutiny_97 ?_
        exact GC.loc2 (ih (j + 1) _ _ (by omega) (by omega) (by omega) (by rw [moN_s, if_neg (by rw [← hb, ← hv]; show ¬ bc b < bc (alS (shM (m 10 0)) y v ((m 10 0).1 1).toNat); omega)]; exact hb)) ⟨rfl, rfl, rfl, rfl, trivial⟩
      · refine g_iload F a_M_mutiny_87 rfl ?_
        refine g_goto F a_M_mutiny_89 ?_
        refine g_istore_n (ls' := [_, _, _, _, _, _]) F a_M_mutiny_93 rfl rfl rfl ?_
        refine g_iinc (ls' := [_, _, _, _, _, _]) F a_M_mutiny_94 rfl rfl rfl ?_
        refine g_goto F a_M_mutiny_97 ?_
        exact GC.loc2 (ih (j + 1) _ _ (by omega) (by omega) (by omega) (by rw [moN_s, if_pos (by rw [← hb, ← hv]; show bc b < bc (alS (shM (m 10 0)) y v ((m 10 0).1 1).toNat); omega), ← hv]; rfl)) ⟨rfl, rfl, rfl, rfl, trivial⟩
set_option maxHeartbeats 1000000 in
theorem sp_M_mutiny {κ : Kx} {Q : Option Value → (Heap → Prop) → Prop} {m : Mem} {D : Int} (hS : okM D (m 10 0)) (hD : D ≤ 100000) {y : Int} (hy : R32 y) (kb : ¬ (0 ≤ y ∧ y < (m 10 0).1 2) → Q (some (vi (-2))) (World κ (bmM m 0))) (k : (0 ≤ y ∧ y < (m 10 0).1 2) → Q (some (vi (moN (shM (m 10 0)) y ((m 10 0).1 1).toNat))) (World κ m)) : GG κ G_M_mutiny 4 0 0 [.ref (ad κ 10 0), vi y] (World κ m) Q := by
  obtain ⟨s0, s1, s2, s3, s4, s5, hfg, hkd, hsh, hgl⟩ := id hS
  refine GG.intro (ls := [some _, some _, none, none, none, none]) (Nat.le_of_ble_eq_true rfl) rfl (fun μ F => ?_)
  refine g_aload_n F a_M_mutiny_0 rfl ?_
  refine g_iload_n F a_M_mutiny_1 rfl ?_
  refine g_v1 F a_M_mutiny_2 vc_M_227 mk_M_isReader ob_10 ck_10.1 rfl rfl (by decide) ⟨Nat.le_refl _, Nat.le_refl _⟩ rfl (Nat.le_of_ble_eq_true rfl) (sp_M_isReader hS hD (by omega) (fun c2 => GCr.v ?_) (fun c2 => GCr.v ?_))
  · refine g_ifne1 F a_M_mutiny_5 ?_
    refine g_iconst F a_M_mutiny_13 ?_
    refine g_istore_n (ls' := [_, _, _, _, _, _]) F a_M_mutiny_14 rfl rfl rfl ?_
    refine g_iconst F a_M_mutiny_15 ?_
    refine g_istore_n (ls' := [_, _, _, _, _, _]) F a_M_mutiny_16 rfl rfl rfl ?_
    exact GC.loc2 (lp_M_mut1 hS hD (by assumption) (k (by assumption)) F (((m 10 0).1 1).toNat + 1) 0 _ _ (by omega) (by omega) rfl rfl) ⟨rfl, rfl, rfl, rfl, trivial⟩
  · refine g_ifne0 F a_M_mutiny_5 ?_
    refine g_aload_n F a_M_mutiny_8 rfl ?_
    refine g_v0 F a_M_mutiny_9 vc_M_95 mk_M_bad ob_10 ck_10.1 rfl rfl (by decide) ⟨Nat.le_refl _, Nat.le_refl _⟩ rfl (Nat.le_of_ble_eq_true rfl) (sp_M_bad  (GCr.v ?_))
    refine g_iret F a_M_mutiny_12 rfl ⟨Nat.le_refl _, Nat.le_refl _⟩ ?_
    exact kb (by omega)
set_option maxHeartbeats 1000000 in
theorem sp_M_firstGets {κ : Kx} {Q : Option Value → (Heap → Prop) → Prop} {m : Mem} {D : Int} (hS : okM D (m 10 0)) (hD : D ≤ 100000) {x y r : Int} (hx : 0 ≤ x ∧ x < 6) (hy : 0 ≤ y ∧ y < 6) (hr : 0 ≤ r ∧ r < (m 10 0).1 2) (k : Q (some (vi (-(frS (shM (m 10 0)) r x y)))) (World κ m)) : GG κ G_M_firstGets 5 0 0 [.ref (ad κ 10 0), vi x, vi y, vi r] (World κ m) Q := by
  obtain ⟨s0, s1, s2, s3, s4, s5, hfg, hkd, hsh, hgl⟩ := id hS
  have hz9 : -1000000 ≤ errS (shM (m 10 0)) (prI x y) r ∧ errS (shM (m 10 0)) (prI x y) r ≤ 1000000 := by have := errS_r (okM_S hS) (prI x y) r; omega
  refine GG.intro (ls := [some _, some _, some _, some _]) (Nat.le_of_ble_eq_true rfl) rfl (fun μ F => ?_)
  refine g_aload_n F a_M_firstGets_0 rfl ?_
  refine g_iconst F a_M_firstGets_1 ?_
  refine g_iload_n F a_M_firstGets_2 rfl ?_
  refine g_ishl F a_M_firstGets_3 ?_
  refine g_iconst F a_M_firstGets_4 ?_
  refine g_iload_n F a_M_firstGets_5 rfl ?_
  refine g_ishl F a_M_firstGets_6 ?_
  refine g_ior F a_M_firstGets_7 ?_
  refine g_iload_n F a_M_firstGets_8 rfl ?_
  refine g_v2 F a_M_firstGets_9 vc_M_215 mk_M_errorOf ob_10 ck_10.1 rfl rfl (by decide) ⟨Nat.le_refl _, Nat.le_refl _⟩ rfl (Nat.le_of_ble_eq_true rfl) (sp_M_errorOf hS hD (by exact prI_r hx hy) hr (GCr.v ?_))
  refine g_s1 F a_M_firstGets_12 sc_M_252 mk_M_far rfl (by decide) ⟨Nat.le_refl _, Nat.le_refl _⟩ rfl (Nat.le_of_ble_eq_true rfl) (sp_M_far (by exact hz9) (GCr.v ?_))
  refine g_ineg F a_M_firstGets_15 ?_
  refine g_iret F a_M_firstGets_16 rfl ⟨Nat.le_refl _, Nat.le_refl _⟩ ?_
  exact k
def bI (b : Bool) : Int := if b = true then 1 else 0
theorem bI_r (b : Bool) : 0 ≤ bI b ∧ bI b ≤ 1 := by unfold bI; split <;> omega
theorem bI_1 {b : Bool} (h : bI b ≠ 0) : b = true := by
  unfold bI at h
  split at h
  · assumption
  · exact absurd rfl h
theorem bI_0 {b : Bool} (h : bI b = 0) : b = false := by
  unfold bI at h
  split at h
  · cases h
  · simpa using (by assumption : ¬ b = true)
theorem rsN_s {S : Rc} {r i j : Int} {n : Nat} : rsN S r i j (n + 1) = (rsN S r i j n && (decide (frS S r i j ≤ frS S r n j) && decide (ang S n ≤ ang S j))) := rfl
set_option maxHeartbeats 2000000 in
theorem lp_M_rests {κ : Kx} {μ : MX} {Q : Option Value → (Heap → Prop) → Prop} {m : Mem} {D : Int} (hS : okM D (m 10 0)) (hD : D ≤ 100000) {x y r : Int} (hx : 0 ≤ x ∧ x < (m 10 0).1 1) (hy : 0 ≤ y ∧ y < (m 10 0).1 1) (hr : 0 ≤ r ∧ r < (m 10 0).1 2) (k1 : rsB (shM (m 10 0)) r x y = true → Q (some (vi 1)) (World κ m)) (k0 : rsB (shM (m 10 0)) r x y = false → Q (some (vi 0)) (World κ m)) (F : Fx κ G_M_rests 6 0 0 μ) :
    ∀ (n : Nat) (j : Nat) (e v : Int), (m 10 0).1 1 < j + n → (j : Int) ≤ (m 10 0).1 1 → v = (j : Int) → e = bI (rsN (shM (m 10 0)) r x y j) →  GC κ μ (ZZ κ μ 0 0 Q) 0 0 6 [some (.ref (ad κ 10 0)), some (vi x), some (vi y), some (vi r), some (vi e), some (vi v)] [] (World κ m) := by
  obtain ⟨s0, s1, s2, s3, s4, s5, hfg, hkd, hsh, hgl⟩ := id hS
  intro n
  induction n with
  | zero =>
    intro j e v hn hj hv he
    exact absurd hn (by omega)
  | succ n ih =>
    intro j e v hn hj hv he
    have hz1 := farS_r (okM_S hS) (prI x y) r
    have hz2 := farS_r (okM_S hS) (prI v y) r
    have hz3 : 0 ≤ frS (shM (m 10 0)) r x y ∧ frS (shM (m 10 0)) r x y ≤ 600 := hz1
    have hz4 : 0 ≤ frS (shM (m 10 0)) r v y ∧ frS (shM (m 10 0)) r v y ≤ 600 := hz2
    have hebr := bI_r (rsN (shM (m 10 0)) r x y j)
    have hay := ang_r (okM_S hS) (x := y) (by omega)
    have hav := fun h : v < 6 => ang_r (okM_S hS) (x := v) (by omega)
    refine g_iload F a_M_rests_6 rfl ?_
    refine g_aload_n F a_M_rests_8 rfl ?_
    refine g_get_10_1 F a_M_rests_9 fl_M_60 ?_
    refine g_icmp_ge F (by omega) (by omega) a_M_rests_12 (fun h12 => ?_) (fun h12 => ?_)
    · obtain rfl : j = ((m 10 0).1 1).toNat := by omega
      rcases (show e = 0 ∨ e = 1 by omega) with rfl | rfl
      · refine g_iload F a_M_rests_65 rfl ?_
        refine g_zret F a_M_rests_67 rfl rfl ⟨Nat.le_refl _, Nat.le_refl _⟩ ?_
        exact k0 (bI_0 he.symm)
      · refine g_iload F a_M_rests_65 rfl ?_
        refine g_zret F a_M_rests_67 rfl rfl ⟨Nat.le_refl _, Nat.le_refl _⟩ ?_
        exact k1 (bI_1 (b := rsN (shM (m 10 0)) r x y ((m 10 0).1 1).toNat) (by rw [← he]; decide))
    · refine g_iload F a_M_rests_15 rfl ?_
      refine g_if_eq F (by omega) a_M_rests_17 (fun h17 => ?_) (fun h17 => ?_)
      · refine g_iconst F a_M_rests_56 ?_
        refine g_istore (ls' := [_, _, _, _, _, _]) F a_M_rests_57 rfl rfl rfl ?_
        refine g_iinc (ls' := [_, _, _, _, _, _]) F a_M_rests_59 rfl rfl rfl ?_
        refine g_goto F a_M_rests_62 ?_
        exact GC.loc2 (ih (j + 1) _ _ (by omega) (by omega) (by omega) (by rw [rsN_s, bI_0 (he.symm.trans h17)]; rfl)) ⟨rfl, rfl, rfl, rfl, rfl, rfl, trivial⟩
      · refine g_aload_n F a_M_rests_20 rfl ?_
        refine g_iload_n F a_M_rests_21 rfl ?_
        refine g_iload_n F a_M_rests_22 rfl ?_
        refine g_iload_n F a_M_rests_23 rfl ?_
        refine g_v3 F a_M_rests_24 vc_M_283 mk_M_firstGets ob_10 ck_10.1 rfl rfl (by decide) ⟨Nat.le_refl _, Nat.le_refl _⟩ rfl (Nat.le_of_ble_eq_true rfl) (sp_M_firstGets hS hD (by omega) (by omega) hr (GCr.v ?_))
        refine g_aload_n F a_M_rests_27 rfl ?_
        refine g_iload F a_M_rests_28 rfl ?_
        refine g_iload_n F a_M_rests_30 rfl ?_
        refine g_iload_n F a_M_rests_31 rfl ?_
        refine g_v3 F a_M_rests_32 vc_M_283 mk_M_firstGets ob_10 ck_10.1 rfl rfl (by decide) ⟨Nat.le_refl _, Nat.le_refl _⟩ rfl (Nat.le_of_ble_eq_true rfl) (sp_M_firstGets hS hD (by omega) (by omega) hr (GCr.v ?_))
        refine g_icmp_lt F (by omega) (by omega) a_M_rests_35 (fun h35 => ?_) (fun h35 => ?_)
        · refine g_iconst F a_M_rests_56 ?_
          refine g_istore (ls' := [_, _, _, _, _, _]) F a_M_rests_57 rfl rfl rfl ?_
          refine g_iinc (ls' := [_, _, _, _, _, _]) F a_M_rests_59 rfl rfl rfl ?_
          refine g_goto F a_M_rests_62 ?_
          exact GC.loc2 (ih (j + 1) _ _ (by omega) (by omega) (by omega) (by rw [rsN_s, ← hv, decide_eq_false (show ¬ frS (shM (m 10 0)) r x y ≤ frS (shM (m 10 0)) r v y by omega)]; simp [bI])) ⟨rfl, rfl, rfl, rfl, rfl, rfl, trivial⟩
        · refine g_aload_n F a_M_rests_38 rfl ?_
          refine g_iload_n F a_M_rests_39 rfl ?_
          refine g_v1 F a_M_rests_40 vc_M_200 mk_M_angleOf ob_10 ck_10.1 rfl rfl (by decide) ⟨Nat.le_refl _, Nat.le_refl _⟩ rfl (Nat.le_of_ble_eq_true rfl) (sp_M_angleOf hS hD (by omega) (GCr.v ?_))
          refine g_aload_n F a_M_rests_43 rfl ?_
          refine g_iload F a_M_rests_44 rfl ?_
          refine g_v1 F a_M_rests_46 vc_M_200 mk_M_angleOf ob_10 ck_10.1 rfl rfl (by decide) ⟨Nat.le_refl _, Nat.le_refl _⟩ rfl (Nat.le_of_ble_eq_true rfl) (sp_M_angleOf hS hD (by omega) (GCr.v ?_))
          refine g_icmp_lt F (by omega) (by omega) a_M_rests_49 (fun h49 => ?_) (fun h49 => ?_)
          · refine g_iconst F a_M_rests_56 ?_
            refine g_istore (ls' := [_, _, _, _, _, _]) F a_M_rests_57 rfl rfl rfl ?_
            refine g_iinc (ls' := [_, _, _, _, _, _]) F a_M_rests_59 rfl rfl rfl ?_
            refine g_goto F a_M_rests_62 ?_
            exact GC.loc2 (ih (j + 1) _ _ (by omega) (by omega) (by omega) (by rw [rsN_s, ← hv, decide_eq_false (show ¬ ang (shM (m 10 0)) v ≤ ang (shM (m 10 0)) y by omega)]; simp [bI])) ⟨rfl, rfl, rfl, rfl, rfl, rfl, trivial⟩
          · refine g_iconst F a_M_rests_52 ?_
            refine g_goto F a_M_rests_53 ?_
            refine g_istore (ls' := [_, _, _, _, _, _]) F a_M_rests_57 rfl rfl rfl ?_
            refine g_iinc (ls' := [_, _, _, _, _, _]) F a_M_rests_59 rfl rfl rfl ?_
            refine g_goto F a_M_rests_62 ?_
            exact GC.loc2 (ih (j + 1) _ _ (by omega) (by omega) (by omega) (by rw [rsN_s, ← hv, bI_1 (fun q => h17 (he.trans q)), decide_eq_true (show frS (shM (m 10 0)) r x y ≤ frS (shM (m 10 0)) r v y by omega), decide_eq_true (show ang (shM (m 10 0)) v ≤ ang (shM (m 10 0)) y by omega)]; rfl)) ⟨rfl, rfl, rfl, rfl, rfl, rfl, trivial⟩
set_option maxHeartbeats 1000000 in
theorem sp_M_rests {κ : Kx} {Q : Option Value → (Heap → Prop) → Prop} {m : Mem} {D : Int} (hS : okM D (m 10 0)) (hD : D ≤ 100000) {x y r : Int} (hx : 0 ≤ x ∧ x < (m 10 0).1 1) (hy : 0 ≤ y ∧ y < (m 10 0).1 1) (hr : 0 ≤ r ∧ r < (m 10 0).1 2) (k1 : rsB (shM (m 10 0)) r x y = true → Q (some (vi 1)) (World κ m)) (k0 : rsB (shM (m 10 0)) r x y = false → Q (some (vi 0)) (World κ m)) : GG κ G_M_rests 6 0 0 [.ref (ad κ 10 0), vi x, vi y, vi r] (World κ m) Q := by
  obtain ⟨s0, s1, s2, s3, s4, s5, hfg, hkd, hsh, hgl⟩ := id hS
  refine GG.intro (ls := [some _, some _, some _, some _, none, none]) (Nat.le_of_ble_eq_true rfl) rfl (fun μ F => ?_)
  refine g_iconst F a_M_rests_0 ?_
  refine g_istore (ls' := [_, _, _, _, _, _]) F a_M_rests_1 rfl rfl rfl ?_
  refine g_iconst F a_M_rests_3 ?_
  refine g_istore (ls' := [_, _, _, _, _, _]) F a_M_rests_4 rfl rfl rfl ?_
  exact GC.loc2 (lp_M_rests hS hD hx hy hr k1 k0 F (((m 10 0).1 1).toNat + 1) 0 _ _ (by omega) (by omega) rfl rfl) ⟨rfl, rfl, rfl, rfl, rfl, rfl, trivial⟩
theorem rwC_s {S : Rc} {r i c : Int} {n : Nat} : rwC S r i c (n + 1) = rwC S r i c n + if rsB S r i n = true then 1 else 0 := rfl
theorem rwT_s {S : Rc} {r k i c t : Int} {n : Nat} : rwT S r k i c t (n + 1) = if rsB S r i n = true ∧ rwC S r i c n = k then 10 * i + n else rwT S r k i c t n := rfl
theorem rwT_t {S : Rc} {r k i c t : Int} (hi : 0 ≤ i) (h : t = -1 ∨ 0 ≤ t) : ∀ n : Nat, (rwT S r k i c t n = -1 ∨ 0 ≤ rwT S r k i c t n) ∧ ∀ u : Int, rwT S r k i c (if t = -1 then u else t) n = if rwT S r k i c t n = -1 then u else rwT S r k i c t n
  | 0 => ⟨h, fun _ => rfl⟩
  | n + 1 => by
    have ih := rwT_t (S := S) (r := r) (k := k) (c := c) hi h n
    rw [rwT_s]
    by_cases q : rsB S r i n = true ∧ rwC S r i c n = k
    · rw [if_pos q]
      refine ⟨Or.inr (by omega), fun u => ?_⟩
      rw [rwT_s, if_pos q, if_neg (by omega)]
    · rw [if_neg q]
      refine ⟨ih.1, fun u => ?_⟩
      rw [rwT_s, if_neg q]
      exact ih.2 u
theorem ttT_t {S : Rc} {r k : Int} : ∀ n : Nat, (ttT S r k (-1) n = -1 ∨ 0 ≤ ttT S r k (-1) n) ∧ ∀ u : Int, ttT S r k u n = if ttT S r k (-1) n = -1 then u else ttT S r k (-1) n
  | 0 => ⟨Or.inl rfl, fun u => rfl⟩
  | n + 1 => by
    have ih := ttT_t (S := S) (r := r) (k := k) n
    have hr := rwT_t (S := S) (r := r) (k := k) (i := n) (c := ttC S r n) (by omega) ih.1 (S.1 4).toNat
    refine ⟨hr.1, fun u => ?_⟩
    show rwT S r k n (ttC S r n) (ttT S r k u n) (S.1 4).toNat = _
    rw [ih.2 u]
    exact hr.2 u
set_option maxHeartbeats 2000000 in
theorem lp_M_off2 {κ : Kx} {μ : MX} {Z : State → Prop} {m : Mem} {D : Int} (hS : okM D (m 10 0)) (hD : D ≤ 100000) {y w v : Int} {v0 : Nat} (hy : 0 ≤ y ∧ y < (m 10 0).1 2) (hw : -1 ≤ w ∧ w ≤ 2147483647) (hv : 0 ≤ v ∧ v < (m 10 0).1 1) (hcr : 0 ≤ ttC (shM (m 10 0)) y v0 ∧ ttC (shM (m 10 0)) y v0 ≤ 36) (k : GC κ μ Z 0 0 89 [some (.ref (ad κ 10 0)), some (vi y), some (vi w), some (vi (rwC (shM (m 10 0)) y v (ttC (shM (m 10 0)) y v0) ((m 10 0).1 1).toNat)), some (vi (rwT (shM (m 10 0)) y w v (ttC (shM (m 10 0)) y v0) (ttT (shM (m 10 0)) y w (-5) v0) ((m 10 0).1 1).toNat)), some (vi v), none] [] (World κ m)) (F : Fx κ G_M_officers 7 0 0 μ) :
    ∀ (n : Nat) (j : Nat) (c t u : Int), (m 10 0).1 1 < j + n → (j : Int) ≤ (m 10 0).1 1 → u = (j : Int) → c = (rwC (shM (m 10 0)) y v (ttC (shM (m 10 0)) y v0) j) → t = (rwT (shM (m 10 0)) y w v (ttC (shM (m 10 0)) y v0) (ttT (shM (m 10 0)) y w (-5) v0) j) →  GC κ μ Z 0 0 39 [some (.ref (ad κ 10 0)), some (vi y), some (vi w), some (vi c), some (vi t), some (vi v), some (vi u)] [] (World κ m) := by
  obtain ⟨s0, s1, s2, s3, s4, s5, hfg, hkd, hsh, hgl⟩ := id hS
  intro n
  induction n with
  | zero =>
    intro j c t u hn hj hu hc ht
    exact absurd hn (by omega)
  | succ n ih =>
    intro j c t u hn hj hu hc ht
    have hcl := rwC_r (shM (m 10 0)) y v (ttC (shM (m 10 0)) y v0) j
    refine g_iload F a_M_officers_39 rfl ?_
    refine g_aload_n F a_M_officers_41 rfl ?_
    refine g_get_10_1 F a_M_officers_42 fl_M_60 ?_
    refine g_icmp_ge F (by omega) (by omega) a_M_officers_45 (fun h45 => ?_) (fun h45 => ?_)
    · obtain rfl : j = ((m 10 0).1 1).toNat := by omega
      rw [hc, ht]
      exact GC.loc2 k ⟨rfl, rfl, rfl, rfl, rfl, rfl, trivial⟩
    · refine g_aload_n F a_M_officers_48 rfl ?_
      refine g_iload F a_M_officers_49 rfl ?_
      refine g_iload F a_M_officers_51 rfl ?_
      refine g_iload_n F a_M_officers_53 rfl ?_
      refine g_v3 F a_M_officers_54 vc_M_286 mk_M_rests ob_10 ck_10.1 rfl rfl (by decide) ⟨Nat.le_refl _, Nat.le_refl _⟩ rfl (Nat.le_of_ble_eq_true rfl) (sp_M_rests hS hD (by omega) (by omega) hy (fun c54 => GCr.v ?_) (fun c54 => GCr.v ?_))
      · refine g_ifeq1 F a_M_officers_57 ?_
        refine g_iload_n F a_M_officers_60 rfl ?_
        refine g_iload_n F a_M_officers_61 rfl ?_
        refine g_icmp_ne F (by omega) (by omega) a_M_officers_62 (fun h62 => ?_) (fun h62 => ?_)
        · refine g_iload F a_M_officers_76 rfl ?_
          refine g_istore (ls' := [_, _, _, _, _, _, _]) F a_M_officers_78 rfl rfl rfl ?_
          refine g_iinc (ls' := [_, _, _, _, _, _, _]) F a_M_officers_80 rfl rfl rfl ?_
          refine g_iinc (ls' := [_, _, _, _, _, _, _]) F a_M_officers_83 rfl rfl rfl ?_
          refine g_goto F a_M_officers_86 ?_
          refine GC.loc2 (ih (j + 1) _ _ _ (by omega) (by omega) (by omega) (by rw [rwC_s, if_pos (show rsB (shM (m 10 0)) y v j = true by rw [← hu]; exact c54), ← hc]) (by rw [rwT_s, if_neg (fun q => by rw [← hc] at q; exact absurd q.2 (by assumption))]; exact ht)) ⟨rfl, rfl, rfl, rfl, rfl, rfl, rfl, trivial⟩
        · refine g_bipush F a_M_officers_65 (by decide) ?_
          refine g_iload F a_M_officers_67 rfl ?_
          refine g_imul F a_M_officers_69 ?_
          refine g_iload F a_M_officers_70 rfl ?_
          refine g_iadd F a_M_officers_72 ?_
          refine g_goto F a_M_officers_73 ?_
          refine g_istore (ls' := [_, _, _, _, _, _, _]) F a_M_officers_78 rfl rfl rfl ?_
          refine g_iinc (ls' := [_, _, _, _, _, _, _]) F a_M_officers_80 rfl rfl rfl ?_
          refine g_iinc (ls' := [_, _, _, _, _, _, _]) F a_M_officers_83 rfl rfl rfl ?_
          refine g_goto F a_M_officers_86 ?_
          refine GC.loc2 (ih (j + 1) _ _ _ (by omega) (by omega) (by omega) (by rw [rwC_s, if_pos (show rsB (shM (m 10 0)) y v j = true by rw [← hu]; exact c54), ← hc]) (by rw [rwT_s, if_pos ⟨by rw [← hu]; exact c54, by rw [← hc]; assumption⟩, ← hu])) ⟨rfl, rfl, rfl, rfl, rfl, rfl, rfl, trivial⟩
      · refine g_ifeq0 F a_M_officers_57 ?_
        refine g_iinc (ls' := [_, _, _, _, _, _, _]) F a_M_officers_83 rfl rfl rfl ?_
        refine g_goto F a_M_officers_86 ?_
        refine GC.loc2 (ih (j + 1) _ _ _ (by omega) (by omega) (by omega) (by rw [rwC_s, if_neg (show ¬ rsB (shM (m 10 0)) y v j = true by rw [← hu, c54]; decide), ← hc, Int.add_zero]) (by rw [rwT_s, if_neg (fun q => by rw [← hu, c54] at q; exact absurd q.1 (by decide))]; exact ht)) ⟨rfl, rfl, rfl, rfl, rfl, rfl, rfl, trivial⟩
set_option maxHeartbeats 2000000 in
theorem lp_M_off1 {κ : Kx} {μ : MX} {Q : Option Value → (Heap → Prop) → Prop} {m : Mem} {D : Int} (hS : okM D (m 10 0)) (hD : D ≤ 100000) {y w : Int} (hy : 0 ≤ y ∧ y < (m 10 0).1 2) (hw : -1 ≤ w ∧ w ≤ 2147483647) (k : Q (some (vi (if w = -1 then ttC (shM (m 10 0)) y ((m 10 0).1 1).toNat else ttT (shM (m 10 0)) y w (-5) ((m 10 0).1 1).toNat))) (World κ m)) (F : Fx κ G_M_officers 7 0 0 μ) :
    ∀ (n : Nat) (j : Nat) (c t v : Int), (m 10 0).1 1 < j + n → (j : Int) ≤ (m 10 0).1 1 → v = (j : Int) → c = ttC (shM (m 10 0)) y j → t = ttT (shM (m 10 0)) y w (-5) j →  GC κ μ (ZZ κ μ 0 0 Q) 0 0 27 [some (.ref (ad κ 10 0)), some (vi y), some (vi w), some (vi c), some (vi t), some (vi v), none] [] (World κ m) := by
  obtain ⟨s0, s1, s2, s3, s4, s5, hfg, hkd, hsh, hgl⟩ := id hS
  intro n
  induction n with
  | zero =>
    intro j c t v hn hj hv hc ht
    exact absurd hn (by omega)
  | succ n ih =>
    intro j c t v hn hj hv hc ht
    have hcr := ttC_r (okM_S hS) y j
    refine g_iload F a_M_officers_27 rfl ?_
    refine g_aload_n F a_M_officers_29 rfl ?_
    refine g_get_10_1 F a_M_officers_30 fl_M_60 ?_
    refine g_icmp_ge F (by omega) (by omega) a_M_officers_33 (fun h33 => ?_) (fun h33 => ?_)
    · refine g_iload_n F a_M_officers_95 rfl ?_
      refine g_iconst F a_M_officers_96 ?_
      refine g_icmp_ne F (by omega) (by omega) a_M_officers_97 (fun h97 => ?_) (fun h97 => ?_)
      · refine g_iload F a_M_officers_104 rfl ?_
        refine g_iret F a_M_officers_106 rfl ⟨Nat.le_refl _, Nat.le_refl _⟩ ?_
        obtain rfl : j = ((m 10 0).1 1).toNat := by omega
        exact qv k (by rw [if_neg (by assumption), ht])
      · refine g_iload_n F a_M_officers_100 rfl ?_
        refine g_goto F a_M_officers_101 ?_
        refine g_iret F a_M_officers_106 rfl ⟨Nat.le_refl _, Nat.le_refl _⟩ ?_
        obtain rfl : j = ((m 10 0).1 1).toNat := by omega
        exact qv k (by rw [if_pos (by assumption), hc])
    · refine g_iconst F a_M_officers_36 ?_
      refine g_istore (ls' := [_, _, _, _, _, _, _]) F a_M_officers_37 rfl rfl rfl ?_
      refine GC.loc2 (lp_M_off2 hS hD (v0 := j) hy hw (v := v) (by omega) (by omega) ?_ F (((m 10 0).1 1).toNat + 1) 0 _ _ _ (by omega) (by omega) rfl hc ht) ⟨rfl, rfl, rfl, rfl, rfl, rfl, rfl, trivial⟩
      subst hv
      refine g_iinc (ls' := [_, _, _, _, _, _, _]) F a_M_officers_89 rfl rfl rfl ?_
      refine g_goto F a_M_officers_92 ?_
      exact GC.loc2 (ih (j + 1) _ _ _ (by omega) (by omega) (by omega) rfl rfl) ⟨rfl, rfl, rfl, rfl, rfl, rfl, trivial⟩
set_option maxHeartbeats 1000000 in
theorem sp_M_officers {κ : Kx} {Q : Option Value → (Heap → Prop) → Prop} {m : Mem} {D : Int} (hS : okM D (m 10 0)) (hD : D ≤ 100000) {x y : Int} (hx : R32 x) (hy : R32 y) (kb : ¬ ((0 ≤ y ∧ y < (m 10 0).1 2) ∧ -1 ≤ x) → Q (some (vi (-10))) (World κ (bmM m 0))) (k : (0 ≤ y ∧ y < (m 10 0).1 2) → -1 ≤ x → Q (some (vi (if x = -1 then ttC (shM (m 10 0)) y ((m 10 0).1 1).toNat else ttT (shM (m 10 0)) y x (-5) ((m 10 0).1 1).toNat))) (World κ m)) : GG κ G_M_officers 7 0 0 [.ref (ad κ 10 0), vi y, vi x] (World κ m) Q := by
  obtain ⟨s0, s1, s2, s3, s4, s5, hfg, hkd, hsh, hgl⟩ := id hS
  refine GG.intro (ls := [some _, some _, some _, none, none, none, none]) (Nat.le_of_ble_eq_true rfl) rfl (fun μ F => ?_)
  refine g_aload_n F a_M_officers_0 rfl ?_
  refine g_iload_n F a_M_officers_1 rfl ?_
  refine g_v1 F a_M_officers_2 vc_M_227 mk_M_isReader ob_10 ck_10.1 rfl rfl (by decide) ⟨Nat.le_refl _, Nat.le_refl _⟩ rfl (Nat.le_of_ble_eq_true rfl) (sp_M_isReader hS hD (by omega) (fun c2 => GCr.v ?_) (fun c2 => GCr.v ?_))
  · refine g_ifeq1 F a_M_officers_5 ?_
    refine g_iload_n F a_M_officers_8 rfl ?_
    refine g_iconst F a_M_officers_9 ?_
    refine g_icmp_ge F (by omega) (by omega) a_M_officers_10 (fun h10 => ?_) (fun h10 => ?_)
    · refine g_iconst F a_M_officers_18 ?_
      refine g_istore_n (ls' := [_, _, _, _, _, _, _]) F a_M_officers_19 rfl rfl rfl ?_
      refine g_bipush F a_M_officers_20 (by decide) ?_
      refine g_istore (ls' := [_, _, _, _, _, _, _]) F a_M_officers_22 rfl rfl rfl ?_
      refine g_iconst F a_M_officers_24 ?_
      refine g_istore (ls' := [_, _, _, _, _, _, _]) F a_M_officers_25 rfl rfl rfl ?_
      exact GC.loc2 (lp_M_off1 hS hD (by assumption) (by omega) (k (by assumption) (by omega)) F (((m 10 0).1 1).toNat + 1) 0 _ _ _ (by omega) (by omega) rfl rfl rfl) ⟨rfl, rfl, rfl, rfl, rfl, rfl, trivial⟩
    · refine g_aload_n F a_M_officers_13 rfl ?_
      refine g_v0 F a_M_officers_14 vc_M_258 mk_M_ten ob_10 ck_10.1 rfl rfl (by decide) ⟨Nat.le_refl _, Nat.le_refl _⟩ rfl (Nat.le_of_ble_eq_true rfl) (sp_M_ten  (GCr.v ?_))
      refine g_iret F a_M_officers_17 rfl ⟨Nat.le_refl _, Nat.le_refl _⟩ ?_
      exact kb (by omega)
  · refine g_ifeq0 F a_M_officers_5 ?_
    refine g_aload_n F a_M_officers_13 rfl ?_
    refine g_v0 F a_M_officers_14 vc_M_258 mk_M_ten ob_10 ck_10.1 rfl rfl (by decide) ⟨Nat.le_refl _, Nat.le_refl _⟩ rfl (Nat.le_of_ble_eq_true rfl) (sp_M_ten  (GCr.v ?_))
    refine g_iret F a_M_officers_17 rfl ⟨Nat.le_refl _, Nat.le_refl _⟩ ?_
    exact kb (by omega)
set_option maxHeartbeats 1000000 in
theorem sp_M_seen {κ : Kx} {Q : Option Value → (Heap → Prop) → Prop} {m : Mem} {D : Int} (hS : okM D (m 10 0)) (hD : D ≤ 100000) {x y t : Int} (hx : R32 x) (hy : R32 y) (ht : R32 t) (hn : 0 ≤ (m 10 0).1 7 ∧ (m 10 0).1 7 ≤ 6) (kb : ¬ ((0 ≤ x ∧ x < (m 10 0).1 1) ∧ (0 ≤ y ∧ y ≤ 99) ∧ 0 ≤ t ∧ t ≤ 90) → Q (some (vi (-2))) (World κ (bmM m 0))) (kf : ((0 ≤ x ∧ x < (m 10 0).1 1) ∧ (0 ≤ y ∧ y ≤ 99) ∧ 0 ≤ t ∧ t ≤ 90) → (m 10 0).1 7 = 6 → Q (some (vi (-4))) (World κ (bmM m 2))) (k : ((0 ≤ x ∧ x < (m 10 0).1 1) ∧ (0 ≤ y ∧ y ≤ 99) ∧ 0 ≤ t ∧ t ≤ 90) → (m 10 0).1 7 < 6 → Q (some (vi ((m 10 0).1 7 + 1))) (World κ (mset m 10 0 (fup (m 10 0).1 7 ((m 10 0).1 7 + 1), aup (m 10 0).2 5 (gup (gup (gup ((m 10 0).2 5) (3 * (m 10 0).1 7) x) (3 * (m 10 0).1 7 + 1) y) (3 * (m 10 0).1 7 + 2) t))))) : GG κ G_M_seen 2 0 0 [.ref (ad κ 10 0), vi x, vi y, vi t] (World κ m) Q := by
  obtain ⟨s0, s1, s2, s3, s4, s5, hfg, hkd, hsh, hgl⟩ := id hS
  refine GG.intro (ls := [some _, some _, some _, some _]) (Nat.le_of_ble_eq_true rfl) rfl (fun μ F => ?_)
  refine g_aload_n F a_M_seen_0 rfl ?_
  refine g_iload_n F a_M_seen_1 rfl ?_
  refine g_v1 F a_M_seen_2 vc_M_236 mk_M_isMan ob_10 ck_10.1 rfl rfl (by decide) ⟨Nat.le_refl _, Nat.le_refl _⟩ rfl (Nat.le_of_ble_eq_true rfl) (sp_M_isMan hS hD (by omega) (fun c2 => GCr.v ?_) (fun c2 => GCr.v ?_))
  · refine g_ifeq1 F a_M_seen_5 ?_
    refine g_iload_n F a_M_seen_8 rfl ?_
    refine g_iconst F a_M_seen_9 ?_
    refine g_bipush F a_M_seen_10 (by decide) ?_
    refine g_s3 F a_M_seen_12 sc_M_91 mk_M_in rfl (by decide) ⟨Nat.le_refl _, Nat.le_refl _⟩ rfl (Nat.le_of_ble_eq_true rfl) (sp_M_in (by omega) (by omega) (by omega) (fun c12 => GCr.v ?_) (fun c12 => GCr.v ?_))
    · refine g_ifeq1 F a_M_seen_15 ?_
      refine g_iload_n F a_M_seen_18 rfl ?_
      refine g_iconst F a_M_seen_19 ?_
      refine g_bipush F a_M_seen_20 (by decide) ?_
      refine g_s3 F a_M_seen_22 sc_M_91 mk_M_in rfl (by decide) ⟨Nat.le_refl _, Nat.le_refl _⟩ rfl (Nat.le_of_ble_eq_true rfl) (sp_M_in (by omega) (by omega) (by omega) (fun c22 => GCr.v ?_) (fun c22 => GCr.v ?_))
      · refine g_ifne1 F a_M_seen_25 ?_
        refine g_aload_n F a_M_seen_33 rfl ?_
        refine g_get_10_7 F a_M_seen_34 fl_M_79 ?_
        refine g_bipush F a_M_seen_37 (by decide) ?_
        refine g_icmp_ne F (by omega) (by omega) a_M_seen_39 (fun h39 => ?_) (fun h39 => ?_)
        · refine g_aload_n F a_M_seen_47 rfl ?_
          refine g_get_10_14 F a_M_seen_48 fl_M_25 ?_
          refine g_iconst F a_M_seen_51 ?_
          refine g_aload_n F a_M_seen_52 rfl ?_
          refine g_get_10_7 F a_M_seen_53 fl_M_79 ?_
          refine g_imul F a_M_seen_56 ?_
          refine g_iload_n F a_M_seen_57 rfl ?_
          refine g_ist_10_5 F a_M_seen_58 (by omega) ?_
          (try simp only [mset_app, mset_mset, fup_app, aup_app, fup_fup, aup_aup, false_and, and_false, true_and, and_true, and_self, reduceIte, Nat.reduceEqDiff, reduceCtorEq, fup_10, fs_4_5, fs_4_6, fs_5_6])
          refine g_aload_n F a_M_seen_59 rfl ?_
          refine g_get_10_14 F a_M_seen_60 fl_M_25 ?_
          (try simp only [mset_app, mset_mset, fup_app, aup_app, fup_fup, aup_aup, false_and, and_false, true_and, and_true, and_self, reduceIte, Nat.reduceEqDiff, reduceCtorEq, fup_10, fs_4_5, fs_4_6, fs_5_6])
          refine g_iconst F a_M_seen_63 ?_
          refine g_aload_n F a_M_seen_64 rfl ?_
          refine g_get_10_7 F a_M_seen_65 fl_M_79 ?_
          (try simp only [mset_app, mset_mset, fup_app, aup_app, fup_fup, aup_aup, false_and, and_false, true_and, and_true, and_self, reduceIte, Nat.reduceEqDiff, reduceCtorEq, fup_10, fs_4_5, fs_4_6, fs_5_6])
          refine g_imul F a_M_seen_68 ?_
          refine g_iconst F a_M_seen_69 ?_
          refine g_iadd F a_M_seen_70 ?_
          refine g_iload_n F a_M_seen_71 rfl ?_
          refine g_ist_10_5 F a_M_seen_72 (by omega) ?_
          (try simp only [mset_app, mset_mset, fup_app, aup_app, fup_fup, aup_aup, false_and, and_false, true_and, and_true, and_self, reduceIte, Nat.reduceEqDiff, reduceCtorEq, fup_10, fs_4_5, fs_4_6, fs_5_6])
          refine g_aload_n F a_M_seen_73 rfl ?_
          refine g_get_10_14 F a_M_seen_74 fl_M_25 ?_
          (try simp only [mset_app, mset_mset, fup_app, aup_app, fup_fup, aup_aup, false_and, and_false, true_and, and_true, and_self, reduceIte, Nat.reduceEqDiff, reduceCtorEq, fup_10, fs_4_5, fs_4_6, fs_5_6])
          refine g_iconst F a_M_seen_77 ?_
          refine g_aload_n F a_M_seen_78 rfl ?_
          refine g_get_10_7 F a_M_seen_79 fl_M_79 ?_
          (try simp only [mset_app, mset_mset, fup_app, aup_app, fup_fup, aup_aup, false_and, and_false, true_and, and_true, and_self, reduceIte, Nat.reduceEqDiff, reduceCtorEq, fup_10, fs_4_5, fs_4_6, fs_5_6])
          refine g_imul F a_M_seen_82 ?_
          refine g_iconst F a_M_seen_83 ?_
          refine g_iadd F a_M_seen_84 ?_
          refine g_iload_n F a_M_seen_85 rfl ?_
          refine g_ist_10_5 F a_M_seen_86 (by omega) ?_
          (try simp only [mset_app, mset_mset, fup_app, aup_app, fup_fup, aup_aup, false_and, and_false, true_and, and_true, and_self, reduceIte, Nat.reduceEqDiff, reduceCtorEq, fup_10, fs_4_5, fs_4_6, fs_5_6])
          refine g_aload_n F a_M_seen_87 rfl ?_
          refine g_dup F a_M_seen_88 rfl ?_
          refine g_get_10_7 F a_M_seen_89 fl_M_79 ?_
          (try simp only [mset_app, mset_mset, fup_app, aup_app, fup_fup, aup_aup, false_and, and_false, true_and, and_true, and_self, reduceIte, Nat.reduceEqDiff, reduceCtorEq, fup_10, fs_4_5, fs_4_6, fs_5_6])
          refine g_iconst F a_M_seen_92 ?_
          refine g_iadd F a_M_seen_93 ?_
          refine g_put_10_7 F a_M_seen_94 fl_M_79 ?_
          (try simp only [mset_app, mset_mset, fup_app, aup_app, fup_fup, aup_aup, false_and, and_false, true_and, and_true, and_self, reduceIte, Nat.reduceEqDiff, reduceCtorEq, fup_10, fs_4_5, fs_4_6, fs_5_6])
          refine g_aload_n F a_M_seen_97 rfl ?_
          refine g_get_10_7 F a_M_seen_98 fl_M_79 ?_
          (try simp only [mset_app, mset_mset, fup_app, aup_app, fup_fup, aup_aup, false_and, and_false, true_and, and_true, and_self, reduceIte, Nat.reduceEqDiff, reduceCtorEq, fup_10, fs_4_5, fs_4_6, fs_5_6])
          refine g_iret F a_M_seen_101 rfl ⟨Nat.le_refl _, Nat.le_refl _⟩ ?_
          first | exact kb (by omega) | exact kf (by omega) (by omega) | exact k (by omega) (by omega)
        · refine g_aload_n F a_M_seen_42 rfl ?_
          refine g_v0 F a_M_seen_43 vc_M_99 mk_M_full ob_10 ck_10.1 rfl rfl (by decide) ⟨Nat.le_refl _, Nat.le_refl _⟩ rfl (Nat.le_of_ble_eq_true rfl) (sp_M_full  (GCr.v ?_))
          refine g_iret F a_M_seen_46 rfl ⟨Nat.le_refl _, Nat.le_refl _⟩ ?_
          first | exact kb (by omega) | exact kf (by omega) (by omega) | exact k (by omega) (by omega)
      · refine g_ifne0 F a_M_seen_25 ?_
        refine g_aload_n F a_M_seen_28 rfl ?_
        refine g_v0 F a_M_seen_29 vc_M_95 mk_M_bad ob_10 ck_10.1 rfl rfl (by decide) ⟨Nat.le_refl _, Nat.le_refl _⟩ rfl (Nat.le_of_ble_eq_true rfl) (sp_M_bad  (GCr.v ?_))
        refine g_iret F a_M_seen_32 rfl ⟨Nat.le_refl _, Nat.le_refl _⟩ ?_
        first | exact kb (by omega) | exact kf (by omega) (by omega) | exact k (by omega) (by omega)
    · refine g_ifeq0 F a_M_seen_15 ?_
      refine g_aload_n F a_M_seen_28 rfl ?_
      refine g_v0 F a_M_seen_29 vc_M_95 mk_M_bad ob_10 ck_10.1 rfl rfl (by decide) ⟨Nat.le_refl _, Nat.le_refl _⟩ rfl (Nat.le_of_ble_eq_true rfl) (sp_M_bad  (GCr.v ?_))
      refine g_iret F a_M_seen_32 rfl ⟨Nat.le_refl _, Nat.le_refl _⟩ ?_
      first | exact kb (by omega) | exact kf (by omega) (by omega) | exact k (by omega) (by omega)
  · refine g_ifeq0 F a_M_seen_5 ?_
    refine g_aload_n F a_M_seen_28 rfl ?_
    refine g_v0 F a_M_seen_29 vc_M_95 mk_M_bad ob_10 ck_10.1 rfl rfl (by decide) ⟨Nat.le_refl _, Nat.le_refl _⟩ rfl (Nat.le_of_ble_eq_true rfl) (sp_M_bad  (GCr.v ?_))
    refine g_iret F a_M_seen_32 rfl ⟨Nat.le_refl _, Nat.le_refl _⟩ ?_
    first | exact kb (by omega) | exact kf (by omega) (by omega) | exact k (by omega) (by omega)
set_option maxHeartbeats 1000000 in
theorem sp_M_note {κ : Kx} {Q : Option Value → (Heap → Prop) → Prop} {m : Mem} {D : Int} (hS : okM D (m 10 0)) (hD : D ≤ 100000) {x y t u : Int} (hx : R32 x) (hy : R32 y) (ht : R32 t) (hu : R32 u) (hn : 0 ≤ (m 10 0).1 8 ∧ (m 10 0).1 8 ≤ 6) (kb : ¬ ((0 ≤ x ∧ x < (m 10 0).1 1) ∧ (0 ≤ y ∧ y ≤ 90) ∧ (0 ≤ t ∧ t ≤ 99) ∧ 0 ≤ u ∧ u ≤ 90) → Q (some (vi (-2))) (World κ (bmM m 0))) (kf : ((0 ≤ x ∧ x < (m 10 0).1 1) ∧ (0 ≤ y ∧ y ≤ 90) ∧ (0 ≤ t ∧ t ≤ 99) ∧ 0 ≤ u ∧ u ≤ 90) → (m 10 0).1 8 = 6 → Q (some (vi (-4))) (World κ (bmM m 2))) (k : ((0 ≤ x ∧ x < (m 10 0).1 1) ∧ (0 ≤ y ∧ y ≤ 90) ∧ (0 ≤ t ∧ t ≤ 99) ∧ 0 ≤ u ∧ u ≤ 90) → (m 10 0).1 8 < 6 → Q (some (vi ((m 10 0).1 8 + 1))) (World κ (mset m 10 0 (fup (m 10 0).1 8 ((m 10 0).1 8 + 1), aup (m 10 0).2 6 (gup (gup (gup (gup ((m 10 0).2 6) (4 * (m 10 0).1 8) x) (4 * (m 10 0).1 8 + 1) y) (4 * (m 10 0).1 8 + 2) t) (4 * (m 10 0).1 8 + 3) u))))) : GG κ G_M_note 2 0 0 [.ref (ad κ 10 0), vi x, vi y, vi t, vi u] (World κ m) Q := by
  obtain ⟨s0, s1, s2, s3, s4, s5, hfg, hkd, hsh, hgl⟩ := id hS
  refine GG.intro (ls := [some _, some _, some _, some _, some _]) (Nat.le_of_ble_eq_true rfl) rfl (fun μ F => ?_)
  refine g_aload_n F a_M_note_0 rfl ?_
  refine g_iload_n F a_M_note_1 rfl ?_
  refine g_v1 F a_M_note_2 vc_M_236 mk_M_isMan ob_10 ck_10.1 rfl rfl (by decide) ⟨Nat.le_refl _, Nat.le_refl _⟩ rfl (Nat.le_of_ble_eq_true rfl) (sp_M_isMan hS hD (by omega) (fun c2 => GCr.v ?_) (fun c2 => GCr.v ?_))
  · refine g_ifeq1 F a_M_note_5 ?_
    refine g_iload_n F a_M_note_8 rfl ?_
    refine g_iconst F a_M_note_9 ?_
    refine g_bipush F a_M_note_10 (by decide) ?_
    refine g_s3 F a_M_note_12 sc_M_91 mk_M_in rfl (by decide) ⟨Nat.le_refl _, Nat.le_refl _⟩ rfl (Nat.le_of_ble_eq_true rfl) (sp_M_in (by omega) (by omega) (by omega) (fun c12 => GCr.v ?_) (fun c12 => GCr.v ?_))
    · refine g_ifeq1 F a_M_note_15 ?_
      refine g_iload_n F a_M_note_18 rfl ?_
      refine g_iconst F a_M_note_19 ?_
      refine g_bipush F a_M_note_20 (by decide) ?_
      refine g_s3 F a_M_note_22 sc_M_91 mk_M_in rfl (by decide) ⟨Nat.le_refl _, Nat.le_refl _⟩ rfl (Nat.le_of_ble_eq_true rfl) (sp_M_in (by omega) (by omega) (by omega) (fun c22 => GCr.v ?_) (fun c22 => GCr.v ?_))
      · refine g_ifeq1 F a_M_note_25 ?_
        refine g_iload F a_M_note_28 rfl ?_
        refine g_iconst F a_M_note_30 ?_
        refine g_bipush F a_M_note_31 (by decide) ?_
        refine g_s3 F a_M_note_33 sc_M_91 mk_M_in rfl (by decide) ⟨Nat.le_refl _, Nat.le_refl _⟩ rfl (Nat.le_of_ble_eq_true rfl) (sp_M_in (by omega) (by omega) (by omega) (fun c33 => GCr.v ?_) (fun c33 => GCr.v ?_))
        · refine g_ifne1 F a_M_note_36 ?_
          refine g_aload_n F a_M_note_44 rfl ?_
          refine g_get_10_8 F a_M_note_45 fl_M_82 ?_
          refine g_bipush F a_M_note_48 (by decide) ?_
          refine g_icmp_ne F (by omega) (by omega) a_M_note_50 (fun h50 => ?_) (fun h50 => ?_)
          · refine g_aload_n F a_M_note_58 rfl ?_
            refine g_get_10_15 F a_M_note_59 fl_M_28 ?_
            refine g_iconst F a_M_note_62 ?_
            refine g_aload_n F a_M_note_63 rfl ?_
            refine g_get_10_8 F a_M_note_64 fl_M_82 ?_
            refine g_imul F a_M_note_67 ?_
            refine g_iload_n F a_M_note_68 rfl ?_
            refine g_ist_10_6 F a_M_note_69 (by omega) ?_
            (try simp only [mset_app, mset_mset, fup_app, aup_app, fup_fup, aup_aup, false_and, and_false, true_and, and_true, and_self, reduceIte, Nat.reduceEqDiff, reduceCtorEq, fup_10, fs_4_5, fs_4_6, fs_5_6])
            refine g_aload_n F a_M_note_70 rfl ?_
            refine g_get_10_15 F a_M_note_71 fl_M_28 ?_
            (try simp only [mset_app, mset_mset, fup_app, aup_app, fup_fup, aup_aup, false_and, and_false, true_and, and_true, and_self, reduceIte, Nat.reduceEqDiff, reduceCtorEq, fup_10, fs_4_5, fs_4_6, fs_5_6])
            refine g_iconst F a_M_note_74 ?_
            refine g_aload_n F a_M_note_75 rfl ?_
            refine g_get_10_8 F a_M_note_76 fl_M_82 ?_
            (try simp only [mset_app, mset_mset, fup_app, aup_app, fup_fup, aup_aup, false_and, and_false, true_and, and_true, and_self, reduceIte, Nat.reduceEqDiff, reduceCtorEq, fup_10, fs_4_5, fs_4_6, fs_5_6])
            refine g_imul F a_M_note_79 ?_
            refine g_iconst F a_M_note_80 ?_
            refine g_iadd F a_M_note_81 ?_
            refine g_iload_n F a_M_note_82 rfl ?_
            refine g_ist_10_6 F a_M_note_83 (by omega) ?_
            (try simp only [mset_app, mset_mset, fup_app, aup_app, fup_fup, aup_aup, false_and, and_false, true_and, and_true, and_self, reduceIte, Nat.reduceEqDiff, reduceCtorEq, fup_10, fs_4_5, fs_4_6, fs_5_6])
            refine g_aload_n F a_M_note_84 rfl ?_
            refine g_get_10_15 F a_M_note_85 fl_M_28 ?_
            (try simp only [mset_app, mset_mset, fup_app, aup_app, fup_fup, aup_aup, false_and, and_false, true_and, and_true, and_self, reduceIte, Nat.reduceEqDiff, reduceCtorEq, fup_10, fs_4_5, fs_4_6, fs_5_6])
            refine g_iconst F a_M_note_88 ?_
            refine g_aload_n F a_M_note_89 rfl ?_
            refine g_get_10_8 F a_M_note_90 fl_M_82 ?_
            (try simp only [mset_app, mset_mset, fup_app, aup_app, fup_fup, aup_aup, false_and, and_false, true_and, and_true, and_self, reduceIte, Nat.reduceEqDiff, reduceCtorEq, fup_10, fs_4_5, fs_4_6, fs_5_6])
            refine g_imul F a_M_note_93 ?_
            refine g_iconst F a_M_note_94 ?_
            refine g_iadd F a_M_note_95 ?_
            refine g_iload_n F a_M_note_96 rfl ?_
            refine g_ist_10_6 F a_M_note_97 (by omega) ?_
            (try simp only [mset_app, mset_mset, fup_app, aup_app, fup_fup, aup_aup, false_and, and_false, true_and, and_true, and_self, reduceIte, Nat.reduceEqDiff, reduceCtorEq, fup_10, fs_4_5, fs_4_6, fs_5_6])
            refine g_aload_n F a_M_note_98 rfl ?_
            refine g_get_10_15 F a_M_note_99 fl_M_28 ?_
            (try simp only [mset_app, mset_mset, fup_app, aup_app, fup_fup, aup_aup, false_and, and_false, true_and, and_true, and_self, reduceIte, Nat.reduceEqDiff, reduceCtorEq, fup_10, fs_4_5, fs_4_6, fs_5_6])
            refine g_iconst F a_M_note_102 ?_
            refine g_aload_n F a_M_note_103 rfl ?_
            refine g_get_10_8 F a_M_note_104 fl_M_82 ?_
            (try simp only [mset_app, mset_mset, fup_app, aup_app, fup_fup, aup_aup, false_and, and_false, true_and, and_true, and_self, reduceIte, Nat.reduceEqDiff, reduceCtorEq, fup_10, fs_4_5, fs_4_6, fs_5_6])
            refine g_imul F a_M_note_107 ?_
            refine g_iconst F a_M_note_108 ?_
            refine g_iadd F a_M_note_109 ?_
            refine g_iload F a_M_note_110 rfl ?_
            refine g_ist_10_6 F a_M_note_112 (by omega) ?_
            (try simp only [mset_app, mset_mset, fup_app, aup_app, fup_fup, aup_aup, false_and, and_false, true_and, and_true, and_self, reduceIte, Nat.reduceEqDiff, reduceCtorEq, fup_10, fs_4_5, fs_4_6, fs_5_6])
            refine g_aload_n F a_M_note_113 rfl ?_
            refine g_dup F a_M_note_114 rfl ?_
            refine g_get_10_8 F a_M_note_115 fl_M_82 ?_
            (try simp only [mset_app, mset_mset, fup_app, aup_app, fup_fup, aup_aup, false_and, and_false, true_and, and_true, and_self, reduceIte, Nat.reduceEqDiff, reduceCtorEq, fup_10, fs_4_5, fs_4_6, fs_5_6])
            refine g_iconst F a_M_note_118 ?_
            refine g_iadd F a_M_note_119 ?_
            refine g_put_10_8 F a_M_note_120 fl_M_82 ?_
            (try simp only [mset_app, mset_mset, fup_app, aup_app, fup_fup, aup_aup, false_and, and_false, true_and, and_true, and_self, reduceIte, Nat.reduceEqDiff, reduceCtorEq, fup_10, fs_4_5, fs_4_6, fs_5_6])
            refine g_aload_n F a_M_note_123 rfl ?_
            refine g_get_10_8 F a_M_note_124 fl_M_82 ?_
            (try simp only [mset_app, mset_mset, fup_app, aup_app, fup_fup, aup_aup, false_and, and_false, true_and, and_true, and_self, reduceIte, Nat.reduceEqDiff, reduceCtorEq, fup_10, fs_4_5, fs_4_6, fs_5_6])
            refine g_iret F a_M_note_127 rfl ⟨Nat.le_refl _, Nat.le_refl _⟩ ?_
            first | exact kb (by omega) | exact kf (by omega) (by omega) | exact k (by omega) (by omega)
          · refine g_aload_n F a_M_note_53 rfl ?_
            refine g_v0 F a_M_note_54 vc_M_99 mk_M_full ob_10 ck_10.1 rfl rfl (by decide) ⟨Nat.le_refl _, Nat.le_refl _⟩ rfl (Nat.le_of_ble_eq_true rfl) (sp_M_full  (GCr.v ?_))
            refine g_iret F a_M_note_57 rfl ⟨Nat.le_refl _, Nat.le_refl _⟩ ?_
            first | exact kb (by omega) | exact kf (by omega) (by omega) | exact k (by omega) (by omega)
        · refine g_ifne0 F a_M_note_36 ?_
          refine g_aload_n F a_M_note_39 rfl ?_
          refine g_v0 F a_M_note_40 vc_M_95 mk_M_bad ob_10 ck_10.1 rfl rfl (by decide) ⟨Nat.le_refl _, Nat.le_refl _⟩ rfl (Nat.le_of_ble_eq_true rfl) (sp_M_bad  (GCr.v ?_))
          refine g_iret F a_M_note_43 rfl ⟨Nat.le_refl _, Nat.le_refl _⟩ ?_
          first | exact kb (by omega) | exact kf (by omega) (by omega) | exact k (by omega) (by omega)
      · refine g_ifeq0 F a_M_note_25 ?_
        refine g_aload_n F a_M_note_39 rfl ?_
        refine g_v0 F a_M_note_40 vc_M_95 mk_M_bad ob_10 ck_10.1 rfl rfl (by decide) ⟨Nat.le_refl _, Nat.le_refl _⟩ rfl (Nat.le_of_ble_eq_true rfl) (sp_M_bad  (GCr.v ?_))
        refine g_iret F a_M_note_43 rfl ⟨Nat.le_refl _, Nat.le_refl _⟩ ?_
        first | exact kb (by omega) | exact kf (by omega) (by omega) | exact k (by omega) (by omega)
    · refine g_ifeq0 F a_M_note_15 ?_
      refine g_aload_n F a_M_note_39 rfl ?_
      refine g_v0 F a_M_note_40 vc_M_95 mk_M_bad ob_10 ck_10.1 rfl rfl (by decide) ⟨Nat.le_refl _, Nat.le_refl _⟩ rfl (Nat.le_of_ble_eq_true rfl) (sp_M_bad  (GCr.v ?_))
      refine g_iret F a_M_note_43 rfl ⟨Nat.le_refl _, Nat.le_refl _⟩ ?_
      first | exact kb (by omega) | exact kf (by omega) (by omega) | exact k (by omega) (by omega)
  · refine g_ifeq0 F a_M_note_5 ?_
    refine g_aload_n F a_M_note_39 rfl ?_
    refine g_v0 F a_M_note_40 vc_M_95 mk_M_bad ob_10 ck_10.1 rfl rfl (by decide) ⟨Nat.le_refl _, Nat.le_refl _⟩ rfl (Nat.le_of_ble_eq_true rfl) (sp_M_bad  (GCr.v ?_))
    refine g_iret F a_M_note_43 rfl ⟨Nat.le_refl _, Nat.le_refl _⟩ ?_
    first | exact kb (by omega) | exact kf (by omega) (by omega) | exact k (by omega) (by omega)
set_option maxHeartbeats 1000000 in
theorem sp_M_mark {κ : Kx} {Q : Option Value → (Heap → Prop) → Prop} {m : Mem} {D : Int} (hS : okM D (m 10 0)) (hD : D ≤ 100000) {x y t u : Int} (hx : R32 x) (hy : R32 y) (ht : R32 t) (hu : R32 u) (hn : 0 ≤ (m 10 0).1 9 ∧ (m 10 0).1 9 ≤ 6) (kb : ¬ ((0 ≤ x ∧ x < (m 10 0).1 2) ∧ (0 ≤ y ∧ y ≤ 90) ∧ (0 ≤ t ∧ t ≤ 99) ∧ 0 ≤ u ∧ u ≤ 99) → Q (some (vi (-2))) (World κ (bmM m 0))) (kf : ((0 ≤ x ∧ x < (m 10 0).1 2) ∧ (0 ≤ y ∧ y ≤ 90) ∧ (0 ≤ t ∧ t ≤ 99) ∧ 0 ≤ u ∧ u ≤ 99) → (m 10 0).1 9 = 6 → Q (some (vi (-4))) (World κ (bmM m 2))) (k : ((0 ≤ x ∧ x < (m 10 0).1 2) ∧ (0 ≤ y ∧ y ≤ 90) ∧ (0 ≤ t ∧ t ≤ 99) ∧ 0 ≤ u ∧ u ≤ 99) → (m 10 0).1 9 < 6 → Q (some (vi ((m 10 0).1 9 + 1))) (World κ (mset m 10 0 (fup (m 10 0).1 9 ((m 10 0).1 9 + 1), aup (m 10 0).2 7 (gup (gup (gup (gup ((m 10 0).2 7) (4 * (m 10 0).1 9) x) (4 * (m 10 0).1 9 + 1) y) (4 * (m 10 0).1 9 + 2) t) (4 * (m 10 0).1 9 + 3) u))))) : GG κ G_M_mark 2 0 0 [.ref (ad κ 10 0), vi x, vi y, vi t, vi u] (World κ m) Q := by
  obtain ⟨s0, s1, s2, s3, s4, s5, hfg, hkd, hsh, hgl⟩ := id hS
  refine GG.intro (ls := [some _, some _, some _, some _, some _]) (Nat.le_of_ble_eq_true rfl) rfl (fun μ F => ?_)
  refine g_aload_n F a_M_mark_0 rfl ?_
  refine g_iload_n F a_M_mark_1 rfl ?_
  refine g_v1 F a_M_mark_2 vc_M_227 mk_M_isReader ob_10 ck_10.1 rfl rfl (by decide) ⟨Nat.le_refl _, Nat.le_refl _⟩ rfl (Nat.le_of_ble_eq_true rfl) (sp_M_isReader hS hD (by omega) (fun c2 => GCr.v ?_) (fun c2 => GCr.v ?_))
  · refine g_ifeq1 F a_M_mark_5 ?_
    refine g_iload_n F a_M_mark_8 rfl ?_
    refine g_iconst F a_M_mark_9 ?_
    refine g_bipush F a_M_mark_10 (by decide) ?_
    refine g_s3 F a_M_mark_12 sc_M_91 mk_M_in rfl (by decide) ⟨Nat.le_refl _, Nat.le_refl _⟩ rfl (Nat.le_of_ble_eq_true rfl) (sp_M_in (by omega) (by omega) (by omega) (fun c12 => GCr.v ?_) (fun c12 => GCr.v ?_))
    · refine g_ifeq1 F a_M_mark_15 ?_
      refine g_iload_n F a_M_mark_18 rfl ?_
      refine g_iconst F a_M_mark_19 ?_
      refine g_bipush F a_M_mark_20 (by decide) ?_
      refine g_s3 F a_M_mark_22 sc_M_91 mk_M_in rfl (by decide) ⟨Nat.le_refl _, Nat.le_refl _⟩ rfl (Nat.le_of_ble_eq_true rfl) (sp_M_in (by omega) (by omega) (by omega) (fun c22 => GCr.v ?_) (fun c22 => GCr.v ?_))
      · refine g_ifeq1 F a_M_mark_25 ?_
        refine g_iload F a_M_mark_28 rfl ?_
        refine g_iconst F a_M_mark_30 ?_
        refine g_bipush F a_M_mark_31 (by decide) ?_
        refine g_s3 F a_M_mark_33 sc_M_91 mk_M_in rfl (by decide) ⟨Nat.le_refl _, Nat.le_refl _⟩ rfl (Nat.le_of_ble_eq_true rfl) (sp_M_in (by omega) (by omega) (by omega) (fun c33 => GCr.v ?_) (fun c33 => GCr.v ?_))
        · refine g_ifne1 F a_M_mark_36 ?_
          refine g_aload_n F a_M_mark_44 rfl ?_
          refine g_get_10_9 F a_M_mark_45 fl_M_85 ?_
          refine g_bipush F a_M_mark_48 (by decide) ?_
          refine g_icmp_ne F (by omega) (by omega) a_M_mark_50 (fun h50 => ?_) (fun h50 => ?_)
          · refine g_aload_n F a_M_mark_58 rfl ?_
            refine g_get_10_16 F a_M_mark_59 fl_M_31 ?_
            refine g_iconst F a_M_mark_62 ?_
            refine g_aload_n F a_M_mark_63 rfl ?_
            refine g_get_10_9 F a_M_mark_64 fl_M_85 ?_
            refine g_imul F a_M_mark_67 ?_
            refine g_iload_n F a_M_mark_68 rfl ?_
            refine g_ist_10_7 F a_M_mark_69 (by omega) ?_
            (try simp only [mset_app, mset_mset, fup_app, aup_app, fup_fup, aup_aup, false_and, and_false, true_and, and_true, and_self, reduceIte, Nat.reduceEqDiff, reduceCtorEq, fup_10, fs_4_5, fs_4_6, fs_5_6])
            refine g_aload_n F a_M_mark_70 rfl ?_
            refine g_get_10_16 F a_M_mark_71 fl_M_31 ?_
            (try simp only [mset_app, mset_mset, fup_app, aup_app, fup_fup, aup_aup, false_and, and_false, true_and, and_true, and_self, reduceIte, Nat.reduceEqDiff, reduceCtorEq, fup_10, fs_4_5, fs_4_6, fs_5_6])
            refine g_iconst F a_M_mark_74 ?_
            refine g_aload_n F a_M_mark_75 rfl ?_
            refine g_get_10_9 F a_M_mark_76 fl_M_85 ?_
            (try simp only [mset_app, mset_mset, fup_app, aup_app, fup_fup, aup_aup, false_and, and_false, true_and, and_true, and_self, reduceIte, Nat.reduceEqDiff, reduceCtorEq, fup_10, fs_4_5, fs_4_6, fs_5_6])
            refine g_imul F a_M_mark_79 ?_
            refine g_iconst F a_M_mark_80 ?_
            refine g_iadd F a_M_mark_81 ?_
            refine g_iload_n F a_M_mark_82 rfl ?_
            refine g_ist_10_7 F a_M_mark_83 (by omega) ?_
            (try simp only [mset_app, mset_mset, fup_app, aup_app, fup_fup, aup_aup, false_and, and_false, true_and, and_true, and_self, reduceIte, Nat.reduceEqDiff, reduceCtorEq, fup_10, fs_4_5, fs_4_6, fs_5_6])
            refine g_aload_n F a_M_mark_84 rfl ?_
            refine g_get_10_16 F a_M_mark_85 fl_M_31 ?_
            (try simp only [mset_app, mset_mset, fup_app, aup_app, fup_fup, aup_aup, false_and, and_false, true_and, and_true, and_self, reduceIte, Nat.reduceEqDiff, reduceCtorEq, fup_10, fs_4_5, fs_4_6, fs_5_6])
            refine g_iconst F a_M_mark_88 ?_
            refine g_aload_n F a_M_mark_89 rfl ?_
            refine g_get_10_9 F a_M_mark_90 fl_M_85 ?_
            (try simp only [mset_app, mset_mset, fup_app, aup_app, fup_fup, aup_aup, false_and, and_false, true_and, and_true, and_self, reduceIte, Nat.reduceEqDiff, reduceCtorEq, fup_10, fs_4_5, fs_4_6, fs_5_6])
            refine g_imul F a_M_mark_93 ?_
            refine g_iconst F a_M_mark_94 ?_
            refine g_iadd F a_M_mark_95 ?_
            refine g_iload_n F a_M_mark_96 rfl ?_
            refine g_ist_10_7 F a_M_mark_97 (by omega) ?_
            (try simp only [mset_app, mset_mset, fup_app, aup_app, fup_fup, aup_aup, false_and, and_false, true_and, and_true, and_self, reduceIte, Nat.reduceEqDiff, reduceCtorEq, fup_10, fs_4_5, fs_4_6, fs_5_6])
            refine g_aload_n F a_M_mark_98 rfl ?_
            refine g_get_10_16 F a_M_mark_99 fl_M_31 ?_
            (try simp only [mset_app, mset_mset, fup_app, aup_app, fup_fup, aup_aup, false_and, and_false, true_and, and_true, and_self, reduceIte, Nat.reduceEqDiff, reduceCtorEq, fup_10, fs_4_5, fs_4_6, fs_5_6])
            refine g_iconst F a_M_mark_102 ?_
            refine g_aload_n F a_M_mark_103 rfl ?_
            refine g_get_10_9 F a_M_mark_104 fl_M_85 ?_
            (try simp only [mset_app, mset_mset, fup_app, aup_app, fup_fup, aup_aup, false_and, and_false, true_and, and_true, and_self, reduceIte, Nat.reduceEqDiff, reduceCtorEq, fup_10, fs_4_5, fs_4_6, fs_5_6])
            refine g_imul F a_M_mark_107 ?_
            refine g_iconst F a_M_mark_108 ?_
            refine g_iadd F a_M_mark_109 ?_
            refine g_iload F a_M_mark_110 rfl ?_
            refine g_ist_10_7 F a_M_mark_112 (by omega) ?_
            (try simp only [mset_app, mset_mset, fup_app, aup_app, fup_fup, aup_aup, false_and, and_false, true_and, and_true, and_self, reduceIte, Nat.reduceEqDiff, reduceCtorEq, fup_10, fs_4_5, fs_4_6, fs_5_6])
            refine g_aload_n F a_M_mark_113 rfl ?_
            refine g_dup F a_M_mark_114 rfl ?_
            refine g_get_10_9 F a_M_mark_115 fl_M_85 ?_
            (try simp only [mset_app, mset_mset, fup_app, aup_app, fup_fup, aup_aup, false_and, and_false, true_and, and_true, and_self, reduceIte, Nat.reduceEqDiff, reduceCtorEq, fup_10, fs_4_5, fs_4_6, fs_5_6])
            refine g_iconst F a_M_mark_118 ?_
            refine g_iadd F a_M_mark_119 ?_
            refine g_put_10_9 F a_M_mark_120 fl_M_85 ?_
            (try simp only [mset_app, mset_mset, fup_app, aup_app, fup_fup, aup_aup, false_and, and_false, true_and, and_true, and_self, reduceIte, Nat.reduceEqDiff, reduceCtorEq, fup_10, fs_4_5, fs_4_6, fs_5_6])
            refine g_aload_n F a_M_mark_123 rfl ?_
            refine g_get_10_9 F a_M_mark_124 fl_M_85 ?_
            (try simp only [mset_app, mset_mset, fup_app, aup_app, fup_fup, aup_aup, false_and, and_false, true_and, and_true, and_self, reduceIte, Nat.reduceEqDiff, reduceCtorEq, fup_10, fs_4_5, fs_4_6, fs_5_6])
            refine g_iret F a_M_mark_127 rfl ⟨Nat.le_refl _, Nat.le_refl _⟩ ?_
            first | exact kb (by omega) | exact kf (by omega) (by omega) | exact k (by omega) (by omega)
          · refine g_aload_n F a_M_mark_53 rfl ?_
            refine g_v0 F a_M_mark_54 vc_M_99 mk_M_full ob_10 ck_10.1 rfl rfl (by decide) ⟨Nat.le_refl _, Nat.le_refl _⟩ rfl (Nat.le_of_ble_eq_true rfl) (sp_M_full  (GCr.v ?_))
            refine g_iret F a_M_mark_57 rfl ⟨Nat.le_refl _, Nat.le_refl _⟩ ?_
            first | exact kb (by omega) | exact kf (by omega) (by omega) | exact k (by omega) (by omega)
        · refine g_ifne0 F a_M_mark_36 ?_
          refine g_aload_n F a_M_mark_39 rfl ?_
          refine g_v0 F a_M_mark_40 vc_M_95 mk_M_bad ob_10 ck_10.1 rfl rfl (by decide) ⟨Nat.le_refl _, Nat.le_refl _⟩ rfl (Nat.le_of_ble_eq_true rfl) (sp_M_bad  (GCr.v ?_))
          refine g_iret F a_M_mark_43 rfl ⟨Nat.le_refl _, Nat.le_refl _⟩ ?_
          first | exact kb (by omega) | exact kf (by omega) (by omega) | exact k (by omega) (by omega)
      · refine g_ifeq0 F a_M_mark_25 ?_
        refine g_aload_n F a_M_mark_39 rfl ?_
        refine g_v0 F a_M_mark_40 vc_M_95 mk_M_bad ob_10 ck_10.1 rfl rfl (by decide) ⟨Nat.le_refl _, Nat.le_refl _⟩ rfl (Nat.le_of_ble_eq_true rfl) (sp_M_bad  (GCr.v ?_))
        refine g_iret F a_M_mark_43 rfl ⟨Nat.le_refl _, Nat.le_refl _⟩ ?_
        first | exact kb (by omega) | exact kf (by omega) (by omega) | exact k (by omega) (by omega)
    · refine g_ifeq0 F a_M_mark_15 ?_
      refine g_aload_n F a_M_mark_39 rfl ?_
      refine g_v0 F a_M_mark_40 vc_M_95 mk_M_bad ob_10 ck_10.1 rfl rfl (by decide) ⟨Nat.le_refl _, Nat.le_refl _⟩ rfl (Nat.le_of_ble_eq_true rfl) (sp_M_bad  (GCr.v ?_))
      refine g_iret F a_M_mark_43 rfl ⟨Nat.le_refl _, Nat.le_refl _⟩ ?_
      first | exact kb (by omega) | exact kf (by omega) (by omega) | exact k (by omega) (by omega)
  · refine g_ifeq0 F a_M_mark_5 ?_
    refine g_aload_n F a_M_mark_39 rfl ?_
    refine g_v0 F a_M_mark_40 vc_M_95 mk_M_bad ob_10 ck_10.1 rfl rfl (by decide) ⟨Nat.le_refl _, Nat.le_refl _⟩ rfl (Nat.le_of_ble_eq_true rfl) (sp_M_bad  (GCr.v ?_))
    refine g_iret F a_M_mark_43 rfl ⟨Nat.le_refl _, Nat.le_refl _⟩ ?_
    first | exact kb (by omega) | exact kf (by omega) (by omega) | exact k (by omega) (by omega)
set_option maxHeartbeats 1000000 in
theorem sp_M_forget {κ : Kx} {Q : Option Value → (Heap → Prop) → Prop} {m : Mem} {x : Int} (hx : R32 x) (kb : ¬ (0 ≤ x ∧ x ≤ 2) → Q (some (vi (-2))) (World κ (bmM m 0))) (k0 : x = 0 → Q (some (vi ((m 10 0).1 7))) (World κ (mset m 10 0 (fup (m 10 0).1 7 0, (m 10 0).2)))) (k1 : x = 1 → Q (some (vi ((m 10 0).1 8))) (World κ (mset m 10 0 (fup (m 10 0).1 8 0, (m 10 0).2)))) (k2 : x = 2 → Q (some (vi ((m 10 0).1 9))) (World κ (mset m 10 0 (fup (m 10 0).1 9 0, (m 10 0).2))))  : GG κ G_M_forget 1 0 0 [.ref (ad κ 10 0), vi x] (World κ m) Q := by
  refine GG.intro (ls := [some _, some _, none]) (Nat.le_of_ble_eq_true rfl) rfl (fun μ F => ?_)
  refine g_iload_n F a_M_forget_0 rfl ?_
  refine g_iconst F a_M_forget_1 ?_
  refine g_iconst F a_M_forget_2 ?_
  refine g_s3 F a_M_forget_3 sc_M_91 mk_M_in rfl (by decide) ⟨Nat.le_refl _, Nat.le_refl _⟩ rfl (Nat.le_of_ble_eq_true rfl) (sp_M_in (by omega) (by omega) (by omega) (fun c3 => GCr.v ?_) (fun c3 => GCr.v ?_))
  · refine g_ifne1 F a_M_forget_6 ?_
    refine g_iload_n F a_M_forget_14 rfl ?_
    refine g_if_ne F (by omega) a_M_forget_15 (fun h15 => ?_) (fun h15 => ?_)
    · refine g_iload_n F a_M_forget_25 rfl ?_
      refine g_iconst F a_M_forget_26 ?_
      refine g_icmp_ne F (by omega) (by omega) a_M_forget_27 (fun h27 => ?_) (fun h27 => ?_)
      · refine g_aload_n F a_M_forget_37 rfl ?_
        refine g_get_10_9 F a_M_forget_38 fl_M_85 ?_
        refine g_istore_n (ls' := [_, _, _]) F a_M_forget_41 rfl rfl rfl ?_
        refine g_aload_n F a_M_forget_42 rfl ?_
        refine g_iload_n F a_M_forget_43 rfl ?_
        refine g_if_ne F (by omega) a_M_forget_44 (fun h44 => ?_) (fun h44 => ?_)
        · refine g_aload_n F a_M_forget_51 rfl ?_
          refine g_get_10_7 F a_M_forget_52 fl_M_79 ?_
          refine g_put_10_7 F a_M_forget_55 fl_M_79 ?_
          (try simp only [mset_app, mset_mset, fup_app, aup_app, fup_fup, aup_aup, false_and, and_false, true_and, and_true, and_self, reduceIte, Nat.reduceEqDiff, reduceCtorEq, fup_10, fs_4_5, fs_4_6, fs_5_6, fup_self])
          refine g_aload_n F a_M_forget_58 rfl ?_
          refine g_iload_n F a_M_forget_59 rfl ?_
          refine g_iconst F a_M_forget_60 ?_
          refine g_icmp_ne F (by omega) (by omega) a_M_forget_61 (fun h61 => ?_) (fun h61 => ?_)
          · refine g_aload_n F a_M_forget_68 rfl ?_
            refine g_get_10_8 F a_M_forget_69 fl_M_82 ?_
            (try simp only [mset_app, mset_mset, fup_app, aup_app, fup_fup, aup_aup, false_and, and_false, true_and, and_true, and_self, reduceIte, Nat.reduceEqDiff, reduceCtorEq, fup_10, fs_4_5, fs_4_6, fs_5_6, fup_self])
            refine g_put_10_8 F a_M_forget_72 fl_M_82 ?_
            (try simp only [mset_app, mset_mset, fup_app, aup_app, fup_fup, aup_aup, false_and, and_false, true_and, and_true, and_self, reduceIte, Nat.reduceEqDiff, reduceCtorEq, fup_10, fs_4_5, fs_4_6, fs_5_6, fup_self])
            refine g_aload_n F a_M_forget_75 rfl ?_
            refine g_iload_n F a_M_forget_76 rfl ?_
            refine g_iconst F a_M_forget_77 ?_
            refine g_icmp_ne F (by omega) (by omega) a_M_forget_78 (fun h78 => ?_) (fun h78 => ?_)
            · refine g_aload_n F a_M_forget_85 rfl ?_
              refine g_get_10_9 F a_M_forget_86 fl_M_85 ?_
              (try simp only [mset_app, mset_mset, fup_app, aup_app, fup_fup, aup_aup, false_and, and_false, true_and, and_true, and_self, reduceIte, Nat.reduceEqDiff, reduceCtorEq, fup_10, fs_4_5, fs_4_6, fs_5_6, fup_self])
              refine g_put_10_9 F a_M_forget_89 fl_M_85 ?_
              (try simp only [mset_app, mset_mset, fup_app, aup_app, fup_fup, aup_aup, false_and, and_false, true_and, and_true, and_self, reduceIte, Nat.reduceEqDiff, reduceCtorEq, fup_10, fs_4_5, fs_4_6, fs_5_6, fup_self])
              refine g_iload_n F a_M_forget_92 rfl ?_
              refine g_iret F a_M_forget_93 rfl ⟨Nat.le_refl _, Nat.le_refl _⟩ ?_
              first | (exfalso; omega) | exact kb (by omega) | exact k0 (by omega) | exact k1 (by omega) | exact k2 (by omega)
            · refine g_iconst F a_M_forget_81 ?_
              refine g_goto F a_M_forget_82 ?_
              refine g_put_10_9 F a_M_forget_89 fl_M_85 ?_
              (try simp only [mset_app, mset_mset, fup_app, aup_app, fup_fup, aup_aup, false_and, and_false, true_and, and_true, and_self, reduceIte, Nat.reduceEqDiff, reduceCtorEq, fup_10, fs_4_5, fs_4_6, fs_5_6, fup_self])
              refine g_iload_n F a_M_forget_92 rfl ?_
              refine g_iret F a_M_forget_93 rfl ⟨Nat.le_refl _, Nat.le_refl _⟩ ?_
              first | (exfalso; omega) | exact kb (by omega) | exact k0 (by omega) | exact k1 (by omega) | exact k2 (by omega)
          · refine g_iconst F a_M_forget_64 ?_
            refine g_goto F a_M_forget_65 ?_
            refine g_put_10_8 F a_M_forget_72 fl_M_82 ?_
            (try simp only [mset_app, mset_mset, fup_app, aup_app, fup_fup, aup_aup, false_and, and_false, true_and, and_true, and_self, reduceIte, Nat.reduceEqDiff, reduceCtorEq, fup_10, fs_4_5, fs_4_6, fs_5_6, fup_self])
            refine g_aload_n F a_M_forget_75 rfl ?_
            refine g_iload_n F a_M_forget_76 rfl ?_
            refine g_iconst F a_M_forget_77 ?_
            refine g_icmp_ne F (by omega) (by omega) a_M_forget_78 (fun h78 => ?_) (fun h78 => ?_)
            · refine g_aload_n F a_M_forget_85 rfl ?_
              refine g_get_10_9 F a_M_forget_86 fl_M_85 ?_
              (try simp only [mset_app, mset_mset, fup_app, aup_app, fup_fup, aup_aup, false_and, and_false, true_and, and_true, and_self, reduceIte, Nat.reduceEqDiff, reduceCtorEq, fup_10, fs_4_5, fs_4_6, fs_5_6, fup_self])
              refine g_put_10_9 F a_M_forget_89 fl_M_85 ?_
              (try simp only [mset_app, mset_mset, fup_app, aup_app, fup_fup, aup_aup, false_and, and_false, true_and, and_true, and_self, reduceIte, Nat.reduceEqDiff, reduceCtorEq, fup_10, fs_4_5, fs_4_6, fs_5_6, fup_self])
              refine g_iload_n F a_M_forget_92 rfl ?_
              refine g_iret F a_M_forget_93 rfl ⟨Nat.le_refl _, Nat.le_refl _⟩ ?_
              first | (exfalso; omega) | exact kb (by omega) | exact k0 (by omega) | exact k1 (by omega) | exact k2 (by omega)
            · refine g_iconst F a_M_forget_81 ?_
              refine g_goto F a_M_forget_82 ?_
              refine g_put_10_9 F a_M_forget_89 fl_M_85 ?_
              (try simp only [mset_app, mset_mset, fup_app, aup_app, fup_fup, aup_aup, false_and, and_false, true_and, and_true, and_self, reduceIte, Nat.reduceEqDiff, reduceCtorEq, fup_10, fs_4_5, fs_4_6, fs_5_6, fup_self])
              refine g_iload_n F a_M_forget_92 rfl ?_
              refine g_iret F a_M_forget_93 rfl ⟨Nat.le_refl _, Nat.le_refl _⟩ ?_
              first | (exfalso; omega) | exact kb (by omega) | exact k0 (by omega) | exact k1 (by omega) | exact k2 (by omega)
        · refine g_iconst F a_M_forget_47 ?_
          refine g_goto F a_M_forget_48 ?_
          refine g_put_10_7 F a_M_forget_55 fl_M_79 ?_
          (try simp only [mset_app, mset_mset, fup_app, aup_app, fup_fup, aup_aup, false_and, and_false, true_and, and_true, and_self, reduceIte, Nat.reduceEqDiff, reduceCtorEq, fup_10, fs_4_5, fs_4_6, fs_5_6, fup_self])
          refine g_aload_n F a_M_forget_58 rfl ?_
          refine g_iload_n F a_M_forget_59 rfl ?_
          refine g_iconst F a_M_forget_60 ?_
          refine g_icmp_ne F (by omega) (by omega) a_M_forget_61 (fun h61 => ?_) (fun h61 => ?_)
          · refine g_aload_n F a_M_forget_68 rfl ?_
            refine g_get_10_8 F a_M_forget_69 fl_M_82 ?_
            (try simp only [mset_app, mset_mset, fup_app, aup_app, fup_fup, aup_aup, false_and, and_false, true_and, and_true, and_self, reduceIte, Nat.reduceEqDiff, reduceCtorEq, fup_10, fs_4_5, fs_4_6, fs_5_6, fup_self])
            refine g_put_10_8 F a_M_forget_72 fl_M_82 ?_
            (try simp only [mset_app, mset_mset, fup_app, aup_app, fup_fup, aup_aup, false_and, and_false, true_and, and_true, and_self, reduceIte, Nat.reduceEqDiff, reduceCtorEq, fup_10, fs_4_5, fs_4_6, fs_5_6, fup_self])
            refine g_aload_n F a_M_forget_75 rfl ?_
            refine g_iload_n F a_M_forget_76 rfl ?_
            refine g_iconst F a_M_forget_77 ?_
            refine g_icmp_ne F (by omega) (by omega) a_M_forget_78 (fun h78 => ?_) (fun h78 => ?_)
            · refine g_aload_n F a_M_forget_85 rfl ?_
              refine g_get_10_9 F a_M_forget_86 fl_M_85 ?_
              (try simp only [mset_app, mset_mset, fup_app, aup_app, fup_fup, aup_aup, false_and, and_false, true_and, and_true, and_self, reduceIte, Nat.reduceEqDiff, reduceCtorEq, fup_10, fs_4_5, fs_4_6, fs_5_6, fup_self])
              refine g_put_10_9 F a_M_forget_89 fl_M_85 ?_
              (try simp only [mset_app, mset_mset, fup_app, aup_app, fup_fup, aup_aup, false_and, and_false, true_and, and_true, and_self, reduceIte, Nat.reduceEqDiff, reduceCtorEq, fup_10, fs_4_5, fs_4_6, fs_5_6, fup_self])
              refine g_iload_n F a_M_forget_92 rfl ?_
              refine g_iret F a_M_forget_93 rfl ⟨Nat.le_refl _, Nat.le_refl _⟩ ?_
              first | (exfalso; omega) | exact kb (by omega) | exact k0 (by omega) | exact k1 (by omega) | exact k2 (by omega)
            · refine g_iconst F a_M_forget_81 ?_
              refine g_goto F a_M_forget_82 ?_
              refine g_put_10_9 F a_M_forget_89 fl_M_85 ?_
              (try simp only [mset_app, mset_mset, fup_app, aup_app, fup_fup, aup_aup, false_and, and_false, true_and, and_true, and_self, reduceIte, Nat.reduceEqDiff, reduceCtorEq, fup_10, fs_4_5, fs_4_6, fs_5_6, fup_self])
              refine g_iload_n F a_M_forget_92 rfl ?_
              refine g_iret F a_M_forget_93 rfl ⟨Nat.le_refl _, Nat.le_refl _⟩ ?_
              first | (exfalso; omega) | exact kb (by omega) | exact k0 (by omega) | exact k1 (by omega) | exact k2 (by omega)
          · refine g_iconst F a_M_forget_64 ?_
            refine g_goto F a_M_forget_65 ?_
            refine g_put_10_8 F a_M_forget_72 fl_M_82 ?_
            (try simp only [mset_app, mset_mset, fup_app, aup_app, fup_fup, aup_aup, false_and, and_false, true_and, and_true, and_self, reduceIte, Nat.reduceEqDiff, reduceCtorEq, fup_10, fs_4_5, fs_4_6, fs_5_6, fup_self])
            refine g_aload_n F a_M_forget_75 rfl ?_
            refine g_iload_n F a_M_forget_76 rfl ?_
            refine g_iconst F a_M_forget_77 ?_
            refine g_icmp_ne F (by omega) (by omega) a_M_forget_78 (fun h78 => ?_) (fun h78 => ?_)
            · refine g_aload_n F a_M_forget_85 rfl ?_
              refine g_get_10_9 F a_M_forget_86 fl_M_85 ?_
              (try simp only [mset_app, mset_mset, fup_app, aup_app, fup_fup, aup_aup, false_and, and_false, true_and, and_true, and_self, reduceIte, Nat.reduceEqDiff, reduceCtorEq, fup_10, fs_4_5, fs_4_6, fs_5_6, fup_self])
              refine g_put_10_9 F a_M_forget_89 fl_M_85 ?_
              (try simp only [mset_app, mset_mset, fup_app, aup_app, fup_fup, aup_aup, false_and, and_false, true_and, and_true, and_self, reduceIte, Nat.reduceEqDiff, reduceCtorEq, fup_10, fs_4_5, fs_4_6, fs_5_6, fup_self])
              refine g_iload_n F a_M_forget_92 rfl ?_
              refine g_iret F a_M_forget_93 rfl ⟨Nat.le_refl _, Nat.le_refl _⟩ ?_
              first | (exfalso; omega) | exact kb (by omega) | exact k0 (by omega) | exact k1 (by omega) | exact k2 (by omega)
            · refine g_iconst F a_M_forget_81 ?_
              refine g_goto F a_M_forget_82 ?_
              refine g_put_10_9 F a_M_forget_89 fl_M_85 ?_
              (try simp only [mset_app, mset_mset, fup_app, aup_app, fup_fup, aup_aup, false_and, and_false, true_and, and_true, and_self, reduceIte, Nat.reduceEqDiff, reduceCtorEq, fup_10, fs_4_5, fs_4_6, fs_5_6, fup_self])
              refine g_iload_n F a_M_forget_92 rfl ?_
              refine g_iret F a_M_forget_93 rfl ⟨Nat.le_refl _, Nat.le_refl _⟩ ?_
              first | (exfalso; omega) | exact kb (by omega) | exact k0 (by omega) | exact k1 (by omega) | exact k2 (by omega)
      · refine g_aload_n F a_M_forget_30 rfl ?_
        refine g_get_10_8 F a_M_forget_31 fl_M_82 ?_
        refine g_goto F a_M_forget_34 ?_
        refine g_istore_n (ls' := [_, _, _]) F a_M_forget_41 rfl rfl rfl ?_
        refine g_aload_n F a_M_forget_42 rfl ?_
        refine g_iload_n F a_M_forget_43 rfl ?_
        refine g_if_ne F (by omega) a_M_forget_44 (fun h44 => ?_) (fun h44 => ?_)
        · refine g_aload_n F a_M_forget_51 rfl ?_
          refine g_get_10_7 F a_M_forget_52 fl_M_79 ?_
          refine g_put_10_7 F a_M_forget_55 fl_M_79 ?_
          (try simp only [mset_app, mset_mset, fup_app, aup_app, fup_fup, aup_aup, false_and, and_false, true_and, and_true, and_self, reduceIte, Nat.reduceEqDiff, reduceCtorEq, fup_10, fs_4_5, fs_4_6, fs_5_6, fup_self])
          refine g_aload_n F a_M_forget_58 rfl ?_
          refine g_iload_n F a_M_forget_59 rfl ?_
          refine g_iconst F a_M_forget_60 ?_
          refine g_icmp_ne F (by omega) (by omega) a_M_forget_61 (fun h61 => ?_) (fun h61 => ?_)
          · refine g_aload_n F a_M_forget_68 rfl ?_
            refine g_get_10_8 F a_M_forget_69 fl_M_82 ?_
            (try simp only [mset_app, mset_mset, fup_app, aup_app, fup_fup, aup_aup, false_and, and_false, true_and, and_true, and_self, reduceIte, Nat.reduceEqDiff, reduceCtorEq, fup_10, fs_4_5, fs_4_6, fs_5_6, fup_self])
            refine g_put_10_8 F a_M_forget_72 fl_M_82 ?_
            (try simp only [mset_app, mset_mset, fup_app, aup_app, fup_fup, aup_aup, false_and, and_false, true_and, and_true, and_self, reduceIte, Nat.reduceEqDiff, reduceCtorEq, fup_10, fs_4_5, fs_4_6, fs_5_6, fup_self])
            refine g_aload_n F a_M_forget_75 rfl ?_
            refine g_iload_n F a_M_forget_76 rfl ?_
            refine g_iconst F a_M_forget_77 ?_
            refine g_icmp_ne F (by omega) (by omega) a_M_forget_78 (fun h78 => ?_) (fun h78 => ?_)
            · refine g_aload_n F a_M_forget_85 rfl ?_
              refine g_get_10_9 F a_M_forget_86 fl_M_85 ?_
              (try simp only [mset_app, mset_mset, fup_app, aup_app, fup_fup, aup_aup, false_and, and_false, true_and, and_true, and_self, reduceIte, Nat.reduceEqDiff, reduceCtorEq, fup_10, fs_4_5, fs_4_6, fs_5_6, fup_self])
              refine g_put_10_9 F a_M_forget_89 fl_M_85 ?_
              (try simp only [mset_app, mset_mset, fup_app, aup_app, fup_fup, aup_aup, false_and, and_false, true_and, and_true, and_self, reduceIte, Nat.reduceEqDiff, reduceCtorEq, fup_10, fs_4_5, fs_4_6, fs_5_6, fup_self])
              refine g_iload_n F a_M_forget_92 rfl ?_
              refine g_iret F a_M_forget_93 rfl ⟨Nat.le_refl _, Nat.le_refl _⟩ ?_
              first | (exfalso; omega) | exact kb (by omega) | exact k0 (by omega) | exact k1 (by omega) | exact k2 (by omega)
            · refine g_iconst F a_M_forget_81 ?_
              refine g_goto F a_M_forget_82 ?_
              refine g_put_10_9 F a_M_forget_89 fl_M_85 ?_
              (try simp only [mset_app, mset_mset, fup_app, aup_app, fup_fup, aup_aup, false_and, and_false, true_and, and_true, and_self, reduceIte, Nat.reduceEqDiff, reduceCtorEq, fup_10, fs_4_5, fs_4_6, fs_5_6, fup_self])
              refine g_iload_n F a_M_forget_92 rfl ?_
              refine g_iret F a_M_forget_93 rfl ⟨Nat.le_refl _, Nat.le_refl _⟩ ?_
              first | (exfalso; omega) | exact kb (by omega) | exact k0 (by omega) | exact k1 (by omega) | exact k2 (by omega)
          · refine g_iconst F a_M_forget_64 ?_
            refine g_goto F a_M_forget_65 ?_
            refine g_put_10_8 F a_M_forget_72 fl_M_82 ?_
            (try simp only [mset_app, mset_mset, fup_app, aup_app, fup_fup, aup_aup, false_and, and_false, true_and, and_true, and_self, reduceIte, Nat.reduceEqDiff, reduceCtorEq, fup_10, fs_4_5, fs_4_6, fs_5_6, fup_self])
            refine g_aload_n F a_M_forget_75 rfl ?_
            refine g_iload_n F a_M_forget_76 rfl ?_
            refine g_iconst F a_M_forget_77 ?_
            refine g_icmp_ne F (by omega) (by omega) a_M_forget_78 (fun h78 => ?_) (fun h78 => ?_)
            · refine g_aload_n F a_M_forget_85 rfl ?_
              refine g_get_10_9 F a_M_forget_86 fl_M_85 ?_
              (try simp only [mset_app, mset_mset, fup_app, aup_app, fup_fup, aup_aup, false_and, and_false, true_and, and_true, and_self, reduceIte, Nat.reduceEqDiff, reduceCtorEq, fup_10, fs_4_5, fs_4_6, fs_5_6, fup_self])
              refine g_put_10_9 F a_M_forget_89 fl_M_85 ?_
              (try simp only [mset_app, mset_mset, fup_app, aup_app, fup_fup, aup_aup, false_and, and_false, true_and, and_true, and_self, reduceIte, Nat.reduceEqDiff, reduceCtorEq, fup_10, fs_4_5, fs_4_6, fs_5_6, fup_self])
              refine g_iload_n F a_M_forget_92 rfl ?_
              refine g_iret F a_M_forget_93 rfl ⟨Nat.le_refl _, Nat.le_refl _⟩ ?_
              first | (exfalso; omega) | exact kb (by omega) | exact k0 (by omega) | exact k1 (by omega) | exact k2 (by omega)
            · refine g_iconst F a_M_forget_81 ?_
              refine g_goto F a_M_forget_82 ?_
              refine g_put_10_9 F a_M_forget_89 fl_M_85 ?_
              (try simp only [mset_app, mset_mset, fup_app, aup_app, fup_fup, aup_aup, false_and, and_false, true_and, and_true, and_self, reduceIte, Nat.reduceEqDiff, reduceCtorEq, fup_10, fs_4_5, fs_4_6, fs_5_6, fup_self])
              refine g_iload_n F a_M_forget_92 rfl ?_
              refine g_iret F a_M_forget_93 rfl ⟨Nat.le_refl _, Nat.le_refl _⟩ ?_
              first | (exfalso; omega) | exact kb (by omega) | exact k0 (by omega) | exact k1 (by omega) | exact k2 (by omega)
        · refine g_iconst F a_M_forget_47 ?_
          refine g_goto F a_M_forget_48 ?_
          refine g_put_10_7 F a_M_forget_55 fl_M_79 ?_
          (try simp only [mset_app, mset_mset, fup_app, aup_app, fup_fup, aup_aup, false_and, and_false, true_and, and_true, and_self, reduceIte, Nat.reduceEqDiff, reduceCtorEq, fup_10, fs_4_5, fs_4_6, fs_5_6, fup_self])
          refine g_aload_n F a_M_forget_58 rfl ?_
          refine g_iload_n F a_M_forget_59 rfl ?_
          refine g_iconst F a_M_forget_60 ?_
          refine g_icmp_ne F (by omega) (by omega) a_M_forget_61 (fun h61 => ?_) (fun h61 => ?_)
          · refine g_aload_n F a_M_forget_68 rfl ?_
            refine g_get_10_8 F a_M_forget_69 fl_M_82 ?_
            (try simp only [mset_app, mset_mset, fup_app, aup_app, fup_fup, aup_aup, false_and, and_false, true_and, and_true, and_self, reduceIte, Nat.reduceEqDiff, reduceCtorEq, fup_10, fs_4_5, fs_4_6, fs_5_6, fup_self])
            refine g_put_10_8 F a_M_forget_72 fl_M_82 ?_
            (try simp only [mset_app, mset_mset, fup_app, aup_app, fup_fup, aup_aup, false_and, and_false, true_and, and_true, and_self, reduceIte, Nat.reduceEqDiff, reduceCtorEq, fup_10, fs_4_5, fs_4_6, fs_5_6, fup_self])
            refine g_aload_n F a_M_forget_75 rfl ?_
            refine g_iload_n F a_M_forget_76 rfl ?_
            refine g_iconst F a_M_forget_77 ?_
            refine g_icmp_ne F (by omega) (by omega) a_M_forget_78 (fun h78 => ?_) (fun h78 => ?_)
            · refine g_aload_n F a_M_forget_85 rfl ?_
              refine g_get_10_9 F a_M_forget_86 fl_M_85 ?_
              (try simp only [mset_app, mset_mset, fup_app, aup_app, fup_fup, aup_aup, false_and, and_false, true_and, and_true, and_self, reduceIte, Nat.reduceEqDiff, reduceCtorEq, fup_10, fs_4_5, fs_4_6, fs_5_6, fup_self])
              refine g_put_10_9 F a_M_forget_89 fl_M_85 ?_
              (try simp only [mset_app, mset_mset, fup_app, aup_app, fup_fup, aup_aup, false_and, and_false, true_and, and_true, and_self, reduceIte, Nat.reduceEqDiff, reduceCtorEq, fup_10, fs_4_5, fs_4_6, fs_5_6, fup_self])
              refine g_iload_n F a_M_forget_92 rfl ?_
              refine g_iret F a_M_forget_93 rfl ⟨Nat.le_refl _, Nat.le_refl _⟩ ?_
              first | (exfalso; omega) | exact kb (by omega) | exact k0 (by omega) | exact k1 (by omega) | exact k2 (by omega)
            · refine g_iconst F a_M_forget_81 ?_
              refine g_goto F a_M_forget_82 ?_
              refine g_put_10_9 F a_M_forget_89 fl_M_85 ?_
              (try simp only [mset_app, mset_mset, fup_app, aup_app, fup_fup, aup_aup, false_and, and_false, true_and, and_true, and_self, reduceIte, Nat.reduceEqDiff, reduceCtorEq, fup_10, fs_4_5, fs_4_6, fs_5_6, fup_self])
              refine g_iload_n F a_M_forget_92 rfl ?_
              refine g_iret F a_M_forget_93 rfl ⟨Nat.le_refl _, Nat.le_refl _⟩ ?_
              first | (exfalso; omega) | exact kb (by omega) | exact k0 (by omega) | exact k1 (by omega) | exact k2 (by omega)
          · refine g_iconst F a_M_forget_64 ?_
            refine g_goto F a_M_forget_65 ?_
            refine g_put_10_8 F a_M_forget_72 fl_M_82 ?_
            (try simp only [mset_app, mset_mset, fup_app, aup_app, fup_fup, aup_aup, false_and, and_false, true_and, and_true, and_self, reduceIte, Nat.reduceEqDiff, reduceCtorEq, fup_10, fs_4_5, fs_4_6, fs_5_6, fup_self])
            refine g_aload_n F a_M_forget_75 rfl ?_
            refine g_iload_n F a_M_forget_76 rfl ?_
            refine g_iconst F a_M_forget_77 ?_
            refine g_icmp_ne F (by omega) (by omega) a_M_forget_78 (fun h78 => ?_) (fun h78 => ?_)
            · refine g_aload_n F a_M_forget_85 rfl ?_
              refine g_get_10_9 F a_M_forget_86 fl_M_85 ?_
              (try simp only [mset_app, mset_mset, fup_app, aup_app, fup_fup, aup_aup, false_and, and_false, true_and, and_true, and_self, reduceIte, Nat.reduceEqDiff, reduceCtorEq, fup_10, fs_4_5, fs_4_6, fs_5_6, fup_self])
              refine g_put_10_9 F a_M_forget_89 fl_M_85 ?_
              (try simp only [mset_app, mset_mset, fup_app, aup_app, fup_fup, aup_aup, false_and, and_false, true_and, and_true, and_self, reduceIte, Nat.reduceEqDiff, reduceCtorEq, fup_10, fs_4_5, fs_4_6, fs_5_6, fup_self])
              refine g_iload_n F a_M_forget_92 rfl ?_
              refine g_iret F a_M_forget_93 rfl ⟨Nat.le_refl _, Nat.le_refl _⟩ ?_
              first | (exfalso; omega) | exact kb (by omega) | exact k0 (by omega) | exact k1 (by omega) | exact k2 (by omega)
            · refine g_iconst F a_M_forget_81 ?_
              refine g_goto F a_M_forget_82 ?_
              refine g_put_10_9 F a_M_forget_89 fl_M_85 ?_
              (try simp only [mset_app, mset_mset, fup_app, aup_app, fup_fup, aup_aup, false_and, and_false, true_and, and_true, and_self, reduceIte, Nat.reduceEqDiff, reduceCtorEq, fup_10, fs_4_5, fs_4_6, fs_5_6, fup_self])
              refine g_iload_n F a_M_forget_92 rfl ?_
              refine g_iret F a_M_forget_93 rfl ⟨Nat.le_refl _, Nat.le_refl _⟩ ?_
              first | (exfalso; omega) | exact kb (by omega) | exact k0 (by omega) | exact k1 (by omega) | exact k2 (by omega)
    · refine g_aload_n F a_M_forget_18 rfl ?_
      refine g_get_10_7 F a_M_forget_19 fl_M_79 ?_
      refine g_goto F a_M_forget_22 ?_
      refine g_istore_n (ls' := [_, _, _]) F a_M_forget_41 rfl rfl rfl ?_
      refine g_aload_n F a_M_forget_42 rfl ?_
      refine g_iload_n F a_M_forget_43 rfl ?_
      refine g_if_ne F (by omega) a_M_forget_44 (fun h44 => ?_) (fun h44 => ?_)
      · refine g_aload_n F a_M_forget_51 rfl ?_
        refine g_get_10_7 F a_M_forget_52 fl_M_79 ?_
        refine g_put_10_7 F a_M_forget_55 fl_M_79 ?_
        (try simp only [mset_app, mset_mset, fup_app, aup_app, fup_fup, aup_aup, false_and, and_false, true_and, and_true, and_self, reduceIte, Nat.reduceEqDiff, reduceCtorEq, fup_10, fs_4_5, fs_4_6, fs_5_6, fup_self])
        refine g_aload_n F a_M_forget_58 rfl ?_
        refine g_iload_n F a_M_forget_59 rfl ?_
        refine g_iconst F a_M_forget_60 ?_
        refine g_icmp_ne F (by omega) (by omega) a_M_forget_61 (fun h61 => ?_) (fun h61 => ?_)
        · refine g_aload_n F a_M_forget_68 rfl ?_
          refine g_get_10_8 F a_M_forget_69 fl_M_82 ?_
          (try simp only [mset_app, mset_mset, fup_app, aup_app, fup_fup, aup_aup, false_and, and_false, true_and, and_true, and_self, reduceIte, Nat.reduceEqDiff, reduceCtorEq, fup_10, fs_4_5, fs_4_6, fs_5_6, fup_self])
          refine g_put_10_8 F a_M_forget_72 fl_M_82 ?_
          (try simp only [mset_app, mset_mset, fup_app, aup_app, fup_fup, aup_aup, false_and, and_false, true_and, and_true, and_self, reduceIte, Nat.reduceEqDiff, reduceCtorEq, fup_10, fs_4_5, fs_4_6, fs_5_6, fup_self])
          refine g_aload_n F a_M_forget_75 rfl ?_
          refine g_iload_n F a_M_forget_76 rfl ?_
          refine g_iconst F a_M_forget_77 ?_
          refine g_icmp_ne F (by omega) (by omega) a_M_forget_78 (fun h78 => ?_) (fun h78 => ?_)
          · refine g_aload_n F a_M_forget_85 rfl ?_
            refine g_get_10_9 F a_M_forget_86 fl_M_85 ?_
            (try simp only [mset_app, mset_mset, fup_app, aup_app, fup_fup, aup_aup, false_and, and_false, true_and, and_true, and_self, reduceIte, Nat.reduceEqDiff, reduceCtorEq, fup_10, fs_4_5, fs_4_6, fs_5_6, fup_self])
            refine g_put_10_9 F a_M_forget_89 fl_M_85 ?_
            (try simp only [mset_app, mset_mset, fup_app, aup_app, fup_fup, aup_aup, false_and, and_false, true_and, and_true, and_self, reduceIte, Nat.reduceEqDiff, reduceCtorEq, fup_10, fs_4_5, fs_4_6, fs_5_6, fup_self])
            refine g_iload_n F a_M_forget_92 rfl ?_
            refine g_iret F a_M_forget_93 rfl ⟨Nat.le_refl _, Nat.le_refl _⟩ ?_
            first | (exfalso; omega) | exact kb (by omega) | exact k0 (by omega) | exact k1 (by omega) | exact k2 (by omega)
          · refine g_iconst F a_M_forget_81 ?_
            refine g_goto F a_M_forget_82 ?_
            refine g_put_10_9 F a_M_forget_89 fl_M_85 ?_
            (try simp only [mset_app, mset_mset, fup_app, aup_app, fup_fup, aup_aup, false_and, and_false, true_and, and_true, and_self, reduceIte, Nat.reduceEqDiff, reduceCtorEq, fup_10, fs_4_5, fs_4_6, fs_5_6, fup_self])
            refine g_iload_n F a_M_forget_92 rfl ?_
            refine g_iret F a_M_forget_93 rfl ⟨Nat.le_refl _, Nat.le_refl _⟩ ?_
            first | (exfalso; omega) | exact kb (by omega) | exact k0 (by omega) | exact k1 (by omega) | exact k2 (by omega)
        · refine g_iconst F a_M_forget_64 ?_
          refine g_goto F a_M_forget_65 ?_
          refine g_put_10_8 F a_M_forget_72 fl_M_82 ?_
          (try simp only [mset_app, mset_mset, fup_app, aup_app, fup_fup, aup_aup, false_and, and_false, true_and, and_true, and_self, reduceIte, Nat.reduceEqDiff, reduceCtorEq, fup_10, fs_4_5, fs_4_6, fs_5_6, fup_self])
          refine g_aload_n F a_M_forget_75 rfl ?_
          refine g_iload_n F a_M_forget_76 rfl ?_
          refine g_iconst F a_M_forget_77 ?_
          refine g_icmp_ne F (by omega) (by omega) a_M_forget_78 (fun h78 => ?_) (fun h78 => ?_)
          · refine g_aload_n F a_M_forget_85 rfl ?_
            refine g_get_10_9 F a_M_forget_86 fl_M_85 ?_
            (try simp only [mset_app, mset_mset, fup_app, aup_app, fup_fup, aup_aup, false_and, and_false, true_and, and_true, and_self, reduceIte, Nat.reduceEqDiff, reduceCtorEq, fup_10, fs_4_5, fs_4_6, fs_5_6, fup_self])
            refine g_put_10_9 F a_M_forget_89 fl_M_85 ?_
            (try simp only [mset_app, mset_mset, fup_app, aup_app, fup_fup, aup_aup, false_and, and_false, true_and, and_true, and_self, reduceIte, Nat.reduceEqDiff, reduceCtorEq, fup_10, fs_4_5, fs_4_6, fs_5_6, fup_self])
            refine g_iload_n F a_M_forget_92 rfl ?_
            refine g_iret F a_M_forget_93 rfl ⟨Nat.le_refl _, Nat.le_refl _⟩ ?_
            first | (exfalso; omega) | exact kb (by omega) | exact k0 (by omega) | exact k1 (by omega) | exact k2 (by omega)
          · refine g_iconst F a_M_forget_81 ?_
            refine g_goto F a_M_forget_82 ?_
            refine g_put_10_9 F a_M_forget_89 fl_M_85 ?_
            (try simp only [mset_app, mset_mset, fup_app, aup_app, fup_fup, aup_aup, false_and, and_false, true_and, and_true, and_self, reduceIte, Nat.reduceEqDiff, reduceCtorEq, fup_10, fs_4_5, fs_4_6, fs_5_6, fup_self])
            refine g_iload_n F a_M_forget_92 rfl ?_
            refine g_iret F a_M_forget_93 rfl ⟨Nat.le_refl _, Nat.le_refl _⟩ ?_
            first | (exfalso; omega) | exact kb (by omega) | exact k0 (by omega) | exact k1 (by omega) | exact k2 (by omega)
      · refine g_iconst F a_M_forget_47 ?_
        refine g_goto F a_M_forget_48 ?_
        refine g_put_10_7 F a_M_forget_55 fl_M_79 ?_
        (try simp only [mset_app, mset_mset, fup_app, aup_app, fup_fup, aup_aup, false_and, and_false, true_and, and_true, and_self, reduceIte, Nat.reduceEqDiff, reduceCtorEq, fup_10, fs_4_5, fs_4_6, fs_5_6, fup_self])
        refine g_aload_n F a_M_forget_58 rfl ?_
        refine g_iload_n F a_M_forget_59 rfl ?_
        refine g_iconst F a_M_forget_60 ?_
        refine g_icmp_ne F (by omega) (by omega) a_M_forget_61 (fun h61 => ?_) (fun h61 => ?_)
        · refine g_aload_n F a_M_forget_68 rfl ?_
          refine g_get_10_8 F a_M_forget_69 fl_M_82 ?_
          (try simp only [mset_app, mset_mset, fup_app, aup_app, fup_fup, aup_aup, false_and, and_false, true_and, and_true, and_self, reduceIte, Nat.reduceEqDiff, reduceCtorEq, fup_10, fs_4_5, fs_4_6, fs_5_6, fup_self])
          refine g_put_10_8 F a_M_forget_72 fl_M_82 ?_
          (try simp only [mset_app, mset_mset, fup_app, aup_app, fup_fup, aup_aup, false_and, and_false, true_and, and_true, and_self, reduceIte, Nat.reduceEqDiff, reduceCtorEq, fup_10, fs_4_5, fs_4_6, fs_5_6, fup_self])
          refine g_aload_n F a_M_forget_75 rfl ?_
          refine g_iload_n F a_M_forget_76 rfl ?_
          refine g_iconst F a_M_forget_77 ?_
          refine g_icmp_ne F (by omega) (by omega) a_M_forget_78 (fun h78 => ?_) (fun h78 => ?_)
          · refine g_aload_n F a_M_forget_85 rfl ?_
            refine g_get_10_9 F a_M_forget_86 fl_M_85 ?_
            (try simp only [mset_app, mset_mset, fup_app, aup_app, fup_fup, aup_aup, false_and, and_false, true_and, and_true, and_self, reduceIte, Nat.reduceEqDiff, reduceCtorEq, fup_10, fs_4_5, fs_4_6, fs_5_6, fup_self])
            refine g_put_10_9 F a_M_forget_89 fl_M_85 ?_
            (try simp only [mset_app, mset_mset, fup_app, aup_app, fup_fup, aup_aup, false_and, and_false, true_and, and_true, and_self, reduceIte, Nat.reduceEqDiff, reduceCtorEq, fup_10, fs_4_5, fs_4_6, fs_5_6, fup_self])
            refine g_iload_n F a_M_forget_92 rfl ?_
            refine g_iret F a_M_forget_93 rfl ⟨Nat.le_refl _, Nat.le_refl _⟩ ?_
            first | (exfalso; omega) | exact kb (by omega) | exact k0 (by omega) | exact k1 (by omega) | exact k2 (by omega)
          · refine g_iconst F a_M_forget_81 ?_
            refine g_goto F a_M_forget_82 ?_
            refine g_put_10_9 F a_M_forget_89 fl_M_85 ?_
            (try simp only [mset_app, mset_mset, fup_app, aup_app, fup_fup, aup_aup, false_and, and_false, true_and, and_true, and_self, reduceIte, Nat.reduceEqDiff, reduceCtorEq, fup_10, fs_4_5, fs_4_6, fs_5_6, fup_self])
            refine g_iload_n F a_M_forget_92 rfl ?_
            refine g_iret F a_M_forget_93 rfl ⟨Nat.le_refl _, Nat.le_refl _⟩ ?_
            first | (exfalso; omega) | exact kb (by omega) | exact k0 (by omega) | exact k1 (by omega) | exact k2 (by omega)
        · refine g_iconst F a_M_forget_64 ?_
          refine g_goto F a_M_forget_65 ?_
          refine g_put_10_8 F a_M_forget_72 fl_M_82 ?_
          (try simp only [mset_app, mset_mset, fup_app, aup_app, fup_fup, aup_aup, false_and, and_false, true_and, and_true, and_self, reduceIte, Nat.reduceEqDiff, reduceCtorEq, fup_10, fs_4_5, fs_4_6, fs_5_6, fup_self])
          refine g_aload_n F a_M_forget_75 rfl ?_
          refine g_iload_n F a_M_forget_76 rfl ?_
          refine g_iconst F a_M_forget_77 ?_
          refine g_icmp_ne F (by omega) (by omega) a_M_forget_78 (fun h78 => ?_) (fun h78 => ?_)
          · refine g_aload_n F a_M_forget_85 rfl ?_
            refine g_get_10_9 F a_M_forget_86 fl_M_85 ?_
            (try simp only [mset_app, mset_mset, fup_app, aup_app, fup_fup, aup_aup, false_and, and_false, true_and, and_true, and_self, reduceIte, Nat.reduceEqDiff, reduceCtorEq, fup_10, fs_4_5, fs_4_6, fs_5_6, fup_self])
            refine g_put_10_9 F a_M_forget_89 fl_M_85 ?_
            (try simp only [mset_app, mset_mset, fup_app, aup_app, fup_fup, aup_aup, false_and, and_false, true_and, and_true, and_self, reduceIte, Nat.reduceEqDiff, reduceCtorEq, fup_10, fs_4_5, fs_4_6, fs_5_6, fup_self])
            refine g_iload_n F a_M_forget_92 rfl ?_
            refine g_iret F a_M_forget_93 rfl ⟨Nat.le_refl _, Nat.le_refl _⟩ ?_
            first | (exfalso; omega) | exact kb (by omega) | exact k0 (by omega) | exact k1 (by omega) | exact k2 (by omega)
          · refine g_iconst F a_M_forget_81 ?_
            refine g_goto F a_M_forget_82 ?_
            refine g_put_10_9 F a_M_forget_89 fl_M_85 ?_
            (try simp only [mset_app, mset_mset, fup_app, aup_app, fup_fup, aup_aup, false_and, and_false, true_and, and_true, and_self, reduceIte, Nat.reduceEqDiff, reduceCtorEq, fup_10, fs_4_5, fs_4_6, fs_5_6, fup_self])
            refine g_iload_n F a_M_forget_92 rfl ?_
            refine g_iret F a_M_forget_93 rfl ⟨Nat.le_refl _, Nat.le_refl _⟩ ?_
            first | (exfalso; omega) | exact kb (by omega) | exact k0 (by omega) | exact k1 (by omega) | exact k2 (by omega)
  · refine g_ifne0 F a_M_forget_6 ?_
    refine g_aload_n F a_M_forget_9 rfl ?_
    refine g_v0 F a_M_forget_10 vc_M_95 mk_M_bad ob_10 ck_10.1 rfl rfl (by decide) ⟨Nat.le_refl _, Nat.le_refl _⟩ rfl (Nat.le_of_ble_eq_true rfl) (sp_M_bad  (GCr.v ?_))
    refine g_iret F a_M_forget_13 rfl ⟨Nat.le_refl _, Nat.le_refl _⟩ ?_
    first | (exfalso; omega) | exact kb (by omega) | exact k0 (by omega) | exact k1 (by omega) | exact k2 (by omega)
