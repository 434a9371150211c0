theorem mea2 {M S : Rc} {f : Rc → Rc} (h : sam S (shM M)) : stM (stM M S) (f (shM (stM M S))) = stM M (f S) := by rw [shM_st h, stM_stM]
theorem saN_sam (S : Rc) (t r : Int) : ∀ n : Nat, sam (saN S t r n) S
  | 0 => sam.rfl
  | n + 1 => (sail_sam _ t r).trans (saN_sam S t r n)
theorem vyS_sam (S : Rc) (s : Int) : ∀ n : Nat, sam (vyS S s n) S
  | 0 => sam.rfl
  | n + 1 => (sail_sam _ _ _).trans (vyS_sam S s n)
theorem errN_0 (S : Rc) (r : Int) : ∀ n : Nat, errN S 0 r n = 0
  | 0 => rfl
  | n + 1 => by
    rw [errN_succ, errN_0 S r n, if_neg (by rw [Int.zero_ediv]; decide)]
    rfl
theorem errS_0 (S : Rc) (r : Int) : errS S 0 r = 0 := by
  unfold errS
  split
  · exact errN_0 S r _
  · rfl
theorem sail_0 (S : Rc) (r : Int) : sailB S 0 0 = sailS S 0 r := by rw [← sailB_S, errS_0]
theorem okM_st {D : Int} {M S : Rc} (h : sam S (shM M)) (hS : okS D S) : okM D (stM M S) := okS_M (by rw [shM_st h]; exact hS)
/-- laid aside and taken back: nothing but the row aside is another one -/
theorem back {κ : Kx} {m : Mem} {M X : Rc} {f : Int → Int} : World κ (mset m 10 0 (stM (M.1, aup M.2 11 (lyI (shM M) f 0)) (tkS (lyI (shM M) f 0) 0 X))) = World κ (mset m 10 0 (M.1, aup M.2 11 (lyI (shM M) f 0))) := by
  have e0 : lyI (shM M) f 0 0 = M.1 4 := rfl
  have e1 : lyI (shM M) f 0 (0 + 1) = M.1 5 := rfl
  have e2 : lyI (shM M) f 0 (0 + 2) = M.1 6 := rfl
  have e : (fup (fup (fup M.1 4 (lyI (shM M) f 0 0)) 5 (lyI (shM M) f 0 (0 + 1))) 6 (lyI (shM M) f 0 (0 + 2))) = M.1 := by
    rw [e0, e1, e2, fup_self, fup_self, fup_self]
  show World κ (mset m 10 0 (fup (fup (fup M.1 4 (lyI (shM M) f 0 0)) 5 (lyI (shM M) f 0 (0 + 1))) 6 (lyI (shM M) f 0 (0 + 2)), aup (aup M.2 11 (lyI (shM M) f 0)) 2 (fun k => lyI (shM M) f 0 (0 + 3 + k)))) = _
  rw [e]
  have hz : aup (aup M.2 11 (lyI (shM M) f 0)) 2 (M.2 2) = aup M.2 11 (lyI (shM M) f 0) := by
    have := aup_self (aup M.2 11 (lyI (shM M) f 0)) 2
    exact this
  refine (World_aup (g := M.2 2) (fun x h0 h1 => ?_)).trans (by rw [hz])
  have h6 : x < ((6 : Nat) : Int) := h1
  unfold lyI
  rw [if_neg (by omega), if_neg (by omega), if_neg (by omega), if_pos (by omega)]
  exact congrArg (M.2 2) (by omega)
theorem sh_11 (M : Rc) (g : Int → Int) : shM (M.1, aup M.2 11 g) = shM M := sh_aup (by decide)
set_option maxHeartbeats 2000000 in
theorem lp_M_then {κ : Kx} {μ : MX} {Q : Option Value → (Heap → Prop) → Prop} {m : Mem} {D : Int} {x y t : Int} (hS : okM D (m 10 0)) (hD : D + 60 ≤ 100000) (hset : 0 ≤ x ∧ x < 64) (hy : 0 ≤ y ∧ y < (m 10 0).1 2) (ht : 0 ≤ t ∧ t ≤ 60) (k : Q (some (vi (offS (saN (shM (m 10 0)) x y t.toNat)))) (World κ (mset m 10 0 (stM (m 10 0) (tkS ((m 10 0).2 11) 0 (saN (shM (m 10 0)) x y t.toNat)))))) (F : Fx κ G_M_then 6 0 0 μ) :
    ∀ (n : Nat) (j : Nat) (v : Int), t < j + n → (j : Int) ≤ t → v = (j : Int) →  GC κ μ (ZZ κ μ 0 0 Q) 0 0 43 [some (.ref (ad κ 10 0)), some (vi x), some (vi y), some (vi t), some (vi v)] [] (World κ (mset m 10 0 (stM (m 10 0) (saN (shM (m 10 0)) x y j)))) := by
  intro n
  induction n with
  | zero =>
    intro j v hn hj hv
    exact absurd hn (by omega)
  | succ n ih =>
    intro j v hn hj hv
    have hSj : okM (D + j) (stM (m 10 0) (saN (shM (m 10 0)) x y j)) := okM_st (saN_sam _ _ _ j) (saN_ok (okM_S hS) x y j)
    refine g_iload F a_M_then_43 rfl ?_
    refine g_iload_n F a_M_then_45 rfl ?_
    refine g_icmp_ge F (by omega) (by omega) a_M_then_46 (fun h46 => ?_) (fun h46 => ?_)
    · refine g_aload_n F a_M_then_61 rfl ?_
      refine g_v0 F a_M_then_62 vc_M_248 mk_M_offNow ob_10 ck_10.1 rfl rfl (by decide) ⟨Nat.le_refl _, Nat.le_refl _⟩ rfl (Nat.le_of_ble_eq_true rfl) (sp_M_offNow (D := D + j) (by exact hSj) (by omega) (GCr.v ?_))
      (try simp only [mset_app, mset_mset, fup_app, aup_app, fup_fup, aup_aup, false_and, and_false, true_and, and_true, and_self, reduceIte, Nat.reduceEqDiff, reduceCtorEq, fup_10, fs_4_5, fs_4_6, fs_5_6])
      rw [shM_st (saN_sam _ _ _ j)]
      refine g_istore (ls' := [_, _, _, _, _]) F a_M_then_65 rfl rfl rfl ?_
      refine g_aload_n F a_M_then_67 rfl ?_
      refine g_aload_n F a_M_then_68 rfl ?_
      refine g_get_10_24 F a_M_then_69 fl_M_43 ?_
      (try simp only [mset_app, mset_mset, fup_app, aup_app, fup_fup, aup_aup, false_and, and_false, true_and, and_true, and_self, reduceIte, Nat.reduceEqDiff, reduceCtorEq, fup_10, fs_4_5, fs_4_6, fs_5_6])
      refine g_iconst F a_M_then_72 ?_
      refine g_v2 F a_M_then_73 vc_M_239 mk_M_takes ob_10 ck_10.1 rfl rfl (by decide) ⟨Nat.le_refl _, Nat.le_refl _⟩ rfl (Nat.le_of_ble_eq_true rfl) (sp_M_takes (j := 11) (by decide) ⟨by omega, by show _ ≤ ((9 : Nat) : Int); omega⟩ (by decide) (GCr.n ?_))
      (try simp only [mset_app, mset_mset, fup_app, aup_app, fup_fup, aup_aup, false_and, and_false, true_and, and_true, and_self, reduceIte, Nat.reduceEqDiff, reduceCtorEq, fup_10, fs_4_5, fs_4_6, fs_5_6])
      refine g_iload F a_M_then_76 rfl ?_
      refine g_iret F a_M_then_78 rfl ⟨Nat.le_refl _, Nat.le_refl _⟩ ?_
      obtain rfl : j = t.toNat := by omega
      exact qw k (congrArg (fun X => World κ (mset m 10 0 X)) (mea2 (f := fun S => tkS ((m 10 0).2 11) 0 S) (saN_sam _ _ _ _)))
    · refine g_aload_n F a_M_then_49 rfl ?_
      refine g_iload_n F a_M_then_50 rfl ?_
      refine g_iload_n F a_M_then_51 rfl ?_
      refine g_v2 F a_M_then_52 vc_M_155 mk_M_measures ob_10 ck_10.1 rfl rfl (by decide) ⟨Nat.le_refl _, Nat.le_refl _⟩ rfl (Nat.le_of_ble_eq_true rfl) (sp_M_measures (D := D + j) (by exact hSj) (by omega) hset (by exact hy) (GCr.n ?_))
      (try simp only [mset_app, mset_mset, fup_app, aup_app, fup_fup, aup_aup, false_and, and_false, true_and, and_true, and_self, reduceIte, Nat.reduceEqDiff, reduceCtorEq, fup_10, fs_4_5, fs_4_6, fs_5_6])
      rw [mea2 (f := fun S => sailS S x y) (saN_sam _ _ _ j)]
      refine g_iinc (ls' := [_, _, _, _, _]) F a_M_then_55 rfl rfl rfl ?_
      refine g_goto F a_M_then_58 ?_
      exact GC.loc2 (ih (j + 1) _ (by omega) (by omega) (by omega)) ⟨rfl, rfl, rfl, rfl, rfl, trivial⟩
set_option maxHeartbeats 1000000 in
theorem sp_M_then {κ : Kx} {Q : Option Value → (Heap → Prop) → Prop} {m : Mem} {D : Int} (hS : okM D (m 10 0)) (hD60 : D + 60 ≤ 100000) {x y t : Int} (hx : R32 x) (hy : R32 y) (ht : R32 t) (kb : ¬ ((0 ≤ x ∧ x < 2 ^ ((m 10 0).1 1).toNat) ∧ (0 ≤ y ∧ y < (m 10 0).1 2) ∧ 0 ≤ t ∧ t ≤ 60) → Q (some (vi (-1000))) (World κ (bmM m 0))) (k : (0 ≤ x ∧ x < 2 ^ ((m 10 0).1 1).toNat) → (0 ≤ y ∧ y < (m 10 0).1 2) → (0 ≤ t ∧ t ≤ 60) → ∀ g : Int → Int, Q (some (vi (offS (saN (shM (m 10 0)) x y t.toNat)))) (World κ (mset m 10 0 ((m 10 0).1, aup (m 10 0).2 11 g)))) : GG κ G_M_then 6 0 0 [.ref (ad κ 10 0), vi x, vi y, vi t] (World κ m) Q := by
  have hD : D ≤ 100000 := by omega
  obtain ⟨s0, s1, s2, s3, s4, s5, hfg, hkd, hsh, hgl⟩ := id hS
  have hset6 : (0 ≤ x ∧ x < 2 ^ ((m 10 0).1 1).toNat) → 0 ≤ x ∧ x < 64 := fun h => by have := p64 (n := ((m 10 0).1 1).toNat) (by omega); omega
  refine GG.intro (ls := [some _, some _, some _, some _, none]) (Nat.le_of_ble_eq_true rfl) rfl (fun μ F => ?_)
  refine g_aload_n F a_M_then_0 rfl ?_
  refine g_iload_n F a_M_then_1 rfl ?_
  refine g_v1 F a_M_then_2 vc_M_224 mk_M_areMen ob_10 ck_10.1 rfl rfl (by decide) ⟨Nat.le_refl _, Nat.le_refl _⟩ rfl (Nat.le_of_ble_eq_true rfl) (sp_M_areMen hS hD (by omega) (fun c2 => GCr.v ?_) (fun c2 => GCr.v ?_))
  · refine g_ifeq1 F a_M_then_5 ?_
    refine g_aload_n F a_M_then_8 rfl ?_
    refine g_iload_n F a_M_then_9 rfl ?_
    refine g_v1 F a_M_then_10 vc_M_227 mk_M_isReader ob_10 ck_10.1 rfl rfl (by decide) ⟨Nat.le_refl _, Nat.le_refl _⟩ rfl (Nat.le_of_ble_eq_true rfl) (sp_M_isReader hS hD (by omega) (fun c10 => GCr.v ?_) (fun c10 => GCr.v ?_))
    · refine g_ifeq1 F a_M_then_13 ?_
      refine g_iload_n F a_M_then_16 rfl ?_
      refine g_iconst F a_M_then_17 ?_
      refine g_bipush F a_M_then_18 (by decide) ?_
      refine g_s3 F a_M_then_20 sc_M_91 mk_M_in rfl (by decide) ⟨Nat.le_refl _, Nat.le_refl _⟩ rfl (Nat.le_of_ble_eq_true rfl) (sp_M_in (by omega) (by omega) (by omega) (fun c20 => GCr.v ?_) (fun c20 => GCr.v ?_))
      · refine g_ifne1 F a_M_then_23 ?_
        refine g_aload_n F a_M_then_31 rfl ?_
        refine g_aload_n F a_M_then_32 rfl ?_
        refine g_get_10_24 F a_M_then_33 fl_M_43 ?_
        refine g_iconst F a_M_then_36 ?_
        refine g_v2 F a_M_then_37 vc_M_221 mk_M_lays ob_10 ck_10.1 rfl rfl (by decide) ⟨Nat.le_refl _, Nat.le_refl _⟩ rfl (Nat.le_of_ble_eq_true rfl) (sp_M_lays (j := 11) (by decide) ⟨by omega, by show _ ≤ ((9 : Nat) : Int); omega⟩ (by decide) (GCr.n ?_))
        (try simp only [mset_app, mset_mset, fup_app, aup_app, fup_fup, aup_aup, false_and, and_false, true_and, and_true, and_self, reduceIte, Nat.reduceEqDiff, reduceCtorEq, fup_10, fs_4_5, fs_4_6, fs_5_6])
        refine g_iconst F a_M_then_40 ?_
        refine g_istore (ls' := [_, _, _, _, _]) F a_M_then_41 rfl rfl rfl ?_
        have hS1 : okM D ((mset m 10 0 ((m 10 0).1, aup (m 10 0).2 11 (lyI (shM (m 10 0)) ((m 10 0).2 11) 0))) 10 0) := by rw [mset_same]; exact okS_M (by rw [sh_11]; exact okM_S hS)
        have k1 := k (by assumption) (by assumption) (by assumption) (lyI (shM (m 10 0)) ((m 10 0).2 11) 0)
        have hz := lp_M_then (κ := κ) (Q := Q) (m := (mset m 10 0 ((m 10 0).1, aup (m 10 0).2 11 (lyI (shM (m 10 0)) ((m 10 0).2 11) 0)))) hS1 hD60 (hset6 (by assumption)) (by rw [mset_same]; assumption) (by assumption) (by rw [mset_same, mset_mset, sh_11]; exact qw k1 back) F 62 0 0 (by omega) (by omega) rfl
        rw [show saN (shM ((mset m 10 0 ((m 10 0).1, aup (m 10 0).2 11 (lyI (shM (m 10 0)) ((m 10 0).2 11) 0))) 10 0)) x y 0 = shM ((mset m 10 0 ((m 10 0).1, aup (m 10 0).2 11 (lyI (shM (m 10 0)) ((m 10 0).2 11) 0))) 10 0) from rfl, stM_self, mset_self] at hz
        exact GC.loc2 hz ⟨rfl, rfl, rfl, rfl, rfl, trivial⟩
      · refine g_ifne0 F a_M_then_23 ?_
        refine g_aload_n F a_M_then_26 rfl ?_
        refine g_v0 F a_M_then_27 vc_M_245 mk_M_thousand ob_10 ck_10.1 rfl rfl (by decide) ⟨Nat.le_refl _, Nat.le_refl _⟩ rfl (Nat.le_of_ble_eq_true rfl) (sp_M_thousand  (GCr.v ?_))
        refine g_iret F a_M_then_30 rfl ⟨Nat.le_refl _, Nat.le_refl _⟩ ?_
        first | exact kb (fun q => absurd q.1 (by assumption)) | exact kb (fun q => absurd q.2.1 (by assumption)) | exact kb (fun q => absurd q.2.2 (by assumption))
    · refine g_ifeq0 F a_M_then_13 ?_
      refine g_aload_n F a_M_then_26 rfl ?_
      refine g_v0 F a_M_then_27 vc_M_245 mk_M_thousand ob_10 ck_10.1 rfl rfl (by decide) ⟨Nat.le_refl _, Nat.le_refl _⟩ rfl (Nat.le_of_ble_eq_true rfl) (sp_M_thousand  (GCr.v ?_))
      refine g_iret F a_M_then_30 rfl ⟨Nat.le_refl _, Nat.le_refl _⟩ ?_
      first | exact kb (fun q => absurd q.1 (by assumption)) | exact kb (fun q => absurd q.2.1 (by assumption)) | exact kb (fun q => absurd q.2.2 (by assumption))
  · refine g_ifeq0 F a_M_then_5 ?_
    refine g_aload_n F a_M_then_26 rfl ?_
    refine g_v0 F a_M_then_27 vc_M_245 mk_M_thousand ob_10 ck_10.1 rfl rfl (by decide) ⟨Nat.le_refl _, Nat.le_refl _⟩ rfl (Nat.le_of_ble_eq_true rfl) (sp_M_thousand  (GCr.v ?_))
    refine g_iret F a_M_then_30 rfl ⟨Nat.le_refl _, Nat.le_refl _⟩ ?_
    first | exact kb (fun q => absurd q.1 (by assumption)) | exact kb (fun q => absurd q.2.1 (by assumption)) | exact kb (fun q => absurd q.2.2 (by assumption))
set_option maxHeartbeats 2000000 in
theorem lp_M_when {κ : Kx} {μ : MX} {Q : Option Value → (Heap → Prop) → Prop} {m : Mem} {D : Int} {x y : Int} (hS : okM D (m 10 0)) (hD : D + 61 ≤ 100000) (hx : 0 ≤ x ∧ x < (m 10 0).1 1) (hy : 1 ≤ y ∧ y ≤ 90) (k : ∀ S : Rc, Q (some (vi (whN (shM (m 10 0)) x y 61))) (World κ (mset m 10 0 (stM (m 10 0) (tkS ((m 10 0).2 11) 0 S))))) (F : Fx κ G_M_when 3 0 0 μ) :
    ∀ (n : Nat) (j : Nat) (v : Int), 61 < j + n → j ≤ 61 → v = (j : Int) → whN (shM (m 10 0)) x y j = -1 →  GC κ μ (ZZ κ μ 0 0 Q) 0 0 34 [some (.ref (ad κ 10 0)), some (vi x), some (vi y), some (vi v)] [] (World κ (mset m 10 0 (stM (m 10 0) (saN (shM (m 10 0)) 0 (-1) j)))) := by
  intro n
  induction n with
  | zero =>
    intro j v hn hj hv hw
    exact absurd hn (by omega)
  | succ n ih =>
    intro j v hn hj hv hw
    have hm6 := hS.2.2.2.2.1
    have hSj : okM (D + j) (stM (m 10 0) (saN (shM (m 10 0)) 0 (-1) j)) := okM_st (saN_sam _ _ _ j) (saN_ok (okM_S hS) 0 (-1) j)
    have haj := ang_r (saN_ok (okM_S hS) 0 (-1) j) (x := x) (by omega)
    refine g_iload_n F a_M_when_34 rfl ?_
    refine g_bipush F a_M_when_35 (by decide) ?_
    refine g_icmp_gt F (by omega) (by omega) a_M_when_37 (fun h37 => ?_) (fun h37 => ?_)
    · refine g_aload_n F a_M_when_61 rfl ?_
      refine g_aload_n F a_M_when_62 rfl ?_
      refine g_get_10_24 F a_M_when_63 fl_M_43 ?_
      (try simp only [mset_app, mset_mset, fup_app, aup_app, fup_fup, aup_aup, false_and, and_false, true_and, and_true, and_self, reduceIte, Nat.reduceEqDiff, reduceCtorEq, fup_10, fs_4_5, fs_4_6, fs_5_6])
      refine g_iconst F a_M_when_66 ?_
      refine g_v2 F a_M_when_67 vc_M_239 mk_M_takes ob_10 ck_10.1 rfl rfl (by decide) ⟨Nat.le_refl _, Nat.le_refl _⟩ rfl (Nat.le_of_ble_eq_true rfl) (sp_M_takes (j := 11) (by decide) ⟨by omega, by show _ ≤ ((9 : Nat) : Int); omega⟩ (by decide) (GCr.n ?_))
      (try simp only [mset_app, mset_mset, fup_app, aup_app, fup_fup, aup_aup, false_and, and_false, true_and, and_true, and_self, reduceIte, Nat.reduceEqDiff, reduceCtorEq, fup_10, fs_4_5, fs_4_6, fs_5_6])
      refine g_iload_n F a_M_when_70 rfl ?_
      refine g_bipush F a_M_when_71 (by decide) ?_
      refine g_icmp_gt F (by omega) (by omega) a_M_when_73 (fun h73 => ?_) (fun h73 => ?_)
      · refine g_iconst F a_M_when_80 ?_
        refine g_iret F a_M_when_81 rfl ⟨Nat.le_refl _, Nat.le_refl _⟩ ?_
        exact qw (qv (k _) (by rw [show 61 = j by omega, hw])) (congrArg (fun X => World κ (mset m 10 0 X)) (mea2 (f := fun S => tkS ((m 10 0).2 11) 0 S) (saN_sam _ _ _ j)))
      · refine g_iload_n F a_M_when_76 rfl ?_
        refine g_goto F a_M_when_77 ?_
        refine g_iret F a_M_when_81 rfl ⟨Nat.le_refl _, Nat.le_refl _⟩ ?_
        exfalso; omega
    · refine g_aload_n F a_M_when_40 rfl ?_
      refine g_iload_n F a_M_when_41 rfl ?_
      refine g_v1 F a_M_when_42 vc_M_200 mk_M_angleOf ob_10 ck_10.1 rfl rfl (by decide) ⟨Nat.le_refl _, Nat.le_refl _⟩ rfl (Nat.le_of_ble_eq_true rfl) (sp_M_angleOf (D := D + j) (by exact hSj) (by omega) (by omega) (GCr.v ?_))
      (try simp only [mset_app, mset_mset, fup_app, aup_app, fup_fup, aup_aup, false_and, and_false, true_and, and_true, and_self, reduceIte, Nat.reduceEqDiff, reduceCtorEq, fup_10, fs_4_5, fs_4_6, fs_5_6])
      rw [shM_st (saN_sam _ _ _ j)]
      refine g_iload_n F a_M_when_45 rfl ?_
      refine g_icmp_ge F (by omega) (by omega) a_M_when_46 (fun h46 => ?_) (fun h46 => ?_)
      · refine g_aload_n F a_M_when_61 rfl ?_
        refine g_aload_n F a_M_when_62 rfl ?_
        refine g_get_10_24 F a_M_when_63 fl_M_43 ?_
        (try simp only [mset_app, mset_mset, fup_app, aup_app, fup_fup, aup_aup, false_and, and_false, true_and, and_true, and_self, reduceIte, Nat.reduceEqDiff, reduceCtorEq, fup_10, fs_4_5, fs_4_6, fs_5_6])
        refine g_iconst F a_M_when_66 ?_
        refine g_v2 F a_M_when_67 vc_M_239 mk_M_takes ob_10 ck_10.1 rfl rfl (by decide) ⟨Nat.le_refl _, Nat.le_refl _⟩ rfl (Nat.le_of_ble_eq_true rfl) (sp_M_takes (j := 11) (by decide) ⟨by omega, by show _ ≤ ((9 : Nat) : Int); omega⟩ (by decide) (GCr.n ?_))
        (try simp only [mset_app, mset_mset, fup_app, aup_app, fup_fup, aup_aup, false_and, and_false, true_and, and_true, and_self, reduceIte, Nat.reduceEqDiff, reduceCtorEq, fup_10, fs_4_5, fs_4_6, fs_5_6])
        refine g_iload_n F a_M_when_70 rfl ?_
        refine g_bipush F a_M_when_71 (by decide) ?_
        refine g_icmp_gt F (by omega) (by omega) a_M_when_73 (fun h73 => ?_) (fun h73 => ?_)
        · refine g_iconst F a_M_when_80 ?_
          refine g_iret F a_M_when_81 rfl ⟨Nat.le_refl _, Nat.le_refl _⟩ ?_
          exfalso; omega
        · refine g_iload_n F a_M_when_76 rfl ?_
          refine g_goto F a_M_when_77 ?_
          refine g_iret F a_M_when_81 rfl ⟨Nat.le_refl _, Nat.le_refl _⟩ ?_
          obtain ⟨d, hd⟩ : ∃ d : Nat, 61 = (j + 1) + d := ⟨61 - (j + 1), by omega⟩
          have e1 : whN (shM (m 10 0)) x y (j + 1) = j := by
            show (if whN (shM (m 10 0)) x y j = -1 ∧ _ then (j : Int) else whN (shM (m 10 0)) x y j) = j
            rw [if_pos ⟨hw, by omega⟩]
          exact qw (qv (k _) (by rw [hd, whN_done (by omega) d, e1, hv])) (congrArg (fun X => World κ (mset m 10 0 X)) (mea2 (f := fun S => tkS ((m 10 0).2 11) 0 S) (saN_sam _ _ _ j)))
      · refine g_aload_n F a_M_when_49 rfl ?_
        refine g_iconst F a_M_when_50 ?_
        refine g_iconst F a_M_when_51 ?_
        refine g_v2 F a_M_when_52 vc_M_218 mk_M_goesOn ob_10 ck_10.1 rfl rfl (by decide) ⟨Nat.le_refl _, Nat.le_refl _⟩ rfl (Nat.le_of_ble_eq_true rfl) (sp_M_goesOn (D := D + j) (by exact hSj) (by omega) (by decide) (by decide) (GCr.n ?_))
        (try simp only [mset_app, mset_mset, fup_app, aup_app, fup_fup, aup_aup, false_and, and_false, true_and, and_true, and_self, reduceIte, Nat.reduceEqDiff, reduceCtorEq, fup_10, fs_4_5, fs_4_6, fs_5_6])
        rw [mea2 (f := fun S => sailB S 0 0) (saN_sam _ _ _ j), sail_0 _ (-1)]
        refine g_iinc (ls' := [_, _, _, _]) F a_M_when_55 rfl rfl rfl ?_
        refine g_goto F a_M_when_58 ?_
        refine GC.loc2 (ih (j + 1) _ (by omega) (by omega) (by omega) ?_) ⟨rfl, rfl, rfl, rfl, trivial⟩
        show (if whN (shM (m 10 0)) x y j = -1 ∧ _ then (j : Int) else whN (shM (m 10 0)) x y j) = -1
        rw [if_neg (fun q => absurd q.2 (by omega)), hw]
set_option maxHeartbeats 1000000 in
theorem sp_M_when {κ : Kx} {Q : Option Value → (Heap → Prop) → Prop} {m : Mem} {D : Int} (hS : okM D (m 10 0)) (hD60 : D + 61 ≤ 100000) {x y : Int} (hx : R32 x) (hy : R32 y) (kb : ¬ ((0 ≤ x ∧ x < (m 10 0).1 1) ∧ 1 ≤ y ∧ y ≤ 90) → Q (some (vi (-2))) (World κ (bmM m 0))) (k : (0 ≤ x ∧ x < (m 10 0).1 1) → (1 ≤ y ∧ y ≤ 90) → ∀ g : Int → Int, Q (some (vi (whN (shM (m 10 0)) x y 61))) (World κ (mset m 10 0 ((m 10 0).1, aup (m 10 0).2 11 g)))) : GG κ G_M_when 3 0 0 [.ref (ad κ 10 0), vi x, vi y] (World κ m) Q := by
  have hD : D ≤ 100000 := by omega
  obtain ⟨s0, s1, s2, s3, s4, s5, hfg, hkd, hsh, hgl⟩ := id hS
  refine GG.intro (ls := [some _, some _, some _, none]) (Nat.le_of_ble_eq_true rfl) rfl (fun μ F => ?_)
  refine g_aload_n F a_M_when_0 rfl ?_
  refine g_iload_n F a_M_when_1 rfl ?_
  refine g_v1 F a_M_when_2 vc_M_236 mk_M_isMan ob_10 ck_10.1 rfl rfl (by decide) ⟨Nat.le_refl _, Nat.le_refl _⟩ rfl (Nat.le_of_ble_eq_true rfl) (sp_M_isMan hS hD (by omega) (fun c2 => GCr.v ?_) (fun c2 => GCr.v ?_))
  · refine g_ifeq1 F a_M_when_5 ?_
    refine g_iload_n F a_M_when_8 rfl ?_
    refine g_iconst F a_M_when_9 ?_
    refine g_bipush F a_M_when_10 (by decide) ?_
    refine g_s3 F a_M_when_12 sc_M_91 mk_M_in rfl (by decide) ⟨Nat.le_refl _, Nat.le_refl _⟩ rfl (Nat.le_of_ble_eq_true rfl) (sp_M_in (by omega) (by omega) (by omega) (fun c12 => GCr.v ?_) (fun c12 => GCr.v ?_))
    · refine g_ifne1 F a_M_when_15 ?_
      refine g_aload_n F a_M_when_23 rfl ?_
      refine g_aload_n F a_M_when_24 rfl ?_
      refine g_get_10_24 F a_M_when_25 fl_M_43 ?_
      refine g_iconst F a_M_when_28 ?_
      refine g_v2 F a_M_when_29 vc_M_221 mk_M_lays ob_10 ck_10.1 rfl rfl (by decide) ⟨Nat.le_refl _, Nat.le_refl _⟩ rfl (Nat.le_of_ble_eq_true rfl) (sp_M_lays (j := 11) (by decide) ⟨by omega, by show _ ≤ ((9 : Nat) : Int); omega⟩ (by decide) (GCr.n ?_))
      (try simp only [mset_app, mset_mset, fup_app, aup_app, fup_fup, aup_aup, false_and, and_false, true_and, and_true, and_self, reduceIte, Nat.reduceEqDiff, reduceCtorEq, fup_10, fs_4_5, fs_4_6, fs_5_6])
      refine g_iconst F a_M_when_32 ?_
      refine g_istore_n (ls' := [_, _, _, _]) F a_M_when_33 rfl rfl rfl ?_
      have hS1 : okM D ((mset m 10 0 ((m 10 0).1, aup (m 10 0).2 11 (lyI (shM (m 10 0)) ((m 10 0).2 11) 0))) 10 0) := by rw [mset_same]; exact okS_M (by rw [sh_11]; exact okM_S hS)
      have k1 := k (by assumption) (by assumption) (lyI (shM (m 10 0)) ((m 10 0).2 11) 0)
      have hz := lp_M_when (κ := κ) (Q := Q) (m := (mset m 10 0 ((m 10 0).1, aup (m 10 0).2 11 (lyI (shM (m 10 0)) ((m 10 0).2 11) 0)))) hS1 hD60 (by rw [mset_same]; assumption) (by assumption) (by intro S9; rw [mset_same, mset_mset, sh_11]; exact qw k1 back) F 62 0 0 (by omega) (by omega) rfl rfl
      rw [show saN (shM ((mset m 10 0 ((m 10 0).1, aup (m 10 0).2 11 (lyI (shM (m 10 0)) ((m 10 0).2 11) 0))) 10 0)) 0 (-1) 0 = shM ((mset m 10 0 ((m 10 0).1, aup (m 10 0).2 11 (lyI (shM (m 10 0)) ((m 10 0).2 11) 0))) 10 0) from rfl, stM_self, mset_self] at hz
      exact GC.loc2 hz ⟨rfl, rfl, rfl, rfl, trivial⟩
    · refine g_ifne0 F a_M_when_15 ?_
      refine g_aload_n F a_M_when_18 rfl ?_
      refine g_v0 F a_M_when_19 vc_M_95 mk_M_bad ob_10 ck_10.1 rfl rfl (by decide) ⟨Nat.le_refl _, Nat.le_refl _⟩ rfl (Nat.le_of_ble_eq_true rfl) (sp_M_bad  (GCr.v ?_))
      refine g_iret F a_M_when_22 rfl ⟨Nat.le_refl _, Nat.le_refl _⟩ ?_
      exact kb (by omega)
  · refine g_ifeq0 F a_M_when_5 ?_
    refine g_aload_n F a_M_when_18 rfl ?_
    refine g_v0 F a_M_when_19 vc_M_95 mk_M_bad ob_10 ck_10.1 rfl rfl (by decide) ⟨Nat.le_refl _, Nat.le_refl _⟩ rfl (Nat.le_of_ble_eq_true rfl) (sp_M_bad  (GCr.v ?_))
    refine g_iret F a_M_when_22 rfl ⟨Nat.le_refl _, Nat.le_refl _⟩ ?_
    exact kb (by omega)
set_option maxHeartbeats 2000000 in
theorem lp_M_voy {κ : Kx} {μ : MX} {Q : Option Value → (Heap → Prop) → Prop} {m : Mem} {D : Int} {s t : Int} (hS : okM D (m 10 0)) (hD : D + 61 ≤ 100000) (hs : 0 ≤ s ∧ s ≤ 999999) (ht : 0 ≤ t ∧ t ≤ 60) (k : Q (some (vi (vyZ (shM (m 10 0)) s t.toNat))) (World κ (mset m 10 0 (stM (m 10 0) (tkS ((m 10 0).2 11) 0 (vyS (shM (m 10 0)) s t.toNat)))))) (F : Fx κ G_M_voyages 6 0 0 μ) :
    ∀ (n : Nat) (j : Nat) (x e y : Int), t < j + n → (j : Int) ≤ t → y = j → x = vyX s j → e = vyZ (shM (m 10 0)) s j →  GC κ μ (ZZ κ μ 0 0 Q) 0 0 44 [some (.ref (ad κ 10 0)), some (vi s), some (vi t), some (vl x), none, some (vi e), some (vi y), none, none] [] (World κ (mset m 10 0 (stM (m 10 0) (vyS (shM (m 10 0)) s j)))) := by
  intro n
  induction n with
  | zero =>
    intro j x e y hn hj hy hxx he
    exact absurd hn (by omega)
  | succ n ih =>
    intro j x e y hn hj hy hxx he
    subst hxx
    have hSj : okM (D + j) (stM (m 10 0) (vyS (shM (m 10 0)) s j)) := okM_st (vyS_sam _ _ j) (vyS_ok (okM_S hS) s j)
    have hxr : 0 ≤ vyX s j ∧ vyX s j ≤ 2147483647 := vyX_r hs j
    have h4 : (vyS (shM (m 10 0)) s j).1 4 = (m 10 0).1 1 := (vyS_sam (shM (m 10 0)) s j).1 4 (by decide) (by decide) (by decide)
    have h5 : (vyS (shM (m 10 0)) s j).1 5 = (m 10 0).1 2 := (vyS_sam (shM (m 10 0)) s j).1 5 (by decide) (by decide) (by decide)
    have hq1 : ∀ z : Int, 0 ≤ z ∧ z < (m 10 0).1 1 → 0 ≤ z ∧ z < (vyS (shM (m 10 0)) s j).1 4 := fun z h => by rw [h4]; exact h
    have hq2 : ∀ z : Int, 0 ≤ z ∧ z < (m 10 0).1 2 → 0 ≤ z ∧ z < (vyS (shM (m 10 0)) s j).1 5 := fun z h => by rw [h5]; exact h
    have hr1 : ∀ z : Int, 0 ≤ z ∧ z < (vyS (shM (m 10 0)) s j).1 4 → 0 ≤ z ∧ z < (m 10 0).1 1 := fun z h => by rw [h4] at h; exact h
    have hr2 : ∀ z : Int, 0 ≤ z ∧ z < (vyS (shM (m 10 0)) s j).1 5 → 0 ≤ z ∧ z < (m 10 0).1 2 := fun z h => by rw [h5] at h; exact h
    refine g_iload F a_M_voyages_44 rfl ?_
    refine g_iload_n F a_M_voyages_46 rfl ?_
    refine g_icmp_ge F (by omega) (by omega) a_M_voyages_47 (fun h47 => ?_) (fun h47 => ?_)
    · refine g_aload_n F a_M_voyages_143 rfl ?_
      refine g_aload_n F a_M_voyages_144 rfl ?_
      refine g_get_10_24 F a_M_voyages_145 fl_M_43 ?_
      (try simp only [mset_app, mset_mset, fup_app, aup_app, fup_fup, aup_aup, false_and, and_false, true_and, and_true, and_self, reduceIte, Nat.reduceEqDiff, reduceCtorEq, fup_10, fs_4_5, fs_4_6, fs_5_6])
      refine g_iconst F a_M_voyages_148 ?_
      refine g_v2 F a_M_voyages_149 vc_M_239 mk_M_takes ob_10 ck_10.1 rfl rfl (by decide) ⟨Nat.le_refl _, Nat.le_refl _⟩ rfl (Nat.le_of_ble_eq_true rfl) (sp_M_takes (j := 11) (by decide) ⟨by omega, by show _ ≤ ((9 : Nat) : Int); omega⟩ (by decide) (GCr.n ?_))
      (try simp only [mset_app, mset_mset, fup_app, aup_app, fup_fup, aup_aup, false_and, and_false, true_and, and_true, and_self, reduceIte, Nat.reduceEqDiff, reduceCtorEq, fup_10, fs_4_5, fs_4_6, fs_5_6])
      refine g_iload F a_M_voyages_152 rfl ?_
      refine g_iret F a_M_voyages_154 rfl ⟨Nat.le_refl _, Nat.le_refl _⟩ ?_
      obtain rfl : j = t.toNat := by omega
      exact qw (qv k he) (congrArg (fun X => World κ (mset m 10 0 X)) (mea2 (f := fun S => tkS ((m 10 0).2 11) 0 S) (vyS_sam _ _ _)))
    · refine g_lload_n F a_M_voyages_50 rfl ?_
      refine g_ldc2 F a_M_voyages_51 kl_M_299 ?_
      refine g_lmul F a_M_voyages_54 ?_
      refine g_ldc2 F a_M_voyages_55 kl_M_301 ?_
      refine g_ladd F a_M_voyages_58 ?_
      refine g_ldc2 F a_M_voyages_59 kl_M_303 ?_
      refine g_lrem F (by omega) (by omega) a_M_voyages_62 ?_
      refine g_lstore_n (ls' := [_, _, _, _, _, _, _, _, _]) F a_M_voyages_63 rfl rfl rfl ?_
      refine g_lload_n F a_M_voyages_64 rfl ?_
      refine g_ldc2 F a_M_voyages_65 kl_M_305 ?_
      refine g_ldiv F (by omega) (by omega) a_M_voyages_68 ?_
      refine g_ldc2 F a_M_voyages_69 kl_M_307 ?_
      refine g_lrem F (by omega) (by omega) a_M_voyages_72 ?_
      refine g_l2i F a_M_voyages_73 ?_
      refine g_istore (ls' := [_, _, _, _, _, _, _, _, _]) F a_M_voyages_74 rfl rfl rfl ?_
      refine g_lload_n F a_M_voyages_76 rfl ?_
      refine g_ldc2 F a_M_voyages_77 kl_M_309 ?_
      refine g_ldiv F (by omega) (by omega) a_M_voyages_80 ?_
      refine g_ldc2 F a_M_voyages_81 kl_M_311 ?_
      refine g_lrem F (by omega) (by omega) a_M_voyages_84 ?_
      refine g_l2i F a_M_voyages_85 ?_
      refine g_istore (ls' := [_, _, _, _, _, _, _, _, _]) F a_M_voyages_86 rfl rfl rfl ?_
      refine g_aload_n F a_M_voyages_88 rfl ?_
      refine g_iload F a_M_voyages_89 rfl ?_
      refine g_v1 F a_M_voyages_91 vc_M_236 mk_M_isMan ob_10 ck_10.1 rfl rfl (by decide) ⟨Nat.le_refl _, Nat.le_refl _⟩ rfl (Nat.le_of_ble_eq_true rfl) (sp_M_isMan (D := D + j) (by exact hSj) (by omega) (by omega) (fun c91 => GCr.v ?_) (fun c91 => GCr.v ?_))
      · refine g_ifeq1 F a_M_voyages_94 ?_
        refine g_aload_n F a_M_voyages_97 rfl ?_
        refine g_iload F a_M_voyages_98 rfl ?_
        refine g_v1 F a_M_voyages_100 vc_M_227 mk_M_isReader ob_10 ck_10.1 rfl rfl (by decide) ⟨Nat.le_refl _, Nat.le_refl _⟩ rfl (Nat.le_of_ble_eq_true rfl) (sp_M_isReader (D := D + j) (by exact hSj) (by omega) (by omega) (fun c100 => GCr.v ?_) (fun c100 => GCr.v ?_))
        · refine g_ifeq1 F a_M_voyages_103 ?_
          refine g_aload_n F a_M_voyages_106 rfl ?_
          refine g_iconst F a_M_voyages_107 ?_
          refine g_iload F a_M_voyages_108 rfl ?_
          refine g_ishl F a_M_voyages_110 ?_
          refine g_iload F a_M_voyages_111 rfl ?_
          refine g_v2 F a_M_voyages_113 vc_M_155 mk_M_measures ob_10 ck_10.1 rfl rfl (by decide) ⟨Nat.le_refl _, Nat.le_refl _⟩ rfl (Nat.le_of_ble_eq_true rfl) (sp_M_measures (D := D + j) (by exact hSj) (by omega) (shl6 (by omega)) (by exact c100) (GCr.n ?_))
          (try simp only [mset_app, mset_mset, fup_app, aup_app, fup_fup, aup_aup, false_and, and_false, true_and, and_true, and_self, reduceIte, Nat.reduceEqDiff, reduceCtorEq, fup_10, fs_4_5, fs_4_6, fs_5_6])
          rw [mea2 (f := fun S => sailS S (bShl 1 (((vyX s j * 1103515245 + 12345) % 2147483648) / 65536 % 6)) (((vyX s j * 1103515245 + 12345) % 2147483648) / 1048576 % 3)) (vyS_sam _ _ j)]
          have eS : vyS (shM (m 10 0)) s (j + 1) = sailS (vyS (shM (m 10 0)) s j) (bShl 1 (((vyX s j * 1103515245 + 12345) % 2147483648) / 65536 % 6)) (((vyX s j * 1103515245 + 12345) % 2147483648) / 1048576 % 3) := congrArg (fun t => sailS (vyS (shM (m 10 0)) s j) t (((vyX s j * 1103515245 + 12345) % 2147483648) / 1048576 % 3)) (if_pos (show (0 ≤ ((vyX s j * 1103515245 + 12345) % 2147483648) / 65536 % 6 ∧ ((vyX s j * 1103515245 + 12345) % 2147483648) / 65536 % 6 < (vyS (shM (m 10 0)) s j).1 4) ∧ 0 ≤ ((vyX s j * 1103515245 + 12345) % 2147483648) / 1048576 % 3 ∧ ((vyX s j * 1103515245 + 12345) % 2147483648) / 1048576 % 3 < (vyS (shM (m 10 0)) s j).1 5 from ⟨hq1 _ c91, hq2 _ c100⟩))
          rw [← eS]
          have hSk : okM (D + j + 1) (stM (m 10 0) (vyS (shM (m 10 0)) s (j + 1))) := okM_st (vyS_sam _ _ _) ((vyS_ok (okM_S hS) s (j + 1)).day (by have := (vyS_ok (okM_S hS) s (j + 1)).2.2.2.1; omega))
          refine g_goto F a_M_voyages_116 ?_
          refine g_iload F a_M_voyages_125 rfl ?_
          refine g_aload_n F a_M_voyages_127 rfl ?_
          refine g_v0 F a_M_voyages_128 vc_M_248 mk_M_offNow ob_10 ck_10.1 rfl rfl (by decide) ⟨Nat.le_refl _, Nat.le_refl _⟩ rfl (Nat.le_of_ble_eq_true rfl) (sp_M_offNow (D := D + j + 1) (by exact hSk) (by omega) (GCr.v ?_))
          (try simp only [mset_app, mset_mset, fup_app, aup_app, fup_fup, aup_aup, false_and, and_false, true_and, and_true, and_self, reduceIte, Nat.reduceEqDiff, reduceCtorEq, fup_10, fs_4_5, fs_4_6, fs_5_6])
          rw [shM_st (vyS_sam _ _ (j + 1))]
          refine g_s1 F a_M_voyages_131 sc_M_252 mk_M_far rfl (by decide) ⟨Nat.le_refl _, Nat.le_refl _⟩ rfl (Nat.le_of_ble_eq_true rfl) (sp_M_far (by have hz9 := offS_r (vyS (shM (m 10 0)) s (j + 1)); omega) (GCr.v ?_))
          (try simp only [mset_app, mset_mset, fup_app, aup_app, fup_fup, aup_aup, false_and, and_false, true_and, and_true, and_self, reduceIte, Nat.reduceEqDiff, reduceCtorEq, fup_10, fs_4_5, fs_4_6, fs_5_6])
          refine g_iadd F a_M_voyages_134 ?_
          refine g_istore (ls' := [_, _, _, _, _, _, _, _, _]) F a_M_voyages_135 rfl rfl rfl ?_
          refine g_iinc (ls' := [_, _, _, _, _, _, _, _, _]) F a_M_voyages_137 rfl rfl rfl ?_
          refine g_goto F a_M_voyages_140 ?_
          exact GC.loc2 (ih (j + 1) _ _ _ (by omega) (by omega) (by omega) rfl (by rw [he]; rfl)) ⟨rfl, rfl, rfl, rfl, rfl, rfl, trivial⟩
        · refine g_ifeq0 F a_M_voyages_103 ?_
          refine g_aload_n F a_M_voyages_119 rfl ?_
          refine g_iconst F a_M_voyages_120 ?_
          refine g_iconst F a_M_voyages_121 ?_
          refine g_v2 F a_M_voyages_122 vc_M_218 mk_M_goesOn ob_10 ck_10.1 rfl rfl (by decide) ⟨Nat.le_refl _, Nat.le_refl _⟩ rfl (Nat.le_of_ble_eq_true rfl) (sp_M_goesOn (D := D + j) (by exact hSj) (by omega) (by decide) (by decide) (GCr.n ?_))
          (try simp only [mset_app, mset_mset, fup_app, aup_app, fup_fup, aup_aup, false_and, and_false, true_and, and_true, and_self, reduceIte, Nat.reduceEqDiff, reduceCtorEq, fup_10, fs_4_5, fs_4_6, fs_5_6])
          rw [mea2 (f := fun S => sailB S 0 0) (vyS_sam _ _ j), sail_0 _ (((vyX s j * 1103515245 + 12345) % 2147483648) / 1048576 % 3)]
          have eS : vyS (shM (m 10 0)) s (j + 1) = sailS (vyS (shM (m 10 0)) s j) (0) (((vyX s j * 1103515245 + 12345) % 2147483648) / 1048576 % 3) := congrArg (fun t => sailS (vyS (shM (m 10 0)) s j) t (((vyX s j * 1103515245 + 12345) % 2147483648) / 1048576 % 3)) (if_neg (show ¬ ((0 ≤ ((vyX s j * 1103515245 + 12345) % 2147483648) / 65536 % 6 ∧ ((vyX s j * 1103515245 + 12345) % 2147483648) / 65536 % 6 < (vyS (shM (m 10 0)) s j).1 4) ∧ 0 ≤ ((vyX s j * 1103515245 + 12345) % 2147483648) / 1048576 % 3 ∧ ((vyX s j * 1103515245 + 12345) % 2147483648) / 1048576 % 3 < (vyS (shM (m 10 0)) s j).1 5) from fun q => c100 (hr2 _ q.2)))
          rw [← eS]
          have hSk : okM (D + j + 1) (stM (m 10 0) (vyS (shM (m 10 0)) s (j + 1))) := okM_st (vyS_sam _ _ _) ((vyS_ok (okM_S hS) s (j + 1)).day (by have := (vyS_ok (okM_S hS) s (j + 1)).2.2.2.1; omega))
          refine g_iload F a_M_voyages_125 rfl ?_
          refine g_aload_n F a_M_voyages_127 rfl ?_
          refine g_v0 F a_M_voyages_128 vc_M_248 mk_M_offNow ob_10 ck_10.1 rfl rfl (by decide) ⟨Nat.le_refl _, Nat.le_refl _⟩ rfl (Nat.le_of_ble_eq_true rfl) (sp_M_offNow (D := D + j + 1) (by exact hSk) (by omega) (GCr.v ?_))
          (try simp only [mset_app, mset_mset, fup_app, aup_app, fup_fup, aup_aup, false_and, and_false, true_and, and_true, and_self, reduceIte, Nat.reduceEqDiff, reduceCtorEq, fup_10, fs_4_5, fs_4_6, fs_5_6])
          rw [shM_st (vyS_sam _ _ (j + 1))]
          refine g_s1 F a_M_voyages_131 sc_M_252 mk_M_far rfl (by decide) ⟨Nat.le_refl _, Nat.le_refl _⟩ rfl (Nat.le_of_ble_eq_true rfl) (sp_M_far (by have hz9 := offS_r (vyS (shM (m 10 0)) s (j + 1)); omega) (GCr.v ?_))
          (try simp only [mset_app, mset_mset, fup_app, aup_app, fup_fup, aup_aup, false_and, and_false, true_and, and_true, and_self, reduceIte, Nat.reduceEqDiff, reduceCtorEq, fup_10, fs_4_5, fs_4_6, fs_5_6])
          refine g_iadd F a_M_voyages_134 ?_
          refine g_istore (ls' := [_, _, _, _, _, _, _, _, _]) F a_M_voyages_135 rfl rfl rfl ?_
          refine g_iinc (ls' := [_, _, _, _, _, _, _, _, _]) F a_M_voyages_137 rfl rfl rfl ?_
          refine g_goto F a_M_voyages_140 ?_
          exact GC.loc2 (ih (j + 1) _ _ _ (by omega) (by omega) (by omega) rfl (by rw [he]; rfl)) ⟨rfl, rfl, rfl, rfl, rfl, rfl, trivial⟩
      · refine g_ifeq0 F a_M_voyages_94 ?_
        refine g_aload_n F a_M_voyages_119 rfl ?_
        refine g_iconst F a_M_voyages_120 ?_
        refine g_iconst F a_M_voyages_121 ?_
        refine g_v2 F a_M_voyages_122 vc_M_218 mk_M_goesOn ob_10 ck_10.1 rfl rfl (by decide) ⟨Nat.le_refl _, Nat.le_refl _⟩ rfl (Nat.le_of_ble_eq_true rfl) (sp_M_goesOn (D := D + j) (by exact hSj) (by omega) (by decide) (by decide) (GCr.n ?_))
        (try simp only [mset_app, mset_mset, fup_app, aup_app, fup_fup, aup_aup, false_and, and_false, true_and, and_true, and_self, reduceIte, Nat.reduceEqDiff, reduceCtorEq, fup_10, fs_4_5, fs_4_6, fs_5_6])
        rw [mea2 (f := fun S => sailB S 0 0) (vyS_sam _ _ j), sail_0 _ (((vyX s j * 1103515245 + 12345) % 2147483648) / 1048576 % 3)]
        have eS : vyS (shM (m 10 0)) s (j + 1) = sailS (vyS (shM (m 10 0)) s j) (0) (((vyX s j * 1103515245 + 12345) % 2147483648) / 1048576 % 3) := congrArg (fun t => sailS (vyS (shM (m 10 0)) s j) t (((vyX s j * 1103515245 + 12345) % 2147483648) / 1048576 % 3)) (if_neg (show ¬ ((0 ≤ ((vyX s j * 1103515245 + 12345) % 2147483648) / 65536 % 6 ∧ ((vyX s j * 1103515245 + 12345) % 2147483648) / 65536 % 6 < (vyS (shM (m 10 0)) s j).1 4) ∧ 0 ≤ ((vyX s j * 1103515245 + 12345) % 2147483648) / 1048576 % 3 ∧ ((vyX s j * 1103515245 + 12345) % 2147483648) / 1048576 % 3 < (vyS (shM (m 10 0)) s j).1 5) from fun q => c91 (hr1 _ q.1)))
        rw [← eS]
        have hSk : okM (D + j + 1) (stM (m 10 0) (vyS (shM (m 10 0)) s (j + 1))) := okM_st (vyS_sam _ _ _) ((vyS_ok (okM_S hS) s (j + 1)).day (by have := (vyS_ok (okM_S hS) s (j + 1)).2.2.2.1; omega))
        refine g_iload F a_M_voyages_125 rfl ?_
        refine g_aload_n F a_M_voyages_127 rfl ?_
        refine g_v0 F a_M_voyages_128 vc_M_248 mk_M_offNow ob_10 ck_10.1 rfl rfl (by decide) ⟨Nat.le_refl _, Nat.le_refl _⟩ rfl (Nat.le_of_ble_eq_true rfl) (sp_M_offNow (D := D + j + 1) (by exact hSk) (by omega) (GCr.v ?_))
        (try simp only [mset_app, mset_mset, fup_app, aup_app, fup_fup, aup_aup, false_and, and_false, true_and, and_true, and_self, reduceIte, Nat.reduceEqDiff, reduceCtorEq, fup_10, fs_4_5, fs_4_6, fs_5_6])
        rw [shM_st (vyS_sam _ _ (j + 1))]
        refine g_s1 F a_M_voyages_131 sc_M_252 mk_M_far rfl (by decide) ⟨Nat.le_refl _, Nat.le_refl _⟩ rfl (Nat.le_of_ble_eq_true rfl) (sp_M_far (by have hz9 := offS_r (vyS (shM (m 10 0)) s (j + 1)); omega) (GCr.v ?_))
        (try simp only [mset_app, mset_mset, fup_app, aup_app, fup_fup, aup_aup, false_and, and_false, true_and, and_true, and_self, reduceIte, Nat.reduceEqDiff, reduceCtorEq, fup_10, fs_4_5, fs_4_6, fs_5_6])
        refine g_iadd F a_M_voyages_134 ?_
        refine g_istore (ls' := [_, _, _, _, _, _, _, _, _]) F a_M_voyages_135 rfl rfl rfl ?_
        refine g_iinc (ls' := [_, _, _, _, _, _, _, _, _]) F a_M_voyages_137 rfl rfl rfl ?_
        refine g_goto F a_M_voyages_140 ?_
        exact GC.loc2 (ih (j + 1) _ _ _ (by omega) (by omega) (by omega) rfl (by rw [he]; rfl)) ⟨rfl, rfl, rfl, rfl, rfl, rfl, trivial⟩
set_option maxHeartbeats 1000000 in
theorem sp_M_voyages {κ : Kx} {Q : Option Value → (Heap → Prop) → Prop} {m : Mem} {D : Int} (hS : okM D (m 10 0)) (hD60 : D + 61 ≤ 100000) {s t : Int} (hs : R32 s) (ht : R32 t) (kb : ¬ ((0 ≤ s ∧ s ≤ 999999) ∧ 0 ≤ t ∧ t ≤ 60) → Q (some (vi (-2))) (World κ (bmM m 0))) (k : (0 ≤ s ∧ s ≤ 999999) → (0 ≤ t ∧ t ≤ 60) → ∀ g : Int → Int, Q (some (vi (vyZ (shM (m 10 0)) s t.toNat))) (World κ (mset m 10 0 ((m 10 0).1, aup (m 10 0).2 11 g)))) : GG κ G_M_voyages 6 0 0 [.ref (ad κ 10 0), vi s, vi t] (World κ m) Q := by
  have hD : D ≤ 100000 := by omega
  obtain ⟨s0, s1, s2, s3, s4, s5, hfg, hkd, hsh, hgl⟩ := id hS
  refine GG.intro (ls := [some _, some _, some _, none, none, none, none, none, none]) (Nat.le_of_ble_eq_true rfl) rfl (fun μ F => ?_)
  refine g_iload_n F a_M_voyages_0 rfl ?_
  refine g_iconst F a_M_voyages_1 ?_
  refine g_ldcw F a_M_voyages_2 kc_M_298 ?_
  refine g_s3 F a_M_voyages_5 sc_M_91 mk_M_in rfl (by decide) ⟨Nat.le_refl _, Nat.le_refl _⟩ rfl (Nat.le_of_ble_eq_true rfl) (sp_M_in (by omega) (by omega) (by omega) (fun c5 => GCr.v ?_) (fun c5 => GCr.v ?_))
  · refine g_ifeq1 F a_M_voyages_8 ?_
    refine g_iload_n F a_M_voyages_11 rfl ?_
    refine g_iconst F a_M_voyages_12 ?_
    refine g_bipush F a_M_voyages_13 (by decide) ?_
    refine g_s3 F a_M_voyages_15 sc_M_91 mk_M_in rfl (by decide) ⟨Nat.le_refl _, Nat.le_refl _⟩ rfl (Nat.le_of_ble_eq_true rfl) (sp_M_in (by omega) (by omega) (by omega) (fun c15 => GCr.v ?_) (fun c15 => GCr.v ?_))
    · refine g_ifne1 F a_M_voyages_18 ?_
      refine g_aload_n F a_M_voyages_26 rfl ?_
      refine g_aload_n F a_M_voyages_27 rfl ?_
      refine g_get_10_24 F a_M_voyages_28 fl_M_43 ?_
      refine g_iconst F a_M_voyages_31 ?_
      refine g_v2 F a_M_voyages_32 vc_M_221 mk_M_lays ob_10 ck_10.1 rfl rfl (by decide) ⟨Nat.le_refl _, Nat.le_refl _⟩ rfl (Nat.le_of_ble_eq_true rfl) (sp_M_lays (j := 11) (by decide) ⟨by omega, by show _ ≤ ((9 : Nat) : Int); omega⟩ (by decide) (GCr.n ?_))
      (try simp only [mset_app, mset_mset, fup_app, aup_app, fup_fup, aup_aup, false_and, and_false, true_and, and_true, and_self, reduceIte, Nat.reduceEqDiff, reduceCtorEq, fup_10, fs_4_5, fs_4_6, fs_5_6])
      refine g_iload_n F a_M_voyages_35 rfl ?_
      refine g_i2l F (by omega) a_M_voyages_36 ?_
      refine g_lstore_n (ls' := [_, _, _, _, _, _, _, _, _]) F a_M_voyages_37 rfl rfl rfl ?_
      refine g_iconst F a_M_voyages_38 ?_
      refine g_istore (ls' := [_, _, _, _, _, _, _, _, _]) F a_M_voyages_39 rfl rfl rfl ?_
      refine g_iconst F a_M_voyages_41 ?_
      refine g_istore (ls' := [_, _, _, _, _, _, _, _, _]) F a_M_voyages_42 rfl rfl rfl ?_
      have hS1 : okM D ((mset m 10 0 ((m 10 0).1, aup (m 10 0).2 11 (lyI (shM (m 10 0)) ((m 10 0).2 11) 0))) 10 0) := by rw [mset_same]; exact okS_M (by rw [sh_11]; exact okM_S hS)
      have k1 := k (by assumption) (by assumption) (lyI (shM (m 10 0)) ((m 10 0).2 11) 0)
      have hz := lp_M_voy (κ := κ) (Q := Q) (m := (mset m 10 0 ((m 10 0).1, aup (m 10 0).2 11 (lyI (shM (m 10 0)) ((m 10 0).2 11) 0)))) hS1 hD60 (by assumption) (by assumption) (by rw [mset_same, mset_mset, sh_11]; exact qw k1 back) F 61 0 s 0 0 (by omega) (by omega) rfl rfl rfl
      rw [show vyS (shM ((mset m 10 0 ((m 10 0).1, aup (m 10 0).2 11 (lyI (shM (m 10 0)) ((m 10 0).2 11) 0))) 10 0)) s 0 = shM ((mset m 10 0 ((m 10 0).1, aup (m 10 0).2 11 (lyI (shM (m 10 0)) ((m 10 0).2 11) 0))) 10 0) from rfl, stM_self, mset_self] at hz
      exact GC.loc2 hz ⟨rfl, rfl, rfl, rfl, rfl, rfl, trivial⟩
    · refine g_ifne0 F a_M_voyages_18 ?_
      refine g_aload_n F a_M_voyages_21 rfl ?_
      refine g_v0 F a_M_voyages_22 vc_M_95 mk_M_bad ob_10 ck_10.1 rfl rfl (by decide) ⟨Nat.le_refl _, Nat.le_refl _⟩ rfl (Nat.le_of_ble_eq_true rfl) (sp_M_bad  (GCr.v ?_))
      refine g_iret F a_M_voyages_25 rfl ⟨Nat.le_refl _, Nat.le_refl _⟩ ?_
      exact kb (by omega)
  · refine g_ifeq0 F a_M_voyages_8 ?_
    refine g_aload_n F a_M_voyages_21 rfl ?_
    refine g_v0 F a_M_voyages_22 vc_M_95 mk_M_bad ob_10 ck_10.1 rfl rfl (by decide) ⟨Nat.le_refl _, Nat.le_refl _⟩ rfl (Nat.le_of_ble_eq_true rfl) (sp_M_bad  (GCr.v ?_))
    refine g_iret F a_M_voyages_25 rfl ⟨Nat.le_refl _, Nat.le_refl _⟩ ?_
    exact kb (by omega)
