def keM (M : Rc) (x : Int) : Rc := (M.1, aup M.2 13 (gup (M.2 13) x 1))
def imM (M : Rc) (x : Int) : Rc := ((keM M x).1, aup (keM M x).2 12 (lyA (keM M x) ((keM M x).2 12) (180 * x)))
theorem keM_l {M : Rc} {x : Int} : (M.1, aup M.2 13 (gup (M.2 13) x 1)) = keM M x := rfl
set_option maxHeartbeats 1000000 in
theorem sp_M_image {κ : Kx} {Q : Option Value → (Heap → Prop) → Prop} {m : Mem} {x : Int} (hx : R32 x) (kb : ¬ (0 ≤ x ∧ x ≤ 1) → Q (some (vi (-2))) (World κ (bmM m 0))) (k : 0 ≤ x ∧ x ≤ 1 → Q (some (vi 1)) (World κ (mset m 10 0 (imM (m 10 0) x)))) : GG κ G_M_image 2 0 0 [.ref (ad κ 10 0), vi x] (World κ m) Q := by
  refine GG.intro (ls := [some _, some _]) (Nat.le_of_ble_eq_true rfl) rfl (fun μ F => ?_)
  refine g_iload_n F a_M_image_0 rfl ?_
  refine g_iconst F a_M_image_1 ?_
  refine g_iconst F a_M_image_2 ?_
  refine g_s3 F a_M_image_3 sc_M_91 mk_M_in rfl (by decide) ⟨Nat.le_refl _, Nat.le_refl _⟩ rfl (Nat.le_of_ble_eq_true rfl) (sp_M_in (by omega) (by omega) (by omega) (fun c3 => GCr.v ?_) (fun c3 => GCr.v ?_))
  · refine g_ifne1 F a_M_image_6 ?_
    refine g_aload_n F a_M_image_14 rfl ?_
    refine g_get_10_28 F a_M_image_15 fl_M_53 ?_
    refine g_iload_n F a_M_image_18 rfl ?_
    refine g_iconst F a_M_image_19 ?_
    refine g_ist_10_13 F a_M_image_20 (by omega) ?_
    (try simp only [fup_app, aup_app, fup_fup, aup_aup, false_and, and_false, true_and, and_true, and_self, reduceIte, Nat.reduceEqDiff, reduceCtorEq, fup_10, fs_4_5, fs_4_6, fs_5_6])
    refine g_aload_n F a_M_image_21 rfl ?_
    refine g_aload_n F a_M_image_22 rfl ?_
    refine g_get_10_27 F a_M_image_23 fl_M_50 ?_
    (try simp only [fup_app, aup_app, fup_fup, aup_aup, false_and, and_false, true_and, and_true, and_self, reduceIte, Nat.reduceEqDiff, reduceCtorEq, fup_10, fs_4_5, fs_4_6, fs_5_6])
    refine g_sipush F a_M_image_26 (by decide) ?_
    refine g_iload_n F a_M_image_29 rfl ?_
    refine g_imul F a_M_image_30 ?_
    refine g_v2 F a_M_image_31 vc_M_183 mk_M_layAll ob_10 ck_10.1 rfl rfl (by decide) ⟨Nat.le_refl _, Nat.le_refl _⟩ rfl (Nat.le_of_ble_eq_true rfl) (sp_M_layAll (j := 12) (by decide) (by decide) ⟨by omega, by show _ ≤ ((360 : Nat) : Int); omega⟩ (by decide) (GCr.n ?_))
    (try simp only [fup_app, aup_app, fup_fup, aup_aup, false_and, and_false, true_and, and_true, and_self, reduceIte, Nat.reduceEqDiff, reduceCtorEq, fup_10, fs_4_5, fs_4_6, fs_5_6])
    refine g_iconst F a_M_image_34 ?_
    refine g_iret F a_M_image_35 rfl ⟨Nat.le_refl _, Nat.le_refl _⟩ ?_
    first | exact kb (by assumption) | (rw [mset_same, mset_mset]; exact k (by assumption))
  · refine g_ifne0 F a_M_image_6 ?_
    refine g_aload_n F a_M_image_9 rfl ?_
    refine g_v0 F a_M_image_10 vc_M_95 mk_M_bad ob_10 ck_10.1 rfl rfl (by decide) ⟨Nat.le_refl _, Nat.le_refl _⟩ rfl (Nat.le_of_ble_eq_true rfl) (sp_M_bad  (GCr.v ?_))
    refine g_iret F a_M_image_13 rfl ⟨Nat.le_refl _, Nat.le_refl _⟩ ?_
    first | exact kb (by assumption) | (rw [mset_same, mset_mset]; exact k (by assumption))
set_option maxHeartbeats 1000000 in
theorem sp_M_from {κ : Kx} {Q : Option Value → (Heap → Prop) → Prop} {m : Mem} (hkp : ∀ x : Int, 0 ≤ x ∧ x ≤ 1 → R32 ((m 10 0).2 13 x)) {x : Int} (hx : R32 x) (kb : ¬ (0 ≤ x ∧ x ≤ 1) → Q (some (vi (-2))) (World κ (bmM m 0))) (kn : (0 ≤ x ∧ x ≤ 1) → (m 10 0).2 13 x = 0 → Q (some (vi (-3))) (World κ (bmM m 1))) (k : (0 ≤ x ∧ x ≤ 1) → (m 10 0).2 13 x ≠ 0 → Q (some (vi 1)) (World κ (mset m 10 0 (tkA (m 10 0) ((m 10 0).2 12) (180 * x))))) : GG κ G_M_from 2 0 0 [.ref (ad κ 10 0), vi x] (World κ m) Q := by
  refine GG.intro (ls := [some _, some _]) (Nat.le_of_ble_eq_true rfl) rfl (fun μ F => ?_)
  refine g_iload_n F a_M_from_0 rfl ?_
  refine g_iconst F a_M_from_1 ?_
  refine g_iconst F a_M_from_2 ?_
  refine g_s3 F a_M_from_3 sc_M_91 mk_M_in rfl (by decide) ⟨Nat.le_refl _, Nat.le_refl _⟩ rfl (Nat.le_of_ble_eq_true rfl) (sp_M_in (by omega) (by omega) (by omega) (fun c3 => GCr.v ?_) (fun c3 => GCr.v ?_))
  · refine g_ifne1 F a_M_from_6 ?_
    refine g_aload_n F a_M_from_14 rfl ?_
    refine g_get_10_28 F a_M_from_15 fl_M_53 ?_
    refine g_iload_n F a_M_from_18 rfl ?_
    refine g_ild_10_13 F a_M_from_19 (by omega) ?_
    refine g_if_ne F (by first | omega | exact hkp _ (by omega)) a_M_from_20 (fun h20 => ?_) (fun h20 => ?_)
    · refine g_aload_n F a_M_from_28 rfl ?_
      refine g_aload_n F a_M_from_29 rfl ?_
      refine g_get_10_27 F a_M_from_30 fl_M_50 ?_
      refine g_sipush F a_M_from_33 (by decide) ?_
      refine g_iload_n F a_M_from_36 rfl ?_
      refine g_imul F a_M_from_37 ?_
      refine g_v2 F a_M_from_38 vc_M_190 mk_M_takeAll ob_10 ck_10.1 rfl rfl (by decide) ⟨Nat.le_refl _, Nat.le_refl _⟩ rfl (Nat.le_of_ble_eq_true rfl) (sp_M_takeAll (j := 12) (by decide) (by decide) ⟨by omega, by show _ ≤ ((360 : Nat) : Int); omega⟩ (by decide) (GCr.n ?_))
      (try simp only [mset_app, mset_mset, fup_app, aup_app, fup_fup, aup_aup, false_and, and_false, true_and, and_true, and_self, reduceIte, Nat.reduceEqDiff, reduceCtorEq, fup_10, fs_4_5, fs_4_6, fs_5_6])
      refine g_iconst F a_M_from_41 ?_
      refine g_iret F a_M_from_42 rfl ⟨Nat.le_refl _, Nat.le_refl _⟩ ?_
      first | exact kb (by assumption) | exact kn (by assumption) (by assumption) | exact k (by assumption) (by assumption)
    · refine g_aload_n F a_M_from_23 rfl ?_
      refine g_v0 F a_M_from_24 vc_M_230 mk_M_no ob_10 ck_10.1 rfl rfl (by decide) ⟨Nat.le_refl _, Nat.le_refl _⟩ rfl (Nat.le_of_ble_eq_true rfl) (sp_M_no  (GCr.v ?_))
      refine g_iret F a_M_from_27 rfl ⟨Nat.le_refl _, Nat.le_refl _⟩ ?_
      first | exact kb (by assumption) | exact kn (by assumption) (by assumption) | exact k (by assumption) (by assumption)
  · refine g_ifne0 F a_M_from_6 ?_
    refine g_aload_n F a_M_from_9 rfl ?_
    refine g_v0 F a_M_from_10 vc_M_95 mk_M_bad ob_10 ck_10.1 rfl rfl (by decide) ⟨Nat.le_refl _, Nat.le_refl _⟩ rfl (Nat.le_of_ble_eq_true rfl) (sp_M_bad  (GCr.v ?_))
    refine g_iret F a_M_from_13 rfl ⟨Nat.le_refl _, Nat.le_refl _⟩ ?_
    first | exact kb (by assumption) | exact kn (by assumption) (by assumption) | exact k (by assumption) (by assumption)
theorem fs25 (f : Nat → Int) (a b : Int) : fup (fup f 26 b) 25 a = fup (fup f 25 a) 26 b := fup_sw (by decide)
theorem gcd_up {a b : Int} (ha : 0 ≤ a) (hb : 0 < b) : Nat.gcd b.toNat (a % b).toNat = Nat.gcd a.toNat b.toNat := by
  have e : (a % b).toNat = a.toNat % b.toNat := by
    obtain ⟨x, rfl⟩ := Int.eq_ofNat_of_zero_le ha
    obtain ⟨y, rfl⟩ := Int.eq_ofNat_of_zero_le (Int.le_of_lt hb)
    rfl
  rw [e, Nat.gcd_comm b.toNat, ← Nat.gcd_rec, Nat.gcd_comm]
set_option maxHeartbeats 2000000 in
theorem lp_M_lay {κ : Kx} {μ : MX} {Q : Option Value → (Heap → Prop) → Prop} {m : Mem} {u w : Int} (hu : 0 ≤ u ∧ u ≤ 1000000000) (hw : 0 < w ∧ w ≤ 1000000000) (k : ∀ g : Int, g = (Nat.gcd u.toNat w.toNat : Nat) → Q none (World κ (mset m 10 0 (fup (fup (m 10 0).1 25 (u / g)) 26 (w / g), (m 10 0).2))))  (F : Fx κ G_M_lay 0 0 0 μ) :
    ∀ (n : Nat) (a b : Int), b < n → 0 ≤ b ∧ b ≤ 1000000000 → 0 ≤ a ∧ a ≤ 1000000000 → 0 < a ∨ 0 < b → Nat.gcd a.toNat b.toNat = Nat.gcd u.toNat w.toNat →  GC κ μ (ZZ κ μ 0 0 Q) 0 0 6 [some (.ref (ad κ 10 0)), some (vl u), none, some (vl w), none, some (vl a), none, some (vl b), none, none, none] [] (World κ m) := by
  intro n
  induction n with
  | zero =>
    intro a b hn hb ha hab hg
    exact absurd hn (by omega)
  | succ n ih =>
    intro a b hn hb ha hab hg
    refine g_lload F a_M_lay_6 rfl ?_
    refine g_lconst0 F a_M_lay_8 ?_
    refine g_lcmp_eq F (by omega) (by omega) a_M_lay_9 a_M_lay_10 (fun h10 => ?_) (fun h10 => ?_)
    · refine g_aload_n F a_M_lay_31 rfl ?_
      refine g_lload_n F a_M_lay_32 rfl ?_
      refine g_lload F a_M_lay_33 rfl ?_
      refine g_ldiv F (by omega) (by omega) a_M_lay_35 ?_
      refine g_put_10_25 F a_M_lay_36 fl_M_289 ?_
      (try simp only [mset_app, mset_mset, fup_app, aup_app, fup_fup, aup_aup, false_and, and_false, true_and, and_true, and_self, reduceIte, Nat.reduceEqDiff, reduceCtorEq, fup_10, fs_4_5, fs_4_6, fs_5_6])
      refine g_aload_n F a_M_lay_39 rfl ?_
      refine g_lload_n F a_M_lay_40 rfl ?_
      refine g_lload F a_M_lay_41 rfl ?_
      refine g_ldiv F (by omega) (by omega) a_M_lay_43 ?_
      refine g_put_10_26 F a_M_lay_44 fl_M_46 ?_
      (try simp only [mset_app, mset_mset, fup_app, aup_app, fup_fup, aup_aup, false_and, and_false, true_and, and_true, and_self, reduceIte, Nat.reduceEqDiff, reduceCtorEq, fup_10, fs_4_5, fs_4_6, fs_5_6])
      refine g_ret F a_M_lay_47 rfl ⟨Nat.le_refl _, Nat.le_refl _⟩ ?_
      have hb0 : b = 0 := by omega
      rw [hb0] at hg
      exact k a (by rw [← hg]; show a = ((Nat.gcd a.toNat 0 : Nat) : Int); rw [Nat.gcd_zero_right]; omega)
    · refine g_lload F a_M_lay_13 rfl ?_
      refine g_lload F a_M_lay_15 rfl ?_
      refine g_lrem F (by omega) (by omega) a_M_lay_17 ?_
      refine g_lstore (ls' := [_, _, _, _, _, _, _, _, _, _, _]) F a_M_lay_18 rfl rfl rfl ?_
      refine g_lload F a_M_lay_20 rfl ?_
      refine g_lstore (ls' := [_, _, _, _, _, _, _, _, _, _, _]) F a_M_lay_22 rfl rfl rfl ?_
      refine g_lload F a_M_lay_24 rfl ?_
      refine g_lstore (ls' := [_, _, _, _, _, _, _, _, _, _, _]) F a_M_lay_26 rfl rfl rfl ?_
      refine g_goto F a_M_lay_28 ?_
      exact GC.loc2 (ih b (a % b) (by have := Int.emod_lt_of_pos a (show 0 < b by omega); omega) (by have := Int.emod_lt_of_pos a (show 0 < b by omega); have := Int.emod_nonneg a (show b ≠ 0 by omega); omega) (by omega) (by omega) (by rw [gcd_up (by omega) (by omega)]; exact hg)) ⟨rfl, rfl, rfl, rfl, rfl, trivial⟩
set_option maxHeartbeats 1000000 in
theorem sp_M_lay {κ : Kx} {Q : Option Value → (Heap → Prop) → Prop} {m : Mem} {u w : Int} (hu : 0 ≤ u ∧ u ≤ 1000000000) (hw : 0 < w ∧ w ≤ 1000000000) (k : ∀ g : Int, g = (Nat.gcd u.toNat w.toNat : Nat) → Q none (World κ (mset m 10 0 (fup (fup (m 10 0).1 25 (u / g)) 26 (w / g), (m 10 0).2))))  : GG κ G_M_lay 0 0 0 [.ref (ad κ 10 0), vl u, vl w] (World κ m) Q := by
  refine GG.intro (ls := [some _, some _, none, some _, none, none, none, none, none, none, none]) (Nat.le_of_ble_eq_true rfl) rfl (fun μ F => ?_)
  refine g_lload_n F a_M_lay_0 rfl ?_
  refine g_lstore (ls' := [_, _, _, _, _, _, _, _, _, _, _]) F a_M_lay_1 rfl rfl rfl ?_
  refine g_lload_n F a_M_lay_3 rfl ?_
  refine g_lstore (ls' := [_, _, _, _, _, _, _, _, _, _, _]) F a_M_lay_4 rfl rfl rfl ?_
  exact GC.loc2 (lp_M_lay hu hw k F (w.toNat + 1) u w (by omega) (by omega) (by omega) (by omega) rfl) ⟨rfl, rfl, rfl, rfl, rfl, trivial⟩
/-- SLIPS as the model has them -/
def wlN (x : Int) : Nat → Int
  | 0 => 1
  | j + 1 => wlN x j * (if x / 2 ^ j % 2 = 1 then 10 else 1)

def wtN (x s t : Int) : Nat → Int
  | 0 => 1
  | j + 1 => wtN x s t j * (if x / 2 ^ j % 2 = 1 then (if s / 2 ^ j % 2 = 1 then t else 10 - t) else 1)
abbrev isP (x e : Int) (f : Bool) (s : Int) : Prop := bAnd s (bXor x (-1)) = 0 ∧ (f = true ∨ e + bc s = 0)
def smN (x t e : Int) (f : Bool) (mm : Nat) : Nat → Int
  | 0 => 0
  | k + 1 => smN x t e f mm k + (if isP x e f k then 1 else 0) * wtN x k t mm
theorem wlN_r (x : Int) : ∀ j : Nat, 1 ≤ wlN x j ∧ wlN x j ≤ blN j
  | 0 => by show (1 : Int) ≤ 1 ∧ (1 : Int) ≤ 1; decide
  | j + 1 => by
    have ih := wlN_r x j
    show 1 ≤ wlN x j * (if x / 2 ^ j % 2 = 1 then 10 else 1) ∧ wlN x j * (if x / 2 ^ j % 2 = 1 then 10 else 1) ≤ blN j * 10
    split <;> omega
theorem wtN_r {x s t : Int} (ht : 0 ≤ t ∧ t ≤ 10) : ∀ j : Nat, 0 ≤ wtN x s t j ∧ wtN x s t j ≤ blN j
  | 0 => by show (0 : Int) ≤ 1 ∧ (1 : Int) ≤ 1; decide
  | j + 1 => by
    have ih := wtN_r (x := x) (s := s) ht j
    have h1 : 0 ≤ (if x / 2 ^ j % 2 = 1 then (if s / 2 ^ j % 2 = 1 then t else 10 - t) else 1) ∧ (if x / 2 ^ j % 2 = 1 then (if s / 2 ^ j % 2 = 1 then t else 10 - t) else 1) ≤ 10 := by
      repeat' split
      all_goals omega
    show 0 ≤ wtN x s t j * _ ∧ wtN x s t j * _ ≤ blN j * 10
    exact ⟨Int.mul_nonneg ih.1 h1.1, Int.mul_le_mul ih.2 h1.2 h1.1 (by omega)⟩
theorem smN_r {x t e : Int} {f : Bool} {mm : Nat} (ht : 0 ≤ t ∧ t ≤ 10) (hm : mm < 7) : ∀ k : Nat, 0 ≤ smN x t e f mm k ∧ smN x t e f mm k ≤ 1000000 * (k : Int)
  | 0 => by simp [smN]
  | k + 1 => by
    have ih := smN_r (x := x) (e := e) (f := f) ht hm k
    have h1 := wtN_r (x := x) (s := k) ht mm
    have h2 := bl_dec mm hm
    unfold smN
    split
    · rw [Int.one_mul]; omega
    · rw [Int.zero_mul]; omega
set_option maxHeartbeats 2000000 in
theorem lp_M_slA {κ : Kx} {μ : MX} {Z : State → Prop} {m : Mem} {D : Int} (hS : okM D (m 10 0)) (hD : D ≤ 100000) {x y t e u : Int} (hx : 0 ≤ x ∧ x < 64) (k : ∀ w : Int, w = wlN x ((m 10 0).1 1).toNat → GC κ μ Z 0 0 84 [some (.ref (ad κ 10 0)), some (vi x), some (vi y), some (vi t), some (vi e), some (vl u), none, some (vl w), none, none, none, none, none, none] [] (World κ m)) (F : Fx κ G_M_slips 5 0 0 μ) :
    ∀ (n : Nat) (j : Nat) (w v : Int), (m 10 0).1 1 < j + n → (j : Int) ≤ (m 10 0).1 1 → v = (j : Int) → w = wlN x j →  GC κ μ Z 0 0 48 [some (.ref (ad κ 10 0)), some (vi x), some (vi y), some (vi t), some (vi e), some (vl u), none, some (vl w), none, some (vi v), none, none, none, none] [] (World κ m) := by
  obtain ⟨s0, s1, s2, s3, s4, s5, hfg, hkd, hsh, hgl⟩ := id hS
  intro n
  induction n with
  | zero =>
    intro j w v hn hj hv hw
    exact absurd hn (by omega)
  | succ n ih =>
    intro j w v hn hj hv hw
    refine g_iload F a_M_slips_48 rfl ?_
    refine g_aload_n F a_M_slips_50 rfl ?_
    refine g_get_10_1 F a_M_slips_51 fl_M_60 ?_
    refine g_icmp_ge F (by omega) (by omega) a_M_slips_54 (fun h54 => ?_) (fun h54 => ?_)
    · obtain rfl : j = ((m 10 0).1 1).toNat := by omega
      exact GC.loc2 (k w hw) ⟨rfl, rfl, rfl, rfl, rfl, rfl, rfl, trivial⟩
    · refine g_lload F a_M_slips_57 rfl ?_
      refine g_iload_n F a_M_slips_59 rfl ?_
      refine g_iload F a_M_slips_60 rfl ?_
      refine g_s2 F a_M_slips_62 sc_M_152 mk_M_has rfl (by decide) ⟨Nat.le_refl _, Nat.le_refl _⟩ rfl (Nat.le_of_ble_eq_true rfl) (sp_M_has (n := j) hx hv (by omega) (fun c62 => GCr.v ?_) (fun c62 => GCr.v ?_))
      · refine g_ifeq1 F a_M_slips_65 ?_
        refine g_ldc2 F a_M_slips_68 kl_M_292 ?_
        refine g_goto F a_M_slips_71 ?_
        refine g_lmul F a_M_slips_75 ?_
        refine g_lstore (ls' := [_, _, _, _, _, _, _, _, _, _, _, _, _, _]) F a_M_slips_76 rfl rfl rfl ?_
        refine g_iinc (ls' := [_, _, _, _, _, _, _, _, _, _, _, _, _, _]) F a_M_slips_78 rfl rfl rfl ?_
        refine g_goto F a_M_slips_81 ?_
        exact GC.loc2 (ih (j + 1) _ _ (by omega) (by omega) (by omega) (by show _ = wlN x j * _; rw [if_pos c62, hw])) ⟨rfl, rfl, rfl, rfl, rfl, rfl, rfl, rfl, trivial⟩
      · refine g_ifeq0 F a_M_slips_65 ?_
        refine g_lconst1 F a_M_slips_74 ?_
        refine g_lmul F a_M_slips_75 ?_
        refine g_lstore (ls' := [_, _, _, _, _, _, _, _, _, _, _, _, _, _]) F a_M_slips_76 rfl rfl rfl ?_
        refine g_iinc (ls' := [_, _, _, _, _, _, _, _, _, _, _, _, _, _]) F a_M_slips_78 rfl rfl rfl ?_
        refine g_goto F a_M_slips_81 ?_
        exact GC.loc2 (ih (j + 1) _ _ (by omega) (by omega) (by omega) (by show _ = wlN x j * _; rw [if_neg c62, hw])) ⟨rfl, rfl, rfl, rfl, rfl, rfl, rfl, rfl, trivial⟩
set_option maxHeartbeats 2000000 in
theorem lp_M_slC {κ : Kx} {μ : MX} {Z : State → Prop} {m : Mem} {D : Int} (hS : okM D (m 10 0)) (hD : D ≤ 100000) {x y t e u w s b q0 : Int} (hx : 0 ≤ x ∧ x < 64) (hs : 0 ≤ s ∧ s < 64) (ht : 0 ≤ t ∧ t ≤ 10) (k : ∀ q : Int, q = q0 * wtN x s t ((m 10 0).1 1).toNat → GC κ μ Z 0 0 195 [some (.ref (ad κ 10 0)), some (vi x), some (vi y), some (vi t), some (vi e), some (vl u), none, some (vl w), none, some (vi s), some (vi b), some (vl q), none, none] [] (World κ m)) (F : Fx κ G_M_slips 5 0 0 μ) :
    ∀ (n : Nat) (j : Nat) (q v : Int), (m 10 0).1 1 < j + n → (j : Int) ≤ (m 10 0).1 1 → v = (j : Int) → q = q0 * wtN x s t j →  GC κ μ Z 0 0 142 [some (.ref (ad κ 10 0)), some (vi x), some (vi y), some (vi t), some (vi e), some (vl u), none, some (vl w), none, some (vi s), some (vi b), some (vl q), none, some (vi v)] [] (World κ m) := by
  obtain ⟨s0, s1, s2, s3, s4, s5, hfg, hkd, hsh, hgl⟩ := id hS
  intro n
  induction n with
  | zero =>
    intro j q v hn hj hv hq
    exact absurd hn (by omega)
  | succ n ih =>
    intro j q v hn hj hv hq
    refine g_iload F a_M_slips_142 rfl ?_
    refine g_aload_n F a_M_slips_144 rfl ?_
    refine g_get_10_1 F a_M_slips_145 fl_M_60 ?_
    refine g_icmp_ge F (by omega) (by omega) a_M_slips_148 (fun h148 => ?_) (fun h148 => ?_)
    · obtain rfl : j = ((m 10 0).1 1).toNat := by omega
      exact GC.loc2 (k q hq) ⟨rfl, rfl, rfl, rfl, rfl, rfl, rfl, rfl, rfl, rfl, trivial⟩
    · refine g_lload F a_M_slips_151 rfl ?_
      refine g_iload_n F a_M_slips_153 rfl ?_
      refine g_iload F a_M_slips_154 rfl ?_
      refine g_s2 F a_M_slips_156 sc_M_152 mk_M_has rfl (by decide) ⟨Nat.le_refl _, Nat.le_refl _⟩ rfl (Nat.le_of_ble_eq_true rfl) (sp_M_has (n := j) hx hv (by omega) (fun c156 => GCr.v ?_) (fun c156 => GCr.v ?_))
      · refine g_ifne1 F a_M_slips_159 ?_
        refine g_iload F a_M_slips_166 rfl ?_
        refine g_iload F a_M_slips_168 rfl ?_
        refine g_s2 F a_M_slips_170 sc_M_152 mk_M_has rfl (by decide) ⟨Nat.le_refl _, Nat.le_refl _⟩ rfl (Nat.le_of_ble_eq_true rfl) (sp_M_has (n := j) hs hv (by omega) (fun c170 => GCr.v ?_) (fun c170 => GCr.v ?_))
        · refine g_ifeq1 F a_M_slips_173 ?_
          refine g_iload_n F a_M_slips_176 rfl ?_
          refine g_i2l F (by omega) a_M_slips_177 ?_
          refine g_goto F a_M_slips_178 ?_
          refine g_lmul F a_M_slips_186 ?_
          refine g_lstore (ls' := [_, _, _, _, _, _, _, _, _, _, _, _, _, _]) F a_M_slips_187 rfl rfl rfl ?_
          refine g_iinc (ls' := [_, _, _, _, _, _, _, _, _, _, _, _, _, _]) F a_M_slips_189 rfl rfl rfl ?_
          refine g_goto F a_M_slips_192 ?_
          exact GC.loc2 (ih (j + 1) _ _ (by omega) (by omega) (by omega) (by show _ = q0 * (wtN x s t j * _); rw [if_pos c156, if_pos c170, hq, Int.mul_assoc])) ⟨rfl, rfl, rfl, rfl, rfl, rfl, rfl, rfl, rfl, rfl, rfl, trivial⟩
        · refine g_ifeq0 F a_M_slips_173 ?_
          refine g_bipush F a_M_slips_181 (by decide) ?_
          refine g_iload_n F a_M_slips_183 rfl ?_
          refine g_isub F a_M_slips_184 ?_
          refine g_i2l F (by omega) a_M_slips_185 ?_
          refine g_lmul F a_M_slips_186 ?_
          refine g_lstore (ls' := [_, _, _, _, _, _, _, _, _, _, _, _, _, _]) F a_M_slips_187 rfl rfl rfl ?_
          refine g_iinc (ls' := [_, _, _, _, _, _, _, _, _, _, _, _, _, _]) F a_M_slips_189 rfl rfl rfl ?_
          refine g_goto F a_M_slips_192 ?_
          exact GC.loc2 (ih (j + 1) _ _ (by omega) (by omega) (by omega) (by show _ = q0 * (wtN x s t j * _); rw [if_pos c156, if_neg c170, hq, Int.mul_assoc])) ⟨rfl, rfl, rfl, rfl, rfl, rfl, rfl, rfl, rfl, rfl, rfl, trivial⟩
      · refine g_ifne0 F a_M_slips_159 ?_
        refine g_lconst1 F a_M_slips_162 ?_
        refine g_goto F a_M_slips_163 ?_
        refine g_lmul F a_M_slips_186 ?_
        refine g_lstore (ls' := [_, _, _, _, _, _, _, _, _, _, _, _, _, _]) F a_M_slips_187 rfl rfl rfl ?_
        refine g_iinc (ls' := [_, _, _, _, _, _, _, _, _, _, _, _, _, _]) F a_M_slips_189 rfl rfl rfl ?_
        refine g_goto F a_M_slips_192 ?_
        exact GC.loc2 (ih (j + 1) _ _ (by omega) (by omega) (by omega) (by show _ = q0 * (wtN x s t j * _); rw [if_neg c156, hq, Int.mul_assoc])) ⟨rfl, rfl, rfl, rfl, rfl, rfl, rfl, rfl, rfl, rfl, rfl, trivial⟩
set_option maxHeartbeats 2000000 in
theorem lp_M_slB {κ : Kx} {μ : MX} {Z : State → Prop} {m : Mem} {D : Int} (hS : okM D (m 10 0)) (hD : D ≤ 100000) {x y t e w : Int} (hx : 0 ≤ x ∧ x < 64) (ht : 0 ≤ t ∧ t ≤ 10) (he : -600 ≤ e ∧ e ≤ 600) (k : ∀ u : Int, u = smN x t e (decide (fogB (shM (m 10 0)))) ((m 10 0).1 1).toNat (x.toNat + 1) → GC κ μ Z 0 0 208 [some (.ref (ad κ 10 0)), some (vi x), some (vi y), some (vi t), some (vi e), some (vl u), none, some (vl w), none, none, none, none, none, none] [] (World κ m)) (F : Fx κ G_M_slips 5 0 0 μ) :
    ∀ (n : Nat) (j : Nat) (u s : Int), x + 1 < j + n → (j : Int) ≤ x + 1 → s = (j : Int) → u = smN x t e (decide (fogB (shM (m 10 0)))) ((m 10 0).1 1).toNat j →  GC κ μ Z 0 0 87 [some (.ref (ad κ 10 0)), some (vi x), some (vi y), some (vi t), some (vi e), some (vl u), none, some (vl w), none, some (vi s), none, none, none, none] [] (World κ m) := by
  obtain ⟨s0, s1, s2, s3, s4, s5, hfg, hkd, hsh, hgl⟩ := id hS
  intro n
  induction n with
  | zero =>
    intro j u s hn hj hs hu
    exact absurd hn (by omega)
  | succ n ih =>
    intro j u s hn hj hs hu
    have hbs : 0 ≤ s ∧ s < 64 → 0 ≤ bc s ∧ bc s ≤ 6 := fun h => bc_r h
    refine g_iload F a_M_slips_87 rfl ?_
    refine g_iload_n F a_M_slips_89 rfl ?_
    refine g_icmp_gt F (by first | omega | exact bAnd_r _ _) (by first | omega | exact bAnd_r _ _) a_M_slips_90 (fun h90 => ?_) (fun h90 => ?_)
    · obtain rfl : j = x.toNat + 1 := by omega
      exact GC.loc2 (k u hu) ⟨rfl, rfl, rfl, rfl, rfl, rfl, rfl, trivial⟩
    · refine g_iload F a_M_slips_93 rfl ?_
      refine g_iload_n F a_M_slips_95 rfl ?_
      refine g_iconst F a_M_slips_96 ?_
      refine g_ixor F a_M_slips_97 ?_
      refine g_iand F a_M_slips_98 ?_
      refine g_if_ne F (by first | omega | exact bAnd_r _ _) a_M_slips_99 (fun h99 => ?_) (fun h99 => ?_)
      · refine g_iconst F a_M_slips_124 ?_
        refine g_istore (ls' := [_, _, _, _, _, _, _, _, _, _, _, _, _, _]) F a_M_slips_125 rfl rfl rfl ?_
        refine g_iload F a_M_slips_127 rfl ?_
        refine g_ifeq0 F a_M_slips_129 ?_
        refine g_lconst0 F a_M_slips_136 ?_
        refine g_lstore (ls' := [_, _, _, _, _, _, _, _, _, _, _, _, _, _]) F a_M_slips_137 rfl rfl rfl ?_
        refine g_iconst F a_M_slips_139 ?_
        refine g_istore (ls' := [_, _, _, _, _, _, _, _, _, _, _, _, _, _]) F a_M_slips_140 rfl rfl rfl ?_
        refine GC.loc2 (lp_M_slC hS hD (q0 := 0) hx (s := s) (by omega) ht (fun qe hqe => ?_) F (((m 10 0).1 1).toNat + 1) 0 _ _ (by omega) (by omega) rfl rfl) ⟨rfl, rfl, rfl, rfl, rfl, rfl, rfl, rfl, rfl, rfl, rfl, trivial⟩
        refine g_lload F a_M_slips_195 rfl ?_
        refine g_lload F a_M_slips_197 rfl ?_
        refine g_ladd F a_M_slips_199 ?_
        refine g_lstore (ls' := [_, _, _, _, _, _, _, _, _, _, _, _, _, _]) F a_M_slips_200 rfl rfl rfl ?_
        refine g_iinc (ls' := [_, _, _, _, _, _, _, _, _, _, _, _, _, _]) F a_M_slips_202 rfl rfl rfl ?_
        refine g_goto F a_M_slips_205 ?_
        exact GC.loc2 (ih (j + 1) _ _ (by omega) (by omega) (by omega) (by show _ = smN x t e (decide (fogB (shM (m 10 0)))) ((m 10 0).1 1).toNat j + _ * wtN x j t ((m 10 0).1 1).toNat; rw [if_neg (fun q => h99 (by rw [hs]; exact q.1)), hu, hqe, hs])) ⟨rfl, rfl, rfl, rfl, rfl, rfl, rfl, rfl, trivial⟩
      · refine g_aload_n F a_M_slips_102 rfl ?_
        refine g_v0 F a_M_slips_103 vc_M_206 mk_M_isFog ob_10 ck_10.1 rfl rfl (by decide) ⟨Nat.le_refl _, Nat.le_refl _⟩ rfl (Nat.le_of_ble_eq_true rfl) (sp_M_isFog hS hD (fun c103 => GCr.v ?_) (fun c103 => GCr.v ?_))
        · refine g_ifne1 F a_M_slips_106 ?_
          refine g_iconst F a_M_slips_120 ?_
          refine g_goto F a_M_slips_121 ?_
          refine g_istore (ls' := [_, _, _, _, _, _, _, _, _, _, _, _, _, _]) F a_M_slips_125 rfl rfl rfl ?_
          refine g_iload F a_M_slips_127 rfl ?_
          refine g_ifeq1 F a_M_slips_129 ?_
          refine g_lconst1 F a_M_slips_132 ?_
          refine g_goto F a_M_slips_133 ?_
          refine g_lstore (ls' := [_, _, _, _, _, _, _, _, _, _, _, _, _, _]) F a_M_slips_137 rfl rfl rfl ?_
          refine g_iconst F a_M_slips_139 ?_
          refine g_istore (ls' := [_, _, _, _, _, _, _, _, _, _, _, _, _, _]) F a_M_slips_140 rfl rfl rfl ?_
          refine GC.loc2 (lp_M_slC hS hD (q0 := 1) hx (s := s) (by omega) ht (fun qe hqe => ?_) F (((m 10 0).1 1).toNat + 1) 0 _ _ (by omega) (by omega) rfl rfl) ⟨rfl, rfl, rfl, rfl, rfl, rfl, rfl, rfl, rfl, rfl, rfl, trivial⟩
          refine g_lload F a_M_slips_195 rfl ?_
          refine g_lload F a_M_slips_197 rfl ?_
          refine g_ladd F a_M_slips_199 ?_
          refine g_lstore (ls' := [_, _, _, _, _, _, _, _, _, _, _, _, _, _]) F a_M_slips_200 rfl rfl rfl ?_
          refine g_iinc (ls' := [_, _, _, _, _, _, _, _, _, _, _, _, _, _]) F a_M_slips_202 rfl rfl rfl ?_
          refine g_goto F a_M_slips_205 ?_
          exact GC.loc2 (ih (j + 1) _ _ (by omega) (by omega) (by omega) (by show _ = smN x t e (decide (fogB (shM (m 10 0)))) ((m 10 0).1 1).toNat j + _ * wtN x j t ((m 10 0).1 1).toNat; rw [if_pos ⟨by rw [← hs]; exact h99, Or.inl (decide_eq_true c103)⟩, hu, hqe, hs])) ⟨rfl, rfl, rfl, rfl, rfl, rfl, rfl, rfl, trivial⟩
        · refine g_ifne0 F a_M_slips_106 ?_
          refine g_iload F a_M_slips_109 rfl ?_
          refine g_iload F a_M_slips_111 rfl ?_
          refine g_s1 F a_M_slips_113 sc_M_149 mk_M_bits rfl (by decide) ⟨Nat.le_refl _, Nat.le_refl _⟩ rfl (Nat.le_of_ble_eq_true rfl) (sp_M_bits (by omega) (GCr.v ?_))
          refine g_iadd F a_M_slips_116 ?_
          refine g_if_ne F (by first | omega | exact bAnd_r _ _) a_M_slips_117 (fun h117 => ?_) (fun h117 => ?_)
          · refine g_iconst F a_M_slips_124 ?_
            refine g_istore (ls' := [_, _, _, _, _, _, _, _, _, _, _, _, _, _]) F a_M_slips_125 rfl rfl rfl ?_
            refine g_iload F a_M_slips_127 rfl ?_
            refine g_ifeq0 F a_M_slips_129 ?_
            refine g_lconst0 F a_M_slips_136 ?_
            refine g_lstore (ls' := [_, _, _, _, _, _, _, _, _, _, _, _, _, _]) F a_M_slips_137 rfl rfl rfl ?_
            refine g_iconst F a_M_slips_139 ?_
            refine g_istore (ls' := [_, _, _, _, _, _, _, _, _, _, _, _, _, _]) F a_M_slips_140 rfl rfl rfl ?_
            refine GC.loc2 (lp_M_slC hS hD (q0 := 0) hx (s := s) (by omega) ht (fun qe hqe => ?_) F (((m 10 0).1 1).toNat + 1) 0 _ _ (by omega) (by omega) rfl rfl) ⟨rfl, rfl, rfl, rfl, rfl, rfl, rfl, rfl, rfl, rfl, rfl, trivial⟩
            refine g_lload F a_M_slips_195 rfl ?_
            refine g_lload F a_M_slips_197 rfl ?_
            refine g_ladd F a_M_slips_199 ?_
            refine g_lstore (ls' := [_, _, _, _, _, _, _, _, _, _, _, _, _, _]) F a_M_slips_200 rfl rfl rfl ?_
            refine g_iinc (ls' := [_, _, _, _, _, _, _, _, _, _, _, _, _, _]) F a_M_slips_202 rfl rfl rfl ?_
            refine g_goto F a_M_slips_205 ?_
            exact GC.loc2 (ih (j + 1) _ _ (by omega) (by omega) (by omega) (by show _ = smN x t e (decide (fogB (shM (m 10 0)))) ((m 10 0).1 1).toNat j + _ * wtN x j t ((m 10 0).1 1).toNat; rw [if_neg (fun q => q.2.elim (fun z => c103 (of_decide_eq_true z)) (fun z => h117 (by rw [hs]; exact z))), hu, hqe, hs])) ⟨rfl, rfl, rfl, rfl, rfl, rfl, rfl, rfl, trivial⟩
          · refine g_iconst F a_M_slips_120 ?_
            refine g_goto F a_M_slips_121 ?_
            refine g_istore (ls' := [_, _, _, _, _, _, _, _, _, _, _, _, _, _]) F a_M_slips_125 rfl rfl rfl ?_
            refine g_iload F a_M_slips_127 rfl ?_
            refine g_ifeq1 F a_M_slips_129 ?_
            refine g_lconst1 F a_M_slips_132 ?_
            refine g_goto F a_M_slips_133 ?_
            refine g_lstore (ls' := [_, _, _, _, _, _, _, _, _, _, _, _, _, _]) F a_M_slips_137 rfl rfl rfl ?_
            refine g_iconst F a_M_slips_139 ?_
            refine g_istore (ls' := [_, _, _, _, _, _, _, _, _, _, _, _, _, _]) F a_M_slips_140 rfl rfl rfl ?_
            refine GC.loc2 (lp_M_slC hS hD (q0 := 1) hx (s := s) (by omega) ht (fun qe hqe => ?_) F (((m 10 0).1 1).toNat + 1) 0 _ _ (by omega) (by omega) rfl rfl) ⟨rfl, rfl, rfl, rfl, rfl, rfl, rfl, rfl, rfl, rfl, rfl, trivial⟩
            refine g_lload F a_M_slips_195 rfl ?_
            refine g_lload F a_M_slips_197 rfl ?_
            refine g_ladd F a_M_slips_199 ?_
            refine g_lstore (ls' := [_, _, _, _, _, _, _, _, _, _, _, _, _, _]) F a_M_slips_200 rfl rfl rfl ?_
            refine g_iinc (ls' := [_, _, _, _, _, _, _, _, _, _, _, _, _, _]) F a_M_slips_202 rfl rfl rfl ?_
            refine g_goto F a_M_slips_205 ?_
            exact GC.loc2 (ih (j + 1) _ _ (by omega) (by omega) (by omega) (by show _ = smN x t e (decide (fogB (shM (m 10 0)))) ((m 10 0).1 1).toNat j + _ * wtN x j t ((m 10 0).1 1).toNat; rw [if_pos ⟨by rw [← hs]; exact h99, Or.inr (by rw [← hs]; exact h117)⟩, hu, hqe, hs])) ⟨rfl, rfl, rfl, rfl, rfl, rfl, rfl, rfl, trivial⟩
def slU (M : Rc) (x y t : Int) : Int := smN x t (errS (shM M) x y) (decide (fogB (shM M))) (M.1 1).toNat (x.toNat + 1)
def slL (M : Rc) (x : Int) : Int := wlN x (M.1 1).toNat
set_option maxHeartbeats 1000000 in
theorem sp_M_slips {κ : Kx} {Q : Option Value → (Heap → Prop) → Prop} {m : Mem} {D : Int} (hS : okM D (m 10 0)) (hD : D ≤ 100000) {x y t : Int} (hx : R32 x) (hy : R32 y) (ht : R32 t) (kb : ¬ ((0 ≤ x ∧ x < 2 ^ ((m 10 0).1 1).toNat) ∧ (0 ≤ y ∧ y < (m 10 0).1 2) ∧ 0 ≤ t ∧ t ≤ 10) → Q (some (vi (-2))) (World κ (bmM m 0))) (k : (0 ≤ x ∧ x < 2 ^ ((m 10 0).1 1).toNat) → (0 ≤ y ∧ y < (m 10 0).1 2) → (0 ≤ t ∧ t ≤ 10) → Q (some (vi 1)) (World κ (mset m 10 0 (fup (fup (m 10 0).1 25 (slU (m 10 0) x y t / (Nat.gcd (slU (m 10 0) x y t).toNat (slL (m 10 0) x).toNat : Nat))) 26 (slL (m 10 0) x / (Nat.gcd (slU (m 10 0) x y t).toNat (slL (m 10 0) x).toNat : Nat)), (m 10 0).2)))) : GG κ G_M_slips 5 0 0 [.ref (ad κ 10 0), vi x, vi y, vi t] (World κ m) Q := by
  obtain ⟨s0, s1, s2, s3, s4, s5, hfg, hkd, hsh, hgl⟩ := id hS
  have hset6 : (0 ≤ x ∧ x < 2 ^ ((m 10 0).1 1).toNat) → 0 ≤ x ∧ x < 64 := fun h => by have := p64 (n := ((m 10 0).1 1).toNat) (by omega); omega
  refine GG.intro (ls := [some _, some _, some _, some _, none, none, none, none, none, none, none, none, none, none]) (Nat.le_of_ble_eq_true rfl) rfl (fun μ F => ?_)
  refine g_aload_n F a_M_slips_0 rfl ?_
  refine g_iload_n F a_M_slips_1 rfl ?_
  refine g_v1 F a_M_slips_2 vc_M_224 mk_M_areMen ob_10 ck_10.1 rfl rfl (by decide) ⟨Nat.le_refl _, Nat.le_refl _⟩ rfl (Nat.le_of_ble_eq_true rfl) (sp_M_areMen hS hD (by omega) (fun c2 => GCr.v ?_) (fun c2 => GCr.v ?_))
  · refine g_ifeq1 F a_M_slips_5 ?_
    refine g_aload_n F a_M_slips_8 rfl ?_
    refine g_iload_n F a_M_slips_9 rfl ?_
    refine g_v1 F a_M_slips_10 vc_M_227 mk_M_isReader ob_10 ck_10.1 rfl rfl (by decide) ⟨Nat.le_refl _, Nat.le_refl _⟩ rfl (Nat.le_of_ble_eq_true rfl) (sp_M_isReader hS hD (by omega) (fun c10 => GCr.v ?_) (fun c10 => GCr.v ?_))
    · refine g_ifeq1 F a_M_slips_13 ?_
      refine g_iload_n F a_M_slips_16 rfl ?_
      refine g_iconst F a_M_slips_17 ?_
      refine g_bipush F a_M_slips_18 (by decide) ?_
      refine g_s3 F a_M_slips_20 sc_M_91 mk_M_in rfl (by decide) ⟨Nat.le_refl _, Nat.le_refl _⟩ rfl (Nat.le_of_ble_eq_true rfl) (sp_M_in (by omega) (by omega) (by omega) (fun c20 => GCr.v ?_) (fun c20 => GCr.v ?_))
      · refine g_ifne1 F a_M_slips_23 ?_
        refine g_aload_n F a_M_slips_31 rfl ?_
        refine g_iload_n F a_M_slips_32 rfl ?_
        refine g_iload_n F a_M_slips_33 rfl ?_
        refine g_v2 F a_M_slips_34 vc_M_215 mk_M_errorOf ob_10 ck_10.1 rfl rfl (by decide) ⟨Nat.le_refl _, Nat.le_refl _⟩ rfl (Nat.le_of_ble_eq_true rfl) (sp_M_errorOf hS hD (hset6 (by assumption)) (by omega) (GCr.v ?_))
        refine g_istore (ls' := [_, _, _, _, _, _, _, _, _, _, _, _, _, _]) F a_M_slips_37 rfl rfl rfl ?_
        refine g_lconst0 F a_M_slips_39 ?_
        refine g_lstore (ls' := [_, _, _, _, _, _, _, _, _, _, _, _, _, _]) F a_M_slips_40 rfl rfl rfl ?_
        refine g_lconst1 F a_M_slips_42 ?_
        refine g_lstore (ls' := [_, _, _, _, _, _, _, _, _, _, _, _, _, _]) F a_M_slips_43 rfl rfl rfl ?_
        refine g_iconst F a_M_slips_45 ?_
        refine g_istore (ls' := [_, _, _, _, _, _, _, _, _, _, _, _, _, _]) F a_M_slips_46 rfl rfl rfl ?_
        have hx9 := hset6 (by assumption)
        have ht9 : 0 ≤ t ∧ t ≤ 10 := by assumption
        have her := errS_r (okM_S hS) x y
        refine GC.loc2 (lp_M_slA hS hD hx9 (fun w9 hw9 => ?_) F (((m 10 0).1 1).toNat + 1) 0 1 0 (by omega) (by omega) rfl rfl) ⟨rfl, rfl, rfl, rfl, rfl, rfl, rfl, rfl, trivial⟩
        refine g_iconst F a_M_slips_84 ?_
        refine g_istore (ls' := [_, _, _, _, _, _, _, _, _, _, _, _, _, _]) F a_M_slips_85 rfl rfl rfl ?_
        refine GC.loc2 (lp_M_slB hS hD hx9 ht9 her (fun u9 hu9 => ?_) F (x.toNat + 2) 0 0 0 (by omega) (by omega) rfl rfl) ⟨rfl, rfl, rfl, rfl, rfl, rfl, rfl, rfl, trivial⟩
        refine g_aload_n F a_M_slips_208 rfl ?_
        refine g_lload F a_M_slips_209 rfl ?_
        refine g_lload F a_M_slips_211 rfl ?_
        refine g_v2 F a_M_slips_213 vc_M_294 mk_M_lay ob_10 ck_10.1 rfl rfl (by decide) ⟨Nat.le_refl _, Nat.le_refl _⟩ rfl (Nat.le_of_ble_eq_true rfl) (sp_M_lay (by have := smN_r (x := x) (e := errS (shM (m 10 0)) x y) (f := (decide (fogB (shM (m 10 0))))) ht9 (show ((m 10 0).1 1).toNat < 7 by omega) (x.toNat + 1); omega) (by have := wlN_r x ((m 10 0).1 1).toNat; have := bl_dec ((m 10 0).1 1).toNat (by omega); omega) (fun g9 hg9 => (GCr.n ?_)))
        (try simp only [mset_app, mset_mset, fup_app, aup_app, fup_fup, aup_aup, false_and, and_false, true_and, and_true, and_self, reduceIte, Nat.reduceEqDiff, reduceCtorEq, fup_10, fs_4_5, fs_4_6, fs_5_6])
        refine g_iconst F a_M_slips_216 ?_
        refine g_iret F a_M_slips_217 rfl ⟨Nat.le_refl _, Nat.le_refl _⟩ ?_
        subst hg9 hu9 hw9
        exact k (by assumption) (by assumption) ht9
      · refine g_ifne0 F a_M_slips_23 ?_
        refine g_aload_n F a_M_slips_26 rfl ?_
        refine g_v0 F a_M_slips_27 vc_M_95 mk_M_bad ob_10 ck_10.1 rfl rfl (by decide) ⟨Nat.le_refl _, Nat.le_refl _⟩ rfl (Nat.le_of_ble_eq_true rfl) (sp_M_bad  (GCr.v ?_))
        refine g_iret F a_M_slips_30 rfl ⟨Nat.le_refl _, Nat.le_refl _⟩ ?_
        first | exact kb (fun q => absurd q.1 (by assumption)) | exact kb (fun q => absurd q.2.1 (by assumption)) | exact kb (fun q => absurd q.2.2 (by assumption))
    · refine g_ifeq0 F a_M_slips_13 ?_
      refine g_aload_n F a_M_slips_26 rfl ?_
      refine g_v0 F a_M_slips_27 vc_M_95 mk_M_bad ob_10 ck_10.1 rfl rfl (by decide) ⟨Nat.le_refl _, Nat.le_refl _⟩ rfl (Nat.le_of_ble_eq_true rfl) (sp_M_bad  (GCr.v ?_))
      refine g_iret F a_M_slips_30 rfl ⟨Nat.le_refl _, Nat.le_refl _⟩ ?_
      first | exact kb (fun q => absurd q.1 (by assumption)) | exact kb (fun q => absurd q.2.1 (by assumption)) | exact kb (fun q => absurd q.2.2 (by assumption))
  · refine g_ifeq0 F a_M_slips_5 ?_
    refine g_aload_n F a_M_slips_26 rfl ?_
    refine g_v0 F a_M_slips_27 vc_M_95 mk_M_bad ob_10 ck_10.1 rfl rfl (by decide) ⟨Nat.le_refl _, Nat.le_refl _⟩ rfl (Nat.le_of_ble_eq_true rfl) (sp_M_bad  (GCr.v ?_))
    refine g_iret F a_M_slips_30 rfl ⟨Nat.le_refl _, Nat.le_refl _⟩ ?_
    first | exact kb (fun q => absurd q.1 (by assumption)) | exact kb (fun q => absurd q.2.1 (by assumption)) | exact kb (fun q => absurd q.2.2 (by assumption))
