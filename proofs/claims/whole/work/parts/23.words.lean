theorem isF_r {c : Int} (h : isF c = true) : 48 ≤ c ∧ c ≤ 57 := of_decide_eq_true h
theorem scn_in {f : Int → Bool} {B : Int → Int} {n : Nat} : ∀ (k p : Nat), n - p = k → ∀ j : Nat, p ≤ j → j < scn f B n p → f (B j) = true
  | 0, p, hk, j, h1, h2 => by
    rw [scn_stop (by omega)] at h2
    omega
  | k + 1, p, hk, j, h1, h2 => by
    cases e : f (B p) with
    | false => rw [scn_miss e] at h2; omega
    | true =>
      by_cases ej : j = p
      · rw [ej]; exact e
      · rw [scn_hit (by omega) e] at h2
        exact scn_in k (p + 1) (by omega) j (by omega) h2
/-- a NUMBER is below 100 -/
theorem lV_r {B : Int → Int} {z p : Nat} (hB : okB B z) (hp : p ≤ z) (h : lK B z p = 2) : 0 ≤ lV B z p ∧ lV B z p ≤ 99 := by
  have hs := lS_r (B := B) hp
  have hf := scn_r isF B hs.2
  have hin := scn_in (f := isF) (B := B) (n := z) _ (lS B z p) rfl
  have h2 : scn isF B z (lS B z p) ≤ lS B z p + 2 := by
    unfold lK at h
    split at h
    · omega
    · split at h
      · omega
      · split at h
        · omega
        · split at h
          · split at h
            · assumption
            · omega
          · omega
  unfold lV
  generalize hq : scn isF B z (lS B z p) - lS B z p = q
  rcases (show q = 0 ∨ q = 1 ∨ q = 2 by omega) with rfl | rfl | rfl
  · simp [nv]
  · have i0 := isF_r (hin (lS B z p) (by omega) (by omega))
    simp [nv]
    omega
  · have i0 := isF_r (hin (lS B z p) (by omega) (by omega))
    have i1 := isF_r (hin (lS B z p + 1) (by omega) (by omega))
    rw [show (((lS B z p + 1 : Nat)) : Int) = (lS B z p : Int) + 1 by omega] at i1
    simp [nv]
    omega
set_option maxHeartbeats 1000000 in
theorem sp_T_ended {κ : Kx} {Q : Option Value → (Heap → Prop) → Prop} {m : Mem} {B : Int → Int} {z p : Nat} (hB0 : okB B z) (hpz : p ≤ z) (hT : TX B z p (m 5 0)) (k1 : lK B z p = 3 → ∀ T : Rc, TX B z (lE B z p) T → T.2 = (m 5 0).2 → Q (some (vi 1)) (World κ (mset m 5 0 T))) (k0 : ¬ lK B z p = 3 → Q (some (vi 0)) (World κ m)) : GG κ G_T_ended 3 0 0 [.ref (ad κ 5 0)] (World κ m) Q := by
  obtain ⟨h0, hb0, h2, h3, h4, hval⟩ := id hT
  have hz150 := hB0.1
  have hsr := lS_r (B := B) hpz
  have her := lE_r (B := B) hpz
  have hkr := lK_r B z p
  refine GG.intro (ls := [some _]) (Nat.le_of_ble_eq_true rfl) rfl (fun μ F => ?_)
  refine g_aload_n F a_T_ended_0 rfl ?_
  refine g_get_5_4 F a_T_ended_1 fl_T_25 ?_
  refine g_iconst F a_T_ended_4 ?_
  refine g_icmp_eq F (by omega) (by omega) a_T_ended_5 (fun h5 => ?_) (fun h5 => ?_)
  · refine g_aload_n F a_T_ended_10 rfl ?_
    refine g_v0 F a_T_ended_11 vc_T_22 mk_T_advance ob_5 ck_5.1 rfl rfl (by decide) ⟨Nat.le_refl _, Nat.le_refl _⟩ rfl (Nat.le_of_ble_eq_true rfl) (sp_T_advance (by rw [hb0]; exact hB0) her.2 h0 h3 (fun T ht hb => (GCr.n ?_)))
    rw [hb0] at ht
    (try simp only [mset_app, mset_mset, fup_app, aup_app, fup_fup, aup_aup, false_and, and_false, true_and, and_true, and_self, reduceIte, Nat.reduceEqDiff, reduceCtorEq, fup_10])
    refine g_iconst F a_T_ended_14 ?_
    refine g_zret F a_T_ended_15 rfl rfl ⟨Nat.le_refl _, Nat.le_refl _⟩ ?_
    exact k1 (by omega) T ht hb
  · refine g_iconst F a_T_ended_8 ?_
    refine g_zret F a_T_ended_9 rfl rfl ⟨Nat.le_refl _, Nat.le_refl _⟩ ?_
    exact k0 (by omega)
set_option maxHeartbeats 1000000 in
theorem sp_T_number {κ : Kx} {Q : Option Value → (Heap → Prop) → Prop} {m : Mem} {B : Int → Int} {z p : Nat} (hB0 : okB B z) (hpz : p ≤ z) (hT : TX B z p (m 5 0)) {lo hi : Int} (hlo : 0 ≤ lo ∧ lo ≤ 100) (hhi : -1 ≤ hi ∧ hi ≤ 100) (k1 : lK B z p = 2 → lo ≤ lV B z p → lV B z p ≤ hi → ∀ T : Rc, TX B z (lE B z p) T → T.2 = (m 5 0).2 → Q (some (vi (lV B z p))) (World κ (mset m 5 0 T))) (k0 : ¬ (lK B z p = 2 ∧ lo ≤ lV B z p ∧ lV B z p ≤ hi) → Q (some (vi (-1))) (World κ m)) : GG κ G_T_number 3 0 0 [.ref (ad κ 5 0), vi lo, vi hi] (World κ m) Q := by
  obtain ⟨h0, hb0, h2, h3, h4, hval⟩ := id hT
  have hz150 := hB0.1
  have hsr := lS_r (B := B) hpz
  have her := lE_r (B := B) hpz
  have hkr := lK_r B z p
  refine GG.intro (ls := [some _, some _, some _, none]) (Nat.le_of_ble_eq_true rfl) rfl (fun μ F => ?_)
  refine g_aload_n F a_T_number_0 rfl ?_
  refine g_get_5_4 F a_T_number_1 fl_T_25 ?_
  refine g_iconst F a_T_number_4 ?_
  refine g_icmp_ne F (by omega) (by omega) a_T_number_5 (fun h5 => ?_) (fun h5 => ?_)
  · refine g_iconst F a_T_number_24 ?_
    refine g_iret F a_T_number_25 rfl ⟨Nat.le_refl _, Nat.le_refl _⟩ ?_
    first | exact k0 (by omega) | exact qv (k1 (by omega) (by omega) (by omega) T ht hb) (by rw [h55])
  · have h55 := hval (by omega)
    have hnr := lV_r hB0 hpz (by omega)
    refine g_aload_n F a_T_number_8 rfl ?_
    refine g_get_5_5 F a_T_number_9 fl_T_103 ?_
    refine g_iload_n F a_T_number_12 rfl ?_
    refine g_icmp_lt F (by omega) (by omega) a_T_number_13 (fun h13 => ?_) (fun h13 => ?_)
    · refine g_iconst F a_T_number_24 ?_
      refine g_iret F a_T_number_25 rfl ⟨Nat.le_refl _, Nat.le_refl _⟩ ?_
      first | exact k0 (by omega) | exact qv (k1 (by omega) (by omega) (by omega) T ht hb) (by rw [h55])
    · refine g_aload_n F a_T_number_16 rfl ?_
      refine g_get_5_5 F a_T_number_17 fl_T_103 ?_
      refine g_iload_n F a_T_number_20 rfl ?_
      refine g_icmp_le F (by omega) (by omega) a_T_number_21 (fun h21 => ?_) (fun h21 => ?_)
      · refine g_aload_n F a_T_number_26 rfl ?_
        refine g_get_5_5 F a_T_number_27 fl_T_103 ?_
        refine g_istore_n (ls' := [_, _, _, _]) F a_T_number_30 rfl rfl rfl ?_
        refine g_aload_n F a_T_number_31 rfl ?_
        refine g_v0 F a_T_number_32 vc_T_22 mk_T_advance ob_5 ck_5.1 rfl rfl (by decide) ⟨Nat.le_refl _, Nat.le_refl _⟩ rfl (Nat.le_of_ble_eq_true rfl) (sp_T_advance (by rw [hb0]; exact hB0) her.2 h0 h3 (fun T ht hb => (GCr.n ?_)))
        rw [hb0] at ht
        (try simp only [mset_app, mset_mset, fup_app, aup_app, fup_fup, aup_aup, false_and, and_false, true_and, and_true, and_self, reduceIte, Nat.reduceEqDiff, reduceCtorEq, fup_10])
        refine g_iload_n F a_T_number_35 rfl ?_
        refine g_iret F a_T_number_36 rfl ⟨Nat.le_refl _, Nat.le_refl _⟩ ?_
        first | exact k0 (by omega) | exact qv (k1 (by omega) (by omega) (by omega) T ht hb) (by rw [h55])
      · refine g_iconst F a_T_number_24 ?_
        refine g_iret F a_T_number_25 rfl ⟨Nat.le_refl _, Nat.le_refl _⟩ ?_
        first | exact k0 (by omega) | exact qv (k1 (by omega) (by omega) (by omega) T ht hb) (by rw [h55])
set_option maxHeartbeats 1000000 in
theorem sp_T_add {κ : Kx} {Q : Option Value → (Heap → Prop) → Prop} {m : Mem} {c : Int} (hz : 0 ≤ (m 5 0).1 0 ∧ (m 5 0).1 0 < 150) (k : Q (some (vi ((m 5 0).1 0 + 1))) (World κ (mset m 5 0 (fup (m 5 0).1 0 ((m 5 0).1 0 + 1), aup (m 5 0).2 0 (gup ((m 5 0).2 0) ((m 5 0).1 0) c))))) : GG κ G_T_add 0 0 0 [.ref (ad κ 5 0), vi c] (World κ m) Q := by
  refine GG.intro (ls := [some _, some _]) (Nat.le_of_ble_eq_true rfl) rfl (fun μ F => ?_)
  refine g_aload_n F a_T_add_0 rfl ?_
  refine g_get_5_0 F a_T_add_1 fl_T_15 ?_
  refine g_sipush F a_T_add_4 (by decide) ?_
  refine g_icmp_lt F (by omega) (by omega) a_T_add_7 (fun h7 => ?_) (fun h7 => ?_)
  · refine g_aload_n F a_T_add_13 rfl ?_
    refine g_get_5_1 F a_T_add_14 fl_T_11 ?_
    refine g_aload_n F a_T_add_17 rfl ?_
    refine g_get_5_0 F a_T_add_18 fl_T_15 ?_
    refine g_iload_n F a_T_add_21 rfl ?_
    refine g_ist_5_0 F a_T_add_22 (by omega) ?_
    (try simp only [mset_app, mset_mset, fup_app, aup_app, fup_fup, aup_aup, false_and, and_false, true_and, and_true, and_self, reduceIte, Nat.reduceEqDiff, reduceCtorEq, fup_10])
    refine g_aload_n F a_T_add_23 rfl ?_
    refine g_dup F a_T_add_24 rfl ?_
    refine g_get_5_0 F a_T_add_25 fl_T_15 ?_
    (try simp only [mset_app, mset_mset, fup_app, aup_app, fup_fup, aup_aup, false_and, and_false, true_and, and_true, and_self, reduceIte, Nat.reduceEqDiff, reduceCtorEq, fup_10])
    refine g_iconst F a_T_add_28 ?_
    refine g_iadd F a_T_add_29 ?_
    refine g_put_5_0 F a_T_add_30 fl_T_15 ?_
    (try simp only [mset_app, mset_mset, fup_app, aup_app, fup_fup, aup_aup, false_and, and_false, true_and, and_true, and_self, reduceIte, Nat.reduceEqDiff, reduceCtorEq, fup_10])
    refine g_aload_n F a_T_add_33 rfl ?_
    refine g_get_5_0 F a_T_add_34 fl_T_15 ?_
    (try simp only [mset_app, mset_mset, fup_app, aup_app, fup_fup, aup_aup, false_and, and_false, true_and, and_true, and_self, reduceIte, Nat.reduceEqDiff, reduceCtorEq, fup_10])
    refine g_iret F a_T_add_37 rfl ⟨Nat.le_refl _, Nat.le_refl _⟩ ?_
    first | exact k | (exfalso; omega)
  · refine g_bipush F a_T_add_10 (by decide) ?_
    refine g_iret F a_T_add_12 rfl ⟨Nat.le_refl _, Nat.le_refl _⟩ ?_
    first | exact k | (exfalso; omega)
def wN (B : Int → Int) (s i : Nat) : Nat → Bool
  | 0 => true
  | n + 1 => wN B s i n && decide (B ((s : Int) + n) = chI i n)
/-- the TOKEN is the word i -/
def wB (B : Int → Int) (z p i : Nat) : Bool := decide (lK B z p = 1) && (decide ((lE B z p : Int) - lS B z p = lenI i) && wN B (lS B z p) i (str_len.getD i 0))
theorem wN_mono {B : Int → Int} {s i a b : Nat} (h : a ≤ b) (hb : wN B s i b = true) : wN B s i a = true := by
  induction b with
  | zero => rw [show a = 0 by omega]; rfl
  | succ b ih =>
    by_cases e : a = b + 1
    · rw [e]; exact hb
    · unfold wN at hb
      simp only [Bool.and_eq_true] at hb
      exact ih (by omega) hb.1
set_option maxHeartbeats 2000000 in
theorem lp_T_wordIs {κ : Kx} {μ : MX} {Q : Option Value → (Heap → Prop) → Prop} {m : Mem} {B : Int → Int} {z p : Nat} (hB0 : okB B z) (hpz : p ≤ z) (hT : TX B z p (m 5 0)) {i : Nat} (hi6 : i < 6) (k1 : wB B z p i = true → Q (some (vi 1)) (World κ m)) (k0 : wB B z p i = false → Q (some (vi 0)) (World κ m)) (hk1 : lK B z p = 1) (hln : (lE B z p : Int) - lS B z p = lenI i) (F : Fx κ G_T_wordIs 5 0 0 μ) :
    ∀ (n : Nat) (j : Nat) (x : Int), lenI i < j + n → (j : Int) ≤ lenI i → x = (j : Int) → wN B (lS B z p) i j = true →  GC κ μ (ZZ κ μ 0 0 Q) 0 0 28 [some (.ref (ad κ 5 0)), some (.ref (kK κ i)), some (vi x)] [] (World κ m) := by
  obtain ⟨h0, hb0, h2, h3, h4, hval⟩ := id hT
  have hz150 := hB0.1
  have hsr := lS_r (B := B) hpz
  have her := lE_r (B := B) hpz
  have hkr := lK_r B z p
  have hB := hB0.2
  have hlr := len_dec i hi6
  have hle : lenI i = (str_len.getD i 0 : Nat) := rfl
  intro n
  induction n with
  | zero =>
    intro j x hn hj hx hw
    exact absurd hn (by omega)
  | succ n ih =>
    intro j x hn hj hx hw
    refine g_iload_n F a_T_wordIs_28 rfl ?_
    refine g_aload_n F a_T_wordIs_29 rfl ?_
    refine g_w0 F a_T_wordIs_30 vc_T_109 mk_J_length hi6 rfl rfl (by decide) ⟨Nat.le_refl _, Nat.le_refl _⟩ rfl (Nat.le_of_ble_eq_true rfl) (sp_J_length hi6 (GCr.v ?_))
    refine g_icmp_ge F (by first | omega | (have := hB ((m 5 0).1 2 + x) (by omega); rw [← hb0] at this; omega) | (have := hB ((m 5 0).1 2 + (j : Int)) (by omega); rw [← hb0] at this; omega) | (have := ch_dec i hi6 j (by omega); omega)) (by first | omega | (have := hB ((m 5 0).1 2 + x) (by omega); rw [← hb0] at this; omega) | (have := hB ((m 5 0).1 2 + (j : Int)) (by omega); rw [← hb0] at this; omega) | (have := ch_dec i hi6 j (by omega); omega)) a_T_wordIs_33 (fun h33 => ?_) (fun h33 => ?_)
    · refine g_iconst F a_T_wordIs_76 ?_
      refine g_zret F a_T_wordIs_77 rfl rfl ⟨Nat.le_refl _, Nat.le_refl _⟩ ?_
      exact k1 (by unfold wB; rw [decide_eq_true hk1, decide_eq_true hln, show str_len.getD i 0 = j by omega, hw]; rfl)
    · refine g_aload_n F a_T_wordIs_36 rfl ?_
      refine g_get_5_2 F a_T_wordIs_37 fl_T_32 ?_
      refine g_iload_n F a_T_wordIs_40 rfl ?_
      refine g_iadd F a_T_wordIs_41 ?_
      refine g_aload_n F a_T_wordIs_42 rfl ?_
      refine g_get_5_0 F a_T_wordIs_43 fl_T_15 ?_
      refine g_icmp_ge F (by first | omega | (have := hB ((m 5 0).1 2 + x) (by omega); rw [← hb0] at this; omega) | (have := hB ((m 5 0).1 2 + (j : Int)) (by omega); rw [← hb0] at this; omega) | (have := ch_dec i hi6 j (by omega); omega)) (by first | omega | (have := hB ((m 5 0).1 2 + x) (by omega); rw [← hb0] at this; omega) | (have := hB ((m 5 0).1 2 + (j : Int)) (by omega); rw [← hb0] at this; omega) | (have := ch_dec i hi6 j (by omega); omega)) a_T_wordIs_46 (fun h46 => ?_) (fun h46 => ?_)
      · refine g_iconst F a_T_wordIs_76 ?_
        refine g_zret F a_T_wordIs_77 rfl rfl ⟨Nat.le_refl _, Nat.le_refl _⟩ ?_
        exfalso; omega
      · refine g_aload_n F a_T_wordIs_49 rfl ?_
        refine g_get_5_1 F a_T_wordIs_50 fl_T_11 ?_
        refine g_aload_n F a_T_wordIs_53 rfl ?_
        refine g_get_5_2 F a_T_wordIs_54 fl_T_32 ?_
        refine g_iload_n F a_T_wordIs_57 rfl ?_
        refine g_iadd F a_T_wordIs_58 ?_
        refine g_ild_5_0 F a_T_wordIs_59 (by omega) ?_
        subst hx
        refine g_aload_n F a_T_wordIs_60 rfl ?_
        refine g_iload_n F a_T_wordIs_61 rfl ?_
        refine g_w1 F a_T_wordIs_62 vc_T_115 mk_J_charAt hi6 rfl rfl (by decide) ⟨Nat.le_refl _, Nat.le_refl _⟩ rfl (Nat.le_of_ble_eq_true rfl) (sp_J_charAt (j := j) hi6 (by omega) (GCr.v ?_))
        refine g_icmp_eq F (by first | omega | (have := hB ((m 5 0).1 2 + x) (by omega); rw [← hb0] at this; omega) | (have := hB ((m 5 0).1 2 + (j : Int)) (by omega); rw [← hb0] at this; omega) | (have := ch_dec i hi6 j (by omega); omega)) (by first | omega | (have := hB ((m 5 0).1 2 + x) (by omega); rw [← hb0] at this; omega) | (have := hB ((m 5 0).1 2 + (j : Int)) (by omega); rw [← hb0] at this; omega) | (have := ch_dec i hi6 j (by omega); omega)) a_T_wordIs_65 (fun h65 => ?_) (fun h65 => ?_)
        · refine g_iinc (ls' := [_, _, _]) F a_T_wordIs_70 rfl rfl rfl ?_
          refine g_goto F a_T_wordIs_73 ?_
          refine GC.loc2 (ih (j + 1) _ (by omega) (by omega) (by omega) ?_) ⟨rfl, rfl, rfl, trivial⟩
          unfold wN
          rw [hw, Bool.true_and]
          rw [hb0, h2] at h65
          exact decide_eq_true h65
        · refine g_iconst F a_T_wordIs_68 ?_
          refine g_zret F a_T_wordIs_69 rfl rfl ⟨Nat.le_refl _, Nat.le_refl _⟩ ?_
          refine k0 ?_
          rw [← Bool.not_eq_true]
          intro q
          unfold wB at q
          simp only [Bool.and_eq_true] at q
          have q2 := wN_mono (a := j + 1) (by omega) q.2.2
          unfold wN at q2
          simp only [Bool.and_eq_true, decide_eq_true_eq] at q2
          rw [hb0, h2] at h65
          exact h65 q2.2
set_option maxHeartbeats 1000000 in
theorem sp_T_wordIs {κ : Kx} {Q : Option Value → (Heap → Prop) → Prop} {m : Mem} {B : Int → Int} {z p : Nat} (hB0 : okB B z) (hpz : p ≤ z) (hT : TX B z p (m 5 0)) {i : Nat} (hi6 : i < 6) (k1 : wB B z p i = true → Q (some (vi 1)) (World κ m)) (k0 : wB B z p i = false → Q (some (vi 0)) (World κ m)) : GG κ G_T_wordIs 5 0 0 [.ref (ad κ 5 0), .ref (kK κ i)] (World κ m) Q := by
  obtain ⟨h0, hb0, h2, h3, h4, hval⟩ := id hT
  have hz150 := hB0.1
  have hsr := lS_r (B := B) hpz
  have her := lE_r (B := B) hpz
  have hkr := lK_r B z p
  have hB := hB0.2
  have hlr := len_dec i hi6
  have hle : lenI i = (str_len.getD i 0 : Nat) := rfl
  refine GG.intro (ls := [some _, some _, none]) (Nat.le_of_ble_eq_true rfl) rfl (fun μ F => ?_)
  refine g_aload_n F a_T_wordIs_0 rfl ?_
  refine g_get_5_4 F a_T_wordIs_1 fl_T_25 ?_
  refine g_iconst F a_T_wordIs_4 ?_
  refine g_icmp_ne F (by omega) (by omega) a_T_wordIs_5 (fun h5 => ?_) (fun h5 => ?_)
  · refine g_iconst F a_T_wordIs_24 ?_
    refine g_zret F a_T_wordIs_25 rfl rfl ⟨Nat.le_refl _, Nat.le_refl _⟩ ?_
    refine k0 ?_
    rw [← Bool.not_eq_true]
    intro q
    unfold wB at q
    simp only [Bool.and_eq_true, decide_eq_true_eq] at q
    omega
  · refine g_aload_n F a_T_wordIs_8 rfl ?_
    refine g_get_5_3 F a_T_wordIs_9 fl_T_19 ?_
    refine g_aload_n F a_T_wordIs_12 rfl ?_
    refine g_get_5_2 F a_T_wordIs_13 fl_T_32 ?_
    refine g_isub F a_T_wordIs_16 ?_
    refine g_aload_n F a_T_wordIs_17 rfl ?_
    refine g_w0 F a_T_wordIs_18 vc_T_109 mk_J_length hi6 rfl rfl (by decide) ⟨Nat.le_refl _, Nat.le_refl _⟩ rfl (Nat.le_of_ble_eq_true rfl) (sp_J_length hi6 (GCr.v ?_))
    refine g_icmp_eq F (by omega) (by omega) a_T_wordIs_21 (fun h21 => ?_) (fun h21 => ?_)
    · refine g_iconst F a_T_wordIs_26 ?_
      refine g_istore_n (ls' := [_, _, _]) F a_T_wordIs_27 rfl rfl rfl ?_
      exact GC.loc2 (lp_T_wordIs hB0 hpz hT hi6 k1 k0 (by omega) (by omega) F 8 0 _ (by omega) (by omega) rfl rfl) ⟨rfl, rfl, rfl, trivial⟩
    · refine g_iconst F a_T_wordIs_24 ?_
      refine g_zret F a_T_wordIs_25 rfl rfl ⟨Nat.le_refl _, Nat.le_refl _⟩ ?_
      refine k0 ?_
      rw [← Bool.not_eq_true]
      intro q
      unfold wB at q
      simp only [Bool.and_eq_true, decide_eq_true_eq] at q
      omega
