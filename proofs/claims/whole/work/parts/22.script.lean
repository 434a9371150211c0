def run (f : Int → Bool) (B : Int → Int) : Nat → Nat → Nat
  | 0, p => p
  | k + 1, p => if f (B p) = true then run f B k (p + 1) else p
/-- how far f goes -/
def scn (f : Int → Bool) (B : Int → Int) (n p : Nat) : Nat := run f B (n - p) p
theorem scn_stop {f : Int → Bool} {B : Int → Int} {n p : Nat} (h : n ≤ p) : scn f B n p = p := by
  unfold scn
  rw [show n - p = 0 by omega]
  rfl
theorem scn_hit {f : Int → Bool} {B : Int → Int} {n p : Nat} (h : p < n) (hf : f (B p) = true) : scn f B n p = scn f B n (p + 1) := by
  unfold scn
  rw [show n - p = (n - (p + 1)) + 1 by omega]
  exact if_pos hf
theorem scn_miss {f : Int → Bool} {B : Int → Int} {n p : Nat} (hf : f (B p) = false) : scn f B n p = p := by
  unfold scn
  cases n - p with
  | zero => rfl
  | succ k => exact if_neg (by rw [hf]; decide)
theorem run_r (f : Int → Bool) (B : Int → Int) : ∀ k p : Nat, p ≤ run f B k p ∧ run f B k p ≤ p + k
  | 0, p => ⟨Nat.le_refl _, Nat.le_refl _⟩
  | k + 1, p => by
    have ih := run_r f B k (p + 1)
    unfold run
    split <;> omega
theorem scn_r (f : Int → Bool) (B : Int → Int) {n p : Nat} (h : p ≤ n) : p ≤ scn f B n p ∧ scn f B n p ≤ n := by
  have := run_r f B (n - p) p
  unfold scn
  omega
def isSp (c : Int) : Bool := decide (c = 32)
def isL (c : Int) : Bool := decide (97 ≤ c ∧ c ≤ 122)
def isF (c : Int) : Bool := decide (48 ≤ c ∧ c ≤ 57)
/-- the TOKEN that is met from p on: where it starts, which, where the next may, its number -/
def lS (B : Int → Int) (n p : Nat) : Nat := scn isSp B n p
def lK (B : Int → Int) (n p : Nat) : Int := if n ≤ lS B n p then 0 else if B (lS B n p) = 59 then 3 else if isL (B (lS B n p)) = true then 1 else if isF (B (lS B n p)) = true then (if scn isF B n (lS B n p) ≤ lS B n p + 2 then 2 else 4) else 4
def lE (B : Int → Int) (n p : Nat) : Nat := if n ≤ lS B n p then lS B n p else if B (lS B n p) = 59 then lS B n p + 1 else if isL (B (lS B n p)) = true then scn isL B n (lS B n p) else if isF (B (lS B n p)) = true then scn isF B n (lS B n p) else lS B n p
def nv (B : Int → Int) (p : Nat) : Nat → Int
  | 0 => 0
  | k + 1 => 10 * nv B p k + B ((p : Int) + k) - 48
def lV (B : Int → Int) (n p : Nat) : Int := nv B (lS B n p) (scn isF B n (lS B n p) - lS B n p)
theorem lS_r {B : Int → Int} {n p : Nat} (h : p ≤ n) : p ≤ lS B n p ∧ lS B n p ≤ n := scn_r isSp B h
theorem lE_r {B : Int → Int} {n p : Nat} (h : p ≤ n) : lS B n p ≤ lE B n p ∧ lE B n p ≤ n := by
  have h1 := lS_r (B := B) h
  have h2 := scn_r isL B h1.2
  have h3 := scn_r isF B h1.2
  unfold lE
  split
  · omega
  · split
    · omega
    · split
      · omega
      · split <;> omega
theorem lK_r (B : Int → Int) (n p : Nat) : 0 ≤ lK B n p ∧ lK B n p ≤ 4 := by
  unfold lK
  split
  · omega
  · split
    · omega
    · split
      · omega
      · split
        · split <;> omega
        · omega
def TX (B : Int → Int) (n p : Nat) (T : Rc) : Prop := T.1 0 = n ∧ T.2 0 = B ∧ T.1 2 = lS B n p ∧ T.1 3 = lE B n p ∧ T.1 4 = lK B n p ∧ (lK B n p = 2 → T.1 5 = lV B n p)
def okB (B : Int → Int) (n : Nat) : Prop := n ≤ 150 ∧ ∀ k : Int, 0 ≤ k ∧ k < n → 0 ≤ B k ∧ B k ≤ 127
set_option maxHeartbeats 1000000 in
theorem sp_T_isLetter {κ : Kx} {Q : Option Value → (Heap → Prop) → Prop} {P : Heap → Prop} {c : Int} (hc : R32 c) (k1 : isL c = true → Q (some (vi 1)) P) (k0 : isL c = false → Q (some (vi 0)) P) : GG κ G_T_isLetter 0 0 0 [vi c] P Q := by
  refine GG.intro (ls := [some _]) (Nat.le_of_ble_eq_true rfl) rfl (fun μ F => ?_)
  refine g_iload_n F a_T_isLetter_0 rfl ?_
  refine g_bipush F a_T_isLetter_1 (by decide) ?_
  refine g_icmp_lt F (by omega) (by omega) a_T_isLetter_3 (fun h3 => ?_) (fun h3 => ?_)
  · refine g_iconst F a_T_isLetter_16 ?_
    refine g_zret F a_T_isLetter_17 rfl rfl ⟨Nat.le_refl _, Nat.le_refl _⟩ ?_
    first | exact k1 (by unfold isL; exact decide_eq_true (by omega)) | exact k0 (by unfold isL; exact decide_eq_false (by omega))
  · refine g_iload_n F a_T_isLetter_6 rfl ?_
    refine g_bipush F a_T_isLetter_7 (by decide) ?_
    refine g_icmp_gt F (by omega) (by omega) a_T_isLetter_9 (fun h9 => ?_) (fun h9 => ?_)
    · refine g_iconst F a_T_isLetter_16 ?_
      refine g_zret F a_T_isLetter_17 rfl rfl ⟨Nat.le_refl _, Nat.le_refl _⟩ ?_
      first | exact k1 (by unfold isL; exact decide_eq_true (by omega)) | exact k0 (by unfold isL; exact decide_eq_false (by omega))
    · refine g_iconst F a_T_isLetter_12 ?_
      refine g_goto F a_T_isLetter_13 ?_
      refine g_zret F a_T_isLetter_17 rfl rfl ⟨Nat.le_refl _, Nat.le_refl _⟩ ?_
      first | exact k1 (by unfold isL; exact decide_eq_true (by omega)) | exact k0 (by unfold isL; exact decide_eq_false (by omega))
set_option maxHeartbeats 1000000 in
theorem sp_T_isFigure {κ : Kx} {Q : Option Value → (Heap → Prop) → Prop} {P : Heap → Prop} {c : Int} (hc : R32 c) (k1 : isF c = true → Q (some (vi 1)) P) (k0 : isF c = false → Q (some (vi 0)) P) : GG κ G_T_isFigure 0 0 0 [vi c] P Q := by
  refine GG.intro (ls := [some _]) (Nat.le_of_ble_eq_true rfl) rfl (fun μ F => ?_)
  refine g_iload_n F a_T_isFigure_0 rfl ?_
  refine g_bipush F a_T_isFigure_1 (by decide) ?_
  refine g_icmp_lt F (by omega) (by omega) a_T_isFigure_3 (fun h3 => ?_) (fun h3 => ?_)
  · refine g_iconst F a_T_isFigure_16 ?_
    refine g_zret F a_T_isFigure_17 rfl rfl ⟨Nat.le_refl _, Nat.le_refl _⟩ ?_
    first | exact k1 (by unfold isF; exact decide_eq_true (by omega)) | exact k0 (by unfold isF; exact decide_eq_false (by omega))
  · refine g_iload_n F a_T_isFigure_6 rfl ?_
    refine g_bipush F a_T_isFigure_7 (by decide) ?_
    refine g_icmp_gt F (by omega) (by omega) a_T_isFigure_9 (fun h9 => ?_) (fun h9 => ?_)
    · refine g_iconst F a_T_isFigure_16 ?_
      refine g_zret F a_T_isFigure_17 rfl rfl ⟨Nat.le_refl _, Nat.le_refl _⟩ ?_
      first | exact k1 (by unfold isF; exact decide_eq_true (by omega)) | exact k0 (by unfold isF; exact decide_eq_false (by omega))
    · refine g_iconst F a_T_isFigure_12 ?_
      refine g_goto F a_T_isFigure_13 ?_
      refine g_zret F a_T_isFigure_17 rfl rfl ⟨Nat.le_refl _, Nat.le_refl _⟩ ?_
      first | exact k1 (by unfold isF; exact decide_eq_true (by omega)) | exact k0 (by unfold isF; exact decide_eq_false (by omega))
set_option maxHeartbeats 2000000 in
theorem lp_T_word {κ : Kx} {μ : MX} {Q : Option Value → (Heap → Prop) → Prop} {m : Mem} {z p : Nat} (hB0 : okB ((m 5 0).2 0) z) (hpz : p ≤ z) (k : ∀ T : Rc, T.1 0 = z → T.1 2 = (m 5 0).1 2 → T.1 3 = scn isL ((m 5 0).2 0) z p → T.1 4 = 1 → T.2 = (m 5 0).2 → Q none (World κ (mset m 5 0 T))) (F : Fx κ G_T_advanceWord 1 0 0 μ) :
    ∀ (n : Nat) (j : Nat) (T : Rc), z < j + n → j ≤ z → T.1 0 = z → T.1 2 = (m 5 0).1 2 → T.1 3 = j → T.1 4 = 1 → T.2 = (m 5 0).2 → scn isL ((m 5 0).2 0) z p = scn isL ((m 5 0).2 0) z j →  GC κ μ (ZZ κ μ 0 0 Q) 0 0 5 [some (.ref (ad κ 5 0))] [] (World κ (mset m 5 0 T)) := by
  have hB := hB0.2
  have hz150 := hB0.1
  intro n
  induction n with
  | zero =>
    intro j T hn hj h0 h2 h3 h4 hT2 hs
    exact absurd hn (by omega)
  | succ n ih =>
    intro j T hn hj h0 h2 h3 h4 hT2 hs
    refine g_aload_n F a_T_advanceWord_5 rfl ?_
    refine g_get_5_3 F a_T_advanceWord_6 fl_T_19 ?_
    (try simp only [mset_app, mset_mset, fup_app, aup_app, fup_fup, aup_aup, false_and, and_false, true_and, and_true, and_self, reduceIte, Nat.reduceEqDiff, reduceCtorEq, fup_10])
    refine g_aload_n F a_T_advanceWord_9 rfl ?_
    refine g_get_5_0 F a_T_advanceWord_10 fl_T_15 ?_
    (try simp only [mset_app, mset_mset, fup_app, aup_app, fup_fup, aup_aup, false_and, and_false, true_and, and_true, and_self, reduceIte, Nat.reduceEqDiff, reduceCtorEq, fup_10])
    refine g_icmp_ge F (by first | omega | (have := hB (T.1 3) (by omega); rw [← hT2] at this; omega)) (by first | omega | (have := hB (T.1 3) (by omega); rw [← hT2] at this; omega)) a_T_advanceWord_13 (fun h13 => ?_) (fun h13 => ?_)
    · refine g_ret F a_T_advanceWord_44 rfl ⟨Nat.le_refl _, Nat.le_refl _⟩ ?_
      exact k T h0 h2 (by rw [hs, scn_stop (by omega), h3]) h4 hT2
    · refine g_aload_n F a_T_advanceWord_16 rfl ?_
      refine g_get_5_1 F a_T_advanceWord_17 fl_T_11 ?_
      (try simp only [mset_app, mset_mset, fup_app, aup_app, fup_fup, aup_aup, false_and, and_false, true_and, and_true, and_self, reduceIte, Nat.reduceEqDiff, reduceCtorEq, fup_10])
      refine g_aload_n F a_T_advanceWord_20 rfl ?_
      refine g_get_5_3 F a_T_advanceWord_21 fl_T_19 ?_
      (try simp only [mset_app, mset_mset, fup_app, aup_app, fup_fup, aup_aup, false_and, and_false, true_and, and_true, and_self, reduceIte, Nat.reduceEqDiff, reduceCtorEq, fup_10])
      refine g_ild_5_0 F a_T_advanceWord_24 (by omega) ?_
      (try simp only [mset_app, mset_mset, fup_app, aup_app, fup_fup, aup_aup, false_and, and_false, true_and, and_true, and_self, reduceIte, Nat.reduceEqDiff, reduceCtorEq, fup_10])
      refine g_s1 F a_T_advanceWord_25 sc_T_119 mk_T_isLetter rfl (by decide) ⟨Nat.le_refl _, Nat.le_refl _⟩ rfl (Nat.le_of_ble_eq_true rfl) (sp_T_isLetter (by first | omega | (have := hB (T.1 3) (by omega); rw [← hT2] at this; omega)) (fun c25 => GCr.v ?_) (fun c25 => GCr.v ?_))
      · refine g_ifeq1 F a_T_advanceWord_28 ?_
        refine g_aload_n F a_T_advanceWord_31 rfl ?_
        refine g_dup F a_T_advanceWord_32 rfl ?_
        refine g_get_5_3 F a_T_advanceWord_33 fl_T_19 ?_
        (try simp only [mset_app, mset_mset, fup_app, aup_app, fup_fup, aup_aup, false_and, and_false, true_and, and_true, and_self, reduceIte, Nat.reduceEqDiff, reduceCtorEq, fup_10])
        refine g_iconst F a_T_advanceWord_36 ?_
        refine g_iadd F a_T_advanceWord_37 ?_
        refine g_put_5_3 F a_T_advanceWord_38 fl_T_19 ?_
        (try simp only [mset_app, mset_mset, fup_app, aup_app, fup_fup, aup_aup, false_and, and_false, true_and, and_true, and_self, reduceIte, Nat.reduceEqDiff, reduceCtorEq, fup_10])
        refine g_goto F a_T_advanceWord_41 ?_
        have c25' := c25
        rw [hT2, h3] at c25'
        exact GC.loc2 (ih (j + 1) _ (by omega) (by omega) h0 h2 (by show T.1 3 + 1 = _; omega) h4 hT2 (hs.trans (scn_hit (by omega) c25'))) ⟨rfl, trivial⟩
      · refine g_ifeq0 F a_T_advanceWord_28 ?_
        refine g_ret F a_T_advanceWord_44 rfl ⟨Nat.le_refl _, Nat.le_refl _⟩ ?_
        have c25' := c25
        rw [hT2, h3] at c25'
        exact k T h0 h2 (by rw [hs, scn_miss c25', h3]) h4 hT2
set_option maxHeartbeats 1000000 in
theorem sp_T_advanceWord {κ : Kx} {Q : Option Value → (Heap → Prop) → Prop} {m : Mem} {z p : Nat} (hB0 : okB ((m 5 0).2 0) z) (hpz : p ≤ z) (h0 : (m 5 0).1 0 = z) (h3 : (m 5 0).1 3 = p) (k : ∀ T : Rc, T.1 0 = z → T.1 2 = (m 5 0).1 2 → T.1 3 = scn isL ((m 5 0).2 0) z p → T.1 4 = 1 → T.2 = (m 5 0).2 → Q none (World κ (mset m 5 0 T))) : GG κ G_T_advanceWord 1 0 0 [.ref (ad κ 5 0)] (World κ m) Q := by
  have hB := hB0.2
  have hz150 := hB0.1
  refine GG.intro (ls := [some _]) (Nat.le_of_ble_eq_true rfl) rfl (fun μ F => ?_)
  refine g_aload_n F a_T_advanceWord_0 rfl ?_
  refine g_iconst F a_T_advanceWord_1 ?_
  refine g_put_5_4 F a_T_advanceWord_2 fl_T_25 ?_
  (try simp only [mset_app, mset_mset, fup_app, aup_app, fup_fup, aup_aup, false_and, and_false, true_and, and_true, and_self, reduceIte, Nat.reduceEqDiff, reduceCtorEq, fup_10])
  exact GC.loc2 (lp_T_word hB0 hpz k F (z + 1) p _ (by omega) hpz h0 rfl h3 rfl rfl rfl) ⟨rfl, trivial⟩
set_option maxHeartbeats 2000000 in
theorem lp_T_num {κ : Kx} {μ : MX} {Q : Option Value → (Heap → Prop) → Prop} {m : Mem} {z p : Nat} (hB0 : okB ((m 5 0).2 0) z) (hpz : p ≤ z) (hst : (m 5 0).1 2 = p) (k : ∀ T : Rc, T.1 0 = z → T.1 2 = (m 5 0).1 2 → T.1 3 = scn isF ((m 5 0).2 0) z p → T.1 4 = (if scn isF ((m 5 0).2 0) z p ≤ p + 2 then 2 else 4) → T.1 5 = nv ((m 5 0).2 0) p (scn isF ((m 5 0).2 0) z p - p) → T.2 = (m 5 0).2 → Q none (World κ (mset m 5 0 T))) (F : Fx κ G_T_advanceNumber 1 0 0 μ) :
    ∀ (n : Nat) (j : Nat) (T : Rc), z < j + n → (p ≤ j ∧ j ≤ z) → T.1 0 = z → T.1 2 = (m 5 0).1 2 → T.1 3 = j → T.1 5 = nv ((m 5 0).2 0) p (j - p) → T.2 = (m 5 0).2 → scn isF ((m 5 0).2 0) z p = scn isF ((m 5 0).2 0) z j →  GC κ μ (ZZ κ μ 0 0 Q) 0 0 5 [some (.ref (ad κ 5 0))] [] (World κ (mset m 5 0 T)) := by
  have hB := hB0.2
  have hz150 := hB0.1
  intro n
  induction n with
  | zero =>
    intro j T hn hj h0 h2 h3 h5 hT2 hs
    exact absurd hn (by omega)
  | succ n ih =>
    intro j T hn hj h0 h2 h3 h5 hT2 hs
    refine g_aload_n F a_T_advanceNumber_5 rfl ?_
    refine g_get_5_3 F a_T_advanceNumber_6 fl_T_19 ?_
    (try simp only [mset_app, mset_mset, fup_app, aup_app, fup_fup, aup_aup, false_and, and_false, true_and, and_true, and_self, reduceIte, Nat.reduceEqDiff, reduceCtorEq, fup_10])
    refine g_aload_n F a_T_advanceNumber_9 rfl ?_
    refine g_get_5_0 F a_T_advanceNumber_10 fl_T_15 ?_
    (try simp only [mset_app, mset_mset, fup_app, aup_app, fup_fup, aup_aup, false_and, and_false, true_and, and_true, and_self, reduceIte, Nat.reduceEqDiff, reduceCtorEq, fup_10])
    refine g_icmp_ge F (by first | omega | (have := hB (T.1 3) (by omega); rw [← hT2] at this; omega)) (by first | omega | (have := hB (T.1 3) (by omega); rw [← hT2] at this; omega)) a_T_advanceNumber_13 (fun h13 => ?_) (fun h13 => ?_)
    · have ES : scn isF ((m 5 0).2 0) z p = j := by rw [hs, scn_stop (by omega)]
      refine g_aload_n F a_T_advanceNumber_68 rfl ?_
      refine g_aload_n F a_T_advanceNumber_69 rfl ?_
      refine g_get_5_3 F a_T_advanceNumber_70 fl_T_19 ?_
      (try simp only [mset_app, mset_mset, fup_app, aup_app, fup_fup, aup_aup, false_and, and_false, true_and, and_true, and_self, reduceIte, Nat.reduceEqDiff, reduceCtorEq, fup_10])
      refine g_aload_n F a_T_advanceNumber_73 rfl ?_
      refine g_get_5_2 F a_T_advanceNumber_74 fl_T_32 ?_
      (try simp only [mset_app, mset_mset, fup_app, aup_app, fup_fup, aup_aup, false_and, and_false, true_and, and_true, and_self, reduceIte, Nat.reduceEqDiff, reduceCtorEq, fup_10])
      refine g_isub F a_T_advanceNumber_77 ?_
      refine g_iconst F a_T_advanceNumber_78 ?_
      refine g_icmp_gt F (by first | omega | (have := hB (T.1 3) (by omega); rw [← hT2] at this; omega)) (by first | omega | (have := hB (T.1 3) (by omega); rw [← hT2] at this; omega)) a_T_advanceNumber_79 (fun h79 => ?_) (fun h79 => ?_)
      · refine g_iconst F a_T_advanceNumber_86 ?_
        refine g_put_5_4 F a_T_advanceNumber_87 fl_T_25 ?_
        (try simp only [mset_app, mset_mset, fup_app, aup_app, fup_fup, aup_aup, false_and, and_false, true_and, and_true, and_self, reduceIte, Nat.reduceEqDiff, reduceCtorEq, fup_10])
        refine g_ret F a_T_advanceNumber_90 rfl ⟨Nat.le_refl _, Nat.le_refl _⟩ ?_
        exact k _ h0 h2 (by rw [ES]; exact h3) (by show _ = ite _ _ _; rw [ES]; first | rw [if_pos (by omega)]; rfl | rw [if_neg (by omega)]; rfl) (by show T.1 5 = _; rw [h5, ES]) hT2
      · refine g_iconst F a_T_advanceNumber_82 ?_
        refine g_goto F a_T_advanceNumber_83 ?_
        refine g_put_5_4 F a_T_advanceNumber_87 fl_T_25 ?_
        (try simp only [mset_app, mset_mset, fup_app, aup_app, fup_fup, aup_aup, false_and, and_false, true_and, and_true, and_self, reduceIte, Nat.reduceEqDiff, reduceCtorEq, fup_10])
        refine g_ret F a_T_advanceNumber_90 rfl ⟨Nat.le_refl _, Nat.le_refl _⟩ ?_
        exact k _ h0 h2 (by rw [ES]; exact h3) (by show _ = ite _ _ _; rw [ES]; first | rw [if_pos (by omega)]; rfl | rw [if_neg (by omega)]; rfl) (by show T.1 5 = _; rw [h5, ES]) hT2
    · refine g_aload_n F a_T_advanceNumber_16 rfl ?_
      refine g_get_5_1 F a_T_advanceNumber_17 fl_T_11 ?_
      (try simp only [mset_app, mset_mset, fup_app, aup_app, fup_fup, aup_aup, false_and, and_false, true_and, and_true, and_self, reduceIte, Nat.reduceEqDiff, reduceCtorEq, fup_10])
      refine g_aload_n F a_T_advanceNumber_20 rfl ?_
      refine g_get_5_3 F a_T_advanceNumber_21 fl_T_19 ?_
      (try simp only [mset_app, mset_mset, fup_app, aup_app, fup_fup, aup_aup, false_and, and_false, true_and, and_true, and_self, reduceIte, Nat.reduceEqDiff, reduceCtorEq, fup_10])
      refine g_ild_5_0 F a_T_advanceNumber_24 (by omega) ?_
      (try simp only [mset_app, mset_mset, fup_app, aup_app, fup_fup, aup_aup, false_and, and_false, true_and, and_true, and_self, reduceIte, Nat.reduceEqDiff, reduceCtorEq, fup_10])
      refine g_s1 F a_T_advanceNumber_25 sc_T_126 mk_T_isFigure rfl (by decide) ⟨Nat.le_refl _, Nat.le_refl _⟩ rfl (Nat.le_of_ble_eq_true rfl) (sp_T_isFigure (by first | omega | (have := hB (T.1 3) (by omega); rw [← hT2] at this; omega)) (fun c25 => GCr.v ?_) (fun c25 => GCr.v ?_))
      · refine g_ifeq1 F a_T_advanceNumber_28 ?_
        refine g_aload_n F a_T_advanceNumber_31 rfl ?_
        refine g_bipush F a_T_advanceNumber_32 (by decide) ?_
        refine g_aload_n F a_T_advanceNumber_34 rfl ?_
        refine g_get_5_5 F a_T_advanceNumber_35 fl_T_103 ?_
        (try simp only [mset_app, mset_mset, fup_app, aup_app, fup_fup, aup_aup, false_and, and_false, true_and, and_true, and_self, reduceIte, Nat.reduceEqDiff, reduceCtorEq, fup_10])
        refine g_imul F a_T_advanceNumber_38 ?_
        refine g_aload_n F a_T_advanceNumber_39 rfl ?_
        refine g_get_5_1 F a_T_advanceNumber_40 fl_T_11 ?_
        (try simp only [mset_app, mset_mset, fup_app, aup_app, fup_fup, aup_aup, false_and, and_false, true_and, and_true, and_self, reduceIte, Nat.reduceEqDiff, reduceCtorEq, fup_10])
        refine g_aload_n F a_T_advanceNumber_43 rfl ?_
        refine g_get_5_3 F a_T_advanceNumber_44 fl_T_19 ?_
        (try simp only [mset_app, mset_mset, fup_app, aup_app, fup_fup, aup_aup, false_and, and_false, true_and, and_true, and_self, reduceIte, Nat.reduceEqDiff, reduceCtorEq, fup_10])
        refine g_ild_5_0 F a_T_advanceNumber_47 (by omega) ?_
        (try simp only [mset_app, mset_mset, fup_app, aup_app, fup_fup, aup_aup, false_and, and_false, true_and, and_true, and_self, reduceIte, Nat.reduceEqDiff, reduceCtorEq, fup_10])
        refine g_iadd F a_T_advanceNumber_48 ?_
        refine g_bipush F a_T_advanceNumber_49 (by decide) ?_
        refine g_isub F a_T_advanceNumber_51 ?_
        refine g_put_5_5 F a_T_advanceNumber_52 fl_T_103 ?_
        (try simp only [mset_app, mset_mset, fup_app, aup_app, fup_fup, aup_aup, false_and, and_false, true_and, and_true, and_self, reduceIte, Nat.reduceEqDiff, reduceCtorEq, fup_10])
        refine g_aload_n F a_T_advanceNumber_55 rfl ?_
        refine g_dup F a_T_advanceNumber_56 rfl ?_
        refine g_get_5_3 F a_T_advanceNumber_57 fl_T_19 ?_
        (try simp only [mset_app, mset_mset, fup_app, aup_app, fup_fup, aup_aup, false_and, and_false, true_and, and_true, and_self, reduceIte, Nat.reduceEqDiff, reduceCtorEq, fup_10])
        refine g_iconst F a_T_advanceNumber_60 ?_
        refine g_iadd F a_T_advanceNumber_61 ?_
        refine g_put_5_3 F a_T_advanceNumber_62 fl_T_19 ?_
        (try simp only [mset_app, mset_mset, fup_app, aup_app, fup_fup, aup_aup, false_and, and_false, true_and, and_true, and_self, reduceIte, Nat.reduceEqDiff, reduceCtorEq, fup_10])
        refine g_goto F a_T_advanceNumber_65 ?_
        have c25' := c25
        rw [hT2, h3] at c25'
        refine GC.loc2 (ih (j + 1) _ (by omega) (by omega) h0 h2 (by show T.1 3 + 1 = _; omega) ?_ hT2 (hs.trans (scn_hit (by omega) c25'))) ⟨rfl, trivial⟩
        show 10 * T.1 5 + T.2 0 (T.1 3) - 48 = _
        rw [show j + 1 - p = (j - p) + 1 by omega]
        show _ = 10 * nv ((m 5 0).2 0) p (j - p) + (m 5 0).2 0 ((p : Int) + ((j - p : Nat) : Int)) - 48
        rw [h5, hT2, h3, show ((p : Int) + ((j - p : Nat) : Int)) = (j : Int) by omega]
      · refine g_ifeq0 F a_T_advanceNumber_28 ?_
        have c25' := c25
        rw [hT2, h3] at c25'
        have ES : scn isF ((m 5 0).2 0) z p = j := by rw [hs, scn_miss c25']
        refine g_aload_n F a_T_advanceNumber_68 rfl ?_
        refine g_aload_n F a_T_advanceNumber_69 rfl ?_
        refine g_get_5_3 F a_T_advanceNumber_70 fl_T_19 ?_
        (try simp only [mset_app, mset_mset, fup_app, aup_app, fup_fup, aup_aup, false_and, and_false, true_and, and_true, and_self, reduceIte, Nat.reduceEqDiff, reduceCtorEq, fup_10])
        refine g_aload_n F a_T_advanceNumber_73 rfl ?_
        refine g_get_5_2 F a_T_advanceNumber_74 fl_T_32 ?_
        (try simp only [mset_app, mset_mset, fup_app, aup_app, fup_fup, aup_aup, false_and, and_false, true_and, and_true, and_self, reduceIte, Nat.reduceEqDiff, reduceCtorEq, fup_10])
        refine g_isub F a_T_advanceNumber_77 ?_
        refine g_iconst F a_T_advanceNumber_78 ?_
        refine g_icmp_gt F (by first | omega | (have := hB (T.1 3) (by omega); rw [← hT2] at this; omega)) (by first | omega | (have := hB (T.1 3) (by omega); rw [← hT2] at this; omega)) a_T_advanceNumber_79 (fun h79 => ?_) (fun h79 => ?_)
        · refine g_iconst F a_T_advanceNumber_86 ?_
          refine g_put_5_4 F a_T_advanceNumber_87 fl_T_25 ?_
          (try simp only [mset_app, mset_mset, fup_app, aup_app, fup_fup, aup_aup, false_and, and_false, true_and, and_true, and_self, reduceIte, Nat.reduceEqDiff, reduceCtorEq, fup_10])
          refine g_ret F a_T_advanceNumber_90 rfl ⟨Nat.le_refl _, Nat.le_refl _⟩ ?_
          exact k _ h0 h2 (by rw [ES]; exact h3) (by show _ = ite _ _ _; rw [ES]; first | rw [if_pos (by omega)]; rfl | rw [if_neg (by omega)]; rfl) (by show T.1 5 = _; rw [h5, ES]) hT2
        · refine g_iconst F a_T_advanceNumber_82 ?_
          refine g_goto F a_T_advanceNumber_83 ?_
          refine g_put_5_4 F a_T_advanceNumber_87 fl_T_25 ?_
          (try simp only [mset_app, mset_mset, fup_app, aup_app, fup_fup, aup_aup, false_and, and_false, true_and, and_true, and_self, reduceIte, Nat.reduceEqDiff, reduceCtorEq, fup_10])
          refine g_ret F a_T_advanceNumber_90 rfl ⟨Nat.le_refl _, Nat.le_refl _⟩ ?_
          exact k _ h0 h2 (by rw [ES]; exact h3) (by show _ = ite _ _ _; rw [ES]; first | rw [if_pos (by omega)]; rfl | rw [if_neg (by omega)]; rfl) (by show T.1 5 = _; rw [h5, ES]) hT2
set_option maxHeartbeats 1000000 in
theorem sp_T_advanceNumber {κ : Kx} {Q : Option Value → (Heap → Prop) → Prop} {m : Mem} {z p : Nat} (hB0 : okB ((m 5 0).2 0) z) (hpz : p ≤ z) (h0 : (m 5 0).1 0 = z) (h3 : (m 5 0).1 3 = p) (hst : (m 5 0).1 2 = p) (k : ∀ T : Rc, T.1 0 = z → T.1 2 = (m 5 0).1 2 → T.1 3 = scn isF ((m 5 0).2 0) z p → T.1 4 = (if scn isF ((m 5 0).2 0) z p ≤ p + 2 then 2 else 4) → T.1 5 = nv ((m 5 0).2 0) p (scn isF ((m 5 0).2 0) z p - p) → T.2 = (m 5 0).2 → Q none (World κ (mset m 5 0 T))) : GG κ G_T_advanceNumber 1 0 0 [.ref (ad κ 5 0)] (World κ m) Q := by
  have hB := hB0.2
  have hz150 := hB0.1
  refine GG.intro (ls := [some _]) (Nat.le_of_ble_eq_true rfl) rfl (fun μ F => ?_)
  refine g_aload_n F a_T_advanceNumber_0 rfl ?_
  refine g_iconst F a_T_advanceNumber_1 ?_
  refine g_put_5_5 F a_T_advanceNumber_2 fl_T_103 ?_
  (try simp only [mset_app, mset_mset, fup_app, aup_app, fup_fup, aup_aup, false_and, and_false, true_and, and_true, and_self, reduceIte, Nat.reduceEqDiff, reduceCtorEq, fup_10])
  exact GC.loc2 (lp_T_num hB0 hpz hst k F (z + 1) p _ (by omega) ⟨Nat.le_refl _, hpz⟩ h0 rfl h3 (by rw [Nat.sub_self]; rfl) rfl rfl) ⟨rfl, trivial⟩
theorem lx_e {B : Int → Int} {z p j : Nat} (ES : lS B z p = j) (h : z ≤ j) : lK B z p = 0 ∧ lE B z p = j := by
  unfold lK lE
  rw [ES, if_pos h, if_pos h]
  exact ⟨rfl, rfl⟩
theorem lx_s {B : Int → Int} {z p j : Nat} (ES : lS B z p = j) (h : j < z) (h1 : B j = 59) : lK B z p = 3 ∧ lE B z p = j + 1 := by
  unfold lK lE
  rw [ES]
  simp [Nat.not_le.mpr h, h1]
theorem lx_w {B : Int → Int} {z p j : Nat} (ES : lS B z p = j) (h : j < z) (h1 : ¬ B j = 59) (h2 : isL (B j) = true) : lK B z p = 1 ∧ lE B z p = scn isL B z j := by
  unfold lK lE
  rw [ES]
  simp [Nat.not_le.mpr h, h1, h2]
theorem lx_n {B : Int → Int} {z p j : Nat} (ES : lS B z p = j) (h : j < z) (h1 : ¬ B j = 59) (h2 : isL (B j) = false) (h3 : isF (B j) = true) : lK B z p = (if scn isF B z j ≤ j + 2 then 2 else 4) ∧ lE B z p = scn isF B z j ∧ lV B z p = nv B j (scn isF B z j - j) := by
  unfold lK lE lV
  rw [ES]
  simp [Nat.not_le.mpr h, h1, h2, h3]
theorem lx_x {B : Int → Int} {z p j : Nat} (ES : lS B z p = j) (h : j < z) (h1 : ¬ B j = 59) (h2 : isL (B j) = false) (h3 : isF (B j) = false) : lK B z p = 4 ∧ lE B z p = j := by
  unfold lK lE
  rw [ES]
  simp [Nat.not_le.mpr h, h1, h2, h3]
set_option maxHeartbeats 2000000 in
theorem tl_T_adv {κ : Kx} {Q : Option Value → (Heap → Prop) → Prop} {μ : MX} (F : Fx κ G_T_advance 2 0 0 μ) {m : Mem} {z p : Nat} (hB0 : okB ((m 5 0).2 0) z) (hpz : p ≤ z) {T : Rc} {j : Nat} (hj : j ≤ z) (h0 : T.1 0 = z) (h3 : T.1 3 = j) (hT2 : T.2 = (m 5 0).2) (ES : lS ((m 5 0).2 0) z p = j) (k : ∀ T : Rc, TX ((m 5 0).2 0) z p T → T.2 = (m 5 0).2 → Q none (World κ (mset m 5 0 T))) : GC κ μ (ZZ κ μ 0 0 Q) 0 0 38 [some (.ref (ad κ 5 0))] [] (World κ (mset m 5 0 T)) := by
  have hB := hB0.2
  have hz150 := hB0.1
  have hB1 : okB (T.2 0) z := by rw [hT2]; exact hB0
  refine g_aload_n F a_T_advance_38 rfl ?_
  refine g_aload_n F a_T_advance_39 rfl ?_
  refine g_get_5_3 F a_T_advance_40 fl_T_19 ?_
  (try simp only [mset_app, mset_mset, fup_app, aup_app, fup_fup, aup_aup, false_and, and_false, true_and, and_true, and_self, reduceIte, Nat.reduceEqDiff, reduceCtorEq, fup_10])
  refine g_put_5_2 F a_T_advance_43 fl_T_32 ?_
  (try simp only [mset_app, mset_mset, fup_app, aup_app, fup_fup, aup_aup, false_and, and_false, true_and, and_true, and_self, reduceIte, Nat.reduceEqDiff, reduceCtorEq, fup_10])
  refine g_aload_n F a_T_advance_46 rfl ?_
  refine g_get_5_3 F a_T_advance_47 fl_T_19 ?_
  (try simp only [mset_app, mset_mset, fup_app, aup_app, fup_fup, aup_aup, false_and, and_false, true_and, and_true, and_self, reduceIte, Nat.reduceEqDiff, reduceCtorEq, fup_10])
  refine g_aload_n F a_T_advance_50 rfl ?_
  refine g_get_5_0 F a_T_advance_51 fl_T_15 ?_
  (try simp only [mset_app, mset_mset, fup_app, aup_app, fup_fup, aup_aup, false_and, and_false, true_and, and_true, and_self, reduceIte, Nat.reduceEqDiff, reduceCtorEq, fup_10])
  refine g_icmp_lt F (by first | omega | (have := hB (T.1 3) (by omega); rw [← hT2] at this; omega)) (by first | omega | (have := hB (T.1 3) (by omega); rw [← hT2] at this; omega)) a_T_advance_54 (fun h54 => ?_) (fun h54 => ?_)
  · refine g_aload_n F a_T_advance_65 rfl ?_
    refine g_get_5_1 F a_T_advance_66 fl_T_11 ?_
    (try simp only [mset_app, mset_mset, fup_app, aup_app, fup_fup, aup_aup, false_and, and_false, true_and, and_true, and_self, reduceIte, Nat.reduceEqDiff, reduceCtorEq, fup_10])
    refine g_aload_n F a_T_advance_69 rfl ?_
    refine g_get_5_3 F a_T_advance_70 fl_T_19 ?_
    (try simp only [mset_app, mset_mset, fup_app, aup_app, fup_fup, aup_aup, false_and, and_false, true_and, and_true, and_self, reduceIte, Nat.reduceEqDiff, reduceCtorEq, fup_10])
    refine g_ild_5_0 F a_T_advance_73 (by omega) ?_
    (try simp only [mset_app, mset_mset, fup_app, aup_app, fup_fup, aup_aup, false_and, and_false, true_and, and_true, and_self, reduceIte, Nat.reduceEqDiff, reduceCtorEq, fup_10])
    refine g_bipush F a_T_advance_74 (by decide) ?_
    refine g_icmp_ne F (by first | omega | (have := hB (T.1 3) (by omega); rw [← hT2] at this; omega)) (by first | omega | (have := hB (T.1 3) (by omega); rw [← hT2] at this; omega)) a_T_advance_76 (fun h76 => ?_) (fun h76 => ?_)
    · refine g_aload_n F a_T_advance_97 rfl ?_
      refine g_get_5_1 F a_T_advance_98 fl_T_11 ?_
      (try simp only [mset_app, mset_mset, fup_app, aup_app, fup_fup, aup_aup, false_and, and_false, true_and, and_true, and_self, reduceIte, Nat.reduceEqDiff, reduceCtorEq, fup_10])
      refine g_aload_n F a_T_advance_101 rfl ?_
      refine g_get_5_3 F a_T_advance_102 fl_T_19 ?_
      (try simp only [mset_app, mset_mset, fup_app, aup_app, fup_fup, aup_aup, false_and, and_false, true_and, and_true, and_self, reduceIte, Nat.reduceEqDiff, reduceCtorEq, fup_10])
      refine g_ild_5_0 F a_T_advance_105 (by omega) ?_
      (try simp only [mset_app, mset_mset, fup_app, aup_app, fup_fup, aup_aup, false_and, and_false, true_and, and_true, and_self, reduceIte, Nat.reduceEqDiff, reduceCtorEq, fup_10])
      refine g_s1 F a_T_advance_106 sc_T_119 mk_T_isLetter rfl (by decide) ⟨Nat.le_refl _, Nat.le_refl _⟩ rfl (Nat.le_of_ble_eq_true rfl) (sp_T_isLetter (by first | omega | (have := hB (T.1 3) (by omega); rw [← hT2] at this; omega)) (fun c106 => GCr.v ?_) (fun c106 => GCr.v ?_))
      · refine g_ifeq1 F a_T_advance_109 ?_
        refine g_aload_n F a_T_advance_112 rfl ?_
        refine g_v0 F a_T_advance_113 vc_T_123 mk_T_advanceWord ob_5 ck_5.1 rfl rfl (by decide) ⟨Nat.le_refl _, Nat.le_refl _⟩ rfl (Nat.le_of_ble_eq_true rfl) (sp_T_advanceWord (z := z) (p := j) (by exact hB1) (by omega) (by exact h0) (by exact h3) (fun T3 g0 g2 g3 g4 g5 => (GCr.n ?_)))
        (try simp only [mset_app, mset_mset, fup_app, aup_app, fup_fup, aup_aup, false_and, and_false, true_and, and_true, and_self, reduceIte, Nat.reduceEqDiff, reduceCtorEq, fup_10])
        refine g_goto F a_T_advance_116 ?_
        refine g_ret F a_T_advance_146 rfl ⟨Nat.le_refl _, Nat.le_refl _⟩ ?_
        have b76 : ¬ (m 5 0).2 0 j = 59 := by
          have q := h76
          rw [hT2, h3] at q
          exact q
        have b109 : isL ((m 5 0).2 0 j) = true := by
          have q := c106
          rw [hT2, h3] at q
          exact q
        have q := lx_w ES (by omega) b76 b109
        have g3' : T3.1 3 = scn isL (T.2 0) z j := g3
        exact k T3 ⟨g0, congrFun (g5.trans hT2) 0, g2.trans (h3.trans (by rw [ES])), by rw [q.2, g3', hT2], by rw [q.1, g4], fun e => by rw [q.1] at e; exact absurd e (by decide)⟩ (g5.trans hT2)
      · refine g_ifeq0 F a_T_advance_109 ?_
        refine g_aload_n F a_T_advance_119 rfl ?_
        refine g_get_5_1 F a_T_advance_120 fl_T_11 ?_
        (try simp only [mset_app, mset_mset, fup_app, aup_app, fup_fup, aup_aup, false_and, and_false, true_and, and_true, and_self, reduceIte, Nat.reduceEqDiff, reduceCtorEq, fup_10])
        refine g_aload_n F a_T_advance_123 rfl ?_
        refine g_get_5_3 F a_T_advance_124 fl_T_19 ?_
        (try simp only [mset_app, mset_mset, fup_app, aup_app, fup_fup, aup_aup, false_and, and_false, true_and, and_true, and_self, reduceIte, Nat.reduceEqDiff, reduceCtorEq, fup_10])
        refine g_ild_5_0 F a_T_advance_127 (by omega) ?_
        (try simp only [mset_app, mset_mset, fup_app, aup_app, fup_fup, aup_aup, false_and, and_false, true_and, and_true, and_self, reduceIte, Nat.reduceEqDiff, reduceCtorEq, fup_10])
        refine g_s1 F a_T_advance_128 sc_T_126 mk_T_isFigure rfl (by decide) ⟨Nat.le_refl _, Nat.le_refl _⟩ rfl (Nat.le_of_ble_eq_true rfl) (sp_T_isFigure (by first | omega | (have := hB (T.1 3) (by omega); rw [← hT2] at this; omega)) (fun c128 => GCr.v ?_) (fun c128 => GCr.v ?_))
        · refine g_ifeq1 F a_T_advance_131 ?_
          refine g_aload_n F a_T_advance_134 rfl ?_
          refine g_v0 F a_T_advance_135 vc_T_129 mk_T_advanceNumber ob_5 ck_5.1 rfl rfl (by decide) ⟨Nat.le_refl _, Nat.le_refl _⟩ rfl (Nat.le_of_ble_eq_true rfl) (sp_T_advanceNumber (z := z) (p := j) (by exact hB1) (by omega) (by exact h0) (by exact h3) (by exact h3) (fun T3 g0 g2 g3 g4 g5 g6 => (GCr.n ?_)))
          (try simp only [mset_app, mset_mset, fup_app, aup_app, fup_fup, aup_aup, false_and, and_false, true_and, and_true, and_self, reduceIte, Nat.reduceEqDiff, reduceCtorEq, fup_10])
          refine g_goto F a_T_advance_138 ?_
          refine g_ret F a_T_advance_146 rfl ⟨Nat.le_refl _, Nat.le_refl _⟩ ?_
          have b76 : ¬ (m 5 0).2 0 j = 59 := by
            have q := h76
            rw [hT2, h3] at q
            exact q
          have b109 : isL ((m 5 0).2 0 j) = false := by
            have q := c106
            rw [hT2, h3] at q
            exact q
          have b131 : isF ((m 5 0).2 0 j) = true := by
            have q := c128
            rw [hT2, h3] at q
            exact q
          have q := lx_n ES (by omega) b76 b109 b131
          have g3' : T3.1 3 = scn isF (T.2 0) z j := g3
          have g4' : T3.1 4 = if scn isF (T.2 0) z j ≤ j + 2 then 2 else 4 := g4
          have g5' : T3.1 5 = nv (T.2 0) j (scn isF (T.2 0) z j - j) := g5
          exact k T3 ⟨g0, congrFun (g6.trans hT2) 0, g2.trans (h3.trans (by rw [ES])), by rw [q.2.1, g3', hT2], by rw [q.1, g4', hT2], fun e => by rw [q.2.2, g5', hT2]⟩ (g6.trans hT2)
        · refine g_ifeq0 F a_T_advance_131 ?_
          refine g_aload_n F a_T_advance_141 rfl ?_
          refine g_iconst F a_T_advance_142 ?_
          refine g_put_5_4 F a_T_advance_143 fl_T_25 ?_
          (try simp only [mset_app, mset_mset, fup_app, aup_app, fup_fup, aup_aup, false_and, and_false, true_and, and_true, and_self, reduceIte, Nat.reduceEqDiff, reduceCtorEq, fup_10])
          refine g_ret F a_T_advance_146 rfl ⟨Nat.le_refl _, Nat.le_refl _⟩ ?_
          have b76 : ¬ (m 5 0).2 0 j = 59 := by
            have q := h76
            rw [hT2, h3] at q
            exact q
          have b109 : isL ((m 5 0).2 0 j) = false := by
            have q := c106
            rw [hT2, h3] at q
            exact q
          have b131 : isF ((m 5 0).2 0 j) = false := by
            have q := c128
            rw [hT2, h3] at q
            exact q
          have q := lx_x ES (by omega) b76 b109 b131
          exact k _ ⟨h0, congrFun hT2 0, h3.trans (by rw [ES]), by rw [q.2]; exact h3, by rw [q.1]; rfl, fun e => by rw [q.1] at e; exact absurd e (by decide)⟩ hT2
    · refine g_aload_n F a_T_advance_79 rfl ?_
      refine g_iconst F a_T_advance_80 ?_
      refine g_put_5_4 F a_T_advance_81 fl_T_25 ?_
      (try simp only [mset_app, mset_mset, fup_app, aup_app, fup_fup, aup_aup, false_and, and_false, true_and, and_true, and_self, reduceIte, Nat.reduceEqDiff, reduceCtorEq, fup_10])
      refine g_aload_n F a_T_advance_84 rfl ?_
      refine g_dup F a_T_advance_85 rfl ?_
      refine g_get_5_3 F a_T_advance_86 fl_T_19 ?_
      (try simp only [mset_app, mset_mset, fup_app, aup_app, fup_fup, aup_aup, false_and, and_false, true_and, and_true, and_self, reduceIte, Nat.reduceEqDiff, reduceCtorEq, fup_10])
      refine g_iconst F a_T_advance_89 ?_
      refine g_iadd F a_T_advance_90 ?_
      refine g_put_5_3 F a_T_advance_91 fl_T_19 ?_
      (try simp only [mset_app, mset_mset, fup_app, aup_app, fup_fup, aup_aup, false_and, and_false, true_and, and_true, and_self, reduceIte, Nat.reduceEqDiff, reduceCtorEq, fup_10])
      refine g_goto F a_T_advance_94 ?_
      refine g_ret F a_T_advance_146 rfl ⟨Nat.le_refl _, Nat.le_refl _⟩ ?_
      have b76 : (m 5 0).2 0 j = 59 := by
        have q := h76
        rw [hT2, h3] at q
        exact q
      have q := lx_s ES (by omega) b76
      exact k _ ⟨h0, congrFun hT2 0, h3.trans (by rw [ES]), by rw [q.2]; show T.1 3 + 1 = _; omega, by rw [q.1]; rfl, fun e => by rw [q.1] at e; exact absurd e (by decide)⟩ hT2
  · refine g_aload_n F a_T_advance_57 rfl ?_
    refine g_iconst F a_T_advance_58 ?_
    refine g_put_5_4 F a_T_advance_59 fl_T_25 ?_
    (try simp only [mset_app, mset_mset, fup_app, aup_app, fup_fup, aup_aup, false_and, and_false, true_and, and_true, and_self, reduceIte, Nat.reduceEqDiff, reduceCtorEq, fup_10])
    refine g_goto F a_T_advance_62 ?_
    refine g_ret F a_T_advance_146 rfl ⟨Nat.le_refl _, Nat.le_refl _⟩ ?_
    have q := lx_e ES (by omega)
    exact k _ ⟨h0, congrFun hT2 0, h3.trans (by rw [ES]), by rw [q.2]; exact h3, by rw [q.1]; rfl, fun e => by rw [q.1] at e; exact absurd e (by decide)⟩ hT2
set_option maxHeartbeats 2000000 in
theorem lp_T_adv {κ : Kx} {μ : MX} {Q : Option Value → (Heap → Prop) → Prop} {m : Mem} {z p : Nat} (hB0 : okB ((m 5 0).2 0) z) (hpz : p ≤ z) (k : ∀ T : Rc, TX ((m 5 0).2 0) z p T → T.2 = (m 5 0).2 → Q none (World κ (mset m 5 0 T))) (F : Fx κ G_T_advance 2 0 0 μ) :
    ∀ (n : Nat) (j : Nat) (T : Rc), z < j + n → j ≤ z → T.1 0 = z → T.1 3 = j → T.2 = (m 5 0).2 → lS ((m 5 0).2 0) z p = scn isSp ((m 5 0).2 0) z j →  GC κ μ (ZZ κ μ 0 0 Q) 0 0 0 [some (.ref (ad κ 5 0))] [] (World κ (mset m 5 0 T)) := by
  have hB := hB0.2
  have hz150 := hB0.1
  intro n
  induction n with
  | zero =>
    intro j T hn hj h0 h3 hT2 hs
    exact absurd hn (by omega)
  | succ n ih =>
    intro j T hn hj h0 h3 hT2 hs
    refine g_aload_n F a_T_advance_0 rfl ?_
    refine g_get_5_3 F a_T_advance_1 fl_T_19 ?_
    (try simp only [mset_app, mset_mset, fup_app, aup_app, fup_fup, aup_aup, false_and, and_false, true_and, and_true, and_self, reduceIte, Nat.reduceEqDiff, reduceCtorEq, fup_10])
    refine g_aload_n F a_T_advance_4 rfl ?_
    refine g_get_5_0 F a_T_advance_5 fl_T_15 ?_
    (try simp only [mset_app, mset_mset, fup_app, aup_app, fup_fup, aup_aup, false_and, and_false, true_and, and_true, and_self, reduceIte, Nat.reduceEqDiff, reduceCtorEq, fup_10])
    refine g_icmp_ge F (by first | omega | (have := hB (T.1 3) (by omega); rw [← hT2] at this; omega)) (by first | omega | (have := hB (T.1 3) (by omega); rw [← hT2] at this; omega)) a_T_advance_8 (fun h8 => ?_) (fun h8 => ?_)
    · exact tl_T_adv F hB0 hpz hj h0 h3 hT2 (by rw [hs, scn_stop (by omega)]) k
    · refine g_aload_n F a_T_advance_11 rfl ?_
      refine g_get_5_1 F a_T_advance_12 fl_T_11 ?_
      (try simp only [mset_app, mset_mset, fup_app, aup_app, fup_fup, aup_aup, false_and, and_false, true_and, and_true, and_self, reduceIte, Nat.reduceEqDiff, reduceCtorEq, fup_10])
      refine g_aload_n F a_T_advance_15 rfl ?_
      refine g_get_5_3 F a_T_advance_16 fl_T_19 ?_
      (try simp only [mset_app, mset_mset, fup_app, aup_app, fup_fup, aup_aup, false_and, and_false, true_and, and_true, and_self, reduceIte, Nat.reduceEqDiff, reduceCtorEq, fup_10])
      refine g_ild_5_0 F a_T_advance_19 (by omega) ?_
      (try simp only [mset_app, mset_mset, fup_app, aup_app, fup_fup, aup_aup, false_and, and_false, true_and, and_true, and_self, reduceIte, Nat.reduceEqDiff, reduceCtorEq, fup_10])
      refine g_bipush F a_T_advance_20 (by decide) ?_
      refine g_icmp_ne F (by first | omega | (have := hB (T.1 3) (by omega); rw [← hT2] at this; omega)) (by first | omega | (have := hB (T.1 3) (by omega); rw [← hT2] at this; omega)) a_T_advance_22 (fun h22 => ?_) (fun h22 => ?_)
      · have b22 : ¬ (m 5 0).2 0 j = 32 := by
          have q := h22
          rw [hT2, h3] at q
          exact q
        exact tl_T_adv F hB0 hpz hj h0 h3 hT2 (by rw [hs, scn_miss (decide_eq_false b22)]) k
      · refine g_aload_n F a_T_advance_25 rfl ?_
        refine g_dup F a_T_advance_26 rfl ?_
        refine g_get_5_3 F a_T_advance_27 fl_T_19 ?_
        (try simp only [mset_app, mset_mset, fup_app, aup_app, fup_fup, aup_aup, false_and, and_false, true_and, and_true, and_self, reduceIte, Nat.reduceEqDiff, reduceCtorEq, fup_10])
        refine g_iconst F a_T_advance_30 ?_
        refine g_iadd F a_T_advance_31 ?_
        refine g_put_5_3 F a_T_advance_32 fl_T_19 ?_
        (try simp only [mset_app, mset_mset, fup_app, aup_app, fup_fup, aup_aup, false_and, and_false, true_and, and_true, and_self, reduceIte, Nat.reduceEqDiff, reduceCtorEq, fup_10])
        refine g_goto F a_T_advance_35 ?_
        have b22 : (m 5 0).2 0 j = 32 := by
          have q := h22
          rw [hT2, h3] at q
          exact q
        exact GC.loc2 (ih (j + 1) _ (by omega) (by omega) h0 (by show T.1 3 + 1 = _; omega) hT2 (hs.trans (scn_hit (by omega) (decide_eq_true b22)))) ⟨rfl, trivial⟩
set_option maxHeartbeats 1000000 in
theorem sp_T_advance {κ : Kx} {Q : Option Value → (Heap → Prop) → Prop} {m : Mem} {z p : Nat} (hB0 : okB ((m 5 0).2 0) z) (hpz : p ≤ z) (h0 : (m 5 0).1 0 = z) (h3 : (m 5 0).1 3 = p) (k : ∀ T : Rc, TX ((m 5 0).2 0) z p T → T.2 = (m 5 0).2 → Q none (World κ (mset m 5 0 T))) : GG κ G_T_advance 2 0 0 [.ref (ad κ 5 0)] (World κ m) Q := by
  refine GG.intro (ls := [some _]) (Nat.le_of_ble_eq_true rfl) rfl (fun μ F => ?_)
  have e : World κ m = World κ (mset m 5 0 (m 5 0)) := by rw [mset_self]
  rw [e]
  exact GC.loc2 (lp_T_adv hB0 hpz k F (z + 1) p _ (by omega) hpz h0 h3 rfl rfl) ⟨rfl, trivial⟩
