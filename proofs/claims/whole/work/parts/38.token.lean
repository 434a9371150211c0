theorem scn_out {f : Int → Bool} {B : Int → Int} {n : Nat} : ∀ (k p : Nat), n - p = k → scn f B n p < n → f (B (scn f B n p)) = false
  | 0, p, hk, h => by
    rw [scn_stop (by omega)] at h
    omega
  | k + 1, p, hk, h => by
    cases e : f (B p) with
    | false => rw [scn_miss e]; exact e
    | true =>
      rw [scn_hit (by omega) e] at h ⊢
      exact scn_out k (p + 1) (by omega) h
theorem scn_i {f : Int → Bool} {B : Int → Int} {n p : Nat} (h : p ≤ n) : scn f B n (scn f B n p) = scn f B n p := by
  by_cases e : scn f B n p < n
  · exact scn_miss (scn_out _ p rfl e)
  · have := scn_r f B h
    exact scn_stop (by omega)
theorem lS_i {B : Int → Int} {z p : Nat} (h : p ≤ z) : lS B z (lS B z p) = lS B z p := scn_i h
theorem lK_i {B : Int → Int} {z p : Nat} (h : p ≤ z) : lK B z (lS B z p) = lK B z p := by unfold lK; rw [lS_i h]
theorem lE_i {B : Int → Int} {z p : Nat} (h : p ≤ z) : lE B z (lS B z p) = lE B z p := by unfold lE; rw [lS_i h]
theorem lV_i {B : Int → Int} {z p : Nat} (h : p ≤ z) : lV B z (lS B z p) = lV B z p := by unfold lV; rw [lS_i h]
def hrB (B : Int → Int) (z p : Nat) : Int := if p < z then B p else -1
theorem hrB_r {B : Int → Int} {z p : Nat} (h : okB B z) : -1 ≤ hrB B z p ∧ hrB B z p ≤ 127 := by
  unfold hrB
  split
  · have := h.2 p (by omega)
    omega
  · omega
set_option maxHeartbeats 1000000 in
theorem sp_M_isLetter {κ : Kx} {Q : Option Value → (Heap → Prop) → Prop} {P : Heap → Prop} {c : Int} (hc : R32 c) (k1 : isL c = true → Q (some (vi 1)) P) (k0 : isL c = false → Q (some (vi 0)) P) : GG κ G_M_isLetter 1 0 0 [vi c] P Q := by
  refine GG.intro (ls := [some _]) (Nat.le_of_ble_eq_true rfl) rfl (fun μ F => ?_)
  refine g_iload_n F a_M_isLetter_0 rfl ?_
  refine g_bipush F a_M_isLetter_1 (by decide) ?_
  refine g_bipush F a_M_isLetter_3 (by decide) ?_
  refine g_s3 F a_M_isLetter_5 sc_M_91 mk_M_in rfl (by decide) ⟨Nat.le_refl _, Nat.le_refl _⟩ rfl (Nat.le_of_ble_eq_true rfl) (sp_M_in (by omega) (by omega) (by omega) (fun c5 => GCr.v ?_) (fun c5 => GCr.v ?_))
  · refine g_zret F a_M_isLetter_8 rfl rfl ⟨Nat.le_refl _, Nat.le_refl _⟩ ?_
    exact k1 (decide_eq_true c5)
  · refine g_zret F a_M_isLetter_8 rfl rfl ⟨Nat.le_refl _, Nat.le_refl _⟩ ?_
    exact k0 (decide_eq_false c5)
set_option maxHeartbeats 1000000 in
theorem sp_M_isFigure {κ : Kx} {Q : Option Value → (Heap → Prop) → Prop} {P : Heap → Prop} {c : Int} (hc : R32 c) (k1 : isF c = true → Q (some (vi 1)) P) (k0 : isF c = false → Q (some (vi 0)) P) : GG κ G_M_isFigure 1 0 0 [vi c] P Q := by
  refine GG.intro (ls := [some _]) (Nat.le_of_ble_eq_true rfl) rfl (fun μ F => ?_)
  refine g_iload_n F a_M_isFigure_0 rfl ?_
  refine g_bipush F a_M_isFigure_1 (by decide) ?_
  refine g_bipush F a_M_isFigure_3 (by decide) ?_
  refine g_s3 F a_M_isFigure_5 sc_M_91 mk_M_in rfl (by decide) ⟨Nat.le_refl _, Nat.le_refl _⟩ rfl (Nat.le_of_ble_eq_true rfl) (sp_M_in (by omega) (by omega) (by omega) (fun c5 => GCr.v ?_) (fun c5 => GCr.v ?_))
  · refine g_zret F a_M_isFigure_8 rfl rfl ⟨Nat.le_refl _, Nat.le_refl _⟩ ?_
    exact k1 (decide_eq_true c5)
  · refine g_zret F a_M_isFigure_8 rfl rfl ⟨Nat.le_refl _, Nat.le_refl _⟩ ?_
    exact k0 (decide_eq_false c5)
set_option maxHeartbeats 1000000 in
theorem sp_M_here {κ : Kx} {Q : Option Value → (Heap → Prop) → Prop} {m : Mem} {B : Int → Int} {z p : Nat} (hB0 : okB B z) (hpz : p ≤ z) (hb : (m 10 0).2 8 = B) (h18 : (m 10 0).1 18 = (z : Int)) (h19 : (m 10 0).1 19 = (p : Int)) (k : Q (some (vi (hrB B z p))) (World κ m)) : GG κ G_M_here 0 0 0 [.ref (ad κ 10 0)] (World κ m) Q := by
  have hz150 := hB0.1
  have hhr := hrB_r (p := p) hB0
  refine GG.intro (ls := [some _]) (Nat.le_of_ble_eq_true rfl) rfl (fun μ F => ?_)
  refine g_aload_n F a_M_here_0 rfl ?_
  refine g_get_10_19 F a_M_here_1 fl_M_113 ?_
  refine g_aload_n F a_M_here_4 rfl ?_
  refine g_get_10_18 F a_M_here_5 fl_M_110 ?_
  refine g_icmp_ge F (by omega) (by omega) a_M_here_8 (fun h8 => ?_) (fun h8 => ?_)
  · refine g_iconst F a_M_here_23 ?_
    refine g_iret F a_M_here_24 rfl ⟨Nat.le_refl _, Nat.le_refl _⟩ ?_
    exact qv k (by unfold hrB; rw [if_neg (by omega)])
  · refine g_aload_n F a_M_here_11 rfl ?_
    refine g_get_10_17 F a_M_here_12 fl_M_34 ?_
    refine g_aload_n F a_M_here_15 rfl ?_
    refine g_get_10_19 F a_M_here_16 fl_M_113 ?_
    refine g_ild_10_8 F a_M_here_19 (by omega) ?_
    refine g_goto F a_M_here_20 ?_
    refine g_iret F a_M_here_24 rfl ⟨Nat.le_refl _, Nat.le_refl _⟩ ?_
    exact qv k (by unfold hrB; rw [if_pos (by omega), h19, hb])
set_option maxHeartbeats 2000000 in
theorem lp_M_skip {κ : Kx} {μ : MX} {Q : Option Value → (Heap → Prop) → Prop} {m : Mem} {B : Int → Int} {z q : Nat} (hB0 : okB B z) (hb : (m 10 0).2 8 = B) (h18 : (m 10 0).1 18 = (z : Int)) (k : Q none (World κ (mset m 10 0 (fup (m 10 0).1 19 (q : Nat), (m 10 0).2)))) (F : Fx κ G_M_skip 1 0 0 μ) :
    ∀ (n : Nat) (p : Nat), z < p + n → p ≤ z → lS B z p = q →  GC κ μ (ZZ κ μ 0 0 Q) 0 0 0 [some (.ref (ad κ 10 0))] [] (World κ (mset m 10 0 (fup (m 10 0).1 19 (p : Nat), (m 10 0).2))) := by
  intro n
  induction n with
  | zero =>
    intro p hn hpz hq
    exact absurd hn (by omega)
  | succ n ih =>
    intro p hn hpz hq
    have hz150 := hB0.1
    have hhr := hrB_r (p := p) hB0
    refine g_aload_n F a_M_skip_0 rfl ?_
    refine g_v0 F a_M_skip_1 vc_M_116 mk_M_here ob_10 ck_10.1 rfl rfl (by decide) ⟨Nat.le_refl _, Nat.le_refl _⟩ rfl (Nat.le_of_ble_eq_true rfl) (sp_M_here hB0 hpz (by exact hb) (by exact h18) rfl (GCr.v ?_))
    (try simp only [mset_app, mset_mset, fup_app, aup_app, fup_fup, aup_aup, false_and, and_false, true_and, and_true, and_self, reduceIte, Nat.reduceEqDiff, reduceCtorEq, fup_10, fs_4_5, fs_4_6, fs_5_6, fs_19_20])
    refine g_bipush F a_M_skip_4 (by decide) ?_
    refine g_icmp_ne F (by omega) (by omega) a_M_skip_6 (fun h6 => ?_) (fun h6 => ?_)
    · refine g_ret F a_M_skip_22 rfl ⟨Nat.le_refl _, Nat.le_refl _⟩ ?_
      have e : lS B z p = p := by
        by_cases hlt : p < z
        · exact scn_miss (decide_eq_false (by unfold hrB at h6; rw [if_pos hlt] at h6; exact h6))
        · exact scn_stop (by omega)
      rw [e] at hq
      rw [hq]
      exact k
    · refine g_aload_n F a_M_skip_9 rfl ?_
      refine g_dup F a_M_skip_10 rfl ?_
      refine g_get_10_19 F a_M_skip_11 fl_M_113 ?_
      (try simp only [mset_app, mset_mset, fup_app, aup_app, fup_fup, aup_aup, false_and, and_false, true_and, and_true, and_self, reduceIte, Nat.reduceEqDiff, reduceCtorEq, fup_10, fs_4_5, fs_4_6, fs_5_6, fs_19_20])
      refine g_iconst F a_M_skip_14 ?_
      refine g_iadd F a_M_skip_15 ?_
      refine g_put_10_19 F a_M_skip_16 fl_M_113 ?_
      (try simp only [mset_app, mset_mset, fup_app, aup_app, fup_fup, aup_aup, false_and, and_false, true_and, and_true, and_self, reduceIte, Nat.reduceEqDiff, reduceCtorEq, fup_10, fs_4_5, fs_4_6, fs_5_6, fs_19_20])
      refine g_goto F a_M_skip_19 ?_
      have hlt : p < z := by
        unfold hrB at h6
        split at h6
        · assumption
        · omega
      have hsp : isSp (B p) = true := decide_eq_true (by unfold hrB at h6; rw [if_pos hlt] at h6; exact h6)
      have hz := ih (p + 1) (by omega) (by omega) (by rw [← hq]; exact (scn_hit hlt hsp).symm)
      exact GC.loc2 hz ⟨rfl, trivial⟩
set_option maxHeartbeats 1000000 in
theorem sp_M_skip {κ : Kx} {Q : Option Value → (Heap → Prop) → Prop} {m : Mem} {B : Int → Int} {z p : Nat} (hB0 : okB B z) (hpz : p ≤ z) (hb : (m 10 0).2 8 = B) (h18 : (m 10 0).1 18 = (z : Int)) (h19 : (m 10 0).1 19 = (p : Int)) (k : Q none (World κ (mset m 10 0 (fup (m 10 0).1 19 (lS B z p : Nat), (m 10 0).2)))) : GG κ G_M_skip 1 0 0 [.ref (ad κ 10 0)] (World κ m) Q := by
  refine GG.intro (ls := [some _]) (Nat.le_of_ble_eq_true rfl) rfl (fun μ F => ?_)
  have hz := lp_M_skip hB0 hb h18 k F (z + 1) p (by omega) hpz rfl
  rw [← h19, fup_self, mset_self] at hz
  exact GC.loc2 hz ⟨rfl, trivial⟩
set_option maxHeartbeats 2000000 in
theorem lp_M_wordSize {κ : Kx} {μ : MX} {Q : Option Value → (Heap → Prop) → Prop} {m : Mem} {B : Int → Int} {z p : Nat} (hB0 : okB B z) (hpz : p ≤ z) (hb : (m 10 0).2 8 = B) (h18 : (m 10 0).1 18 = (z : Int)) (h19 : (m 10 0).1 19 = (p : Int)) (k : Q (some (vi ((scn isL B z p - p : Nat) : Int))) (World κ m)) (F : Fx κ G_M_wordSize 2 0 0 μ) :
    ∀ (n : Nat) (j : Nat) (v : Int), z < p + j + n → p + j ≤ z → v = (j : Int) → scn isL B z p = scn isL B z (p + j) →  GC κ μ (ZZ κ μ 0 0 Q) 0 0 2 [some (.ref (ad κ 10 0)), some (vi v)] [] (World κ m) := by
  have hz150 := hB0.1
  have hhr := hrB_r (p := p) hB0
  intro n
  induction n with
  | zero =>
    intro j v hn hj hv hs
    exact absurd hn (by omega)
  | succ n ih =>
    intro j v hn hj hv hs
    have hx9 : (m 10 0).2 8 ((m 10 0).1 19 + v) = B ((p + j : Nat) : Int) := by rw [hb, h19, hv]; rfl
    have hr9 : p + j < z → 0 ≤ B ((p + j : Nat) : Int) ∧ B ((p + j : Nat) : Int) ≤ 127 := fun h => hB0.2 _ (by omega)
    refine g_aload_n F a_M_wordSize_2 rfl ?_
    refine g_get_10_19 F a_M_wordSize_3 fl_M_113 ?_
    refine g_iload_n F a_M_wordSize_6 rfl ?_
    refine g_iadd F a_M_wordSize_7 ?_
    refine g_aload_n F a_M_wordSize_8 rfl ?_
    refine g_get_10_18 F a_M_wordSize_9 fl_M_110 ?_
    refine g_icmp_ge F (by omega) (by omega) a_M_wordSize_12 (fun h12 => ?_) (fun h12 => ?_)
    · refine g_iload_n F a_M_wordSize_38 rfl ?_
      refine g_iret F a_M_wordSize_39 rfl ⟨Nat.le_refl _, Nat.le_refl _⟩ ?_
      exact qv k (by rw [hs, scn_stop (by omega)]; omega)
    · refine g_aload_n F a_M_wordSize_15 rfl ?_
      refine g_get_10_17 F a_M_wordSize_16 fl_M_34 ?_
      refine g_aload_n F a_M_wordSize_19 rfl ?_
      refine g_get_10_19 F a_M_wordSize_20 fl_M_113 ?_
      refine g_iload_n F a_M_wordSize_23 rfl ?_
      refine g_iadd F a_M_wordSize_24 ?_
      refine g_ild_10_8 F a_M_wordSize_25 (by omega) ?_
      rw [hx9]
      refine g_s1 F a_M_wordSize_26 sc_M_119 mk_M_isLetter rfl (by decide) ⟨Nat.le_refl _, Nat.le_refl _⟩ rfl (Nat.le_of_ble_eq_true rfl) (sp_M_isLetter (by omega) (fun c26 => GCr.v ?_) (fun c26 => GCr.v ?_))
      · refine g_ifeq1 F a_M_wordSize_29 ?_
        refine g_iinc (ls' := [_, _]) F a_M_wordSize_32 rfl rfl rfl ?_
        refine g_goto F a_M_wordSize_35 ?_
        exact GC.loc2 (ih (j + 1) _ (by omega) (by omega) (by omega) (by rw [hs]; exact scn_hit (by omega) c26)) ⟨rfl, rfl, trivial⟩
      · refine g_ifeq0 F a_M_wordSize_29 ?_
        refine g_iload_n F a_M_wordSize_38 rfl ?_
        refine g_iret F a_M_wordSize_39 rfl ⟨Nat.le_refl _, Nat.le_refl _⟩ ?_
        exact qv k (by rw [hs, scn_miss c26]; omega)
set_option maxHeartbeats 1000000 in
theorem sp_M_wordSize {κ : Kx} {Q : Option Value → (Heap → Prop) → Prop} {m : Mem} {B : Int → Int} {z p : Nat} (hB0 : okB B z) (hpz : p ≤ z) (hb : (m 10 0).2 8 = B) (h18 : (m 10 0).1 18 = (z : Int)) (h19 : (m 10 0).1 19 = (p : Int)) (k : Q (some (vi ((scn isL B z p - p : Nat) : Int))) (World κ m)) : GG κ G_M_wordSize 2 0 0 [.ref (ad κ 10 0)] (World κ m) Q := by
  have hz150 := hB0.1
  have hhr := hrB_r (p := p) hB0
  refine GG.intro (ls := [some _, none]) (Nat.le_of_ble_eq_true rfl) rfl (fun μ F => ?_)
  refine g_iconst F a_M_wordSize_0 ?_
  refine g_istore_n (ls' := [_, _]) F a_M_wordSize_1 rfl rfl rfl ?_
  exact GC.loc2 (lp_M_wordSize hB0 hpz hb h18 h19 k F (z + 1) 0 0 (by omega) (by omega) rfl rfl) ⟨rfl, rfl, trivial⟩
set_option maxHeartbeats 1000000 in
theorem sp_M_letter {κ : Kx} {Q : Option Value → (Heap → Prop) → Prop} {m : Mem} {B : Int → Int} {z p : Nat} (hB0 : okB B z) (hpz : p ≤ z) (hb : (m 10 0).2 8 = B) (h18 : (m 10 0).1 18 = (z : Int)) (h19 : (m 10 0).1 19 = (p : Int)) {x : Int} (hx : 0 ≤ x ∧ p + x < z) (k : Q (some (vi (B (p + x)))) (World κ m)) : GG κ G_M_letter 0 0 0 [.ref (ad κ 10 0), vi x] (World κ m) Q := by
  have hz150 := hB0.1
  have hhr := hrB_r (p := p) hB0
  refine GG.intro (ls := [some _, some _]) (Nat.le_of_ble_eq_true rfl) rfl (fun μ F => ?_)
  refine g_aload_n F a_M_letter_0 rfl ?_
  refine g_get_10_17 F a_M_letter_1 fl_M_34 ?_
  refine g_aload_n F a_M_letter_4 rfl ?_
  refine g_get_10_19 F a_M_letter_5 fl_M_113 ?_
  refine g_iload_n F a_M_letter_8 rfl ?_
  refine g_iadd F a_M_letter_9 ?_
  refine g_ild_10_8 F a_M_letter_10 (by omega) ?_
  refine g_iret F a_M_letter_11 rfl ⟨Nat.le_refl _, Nat.le_refl _⟩ ?_
  exact qv k (by rw [hb, h19])
/-- which word is there; its length q -/
def whJ (B : Int → Int) (p q : Nat) : Int := if q = 4 ∧ B (p + 0) = 115 ∧ B (p + 1) = 104 ∧ B (p + 2) = 105 ∧ B (p + 3) = 112 then 0 else if q = 3 ∧ B (p + 0) = 102 ∧ B (p + 1) = 111 ∧ B (p + 2) = 103 then 1 else if q = 3 ∧ B (p + 0) = 109 ∧ B (p + 1) = 97 ∧ B (p + 2) = 110 then 2 else if q = 6 ∧ B (p + 0) = 114 ∧ B (p + 1) = 101 ∧ B (p + 2) = 97 ∧ B (p + 3) = 100 ∧ B (p + 4) = 101 ∧ B (p + 5) = 114 then 3 else if q = 4 ∧ B (p + 0) = 100 ∧ B (p + 1) = 101 ∧ B (p + 2) = 101 ∧ B (p + 3) = 100 then 4 else if q = 4 ∧ B (p + 0) = 110 ∧ B (p + 1) = 111 ∧ B (p + 2) = 111 ∧ B (p + 3) = 110 then 5 else -1
theorem wj_0 {B : Int → Int} {p q : Nat} (h : q = 4 ∧ B (p + 0) = 115 ∧ B (p + 1) = 104 ∧ B (p + 2) = 105 ∧ B (p + 3) = 112) : 0 = whJ B p q := by
  unfold whJ
  rw [if_pos h]
theorem wj_1 {B : Int → Int} {p q : Nat} (h : q = 3 ∧ B (p + 0) = 102 ∧ B (p + 1) = 111 ∧ B (p + 2) = 103) : 1 = whJ B p q := by
  unfold whJ
  rw [if_neg (show ¬ (q = 4 ∧ B (p + 0) = 115 ∧ B (p + 1) = 104 ∧ B (p + 2) = 105 ∧ B (p + 3) = 112) by omega), if_pos h]
theorem wj_2 {B : Int → Int} {p q : Nat} (h : q = 3 ∧ B (p + 0) = 109 ∧ B (p + 1) = 97 ∧ B (p + 2) = 110) : 2 = whJ B p q := by
  unfold whJ
  rw [if_neg (show ¬ (q = 4 ∧ B (p + 0) = 115 ∧ B (p + 1) = 104 ∧ B (p + 2) = 105 ∧ B (p + 3) = 112) by omega), if_neg (show ¬ (q = 3 ∧ B (p + 0) = 102 ∧ B (p + 1) = 111 ∧ B (p + 2) = 103) by omega), if_pos h]
theorem wj_3 {B : Int → Int} {p q : Nat} (h : q = 6 ∧ B (p + 0) = 114 ∧ B (p + 1) = 101 ∧ B (p + 2) = 97 ∧ B (p + 3) = 100 ∧ B (p + 4) = 101 ∧ B (p + 5) = 114) : 3 = whJ B p q := by
  unfold whJ
  rw [if_neg (show ¬ (q = 4 ∧ B (p + 0) = 115 ∧ B (p + 1) = 104 ∧ B (p + 2) = 105 ∧ B (p + 3) = 112) by omega), if_neg (show ¬ (q = 3 ∧ B (p + 0) = 102 ∧ B (p + 1) = 111 ∧ B (p + 2) = 103) by omega), if_neg (show ¬ (q = 3 ∧ B (p + 0) = 109 ∧ B (p + 1) = 97 ∧ B (p + 2) = 110) by omega), if_pos h]
theorem wj_4 {B : Int → Int} {p q : Nat} (h : q = 4 ∧ B (p + 0) = 100 ∧ B (p + 1) = 101 ∧ B (p + 2) = 101 ∧ B (p + 3) = 100) : 4 = whJ B p q := by
  unfold whJ
  rw [if_neg (show ¬ (q = 4 ∧ B (p + 0) = 115 ∧ B (p + 1) = 104 ∧ B (p + 2) = 105 ∧ B (p + 3) = 112) by omega), if_neg (show ¬ (q = 3 ∧ B (p + 0) = 102 ∧ B (p + 1) = 111 ∧ B (p + 2) = 103) by omega), if_neg (show ¬ (q = 3 ∧ B (p + 0) = 109 ∧ B (p + 1) = 97 ∧ B (p + 2) = 110) by omega), if_neg (show ¬ (q = 6 ∧ B (p + 0) = 114 ∧ B (p + 1) = 101 ∧ B (p + 2) = 97 ∧ B (p + 3) = 100 ∧ B (p + 4) = 101 ∧ B (p + 5) = 114) by omega), if_pos h]
theorem wj_5 {B : Int → Int} {p q : Nat} (h : q = 4 ∧ B (p + 0) = 110 ∧ B (p + 1) = 111 ∧ B (p + 2) = 111 ∧ B (p + 3) = 110) : 5 = whJ B p q := by
  unfold whJ
  rw [if_neg (show ¬ (q = 4 ∧ B (p + 0) = 115 ∧ B (p + 1) = 104 ∧ B (p + 2) = 105 ∧ B (p + 3) = 112) by omega), if_neg (show ¬ (q = 3 ∧ B (p + 0) = 102 ∧ B (p + 1) = 111 ∧ B (p + 2) = 103) by omega), if_neg (show ¬ (q = 3 ∧ B (p + 0) = 109 ∧ B (p + 1) = 97 ∧ B (p + 2) = 110) by omega), if_neg (show ¬ (q = 6 ∧ B (p + 0) = 114 ∧ B (p + 1) = 101 ∧ B (p + 2) = 97 ∧ B (p + 3) = 100 ∧ B (p + 4) = 101 ∧ B (p + 5) = 114) by omega), if_neg (show ¬ (q = 4 ∧ B (p + 0) = 100 ∧ B (p + 1) = 101 ∧ B (p + 2) = 101 ∧ B (p + 3) = 100) by omega), if_pos h]
theorem wj_n {B : Int → Int} {p q : Nat} (h0 : ¬ (q = 4 ∧ B (p + 0) = 115 ∧ B (p + 1) = 104 ∧ B (p + 2) = 105 ∧ B (p + 3) = 112)) (h1 : ¬ (q = 3 ∧ B (p + 0) = 102 ∧ B (p + 1) = 111 ∧ B (p + 2) = 103)) (h2 : ¬ (q = 3 ∧ B (p + 0) = 109 ∧ B (p + 1) = 97 ∧ B (p + 2) = 110)) (h3 : ¬ (q = 6 ∧ B (p + 0) = 114 ∧ B (p + 1) = 101 ∧ B (p + 2) = 97 ∧ B (p + 3) = 100 ∧ B (p + 4) = 101 ∧ B (p + 5) = 114)) (h4 : ¬ (q = 4 ∧ B (p + 0) = 100 ∧ B (p + 1) = 101 ∧ B (p + 2) = 101 ∧ B (p + 3) = 100)) (h5 : ¬ (q = 4 ∧ B (p + 0) = 110 ∧ B (p + 1) = 111 ∧ B (p + 2) = 111 ∧ B (p + 3) = 110)) : -1 = whJ B p q := by
  unfold whJ
  rw [if_neg h0, if_neg h1, if_neg h2, if_neg h3, if_neg h4, if_neg h5]
set_option maxHeartbeats 8000000 in
theorem sp_M_wordHere {κ : Kx} {Q : Option Value → (Heap → Prop) → Prop} {m : Mem} {B : Int → Int} {z p : Nat} (hB0 : okB B z) (hpz : p ≤ z) (hb : (m 10 0).2 8 = B) (h18 : (m 10 0).1 18 = (z : Int)) (h19 : (m 10 0).1 19 = (p : Int)) (k : Q (some (vi (whJ B p (scn isL B z p - p)))) (World κ m)) : GG κ G_M_wordHere 3 0 0 [.ref (ad κ 10 0)] (World κ m) Q := by
  have hz150 := hB0.1
  have hhr := hrB_r (p := p) hB0
  have hsr := scn_r isL B hpz
  have hr32 : ∀ t : Int, 0 ≤ t ∧ p + t < z → R32 (B (p + t)) := fun t h => by have := hB0.2 (p + t) (by omega); omega
  refine GG.intro (ls := [some _, none]) (Nat.le_of_ble_eq_true rfl) rfl (fun μ F => ?_)
  refine g_aload_n F a_M_wordHere_0 rfl ?_
  refine g_v0 F a_M_wordHere_1 vc_M_123 mk_M_wordSize ob_10 ck_10.1 rfl rfl (by decide) ⟨Nat.le_refl _, Nat.le_refl _⟩ rfl (Nat.le_of_ble_eq_true rfl) (sp_M_wordSize hB0 hpz hb h18 h19 (GCr.v ?_))
  refine g_istore_n (ls' := [_, _]) F a_M_wordHere_4 rfl rfl rfl ?_
  refine g_iload_n F a_M_wordHere_5 rfl ?_
  refine g_iconst F a_M_wordHere_6 ?_
  refine g_icmp_ne F (by first | omega | (have h9 := hr9 _ (by omega); omega) | exact hr32 _ (by omega)) (by first | omega | (have h9 := hr9 _ (by omega); omega) | exact hr32 _ (by omega)) a_M_wordHere_7 (fun h7 => ?_) (fun h7 => ?_)
  · refine g_iload_n F a_M_wordHere_80 rfl ?_
    refine g_bipush F a_M_wordHere_81 (by decide) ?_
    refine g_icmp_ne F (by first | omega | (have h9 := hr9 _ (by omega); omega) | exact hr32 _ (by omega)) (by first | omega | (have h9 := hr9 _ (by omega); omega) | exact hr32 _ (by omega)) a_M_wordHere_83 (fun h83 => ?_) (fun h83 => ?_)
    · refine g_iload_n F a_M_wordHere_152 rfl ?_
      refine g_iconst F a_M_wordHere_153 ?_
      refine g_icmp_eq F (by first | omega | (have h9 := hr9 _ (by omega); omega) | exact hr32 _ (by omega)) (by first | omega | (have h9 := hr9 _ (by omega); omega) | exact hr32 _ (by omega)) a_M_wordHere_154 (fun h154 => ?_) (fun h154 => ?_)
      · refine g_aload_n F a_M_wordHere_159 rfl ?_
        refine g_iconst F a_M_wordHere_160 ?_
        refine g_v1 F a_M_wordHere_161 vc_M_126 mk_M_letter ob_10 ck_10.1 rfl rfl (by decide) ⟨Nat.le_refl _, Nat.le_refl _⟩ rfl (Nat.le_of_ble_eq_true rfl) (sp_M_letter hB0 hpz hb h18 h19 (by omega) (GCr.v ?_))
        refine g_bipush F a_M_wordHere_164 (by decide) ?_
        refine g_icmp_ne F (by first | omega | (have h9 := hr9 _ (by omega); omega) | exact hr32 _ (by omega)) (by first | omega | (have h9 := hr9 _ (by omega); omega) | exact hr32 _ (by omega)) a_M_wordHere_166 (fun h166 => ?_) (fun h166 => ?_)
        · refine g_aload_n F a_M_wordHere_201 rfl ?_
          refine g_iconst F a_M_wordHere_202 ?_
          refine g_v1 F a_M_wordHere_203 vc_M_126 mk_M_letter ob_10 ck_10.1 rfl rfl (by decide) ⟨Nat.le_refl _, Nat.le_refl _⟩ rfl (Nat.le_of_ble_eq_true rfl) (sp_M_letter hB0 hpz hb h18 h19 (by omega) (GCr.v ?_))
          refine g_bipush F a_M_wordHere_206 (by decide) ?_
          refine g_icmp_ne F (by first | omega | (have h9 := hr9 _ (by omega); omega) | exact hr32 _ (by omega)) (by first | omega | (have h9 := hr9 _ (by omega); omega) | exact hr32 _ (by omega)) a_M_wordHere_208 (fun h208 => ?_) (fun h208 => ?_)
          · refine g_aload_n F a_M_wordHere_243 rfl ?_
            refine g_iconst F a_M_wordHere_244 ?_
            refine g_v1 F a_M_wordHere_245 vc_M_126 mk_M_letter ob_10 ck_10.1 rfl rfl (by decide) ⟨Nat.le_refl _, Nat.le_refl _⟩ rfl (Nat.le_of_ble_eq_true rfl) (sp_M_letter hB0 hpz hb h18 h19 (by omega) (GCr.v ?_))
            refine g_bipush F a_M_wordHere_248 (by decide) ?_
            refine g_icmp_ne F (by first | omega | (have h9 := hr9 _ (by omega); omega) | exact hr32 _ (by omega)) (by first | omega | (have h9 := hr9 _ (by omega); omega) | exact hr32 _ (by omega)) a_M_wordHere_250 (fun h250 => ?_) (fun h250 => ?_)
            · refine g_iconst F a_M_wordHere_287 ?_
              refine g_iret F a_M_wordHere_288 rfl ⟨Nat.le_refl _, Nat.le_refl _⟩ ?_
              first | exact qv k (wj_n (by omega) (by omega) (by omega) (by omega) (by omega) (by omega)) | exact qv k (wj_0 (by omega)) | exact qv k (wj_1 (by omega)) | exact qv k (wj_2 (by omega)) | exact qv k (wj_3 (by omega)) | exact qv k (wj_4 (by omega)) | exact qv k (wj_5 (by omega))
            · refine g_aload_n F a_M_wordHere_253 rfl ?_
              refine g_iconst F a_M_wordHere_254 ?_
              refine g_v1 F a_M_wordHere_255 vc_M_126 mk_M_letter ob_10 ck_10.1 rfl rfl (by decide) ⟨Nat.le_refl _, Nat.le_refl _⟩ rfl (Nat.le_of_ble_eq_true rfl) (sp_M_letter hB0 hpz hb h18 h19 (by omega) (GCr.v ?_))
              refine g_bipush F a_M_wordHere_258 (by decide) ?_
              refine g_icmp_ne F (by first | omega | (have h9 := hr9 _ (by omega); omega) | exact hr32 _ (by omega)) (by first | omega | (have h9 := hr9 _ (by omega); omega) | exact hr32 _ (by omega)) a_M_wordHere_260 (fun h260 => ?_) (fun h260 => ?_)
              · refine g_iconst F a_M_wordHere_287 ?_
                refine g_iret F a_M_wordHere_288 rfl ⟨Nat.le_refl _, Nat.le_refl _⟩ ?_
                first | exact qv k (wj_n (by omega) (by omega) (by omega) (by omega) (by omega) (by omega)) | exact qv k (wj_0 (by omega)) | exact qv k (wj_1 (by omega)) | exact qv k (wj_2 (by omega)) | exact qv k (wj_3 (by omega)) | exact qv k (wj_4 (by omega)) | exact qv k (wj_5 (by omega))
              · refine g_aload_n F a_M_wordHere_263 rfl ?_
                refine g_iconst F a_M_wordHere_264 ?_
                refine g_v1 F a_M_wordHere_265 vc_M_126 mk_M_letter ob_10 ck_10.1 rfl rfl (by decide) ⟨Nat.le_refl _, Nat.le_refl _⟩ rfl (Nat.le_of_ble_eq_true rfl) (sp_M_letter hB0 hpz hb h18 h19 (by omega) (GCr.v ?_))
                refine g_bipush F a_M_wordHere_268 (by decide) ?_
                refine g_icmp_ne F (by first | omega | (have h9 := hr9 _ (by omega); omega) | exact hr32 _ (by omega)) (by first | omega | (have h9 := hr9 _ (by omega); omega) | exact hr32 _ (by omega)) a_M_wordHere_270 (fun h270 => ?_) (fun h270 => ?_)
                · refine g_iconst F a_M_wordHere_287 ?_
                  refine g_iret F a_M_wordHere_288 rfl ⟨Nat.le_refl _, Nat.le_refl _⟩ ?_
                  first | exact qv k (wj_n (by omega) (by omega) (by omega) (by omega) (by omega) (by omega)) | exact qv k (wj_0 (by omega)) | exact qv k (wj_1 (by omega)) | exact qv k (wj_2 (by omega)) | exact qv k (wj_3 (by omega)) | exact qv k (wj_4 (by omega)) | exact qv k (wj_5 (by omega))
                · refine g_aload_n F a_M_wordHere_273 rfl ?_
                  refine g_iconst F a_M_wordHere_274 ?_
                  refine g_v1 F a_M_wordHere_275 vc_M_126 mk_M_letter ob_10 ck_10.1 rfl rfl (by decide) ⟨Nat.le_refl _, Nat.le_refl _⟩ rfl (Nat.le_of_ble_eq_true rfl) (sp_M_letter hB0 hpz hb h18 h19 (by omega) (GCr.v ?_))
                  refine g_bipush F a_M_wordHere_278 (by decide) ?_
                  refine g_icmp_ne F (by first | omega | (have h9 := hr9 _ (by omega); omega) | exact hr32 _ (by omega)) (by first | omega | (have h9 := hr9 _ (by omega); omega) | exact hr32 _ (by omega)) a_M_wordHere_280 (fun h280 => ?_) (fun h280 => ?_)
                  · refine g_iconst F a_M_wordHere_287 ?_
                    refine g_iret F a_M_wordHere_288 rfl ⟨Nat.le_refl _, Nat.le_refl _⟩ ?_
                    first | exact qv k (wj_n (by omega) (by omega) (by omega) (by omega) (by omega) (by omega)) | exact qv k (wj_0 (by omega)) | exact qv k (wj_1 (by omega)) | exact qv k (wj_2 (by omega)) | exact qv k (wj_3 (by omega)) | exact qv k (wj_4 (by omega)) | exact qv k (wj_5 (by omega))
                  · refine g_iconst F a_M_wordHere_283 ?_
                    refine g_goto F a_M_wordHere_284 ?_
                    refine g_iret F a_M_wordHere_288 rfl ⟨Nat.le_refl _, Nat.le_refl _⟩ ?_
                    first | exact qv k (wj_n (by omega) (by omega) (by omega) (by omega) (by omega) (by omega)) | exact qv k (wj_0 (by omega)) | exact qv k (wj_1 (by omega)) | exact qv k (wj_2 (by omega)) | exact qv k (wj_3 (by omega)) | exact qv k (wj_4 (by omega)) | exact qv k (wj_5 (by omega))
          · refine g_aload_n F a_M_wordHere_211 rfl ?_
            refine g_iconst F a_M_wordHere_212 ?_
            refine g_v1 F a_M_wordHere_213 vc_M_126 mk_M_letter ob_10 ck_10.1 rfl rfl (by decide) ⟨Nat.le_refl _, Nat.le_refl _⟩ rfl (Nat.le_of_ble_eq_true rfl) (sp_M_letter hB0 hpz hb h18 h19 (by omega) (GCr.v ?_))
            refine g_bipush F a_M_wordHere_216 (by decide) ?_
            refine g_icmp_ne F (by first | omega | (have h9 := hr9 _ (by omega); omega) | exact hr32 _ (by omega)) (by first | omega | (have h9 := hr9 _ (by omega); omega) | exact hr32 _ (by omega)) a_M_wordHere_218 (fun h218 => ?_) (fun h218 => ?_)
            · refine g_aload_n F a_M_wordHere_243 rfl ?_
              refine g_iconst F a_M_wordHere_244 ?_
              refine g_v1 F a_M_wordHere_245 vc_M_126 mk_M_letter ob_10 ck_10.1 rfl rfl (by decide) ⟨Nat.le_refl _, Nat.le_refl _⟩ rfl (Nat.le_of_ble_eq_true rfl) (sp_M_letter hB0 hpz hb h18 h19 (by omega) (GCr.v ?_))
              refine g_bipush F a_M_wordHere_248 (by decide) ?_
              refine g_icmp_ne F (by first | omega | (have h9 := hr9 _ (by omega); omega) | exact hr32 _ (by omega)) (by first | omega | (have h9 := hr9 _ (by omega); omega) | exact hr32 _ (by omega)) a_M_wordHere_250 (fun h250 => ?_) (fun h250 => ?_)
              · refine g_iconst F a_M_wordHere_287 ?_
                refine g_iret F a_M_wordHere_288 rfl ⟨Nat.le_refl _, Nat.le_refl _⟩ ?_
                first | exact qv k (wj_n (by omega) (by omega) (by omega) (by omega) (by omega) (by omega)) | exact qv k (wj_0 (by omega)) | exact qv k (wj_1 (by omega)) | exact qv k (wj_2 (by omega)) | exact qv k (wj_3 (by omega)) | exact qv k (wj_4 (by omega)) | exact qv k (wj_5 (by omega))
              · refine g_aload_n F a_M_wordHere_253 rfl ?_
                refine g_iconst F a_M_wordHere_254 ?_
                refine g_v1 F a_M_wordHere_255 vc_M_126 mk_M_letter ob_10 ck_10.1 rfl rfl (by decide) ⟨Nat.le_refl _, Nat.le_refl _⟩ rfl (Nat.le_of_ble_eq_true rfl) (sp_M_letter hB0 hpz hb h18 h19 (by omega) (GCr.v ?_))
                refine g_bipush F a_M_wordHere_258 (by decide) ?_
                refine g_icmp_ne F (by first | omega | (have h9 := hr9 _ (by omega); omega) | exact hr32 _ (by omega)) (by first | omega | (have h9 := hr9 _ (by omega); omega) | exact hr32 _ (by omega)) a_M_wordHere_260 (fun h260 => ?_) (fun h260 => ?_)
                · refine g_iconst F a_M_wordHere_287 ?_
                  refine g_iret F a_M_wordHere_288 rfl ⟨Nat.le_refl _, Nat.le_refl _⟩ ?_
                  first | exact qv k (wj_n (by omega) (by omega) (by omega) (by omega) (by omega) (by omega)) | exact qv k (wj_0 (by omega)) | exact qv k (wj_1 (by omega)) | exact qv k (wj_2 (by omega)) | exact qv k (wj_3 (by omega)) | exact qv k (wj_4 (by omega)) | exact qv k (wj_5 (by omega))
                · refine g_aload_n F a_M_wordHere_263 rfl ?_
                  refine g_iconst F a_M_wordHere_264 ?_
                  refine g_v1 F a_M_wordHere_265 vc_M_126 mk_M_letter ob_10 ck_10.1 rfl rfl (by decide) ⟨Nat.le_refl _, Nat.le_refl _⟩ rfl (Nat.le_of_ble_eq_true rfl) (sp_M_letter hB0 hpz hb h18 h19 (by omega) (GCr.v ?_))
                  refine g_bipush F a_M_wordHere_268 (by decide) ?_
                  refine g_icmp_ne F (by first | omega | (have h9 := hr9 _ (by omega); omega) | exact hr32 _ (by omega)) (by first | omega | (have h9 := hr9 _ (by omega); omega) | exact hr32 _ (by omega)) a_M_wordHere_270 (fun h270 => ?_) (fun h270 => ?_)
                  · refine g_iconst F a_M_wordHere_287 ?_
                    refine g_iret F a_M_wordHere_288 rfl ⟨Nat.le_refl _, Nat.le_refl _⟩ ?_
                    first | exact qv k (wj_n (by omega) (by omega) (by omega) (by omega) (by omega) (by omega)) | exact qv k (wj_0 (by omega)) | exact qv k (wj_1 (by omega)) | exact qv k (wj_2 (by omega)) | exact qv k (wj_3 (by omega)) | exact qv k (wj_4 (by omega)) | exact qv k (wj_5 (by omega))
                  · refine g_aload_n F a_M_wordHere_273 rfl ?_
                    refine g_iconst F a_M_wordHere_274 ?_
                    refine g_v1 F a_M_wordHere_275 vc_M_126 mk_M_letter ob_10 ck_10.1 rfl rfl (by decide) ⟨Nat.le_refl _, Nat.le_refl _⟩ rfl (Nat.le_of_ble_eq_true rfl) (sp_M_letter hB0 hpz hb h18 h19 (by omega) (GCr.v ?_))
                    refine g_bipush F a_M_wordHere_278 (by decide) ?_
                    refine g_icmp_ne F (by first | omega | (have h9 := hr9 _ (by omega); omega) | exact hr32 _ (by omega)) (by first | omega | (have h9 := hr9 _ (by omega); omega) | exact hr32 _ (by omega)) a_M_wordHere_280 (fun h280 => ?_) (fun h280 => ?_)
                    · refine g_iconst F a_M_wordHere_287 ?_
                      refine g_iret F a_M_wordHere_288 rfl ⟨Nat.le_refl _, Nat.le_refl _⟩ ?_
                      first | exact qv k (wj_n (by omega) (by omega) (by omega) (by omega) (by omega) (by omega)) | exact qv k (wj_0 (by omega)) | exact qv k (wj_1 (by omega)) | exact qv k (wj_2 (by omega)) | exact qv k (wj_3 (by omega)) | exact qv k (wj_4 (by omega)) | exact qv k (wj_5 (by omega))
                    · refine g_iconst F a_M_wordHere_283 ?_
                      refine g_goto F a_M_wordHere_284 ?_
                      refine g_iret F a_M_wordHere_288 rfl ⟨Nat.le_refl _, Nat.le_refl _⟩ ?_
                      first | exact qv k (wj_n (by omega) (by omega) (by omega) (by omega) (by omega) (by omega)) | exact qv k (wj_0 (by omega)) | exact qv k (wj_1 (by omega)) | exact qv k (wj_2 (by omega)) | exact qv k (wj_3 (by omega)) | exact qv k (wj_4 (by omega)) | exact qv k (wj_5 (by omega))
            · refine g_aload_n F a_M_wordHere_221 rfl ?_
              refine g_iconst F a_M_wordHere_222 ?_
              refine g_v1 F a_M_wordHere_223 vc_M_126 mk_M_letter ob_10 ck_10.1 rfl rfl (by decide) ⟨Nat.le_refl _, Nat.le_refl _⟩ rfl (Nat.le_of_ble_eq_true rfl) (sp_M_letter hB0 hpz hb h18 h19 (by omega) (GCr.v ?_))
              refine g_bipush F a_M_wordHere_226 (by decide) ?_
              refine g_icmp_ne F (by first | omega | (have h9 := hr9 _ (by omega); omega) | exact hr32 _ (by omega)) (by first | omega | (have h9 := hr9 _ (by omega); omega) | exact hr32 _ (by omega)) a_M_wordHere_228 (fun h228 => ?_) (fun h228 => ?_)
              · refine g_aload_n F a_M_wordHere_243 rfl ?_
                refine g_iconst F a_M_wordHere_244 ?_
                refine g_v1 F a_M_wordHere_245 vc_M_126 mk_M_letter ob_10 ck_10.1 rfl rfl (by decide) ⟨Nat.le_refl _, Nat.le_refl _⟩ rfl (Nat.le_of_ble_eq_true rfl) (sp_M_letter hB0 hpz hb h18 h19 (by omega) (GCr.v ?_))
                refine g_bipush F a_M_wordHere_248 (by decide) ?_
                refine g_icmp_ne F (by first | omega | (have h9 := hr9 _ (by omega); omega) | exact hr32 _ (by omega)) (by first | omega | (have h9 := hr9 _ (by omega); omega) | exact hr32 _ (by omega)) a_M_wordHere_250 (fun h250 => ?_) (fun h250 => ?_)
                · refine g_iconst F a_M_wordHere_287 ?_
                  refine g_iret F a_M_wordHere_288 rfl ⟨Nat.le_refl _, Nat.le_refl _⟩ ?_
                  first | exact qv k (wj_n (by omega) (by omega) (by omega) (by omega) (by omega) (by omega)) | exact qv k (wj_0 (by omega)) | exact qv k (wj_1 (by omega)) | exact qv k (wj_2 (by omega)) | exact qv k (wj_3 (by omega)) | exact qv k (wj_4 (by omega)) | exact qv k (wj_5 (by omega))
                · refine g_aload_n F a_M_wordHere_253 rfl ?_
                  refine g_iconst F a_M_wordHere_254 ?_
                  refine g_v1 F a_M_wordHere_255 vc_M_126 mk_M_letter ob_10 ck_10.1 rfl rfl (by decide) ⟨Nat.le_refl _, Nat.le_refl _⟩ rfl (Nat.le_of_ble_eq_true rfl) (sp_M_letter hB0 hpz hb h18 h19 (by omega) (GCr.v ?_))
                  refine g_bipush F a_M_wordHere_258 (by decide) ?_
                  refine g_icmp_ne F (by first | omega | (have h9 := hr9 _ (by omega); omega) | exact hr32 _ (by omega)) (by first | omega | (have h9 := hr9 _ (by omega); omega) | exact hr32 _ (by omega)) a_M_wordHere_260 (fun h260 => ?_) (fun h260 => ?_)
                  · refine g_iconst F a_M_wordHere_287 ?_
                    refine g_iret F a_M_wordHere_288 rfl ⟨Nat.le_refl _, Nat.le_refl _⟩ ?_
                    first | exact qv k (wj_n (by omega) (by omega) (by omega) (by omega) (by omega) (by omega)) | exact qv k (wj_0 (by omega)) | exact qv k (wj_1 (by omega)) | exact qv k (wj_2 (by omega)) | exact qv k (wj_3 (by omega)) | exact qv k (wj_4 (by omega)) | exact qv k (wj_5 (by omega))
                  · refine g_aload_n F a_M_wordHere_263 rfl ?_
                    refine g_iconst F a_M_wordHere_264 ?_
                    refine g_v1 F a_M_wordHere_265 vc_M_126 mk_M_letter ob_10 ck_10.1 rfl rfl (by decide) ⟨Nat.le_refl _, Nat.le_refl _⟩ rfl (Nat.le_of_ble_eq_true rfl) (sp_M_letter hB0 hpz hb h18 h19 (by omega) (GCr.v ?_))
                    refine g_bipush F a_M_wordHere_268 (by decide) ?_
                    refine g_icmp_ne F (by first | omega | (have h9 := hr9 _ (by omega); omega) | exact hr32 _ (by omega)) (by first | omega | (have h9 := hr9 _ (by omega); omega) | exact hr32 _ (by omega)) a_M_wordHere_270 (fun h270 => ?_) (fun h270 => ?_)
                    · refine g_iconst F a_M_wordHere_287 ?_
                      refine g_iret F a_M_wordHere_288 rfl ⟨Nat.le_refl _, Nat.le_refl _⟩ ?_
                      first | exact qv k (wj_n (by omega) (by omega) (by omega) (by omega) (by omega) (by omega)) | exact qv k (wj_0 (by omega)) | exact qv k (wj_1 (by omega)) | exact qv k (wj_2 (by omega)) | exact qv k (wj_3 (by omega)) | exact qv k (wj_4 (by omega)) | exact qv k (wj_5 (by omega))
                    · refine g_aload_n F a_M_wordHere_273 rfl ?_
                      refine g_iconst F a_M_wordHere_274 ?_
                      refine g_v1 F a_M_wordHere_275 vc_M_126 mk_M_letter ob_10 ck_10.1 rfl rfl (by decide) ⟨Nat.le_refl _, Nat.le_refl _⟩ rfl (Nat.le_of_ble_eq_true rfl) (sp_M_letter hB0 hpz hb h18 h19 (by omega) (GCr.v ?_))
                      refine g_bipush F a_M_wordHere_278 (by decide) ?_
                      refine g_icmp_ne F (by first | omega | (have h9 := hr9 _ (by omega); omega) | exact hr32 _ (by omega)) (by first | omega | (have h9 := hr9 _ (by omega); omega) | exact hr32 _ (by omega)) a_M_wordHere_280 (fun h280 => ?_) (fun h280 => ?_)
                      · refine g_iconst F a_M_wordHere_287 ?_
                        refine g_iret F a_M_wordHere_288 rfl ⟨Nat.le_refl _, Nat.le_refl _⟩ ?_
                        first | exact qv k (wj_n (by omega) (by omega) (by omega) (by omega) (by omega) (by omega)) | exact qv k (wj_0 (by omega)) | exact qv k (wj_1 (by omega)) | exact qv k (wj_2 (by omega)) | exact qv k (wj_3 (by omega)) | exact qv k (wj_4 (by omega)) | exact qv k (wj_5 (by omega))
                      · refine g_iconst F a_M_wordHere_283 ?_
                        refine g_goto F a_M_wordHere_284 ?_
                        refine g_iret F a_M_wordHere_288 rfl ⟨Nat.le_refl _, Nat.le_refl _⟩ ?_
                        first | exact qv k (wj_n (by omega) (by omega) (by omega) (by omega) (by omega) (by omega)) | exact qv k (wj_0 (by omega)) | exact qv k (wj_1 (by omega)) | exact qv k (wj_2 (by omega)) | exact qv k (wj_3 (by omega)) | exact qv k (wj_4 (by omega)) | exact qv k (wj_5 (by omega))
              · refine g_aload_n F a_M_wordHere_231 rfl ?_
                refine g_iconst F a_M_wordHere_232 ?_
                refine g_v1 F a_M_wordHere_233 vc_M_126 mk_M_letter ob_10 ck_10.1 rfl rfl (by decide) ⟨Nat.le_refl _, Nat.le_refl _⟩ rfl (Nat.le_of_ble_eq_true rfl) (sp_M_letter hB0 hpz hb h18 h19 (by omega) (GCr.v ?_))
                refine g_bipush F a_M_wordHere_236 (by decide) ?_
                refine g_icmp_ne F (by first | omega | (have h9 := hr9 _ (by omega); omega) | exact hr32 _ (by omega)) (by first | omega | (have h9 := hr9 _ (by omega); omega) | exact hr32 _ (by omega)) a_M_wordHere_238 (fun h238 => ?_) (fun h238 => ?_)
                · refine g_aload_n F a_M_wordHere_243 rfl ?_
                  refine g_iconst F a_M_wordHere_244 ?_
                  refine g_v1 F a_M_wordHere_245 vc_M_126 mk_M_letter ob_10 ck_10.1 rfl rfl (by decide) ⟨Nat.le_refl _, Nat.le_refl _⟩ rfl (Nat.le_of_ble_eq_true rfl) (sp_M_letter hB0 hpz hb h18 h19 (by omega) (GCr.v ?_))
                  refine g_bipush F a_M_wordHere_248 (by decide) ?_
                  refine g_icmp_ne F (by first | omega | (have h9 := hr9 _ (by omega); omega) | exact hr32 _ (by omega)) (by first | omega | (have h9 := hr9 _ (by omega); omega) | exact hr32 _ (by omega)) a_M_wordHere_250 (fun h250 => ?_) (fun h250 => ?_)
                  · refine g_iconst F a_M_wordHere_287 ?_
                    refine g_iret F a_M_wordHere_288 rfl ⟨Nat.le_refl _, Nat.le_refl _⟩ ?_
                    first | exact qv k (wj_n (by omega) (by omega) (by omega) (by omega) (by omega) (by omega)) | exact qv k (wj_0 (by omega)) | exact qv k (wj_1 (by omega)) | exact qv k (wj_2 (by omega)) | exact qv k (wj_3 (by omega)) | exact qv k (wj_4 (by omega)) | exact qv k (wj_5 (by omega))
                  · refine g_aload_n F a_M_wordHere_253 rfl ?_
                    refine g_iconst F a_M_wordHere_254 ?_
                    refine g_v1 F a_M_wordHere_255 vc_M_126 mk_M_letter ob_10 ck_10.1 rfl rfl (by decide) ⟨Nat.le_refl _, Nat.le_refl _⟩ rfl (Nat.le_of_ble_eq_true rfl) (sp_M_letter hB0 hpz hb h18 h19 (by omega) (GCr.v ?_))
                    refine g_bipush F a_M_wordHere_258 (by decide) ?_
                    refine g_icmp_ne F (by first | omega | (have h9 := hr9 _ (by omega); omega) | exact hr32 _ (by omega)) (by first | omega | (have h9 := hr9 _ (by omega); omega) | exact hr32 _ (by omega)) a_M_wordHere_260 (fun h260 => ?_) (fun h260 => ?_)
                    · refine g_iconst F a_M_wordHere_287 ?_
                      refine g_iret F a_M_wordHere_288 rfl ⟨Nat.le_refl _, Nat.le_refl _⟩ ?_
                      first | exact qv k (wj_n (by omega) (by omega) (by omega) (by omega) (by omega) (by omega)) | exact qv k (wj_0 (by omega)) | exact qv k (wj_1 (by omega)) | exact qv k (wj_2 (by omega)) | exact qv k (wj_3 (by omega)) | exact qv k (wj_4 (by omega)) | exact qv k (wj_5 (by omega))
                    · refine g_aload_n F a_M_wordHere_263 rfl ?_
                      refine g_iconst F a_M_wordHere_264 ?_
                      refine g_v1 F a_M_wordHere_265 vc_M_126 mk_M_letter ob_10 ck_10.1 rfl rfl (by decide) ⟨Nat.le_refl _, Nat.le_refl _⟩ rfl (Nat.le_of_ble_eq_true rfl) (sp_M_letter hB0 hpz hb h18 h19 (by omega) (GCr.v ?_))
                      refine g_bipush F a_M_wordHere_268 (by decide) ?_
                      refine g_icmp_ne F (by first | omega | (have h9 := hr9 _ (by omega); omega) | exact hr32 _ (by omega)) (by first | omega | (have h9 := hr9 _ (by omega); omega) | exact hr32 _ (by omega)) a_M_wordHere_270 (fun h270 => ?_) (fun h270 => ?_)
                      · refine g_iconst F a_M_wordHere_287 ?_
                        refine g_iret F a_M_wordHere_288 rfl ⟨Nat.le_refl _, Nat.le_refl _⟩ ?_
                        first | exact qv k (wj_n (by omega) (by omega) (by omega) (by omega) (by omega) (by omega)) | exact qv k (wj_0 (by omega)) | exact qv k (wj_1 (by omega)) | exact qv k (wj_2 (by omega)) | exact qv k (wj_3 (by omega)) | exact qv k (wj_4 (by omega)) | exact qv k (wj_5 (by omega))
                      · refine g_aload_n F a_M_wordHere_273 rfl ?_
                        refine g_iconst F a_M_wordHere_274 ?_
                        refine g_v1 F a_M_wordHere_275 vc_M_126 mk_M_letter ob_10 ck_10.1 rfl rfl (by decide) ⟨Nat.le_refl _, Nat.le_refl _⟩ rfl (Nat.le_of_ble_eq_true rfl) (sp_M_letter hB0 hpz hb h18 h19 (by omega) (GCr.v ?_))
                        refine g_bipush F a_M_wordHere_278 (by decide) ?_
                        refine g_icmp_ne F (by first | omega | (have h9 := hr9 _ (by omega); omega) | exact hr32 _ (by omega)) (by first | omega | (have h9 := hr9 _ (by omega); omega) | exact hr32 _ (by omega)) a_M_wordHere_280 (fun h280 => ?_) (fun h280 => ?_)
                        · refine g_iconst F a_M_wordHere_287 ?_
                          refine g_iret F a_M_wordHere_288 rfl ⟨Nat.le_refl _, Nat.le_refl _⟩ ?_
                          first | exact qv k (wj_n (by omega) (by omega) (by omega) (by omega) (by omega) (by omega)) | exact qv k (wj_0 (by omega)) | exact qv k (wj_1 (by omega)) | exact qv k (wj_2 (by omega)) | exact qv k (wj_3 (by omega)) | exact qv k (wj_4 (by omega)) | exact qv k (wj_5 (by omega))
                        · refine g_iconst F a_M_wordHere_283 ?_
                          refine g_goto F a_M_wordHere_284 ?_
                          refine g_iret F a_M_wordHere_288 rfl ⟨Nat.le_refl _, Nat.le_refl _⟩ ?_
                          first | exact qv k (wj_n (by omega) (by omega) (by omega) (by omega) (by omega) (by omega)) | exact qv k (wj_0 (by omega)) | exact qv k (wj_1 (by omega)) | exact qv k (wj_2 (by omega)) | exact qv k (wj_3 (by omega)) | exact qv k (wj_4 (by omega)) | exact qv k (wj_5 (by omega))
                · refine g_iconst F a_M_wordHere_241 ?_
                  refine g_iret F a_M_wordHere_242 rfl ⟨Nat.le_refl _, Nat.le_refl _⟩ ?_
                  first | exact qv k (wj_n (by omega) (by omega) (by omega) (by omega) (by omega) (by omega)) | exact qv k (wj_0 (by omega)) | exact qv k (wj_1 (by omega)) | exact qv k (wj_2 (by omega)) | exact qv k (wj_3 (by omega)) | exact qv k (wj_4 (by omega)) | exact qv k (wj_5 (by omega))
        · refine g_aload_n F a_M_wordHere_169 rfl ?_
          refine g_iconst F a_M_wordHere_170 ?_
          refine g_v1 F a_M_wordHere_171 vc_M_126 mk_M_letter ob_10 ck_10.1 rfl rfl (by decide) ⟨Nat.le_refl _, Nat.le_refl _⟩ rfl (Nat.le_of_ble_eq_true rfl) (sp_M_letter hB0 hpz hb h18 h19 (by omega) (GCr.v ?_))
          refine g_bipush F a_M_wordHere_174 (by decide) ?_
          refine g_icmp_ne F (by first | omega | (have h9 := hr9 _ (by omega); omega) | exact hr32 _ (by omega)) (by first | omega | (have h9 := hr9 _ (by omega); omega) | exact hr32 _ (by omega)) a_M_wordHere_176 (fun h176 => ?_) (fun h176 => ?_)
          · refine g_aload_n F a_M_wordHere_201 rfl ?_
            refine g_iconst F a_M_wordHere_202 ?_
            refine g_v1 F a_M_wordHere_203 vc_M_126 mk_M_letter ob_10 ck_10.1 rfl rfl (by decide) ⟨Nat.le_refl _, Nat.le_refl _⟩ rfl (Nat.le_of_ble_eq_true rfl) (sp_M_letter hB0 hpz hb h18 h19 (by omega) (GCr.v ?_))
            refine g_bipush F a_M_wordHere_206 (by decide) ?_
            refine g_icmp_ne F (by first | omega | (have h9 := hr9 _ (by omega); omega) | exact hr32 _ (by omega)) (by first | omega | (have h9 := hr9 _ (by omega); omega) | exact hr32 _ (by omega)) a_M_wordHere_208 (fun h208 => ?_) (fun h208 => ?_)
            · refine g_aload_n F a_M_wordHere_243 rfl ?_
              refine g_iconst F a_M_wordHere_244 ?_
              refine g_v1 F a_M_wordHere_245 vc_M_126 mk_M_letter ob_10 ck_10.1 rfl rfl (by decide) ⟨Nat.le_refl _, Nat.le_refl _⟩ rfl (Nat.le_of_ble_eq_true rfl) (sp_M_letter hB0 hpz hb h18 h19 (by omega) (GCr.v ?_))
              refine g_bipush F a_M_wordHere_248 (by decide) ?_
              refine g_icmp_ne F (by first | omega | (have h9 := hr9 _ (by omega); omega) | exact hr32 _ (by omega)) (by first | omega | (have h9 := hr9 _ (by omega); omega) | exact hr32 _ (by omega)) a_M_wordHere_250 (fun h250 => ?_) (fun h250 => ?_)
              · refine g_iconst F a_M_wordHere_287 ?_
                refine g_iret F a_M_wordHere_288 rfl ⟨Nat.le_refl _, Nat.le_refl _⟩ ?_
                first | exact qv k (wj_n (by omega) (by omega) (by omega) (by omega) (by omega) (by omega)) | exact qv k (wj_0 (by omega)) | exact qv k (wj_1 (by omega)) | exact qv k (wj_2 (by omega)) | exact qv k (wj_3 (by omega)) | exact qv k (wj_4 (by omega)) | exact qv k (wj_5 (by omega))
              · refine g_aload_n F a_M_wordHere_253 rfl ?_
                refine g_iconst F a_M_wordHere_254 ?_
                refine g_v1 F a_M_wordHere_255 vc_M_126 mk_M_letter ob_10 ck_10.1 rfl rfl (by decide) ⟨Nat.le_refl _, Nat.le_refl _⟩ rfl (Nat.le_of_ble_eq_true rfl) (sp_M_letter hB0 hpz hb h18 h19 (by omega) (GCr.v ?_))
                refine g_bipush F a_M_wordHere_258 (by decide) ?_
                refine g_icmp_ne F (by first | omega | (have h9 := hr9 _ (by omega); omega) | exact hr32 _ (by omega)) (by first | omega | (have h9 := hr9 _ (by omega); omega) | exact hr32 _ (by omega)) a_M_wordHere_260 (fun h260 => ?_) (fun h260 => ?_)
                · refine g_iconst F a_M_wordHere_287 ?_
                  refine g_iret F a_M_wordHere_288 rfl ⟨Nat.le_refl _, Nat.le_refl _⟩ ?_
                  first | exact qv k (wj_n (by omega) (by omega) (by omega) (by omega) (by omega) (by omega)) | exact qv k (wj_0 (by omega)) | exact qv k (wj_1 (by omega)) | exact qv k (wj_2 (by omega)) | exact qv k (wj_3 (by omega)) | exact qv k (wj_4 (by omega)) | exact qv k (wj_5 (by omega))
                · refine g_aload_n F a_M_wordHere_263 rfl ?_
                  refine g_iconst F a_M_wordHere_264 ?_
                  refine g_v1 F a_M_wordHere_265 vc_M_126 mk_M_letter ob_10 ck_10.1 rfl rfl (by decide) ⟨Nat.le_refl _, Nat.le_refl _⟩ rfl (Nat.le_of_ble_eq_true rfl) (sp_M_letter hB0 hpz hb h18 h19 (by omega) (GCr.v ?_))
                  refine g_bipush F a_M_wordHere_268 (by decide) ?_
                  refine g_icmp_ne F (by first | omega | (have h9 := hr9 _ (by omega); omega) | exact hr32 _ (by omega)) (by first | omega | (have h9 := hr9 _ (by omega); omega) | exact hr32 _ (by omega)) a_M_wordHere_270 (fun h270 => ?_) (fun h270 => ?_)
                  · refine g_iconst F a_M_wordHere_287 ?_
                    refine g_iret F a_M_wordHere_288 rfl ⟨Nat.le_refl _, Nat.le_refl _⟩ ?_
                    first | exact qv k (wj_n (by omega) (by omega) (by omega) (by omega) (by omega) (by omega)) | exact qv k (wj_0 (by omega)) | exact qv k (wj_1 (by omega)) | exact qv k (wj_2 (by omega)) | exact qv k (wj_3 (by omega)) | exact qv k (wj_4 (by omega)) | exact qv k (wj_5 (by omega))
                  · refine g_aload_n F a_M_wordHere_273 rfl ?_
                    refine g_iconst F a_M_wordHere_274 ?_
                    refine g_v1 F a_M_wordHere_275 vc_M_126 mk_M_letter ob_10 ck_10.1 rfl rfl (by decide) ⟨Nat.le_refl _, Nat.le_refl _⟩ rfl (Nat.le_of_ble_eq_true rfl) (sp_M_letter hB0 hpz hb h18 h19 (by omega) (GCr.v ?_))
                    refine g_bipush F a_M_wordHere_278 (by decide) ?_
                    refine g_icmp_ne F (by first | omega | (have h9 := hr9 _ (by omega); omega) | exact hr32 _ (by omega)) (by first | omega | (have h9 := hr9 _ (by omega); omega) | exact hr32 _ (by omega)) a_M_wordHere_280 (fun h280 => ?_) (fun h280 => ?_)
                    · refine g_iconst F a_M_wordHere_287 ?_
                      refine g_iret F a_M_wordHere_288 rfl ⟨Nat.le_refl _, Nat.le_refl _⟩ ?_
                      first | exact qv k (wj_n (by omega) (by omega) (by omega) (by omega) (by omega) (by omega)) | exact qv k (wj_0 (by omega)) | exact qv k (wj_1 (by omega)) | exact qv k (wj_2 (by omega)) | exact qv k (wj_3 (by omega)) | exact qv k (wj_4 (by omega)) | exact qv k (wj_5 (by omega))
                    · refine g_iconst F a_M_wordHere_283 ?_
                      refine g_goto F a_M_wordHere_284 ?_
                      refine g_iret F a_M_wordHere_288 rfl ⟨Nat.le_refl _, Nat.le_refl _⟩ ?_
                      first | exact qv k (wj_n (by omega) (by omega) (by omega) (by omega) (by omega) (by omega)) | exact qv k (wj_0 (by omega)) | exact qv k (wj_1 (by omega)) | exact qv k (wj_2 (by omega)) | exact qv k (wj_3 (by omega)) | exact qv k (wj_4 (by omega)) | exact qv k (wj_5 (by omega))
            · refine g_aload_n F a_M_wordHere_211 rfl ?_
              refine g_iconst F a_M_wordHere_212 ?_
              refine g_v1 F a_M_wordHere_213 vc_M_126 mk_M_letter ob_10 ck_10.1 rfl rfl (by decide) ⟨Nat.le_refl _, Nat.le_refl _⟩ rfl (Nat.le_of_ble_eq_true rfl) (sp_M_letter hB0 hpz hb h18 h19 (by omega) (GCr.v ?_))
              refine g_bipush F a_M_wordHere_216 (by decide) ?_
              refine g_icmp_ne F (by first | omega | (have h9 := hr9 _ (by omega); omega) | exact hr32 _ (by omega)) (by first | omega | (have h9 := hr9 _ (by omega); omega) | exact hr32 _ (by omega)) a_M_wordHere_218 (fun h218 => ?_) (fun h218 => ?_)
              · refine g_aload_n F a_M_wordHere_243 rfl ?_
                refine g_iconst F a_M_wordHere_244 ?_
                refine g_v1 F a_M_wordHere_245 vc_M_126 mk_M_letter ob_10 ck_10.1 rfl rfl (by decide) ⟨Nat.le_refl _, Nat.le_refl _⟩ rfl (Nat.le_of_ble_eq_true rfl) (sp_M_letter hB0 hpz hb h18 h19 (by omega) (GCr.v ?_))
                refine g_bipush F a_M_wordHere_248 (by decide) ?_
                refine g_icmp_ne F (by first | omega | (have h9 := hr9 _ (by omega); omega) | exact hr32 _ (by omega)) (by first | omega | (have h9 := hr9 _ (by omega); omega) | exact hr32 _ (by omega)) a_M_wordHere_250 (fun h250 => ?_) (fun h250 => ?_)
                · refine g_iconst F a_M_wordHere_287 ?_
                  refine g_iret F a_M_wordHere_288 rfl ⟨Nat.le_refl _, Nat.le_refl _⟩ ?_
                  first | exact qv k (wj_n (by omega) (by omega) (by omega) (by omega) (by omega) (by omega)) | exact qv k (wj_0 (by omega)) | exact qv k (wj_1 (by omega)) | exact qv k (wj_2 (by omega)) | exact qv k (wj_3 (by omega)) | exact qv k (wj_4 (by omega)) | exact qv k (wj_5 (by omega))
                · refine g_aload_n F a_M_wordHere_253 rfl ?_
                  refine g_iconst F a_M_wordHere_254 ?_
                  refine g_v1 F a_M_wordHere_255 vc_M_126 mk_M_letter ob_10 ck_10.1 rfl rfl (by decide) ⟨Nat.le_refl _, Nat.le_refl _⟩ rfl (Nat.le_of_ble_eq_true rfl) (sp_M_letter hB0 hpz hb h18 h19 (by omega) (GCr.v ?_))
                  refine g_bipush F a_M_wordHere_258 (by decide) ?_
                  refine g_icmp_ne F (by first | omega | (have h9 := hr9 _ (by omega); omega) | exact hr32 _ (by omega)) (by first | omega | (have h9 := hr9 _ (by omega); omega) | exact hr32 _ (by omega)) a_M_wordHere_260 (fun h260 => ?_) (fun h260 => ?_)
                  · refine g_iconst F a_M_wordHere_287 ?_
                    refine g_iret F a_M_wordHere_288 rfl ⟨Nat.le_refl _, Nat.le_refl _⟩ ?_
                    first | exact qv k (wj_n (by omega) (by omega) (by omega) (by omega) (by omega) (by omega)) | exact qv k (wj_0 (by omega)) | exact qv k (wj_1 (by omega)) | exact qv k (wj_2 (by omega)) | exact qv k (wj_3 (by omega)) | exact qv k (wj_4 (by omega)) | exact qv k (wj_5 (by omega))
                  · refine g_aload_n F a_M_wordHere_263 rfl ?_
                    refine g_iconst F a_M_wordHere_264 ?_
                    refine g_v1 F a_M_wordHere_265 vc_M_126 mk_M_letter ob_10 ck_10.1 rfl rfl (by decide) ⟨Nat.le_refl _, Nat.le_refl _⟩ rfl (Nat.le_of_ble_eq_true rfl) (sp_M_letter hB0 hpz hb h18 h19 (by omega) (GCr.v ?_))
                    refine g_bipush F a_M_wordHere_268 (by decide) ?_
                    refine g_icmp_ne F (by first | omega | (have h9 := hr9 _ (by omega); omega) | exact hr32 _ (by omega)) (by first | omega | (have h9 := hr9 _ (by omega); omega) | exact hr32 _ (by omega)) a_M_wordHere_270 (fun h270 => ?_) (fun h270 => ?_)
                    · refine g_iconst F a_M_wordHere_287 ?_
                      refine g_iret F a_M_wordHere_288 rfl ⟨Nat.le_refl _, Nat.le_refl _⟩ ?_
                      first | exact qv k (wj_n (by omega) (by omega) (by omega) (by omega) (by omega) (by omega)) | exact qv k (wj_0 (by omega)) | exact qv k (wj_1 (by omega)) | exact qv k (wj_2 (by omega)) | exact qv k (wj_3 (by omega)) | exact qv k (wj_4 (by omega)) | exact qv k (wj_5 (by omega))
                    · refine g_aload_n F a_M_wordHere_273 rfl ?_
                      refine g_iconst F a_M_wordHere_274 ?_
                      refine g_v1 F a_M_wordHere_275 vc_M_126 mk_M_letter ob_10 ck_10.1 rfl rfl (by decide) ⟨Nat.le_refl _, Nat.le_refl _⟩ rfl (Nat.le_of_ble_eq_true rfl) (sp_M_letter hB0 hpz hb h18 h19 (by omega) (GCr.v ?_))
                      refine g_bipush F a_M_wordHere_278 (by decide) ?_
                      refine g_icmp_ne F (by first | omega | (have h9 := hr9 _ (by omega); omega) | exact hr32 _ (by omega)) (by first | omega | (have h9 := hr9 _ (by omega); omega) | exact hr32 _ (by omega)) a_M_wordHere_280 (fun h280 => ?_) (fun h280 => ?_)
                      · refine g_iconst F a_M_wordHere_287 ?_
                        refine g_iret F a_M_wordHere_288 rfl ⟨Nat.le_refl _, Nat.le_refl _⟩ ?_
                        first | exact qv k (wj_n (by omega) (by omega) (by omega) (by omega) (by omega) (by omega)) | exact qv k (wj_0 (by omega)) | exact qv k (wj_1 (by omega)) | exact qv k (wj_2 (by omega)) | exact qv k (wj_3 (by omega)) | exact qv k (wj_4 (by omega)) | exact qv k (wj_5 (by omega))
                      · refine g_iconst F a_M_wordHere_283 ?_
                        refine g_goto F a_M_wordHere_284 ?_
                        refine g_iret F a_M_wordHere_288 rfl ⟨Nat.le_refl _, Nat.le_refl _⟩ ?_
                        first | exact qv k (wj_n (by omega) (by omega) (by omega) (by omega) (by omega) (by omega)) | exact qv k (wj_0 (by omega)) | exact qv k (wj_1 (by omega)) | exact qv k (wj_2 (by omega)) | exact qv k (wj_3 (by omega)) | exact qv k (wj_4 (by omega)) | exact qv k (wj_5 (by omega))
              · refine g_aload_n F a_M_wordHere_221 rfl ?_
                refine g_iconst F a_M_wordHere_222 ?_
                refine g_v1 F a_M_wordHere_223 vc_M_126 mk_M_letter ob_10 ck_10.1 rfl rfl (by decide) ⟨Nat.le_refl _, Nat.le_refl _⟩ rfl (Nat.le_of_ble_eq_true rfl) (sp_M_letter hB0 hpz hb h18 h19 (by omega) (GCr.v ?_))
                refine g_bipush F a_M_wordHere_226 (by decide) ?_
                refine g_icmp_ne F (by first | omega | (have h9 := hr9 _ (by omega); omega) | exact hr32 _ (by omega)) (by first | omega | (have h9 := hr9 _ (by omega); omega) | exact hr32 _ (by omega)) a_M_wordHere_228 (fun h228 => ?_) (fun h228 => ?_)
                · refine g_aload_n F a_M_wordHere_243 rfl ?_
                  refine g_iconst F a_M_wordHere_244 ?_
                  refine g_v1 F a_M_wordHere_245 vc_M_126 mk_M_letter ob_10 ck_10.1 rfl rfl (by decide) ⟨Nat.le_refl _, Nat.le_refl _⟩ rfl (Nat.le_of_ble_eq_true rfl) (sp_M_letter hB0 hpz hb h18 h19 (by omega) (GCr.v ?_))
                  refine g_bipush F a_M_wordHere_248 (by decide) ?_
                  refine g_icmp_ne F (by first | omega | (have h9 := hr9 _ (by omega); omega) | exact hr32 _ (by omega)) (by first | omega | (have h9 := hr9 _ (by omega); omega) | exact hr32 _ (by omega)) a_M_wordHere_250 (fun h250 => ?_) (fun h250 => ?_)
                  · refine g_iconst F a_M_wordHere_287 ?_
                    refine g_iret F a_M_wordHere_288 rfl ⟨Nat.le_refl _, Nat.le_refl _⟩ ?_
                    first | exact qv k (wj_n (by omega) (by omega) (by omega) (by omega) (by omega) (by omega)) | exact qv k (wj_0 (by omega)) | exact qv k (wj_1 (by omega)) | exact qv k (wj_2 (by omega)) | exact qv k (wj_3 (by omega)) | exact qv k (wj_4 (by omega)) | exact qv k (wj_5 (by omega))
                  · refine g_aload_n F a_M_wordHere_253 rfl ?_
                    refine g_iconst F a_M_wordHere_254 ?_
                    refine g_v1 F a_M_wordHere_255 vc_M_126 mk_M_letter ob_10 ck_10.1 rfl rfl (by decide) ⟨Nat.le_refl _, Nat.le_refl _⟩ rfl (Nat.le_of_ble_eq_true rfl) (sp_M_letter hB0 hpz hb h18 h19 (by omega) (GCr.v ?_))
                    refine g_bipush F a_M_wordHere_258 (by decide) ?_
                    refine g_icmp_ne F (by first | omega | (have h9 := hr9 _ (by omega); omega) | exact hr32 _ (by omega)) (by first | omega | (have h9 := hr9 _ (by omega); omega) | exact hr32 _ (by omega)) a_M_wordHere_260 (fun h260 => ?_) (fun h260 => ?_)
                    · refine g_iconst F a_M_wordHere_287 ?_
                      refine g_iret F a_M_wordHere_288 rfl ⟨Nat.le_refl _, Nat.le_refl _⟩ ?_
                      first | exact qv k (wj_n (by omega) (by omega) (by omega) (by omega) (by omega) (by omega)) | exact qv k (wj_0 (by omega)) | exact qv k (wj_1 (by omega)) | exact qv k (wj_2 (by omega)) | exact qv k (wj_3 (by omega)) | exact qv k (wj_4 (by omega)) | exact qv k (wj_5 (by omega))
                    · refine g_aload_n F a_M_wordHere_263 rfl ?_
                      refine g_iconst F a_M_wordHere_264 ?_
                      refine g_v1 F a_M_wordHere_265 vc_M_126 mk_M_letter ob_10 ck_10.1 rfl rfl (by decide) ⟨Nat.le_refl _, Nat.le_refl _⟩ rfl (Nat.le_of_ble_eq_true rfl) (sp_M_letter hB0 hpz hb h18 h19 (by omega) (GCr.v ?_))
                      refine g_bipush F a_M_wordHere_268 (by decide) ?_
                      refine g_icmp_ne F (by first | omega | (have h9 := hr9 _ (by omega); omega) | exact hr32 _ (by omega)) (by first | omega | (have h9 := hr9 _ (by omega); omega) | exact hr32 _ (by omega)) a_M_wordHere_270 (fun h270 => ?_) (fun h270 => ?_)
                      · refine g_iconst F a_M_wordHere_287 ?_
                        refine g_iret F a_M_wordHere_288 rfl ⟨Nat.le_refl _, Nat.le_refl _⟩ ?_
                        first | exact qv k (wj_n (by omega) (by omega) (by omega) (by omega) (by omega) (by omega)) | exact qv k (wj_0 (by omega)) | exact qv k (wj_1 (by omega)) | exact qv k (wj_2 (by omega)) | exact qv k (wj_3 (by omega)) | exact qv k (wj_4 (by omega)) | exact qv k (wj_5 (by omega))
                      · refine g_aload_n F a_M_wordHere_273 rfl ?_
                        refine g_iconst F a_M_wordHere_274 ?_
                        refine g_v1 F a_M_wordHere_275 vc_M_126 mk_M_letter ob_10 ck_10.1 rfl rfl (by decide) ⟨Nat.le_refl _, Nat.le_refl _⟩ rfl (Nat.le_of_ble_eq_true rfl) (sp_M_letter hB0 hpz hb h18 h19 (by omega) (GCr.v ?_))
                        refine g_bipush F a_M_wordHere_278 (by decide) ?_
                        refine g_icmp_ne F (by first | omega | (have h9 := hr9 _ (by omega); omega) | exact hr32 _ (by omega)) (by first | omega | (have h9 := hr9 _ (by omega); omega) | exact hr32 _ (by omega)) a_M_wordHere_280 (fun h280 => ?_) (fun h280 => ?_)
                        · refine g_iconst F a_M_wordHere_287 ?_
                          refine g_iret F a_M_wordHere_288 rfl ⟨Nat.le_refl _, Nat.le_refl _⟩ ?_
                          first | exact qv k (wj_n (by omega) (by omega) (by omega) (by omega) (by omega) (by omega)) | exact qv k (wj_0 (by omega)) | exact qv k (wj_1 (by omega)) | exact qv k (wj_2 (by omega)) | exact qv k (wj_3 (by omega)) | exact qv k (wj_4 (by omega)) | exact qv k (wj_5 (by omega))
                        · refine g_iconst F a_M_wordHere_283 ?_
                          refine g_goto F a_M_wordHere_284 ?_
                          refine g_iret F a_M_wordHere_288 rfl ⟨Nat.le_refl _, Nat.le_refl _⟩ ?_
                          first | exact qv k (wj_n (by omega) (by omega) (by omega) (by omega) (by omega) (by omega)) | exact qv k (wj_0 (by omega)) | exact qv k (wj_1 (by omega)) | exact qv k (wj_2 (by omega)) | exact qv k (wj_3 (by omega)) | exact qv k (wj_4 (by omega)) | exact qv k (wj_5 (by omega))
                · refine g_aload_n F a_M_wordHere_231 rfl ?_
                  refine g_iconst F a_M_wordHere_232 ?_
                  refine g_v1 F a_M_wordHere_233 vc_M_126 mk_M_letter ob_10 ck_10.1 rfl rfl (by decide) ⟨Nat.le_refl _, Nat.le_refl _⟩ rfl (Nat.le_of_ble_eq_true rfl) (sp_M_letter hB0 hpz hb h18 h19 (by omega) (GCr.v ?_))
                  refine g_bipush F a_M_wordHere_236 (by decide) ?_
                  refine g_icmp_ne F (by first | omega | (have h9 := hr9 _ (by omega); omega) | exact hr32 _ (by omega)) (by first | omega | (have h9 := hr9 _ (by omega); omega) | exact hr32 _ (by omega)) a_M_wordHere_238 (fun h238 => ?_) (fun h238 => ?_)
                  · refine g_aload_n F a_M_wordHere_243 rfl ?_
                    refine g_iconst F a_M_wordHere_244 ?_
                    refine g_v1 F a_M_wordHere_245 vc_M_126 mk_M_letter ob_10 ck_10.1 rfl rfl (by decide) ⟨Nat.le_refl _, Nat.le_refl _⟩ rfl (Nat.le_of_ble_eq_true rfl) (sp_M_letter hB0 hpz hb h18 h19 (by omega) (GCr.v ?_))
                    refine g_bipush F a_M_wordHere_248 (by decide) ?_
                    refine g_icmp_ne F (by first | omega | (have h9 := hr9 _ (by omega); omega) | exact hr32 _ (by omega)) (by first | omega | (have h9 := hr9 _ (by omega); omega) | exact hr32 _ (by omega)) a_M_wordHere_250 (fun h250 => ?_) (fun h250 => ?_)
                    · refine g_iconst F a_M_wordHere_287 ?_
                      refine g_iret F a_M_wordHere_288 rfl ⟨Nat.le_refl _, Nat.le_refl _⟩ ?_
                      first | exact qv k (wj_n (by omega) (by omega) (by omega) (by omega) (by omega) (by omega)) | exact qv k (wj_0 (by omega)) | exact qv k (wj_1 (by omega)) | exact qv k (wj_2 (by omega)) | exact qv k (wj_3 (by omega)) | exact qv k (wj_4 (by omega)) | exact qv k (wj_5 (by omega))
                    · refine g_aload_n F a_M_wordHere_253 rfl ?_
                      refine g_iconst F a_M_wordHere_254 ?_
                      refine g_v1 F a_M_wordHere_255 vc_M_126 mk_M_letter ob_10 ck_10.1 rfl rfl (by decide) ⟨Nat.le_refl _, Nat.le_refl _⟩ rfl (Nat.le_of_ble_eq_true rfl) (sp_M_letter hB0 hpz hb h18 h19 (by omega) (GCr.v ?_))
                      refine g_bipush F a_M_wordHere_258 (by decide) ?_
                      refine g_icmp_ne F (by first | omega | (have h9 := hr9 _ (by omega); omega) | exact hr32 _ (by omega)) (by first | omega | (have h9 := hr9 _ (by omega); omega) | exact hr32 _ (by omega)) a_M_wordHere_260 (fun h260 => ?_) (fun h260 => ?_)
                      · refine g_iconst F a_M_wordHere_287 ?_
                        refine g_iret F a_M_wordHere_288 rfl ⟨Nat.le_refl _, Nat.le_refl _⟩ ?_
                        first | exact qv k (wj_n (by omega) (by omega) (by omega) (by omega) (by omega) (by omega)) | exact qv k (wj_0 (by omega)) | exact qv k (wj_1 (by omega)) | exact qv k (wj_2 (by omega)) | exact qv k (wj_3 (by omega)) | exact qv k (wj_4 (by omega)) | exact qv k (wj_5 (by omega))
                      · refine g_aload_n F a_M_wordHere_263 rfl ?_
                        refine g_iconst F a_M_wordHere_264 ?_
                        refine g_v1 F a_M_wordHere_265 vc_M_126 mk_M_letter ob_10 ck_10.1 rfl rfl (by decide) ⟨Nat.le_refl _, Nat.le_refl _⟩ rfl (Nat.le_of_ble_eq_true rfl) (sp_M_letter hB0 hpz hb h18 h19 (by omega) (GCr.v ?_))
                        refine g_bipush F a_M_wordHere_268 (by decide) ?_
                        refine g_icmp_ne F (by first | omega | (have h9 := hr9 _ (by omega); omega) | exact hr32 _ (by omega)) (by first | omega | (have h9 := hr9 _ (by omega); omega) | exact hr32 _ (by omega)) a_M_wordHere_270 (fun h270 => ?_) (fun h270 => ?_)
                        · refine g_iconst F a_M_wordHere_287 ?_
                          refine g_iret F a_M_wordHere_288 rfl ⟨Nat.le_refl _, Nat.le_refl _⟩ ?_
                          first | exact qv k (wj_n (by omega) (by omega) (by omega) (by omega) (by omega) (by omega)) | exact qv k (wj_0 (by omega)) | exact qv k (wj_1 (by omega)) | exact qv k (wj_2 (by omega)) | exact qv k (wj_3 (by omega)) | exact qv k (wj_4 (by omega)) | exact qv k (wj_5 (by omega))
                        · refine g_aload_n F a_M_wordHere_273 rfl ?_
                          refine g_iconst F a_M_wordHere_274 ?_
                          refine g_v1 F a_M_wordHere_275 vc_M_126 mk_M_letter ob_10 ck_10.1 rfl rfl (by decide) ⟨Nat.le_refl _, Nat.le_refl _⟩ rfl (Nat.le_of_ble_eq_true rfl) (sp_M_letter hB0 hpz hb h18 h19 (by omega) (GCr.v ?_))
                          refine g_bipush F a_M_wordHere_278 (by decide) ?_
                          refine g_icmp_ne F (by first | omega | (have h9 := hr9 _ (by omega); omega) | exact hr32 _ (by omega)) (by first | omega | (have h9 := hr9 _ (by omega); omega) | exact hr32 _ (by omega)) a_M_wordHere_280 (fun h280 => ?_) (fun h280 => ?_)
                          · refine g_iconst F a_M_wordHere_287 ?_
                            refine g_iret F a_M_wordHere_288 rfl ⟨Nat.le_refl _, Nat.le_refl _⟩ ?_
                            first | exact qv k (wj_n (by omega) (by omega) (by omega) (by omega) (by omega) (by omega)) | exact qv k (wj_0 (by omega)) | exact qv k (wj_1 (by omega)) | exact qv k (wj_2 (by omega)) | exact qv k (wj_3 (by omega)) | exact qv k (wj_4 (by omega)) | exact qv k (wj_5 (by omega))
                          · refine g_iconst F a_M_wordHere_283 ?_
                            refine g_goto F a_M_wordHere_284 ?_
                            refine g_iret F a_M_wordHere_288 rfl ⟨Nat.le_refl _, Nat.le_refl _⟩ ?_
                            first | exact qv k (wj_n (by omega) (by omega) (by omega) (by omega) (by omega) (by omega)) | exact qv k (wj_0 (by omega)) | exact qv k (wj_1 (by omega)) | exact qv k (wj_2 (by omega)) | exact qv k (wj_3 (by omega)) | exact qv k (wj_4 (by omega)) | exact qv k (wj_5 (by omega))
                  · refine g_iconst F a_M_wordHere_241 ?_
                    refine g_iret F a_M_wordHere_242 rfl ⟨Nat.le_refl _, Nat.le_refl _⟩ ?_
                    first | exact qv k (wj_n (by omega) (by omega) (by omega) (by omega) (by omega) (by omega)) | exact qv k (wj_0 (by omega)) | exact qv k (wj_1 (by omega)) | exact qv k (wj_2 (by omega)) | exact qv k (wj_3 (by omega)) | exact qv k (wj_4 (by omega)) | exact qv k (wj_5 (by omega))
          · refine g_aload_n F a_M_wordHere_179 rfl ?_
            refine g_iconst F a_M_wordHere_180 ?_
            refine g_v1 F a_M_wordHere_181 vc_M_126 mk_M_letter ob_10 ck_10.1 rfl rfl (by decide) ⟨Nat.le_refl _, Nat.le_refl _⟩ rfl (Nat.le_of_ble_eq_true rfl) (sp_M_letter hB0 hpz hb h18 h19 (by omega) (GCr.v ?_))
            refine g_bipush F a_M_wordHere_184 (by decide) ?_
            refine g_icmp_ne F (by first | omega | (have h9 := hr9 _ (by omega); omega) | exact hr32 _ (by omega)) (by first | omega | (have h9 := hr9 _ (by omega); omega) | exact hr32 _ (by omega)) a_M_wordHere_186 (fun h186 => ?_) (fun h186 => ?_)
            · refine g_aload_n F a_M_wordHere_201 rfl ?_
              refine g_iconst F a_M_wordHere_202 ?_
              refine g_v1 F a_M_wordHere_203 vc_M_126 mk_M_letter ob_10 ck_10.1 rfl rfl (by decide) ⟨Nat.le_refl _, Nat.le_refl _⟩ rfl (Nat.le_of_ble_eq_true rfl) (sp_M_letter hB0 hpz hb h18 h19 (by omega) (GCr.v ?_))
              refine g_bipush F a_M_wordHere_206 (by decide) ?_
              refine g_icmp_ne F (by first | omega | (have h9 := hr9 _ (by omega); omega) | exact hr32 _ (by omega)) (by first | omega | (have h9 := hr9 _ (by omega); omega) | exact hr32 _ (by omega)) a_M_wordHere_208 (fun h208 => ?_) (fun h208 => ?_)
              · refine g_aload_n F a_M_wordHere_243 rfl ?_
                refine g_iconst F a_M_wordHere_244 ?_
                refine g_v1 F a_M_wordHere_245 vc_M_126 mk_M_letter ob_10 ck_10.1 rfl rfl (by decide) ⟨Nat.le_refl _, Nat.le_refl _⟩ rfl (Nat.le_of_ble_eq_true rfl) (sp_M_letter hB0 hpz hb h18 h19 (by omega) (GCr.v ?_))
                refine g_bipush F a_M_wordHere_248 (by decide) ?_
                refine g_icmp_ne F (by first | omega | (have h9 := hr9 _ (by omega); omega) | exact hr32 _ (by omega)) (by first | omega | (have h9 := hr9 _ (by omega); omega) | exact hr32 _ (by omega)) a_M_wordHere_250 (fun h250 => ?_) (fun h250 => ?_)
                · refine g_iconst F a_M_wordHere_287 ?_
                  refine g_iret F a_M_wordHere_288 rfl ⟨Nat.le_refl _, Nat.le_refl _⟩ ?_
                  first | exact qv k (wj_n (by omega) (by omega) (by omega) (by omega) (by omega) (by omega)) | exact qv k (wj_0 (by omega)) | exact qv k (wj_1 (by omega)) | exact qv k (wj_2 (by omega)) | exact qv k (wj_3 (by omega)) | exact qv k (wj_4 (by omega)) | exact qv k (wj_5 (by omega))
                · refine g_aload_n F a_M_wordHere_253 rfl ?_
                  refine g_iconst F a_M_wordHere_254 ?_
                  refine g_v1 F a_M_wordHere_255 vc_M_126 mk_M_letter ob_10 ck_10.1 rfl rfl (by decide) ⟨Nat.le_refl _, Nat.le_refl _⟩ rfl (Nat.le_of_ble_eq_true rfl) (sp_M_letter hB0 hpz hb h18 h19 (by omega) (GCr.v ?_))
                  refine g_bipush F a_M_wordHere_258 (by decide) ?_
                  refine g_icmp_ne F (by first | omega | (have h9 := hr9 _ (by omega); omega) | exact hr32 _ (by omega)) (by first | omega | (have h9 := hr9 _ (by omega); omega) | exact hr32 _ (by omega)) a_M_wordHere_260 (fun h260 => ?_) (fun h260 => ?_)
                  · refine g_iconst F a_M_wordHere_287 ?_
                    refine g_iret F a_M_wordHere_288 rfl ⟨Nat.le_refl _, Nat.le_refl _⟩ ?_
                    first | exact qv k (wj_n (by omega) (by omega) (by omega) (by omega) (by omega) (by omega)) | exact qv k (wj_0 (by omega)) | exact qv k (wj_1 (by omega)) | exact qv k (wj_2 (by omega)) | exact qv k (wj_3 (by omega)) | exact qv k (wj_4 (by omega)) | exact qv k (wj_5 (by omega))
                  · refine g_aload_n F a_M_wordHere_263 rfl ?_
                    refine g_iconst F a_M_wordHere_264 ?_
                    refine g_v1 F a_M_wordHere_265 vc_M_126 mk_M_letter ob_10 ck_10.1 rfl rfl (by decide) ⟨Nat.le_refl _, Nat.le_refl _⟩ rfl (Nat.le_of_ble_eq_true rfl) (sp_M_letter hB0 hpz hb h18 h19 (by omega) (GCr.v ?_))
                    refine g_bipush F a_M_wordHere_268 (by decide) ?_
                    refine g_icmp_ne F (by first | omega | (have h9 := hr9 _ (by omega); omega) | exact hr32 _ (by omega)) (by first | omega | (have h9 := hr9 _ (by omega); omega) | exact hr32 _ (by omega)) a_M_wordHere_270 (fun h270 => ?_) (fun h270 => ?_)
                    · refine g_iconst F a_M_wordHere_287 ?_
                      refine g_iret F a_M_wordHere_288 rfl ⟨Nat.le_refl _, Nat.le_refl _⟩ ?_
                      first | exact qv k (wj_n (by omega) (by omega) (by omega) (by omega) (by omega) (by omega)) | exact qv k (wj_0 (by omega)) | exact qv k (wj_1 (by omega)) | exact qv k (wj_2 (by omega)) | exact qv k (wj_3 (by omega)) | exact qv k (wj_4 (by omega)) | exact qv k (wj_5 (by omega))
                    · refine g_aload_n F a_M_wordHere_273 rfl ?_
                      refine g_iconst F a_M_wordHere_274 ?_
                      refine g_v1 F a_M_wordHere_275 vc_M_126 mk_M_letter ob_10 ck_10.1 rfl rfl (by decide) ⟨Nat.le_refl _, Nat.le_refl _⟩ rfl (Nat.le_of_ble_eq_true rfl) (sp_M_letter hB0 hpz hb h18 h19 (by omega) (GCr.v ?_))
                      refine g_bipush F a_M_wordHere_278 (by decide) ?_
                      refine g_icmp_ne F (by first | omega | (have h9 := hr9 _ (by omega); omega) | exact hr32 _ (by omega)) (by first | omega | (have h9 := hr9 _ (by omega); omega) | exact hr32 _ (by omega)) a_M_wordHere_280 (fun h280 => ?_) (fun h280 => ?_)
                      · refine g_iconst F a_M_wordHere_287 ?_
                        refine g_iret F a_M_wordHere_288 rfl ⟨Nat.le_refl _, Nat.le_refl _⟩ ?_
                        first | exact qv k (wj_n (by omega) (by omega) (by omega) (by omega) (by omega) (by omega)) | exact qv k (wj_0 (by omega)) | exact qv k (wj_1 (by omega)) | exact qv k (wj_2 (by omega)) | exact qv k (wj_3 (by omega)) | exact qv k (wj_4 (by omega)) | exact qv k (wj_5 (by omega))
                      · refine g_iconst F a_M_wordHere_283 ?_
                        refine g_goto F a_M_wordHere_284 ?_
                        refine g_iret F a_M_wordHere_288 rfl ⟨Nat.le_refl _, Nat.le_refl _⟩ ?_
                        first | exact qv k (wj_n (by omega) (by omega) (by omega) (by omega) (by omega) (by omega)) | exact qv k (wj_0 (by omega)) | exact qv k (wj_1 (by omega)) | exact qv k (wj_2 (by omega)) | exact qv k (wj_3 (by omega)) | exact qv k (wj_4 (by omega)) | exact qv k (wj_5 (by omega))
              · refine g_aload_n F a_M_wordHere_211 rfl ?_
                refine g_iconst F a_M_wordHere_212 ?_
                refine g_v1 F a_M_wordHere_213 vc_M_126 mk_M_letter ob_10 ck_10.1 rfl rfl (by decide) ⟨Nat.le_refl _, Nat.le_refl _⟩ rfl (Nat.le_of_ble_eq_true rfl) (sp_M_letter hB0 hpz hb h18 h19 (by omega) (GCr.v ?_))
                refine g_bipush F a_M_wordHere_216 (by decide) ?_
                refine g_icmp_ne F (by first | omega | (have h9 := hr9 _ (by omega); omega) | exact hr32 _ (by omega)) (by first | omega | (have h9 := hr9 _ (by omega); omega) | exact hr32 _ (by omega)) a_M_wordHere_218 (fun h218 => ?_) (fun h218 => ?_)
                · refine g_aload_n F a_M_wordHere_243 rfl ?_
                  refine g_iconst F a_M_wordHere_244 ?_
                  refine g_v1 F a_M_wordHere_245 vc_M_126 mk_M_letter ob_10 ck_10.1 rfl rfl (by decide) ⟨Nat.le_refl _, Nat.le_refl _⟩ rfl (Nat.le_of_ble_eq_true rfl) (sp_M_letter hB0 hpz hb h18 h19 (by omega) (GCr.v ?_))
                  refine g_bipush F a_M_wordHere_248 (by decide) ?_
                  refine g_icmp_ne F (by first | omega | (have h9 := hr9 _ (by omega); omega) | exact hr32 _ (by omega)) (by first | omega | (have h9 := hr9 _ (by omega); omega) | exact hr32 _ (by omega)) a_M_wordHere_250 (fun h250 => ?_) (fun h250 => ?_)
                  · refine g_iconst F a_M_wordHere_287 ?_
                    refine g_iret F a_M_wordHere_288 rfl ⟨Nat.le_refl _, Nat.le_refl _⟩ ?_
                    first | exact qv k (wj_n (by omega) (by omega) (by omega) (by omega) (by omega) (by omega)) | exact qv k (wj_0 (by omega)) | exact qv k (wj_1 (by omega)) | exact qv k (wj_2 (by omega)) | exact qv k (wj_3 (by omega)) | exact qv k (wj_4 (by omega)) | exact qv k (wj_5 (by omega))
                  · refine g_aload_n F a_M_wordHere_253 rfl ?_
                    refine g_iconst F a_M_wordHere_254 ?_
                    refine g_v1 F a_M_wordHere_255 vc_M_126 mk_M_letter ob_10 ck_10.1 rfl rfl (by decide) ⟨Nat.le_refl _, Nat.le_refl _⟩ rfl (Nat.le_of_ble_eq_true rfl) (sp_M_letter hB0 hpz hb h18 h19 (by omega) (GCr.v ?_))
                    refine g_bipush F a_M_wordHere_258 (by decide) ?_
                    refine g_icmp_ne F (by first | omega | (have h9 := hr9 _ (by omega); omega) | exact hr32 _ (by omega)) (by first | omega | (have h9 := hr9 _ (by omega); omega) | exact hr32 _ (by omega)) a_M_wordHere_260 (fun h260 => ?_) (fun h260 => ?_)
                    · refine g_iconst F a_M_wordHere_287 ?_
                      refine g_iret F a_M_wordHere_288 rfl ⟨Nat.le_refl _, Nat.le_refl _⟩ ?_
                      first | exact qv k (wj_n (by omega) (by omega) (by omega) (by omega) (by omega) (by omega)) | exact qv k (wj_0 (by omega)) | exact qv k (wj_1 (by omega)) | exact qv k (wj_2 (by omega)) | exact qv k (wj_3 (by omega)) | exact qv k (wj_4 (by omega)) | exact qv k (wj_5 (by omega))
                    · refine g_aload_n F a_M_wordHere_263 rfl ?_
                      refine g_iconst F a_M_wordHere_264 ?_
                      refine g_v1 F a_M_wordHere_265 vc_M_126 mk_M_letter ob_10 ck_10.1 rfl rfl (by decide) ⟨Nat.le_refl _, Nat.le_refl _⟩ rfl (Nat.le_of_ble_eq_true rfl) (sp_M_letter hB0 hpz hb h18 h19 (by omega) (GCr.v ?_))
                      refine g_bipush F a_M_wordHere_268 (by decide) ?_
                      refine g_icmp_ne F (by first | omega | (have h9 := hr9 _ (by omega); omega) | exact hr32 _ (by omega)) (by first | omega | (have h9 := hr9 _ (by omega); omega) | exact hr32 _ (by omega)) a_M_wordHere_270 (fun h270 => ?_) (fun h270 => ?_)
                      · refine g_iconst F a_M_wordHere_287 ?_
                        refine g_iret F a_M_wordHere_288 rfl ⟨Nat.le_refl _, Nat.le_refl _⟩ ?_
                        first | exact qv k (wj_n (by omega) (by omega) (by omega) (by omega) (by omega) (by omega)) | exact qv k (wj_0 (by omega)) | exact qv k (wj_1 (by omega)) | exact qv k (wj_2 (by omega)) | exact qv k (wj_3 (by omega)) | exact qv k (wj_4 (by omega)) | exact qv k (wj_5 (by omega))
                      · refine g_aload_n F a_M_wordHere_273 rfl ?_
                        refine g_iconst F a_M_wordHere_274 ?_
                        refine g_v1 F a_M_wordHere_275 vc_M_126 mk_M_letter ob_10 ck_10.1 rfl rfl (by decide) ⟨Nat.le_refl _, Nat.le_refl _⟩ rfl (Nat.le_of_ble_eq_true rfl) (sp_M_letter hB0 hpz hb h18 h19 (by omega) (GCr.v ?_))
                        refine g_bipush F a_M_wordHere_278 (by decide) ?_
                        refine g_icmp_ne F (by first | omega | (have h9 := hr9 _ (by omega); omega) | exact hr32 _ (by omega)) (by first | omega | (have h9 := hr9 _ (by omega); omega) | exact hr32 _ (by omega)) a_M_wordHere_280 (fun h280 => ?_) (fun h280 => ?_)
                        · refine g_iconst F a_M_wordHere_287 ?_
                          refine g_iret F a_M_wordHere_288 rfl ⟨Nat.le_refl _, Nat.le_refl _⟩ ?_
                          first | exact qv k (wj_n (by omega) (by omega) (by omega) (by omega) (by omega) (by omega)) | exact qv k (wj_0 (by omega)) | exact qv k (wj_1 (by omega)) | exact qv k (wj_2 (by omega)) | exact qv k (wj_3 (by omega)) | exact qv k (wj_4 (by omega)) | exact qv k (wj_5 (by omega))
                        · refine g_iconst F a_M_wordHere_283 ?_
                          refine g_goto F a_M_wordHere_284 ?_
                          refine g_iret F a_M_wordHere_288 rfl ⟨Nat.le_refl _, Nat.le_refl _⟩ ?_
                          first | exact qv k (wj_n (by omega) (by omega) (by omega) (by omega) (by omega) (by omega)) | exact qv k (wj_0 (by omega)) | exact qv k (wj_1 (by omega)) | exact qv k (wj_2 (by omega)) | exact qv k (wj_3 (by omega)) | exact qv k (wj_4 (by omega)) | exact qv k (wj_5 (by omega))
                · refine g_aload_n F a_M_wordHere_221 rfl ?_
                  refine g_iconst F a_M_wordHere_222 ?_
                  refine g_v1 F a_M_wordHere_223 vc_M_126 mk_M_letter ob_10 ck_10.1 rfl rfl (by decide) ⟨Nat.le_refl _, Nat.le_refl _⟩ rfl (Nat.le_of_ble_eq_true rfl) (sp_M_letter hB0 hpz hb h18 h19 (by omega) (GCr.v ?_))
                  refine g_bipush F a_M_wordHere_226 (by decide) ?_
                  refine g_icmp_ne F (by first | omega | (have h9 := hr9 _ (by omega); omega) | exact hr32 _ (by omega)) (by first | omega | (have h9 := hr9 _ (by omega); omega) | exact hr32 _ (by omega)) a_M_wordHere_228 (fun h228 => ?_) (fun h228 => ?_)
                  · refine g_aload_n F a_M_wordHere_243 rfl ?_
                    refine g_iconst F a_M_wordHere_244 ?_
                    refine g_v1 F a_M_wordHere_245 vc_M_126 mk_M_letter ob_10 ck_10.1 rfl rfl (by decide) ⟨Nat.le_refl _, Nat.le_refl _⟩ rfl (Nat.le_of_ble_eq_true rfl) (sp_M_letter hB0 hpz hb h18 h19 (by omega) (GCr.v ?_))
                    refine g_bipush F a_M_wordHere_248 (by decide) ?_
                    refine g_icmp_ne F (by first | omega | (have h9 := hr9 _ (by omega); omega) | exact hr32 _ (by omega)) (by first | omega | (have h9 := hr9 _ (by omega); omega) | exact hr32 _ (by omega)) a_M_wordHere_250 (fun h250 => ?_) (fun h250 => ?_)
                    · refine g_iconst F a_M_wordHere_287 ?_
                      refine g_iret F a_M_wordHere_288 rfl ⟨Nat.le_refl _, Nat.le_refl _⟩ ?_
                      first | exact qv k (wj_n (by omega) (by omega) (by omega) (by omega) (by omega) (by omega)) | exact qv k (wj_0 (by omega)) | exact qv k (wj_1 (by omega)) | exact qv k (wj_2 (by omega)) | exact qv k (wj_3 (by omega)) | exact qv k (wj_4 (by omega)) | exact qv k (wj_5 (by omega))
                    · refine g_aload_n F a_M_wordHere_253 rfl ?_
                      refine g_iconst F a_M_wordHere_254 ?_
                      refine g_v1 F a_M_wordHere_255 vc_M_126 mk_M_letter ob_10 ck_10.1 rfl rfl (by decide) ⟨Nat.le_refl _, Nat.le_refl _⟩ rfl (Nat.le_of_ble_eq_true rfl) (sp_M_letter hB0 hpz hb h18 h19 (by omega) (GCr.v ?_))
                      refine g_bipush F a_M_wordHere_258 (by decide) ?_
                      refine g_icmp_ne F (by first | omega | (have h9 := hr9 _ (by omega); omega) | exact hr32 _ (by omega)) (by first | omega | (have h9 := hr9 _ (by omega); omega) | exact hr32 _ (by omega)) a_M_wordHere_260 (fun h260 => ?_) (fun h260 => ?_)
                      · refine g_iconst F a_M_wordHere_287 ?_
                        refine g_iret F a_M_wordHere_288 rfl ⟨Nat.le_refl _, Nat.le_refl _⟩ ?_
                        first | exact qv k (wj_n (by omega) (by omega) (by omega) (by omega) (by omega) (by omega)) | exact qv k (wj_0 (by omega)) | exact qv k (wj_1 (by omega)) | exact qv k (wj_2 (by omega)) | exact qv k (wj_3 (by omega)) | exact qv k (wj_4 (by omega)) | exact qv k (wj_5 (by omega))
                      · refine g_aload_n F a_M_wordHere_263 rfl ?_
                        refine g_iconst F a_M_wordHere_264 ?_
                        refine g_v1 F a_M_wordHere_265 vc_M_126 mk_M_letter ob_10 ck_10.1 rfl rfl (by decide) ⟨Nat.le_refl _, Nat.le_refl _⟩ rfl (Nat.le_of_ble_eq_true rfl) (sp_M_letter hB0 hpz hb h18 h19 (by omega) (GCr.v ?_))
                        refine g_bipush F a_M_wordHere_268 (by decide) ?_
                        refine g_icmp_ne F (by first | omega | (have h9 := hr9 _ (by omega); omega) | exact hr32 _ (by omega)) (by first | omega | (have h9 := hr9 _ (by omega); omega) | exact hr32 _ (by omega)) a_M_wordHere_270 (fun h270 => ?_) (fun h270 => ?_)
                        · refine g_iconst F a_M_wordHere_287 ?_
                          refine g_iret F a_M_wordHere_288 rfl ⟨Nat.le_refl _, Nat.le_refl _⟩ ?_
                          first | exact qv k (wj_n (by omega) (by omega) (by omega) (by omega) (by omega) (by omega)) | exact qv k (wj_0 (by omega)) | exact qv k (wj_1 (by omega)) | exact qv k (wj_2 (by omega)) | exact qv k (wj_3 (by omega)) | exact qv k (wj_4 (by omega)) | exact qv k (wj_5 (by omega))
                        · refine g_aload_n F a_M_wordHere_273 rfl ?_
                          refine g_iconst F a_M_wordHere_274 ?_
                          refine g_v1 F a_M_wordHere_275 vc_M_126 mk_M_letter ob_10 ck_10.1 rfl rfl (by decide) ⟨Nat.le_refl _, Nat.le_refl _⟩ rfl (Nat.le_of_ble_eq_true rfl) (sp_M_letter hB0 hpz hb h18 h19 (by omega) (GCr.v ?_))
                          refine g_bipush F a_M_wordHere_278 (by decide) ?_
                          refine g_icmp_ne F (by first | omega | (have h9 := hr9 _ (by omega); omega) | exact hr32 _ (by omega)) (by first | omega | (have h9 := hr9 _ (by omega); omega) | exact hr32 _ (by omega)) a_M_wordHere_280 (fun h280 => ?_) (fun h280 => ?_)
                          · refine g_iconst F a_M_wordHere_287 ?_
                            refine g_iret F a_M_wordHere_288 rfl ⟨Nat.le_refl _, Nat.le_refl _⟩ ?_
                            first | exact qv k (wj_n (by omega) (by omega) (by omega) (by omega) (by omega) (by omega)) | exact qv k (wj_0 (by omega)) | exact qv k (wj_1 (by omega)) | exact qv k (wj_2 (by omega)) | exact qv k (wj_3 (by omega)) | exact qv k (wj_4 (by omega)) | exact qv k (wj_5 (by omega))
                          · refine g_iconst F a_M_wordHere_283 ?_
                            refine g_goto F a_M_wordHere_284 ?_
                            refine g_iret F a_M_wordHere_288 rfl ⟨Nat.le_refl _, Nat.le_refl _⟩ ?_
                            first | exact qv k (wj_n (by omega) (by omega) (by omega) (by omega) (by omega) (by omega)) | exact qv k (wj_0 (by omega)) | exact qv k (wj_1 (by omega)) | exact qv k (wj_2 (by omega)) | exact qv k (wj_3 (by omega)) | exact qv k (wj_4 (by omega)) | exact qv k (wj_5 (by omega))
                  · refine g_aload_n F a_M_wordHere_231 rfl ?_
                    refine g_iconst F a_M_wordHere_232 ?_
                    refine g_v1 F a_M_wordHere_233 vc_M_126 mk_M_letter ob_10 ck_10.1 rfl rfl (by decide) ⟨Nat.le_refl _, Nat.le_refl _⟩ rfl (Nat.le_of_ble_eq_true rfl) (sp_M_letter hB0 hpz hb h18 h19 (by omega) (GCr.v ?_))
                    refine g_bipush F a_M_wordHere_236 (by decide) ?_
                    refine g_icmp_ne F (by first | omega | (have h9 := hr9 _ (by omega); omega) | exact hr32 _ (by omega)) (by first | omega | (have h9 := hr9 _ (by omega); omega) | exact hr32 _ (by omega)) a_M_wordHere_238 (fun h238 => ?_) (fun h238 => ?_)
                    · refine g_aload_n F a_M_wordHere_243 rfl ?_
                      refine g_iconst F a_M_wordHere_244 ?_
                      refine g_v1 F a_M_wordHere_245 vc_M_126 mk_M_letter ob_10 ck_10.1 rfl rfl (by decide) ⟨Nat.le_refl _, Nat.le_refl _⟩ rfl (Nat.le_of_ble_eq_true rfl) (sp_M_letter hB0 hpz hb h18 h19 (by omega) (GCr.v ?_))
                      refine g_bipush F a_M_wordHere_248 (by decide) ?_
                      refine g_icmp_ne F (by first | omega | (have h9 := hr9 _ (by omega); omega) | exact hr32 _ (by omega)) (by first | omega | (have h9 := hr9 _ (by omega); omega) | exact hr32 _ (by omega)) a_M_wordHere_250 (fun h250 => ?_) (fun h250 => ?_)
                      · refine g_iconst F a_M_wordHere_287 ?_
                        refine g_iret F a_M_wordHere_288 rfl ⟨Nat.le_refl _, Nat.le_refl _⟩ ?_
                        first | exact qv k (wj_n (by omega) (by omega) (by omega) (by omega) (by omega) (by omega)) | exact qv k (wj_0 (by omega)) | exact qv k (wj_1 (by omega)) | exact qv k (wj_2 (by omega)) | exact qv k (wj_3 (by omega)) | exact qv k (wj_4 (by omega)) | exact qv k (wj_5 (by omega))
                      · refine g_aload_n F a_M_wordHere_253 rfl ?_
                        refine g_iconst F a_M_wordHere_254 ?_
                        refine g_v1 F a_M_wordHere_255 vc_M_126 mk_M_letter ob_10 ck_10.1 rfl rfl (by decide) ⟨Nat.le_refl _, Nat.le_refl _⟩ rfl (Nat.le_of_ble_eq_true rfl) (sp_M_letter hB0 hpz hb h18 h19 (by omega) (GCr.v ?_))
                        refine g_bipush F a_M_wordHere_258 (by decide) ?_
                        refine g_icmp_ne F (by first | omega | (have h9 := hr9 _ (by omega); omega) | exact hr32 _ (by omega)) (by first | omega | (have h9 := hr9 _ (by omega); omega) | exact hr32 _ (by omega)) a_M_wordHere_260 (fun h260 => ?_) (fun h260 => ?_)
                        · refine g_iconst F a_M_wordHere_287 ?_
                          refine g_iret F a_M_wordHere_288 rfl ⟨Nat.le_refl _, Nat.le_refl _⟩ ?_
                          first | exact qv k (wj_n (by omega) (by omega) (by omega) (by omega) (by omega) (by omega)) | exact qv k (wj_0 (by omega)) | exact qv k (wj_1 (by omega)) | exact qv k (wj_2 (by omega)) | exact qv k (wj_3 (by omega)) | exact qv k (wj_4 (by omega)) | exact qv k (wj_5 (by omega))
                        · refine g_aload_n F a_M_wordHere_263 rfl ?_
                          refine g_iconst F a_M_wordHere_264 ?_
                          refine g_v1 F a_M_wordHere_265 vc_M_126 mk_M_letter ob_10 ck_10.1 rfl rfl (by decide) ⟨Nat.le_refl _, Nat.le_refl _⟩ rfl (Nat.le_of_ble_eq_true rfl) (sp_M_letter hB0 hpz hb h18 h19 (by omega) (GCr.v ?_))
                          refine g_bipush F a_M_wordHere_268 (by decide) ?_
                          refine g_icmp_ne F (by first | omega | (have h9 := hr9 _ (by omega); omega) | exact hr32 _ (by omega)) (by first | omega | (have h9 := hr9 _ (by omega); omega) | exact hr32 _ (by omega)) a_M_wordHere_270 (fun h270 => ?_) (fun h270 => ?_)
                          · refine g_iconst F a_M_wordHere_287 ?_
                            refine g_iret F a_M_wordHere_288 rfl ⟨Nat.le_refl _, Nat.le_refl _⟩ ?_
                            first | exact qv k (wj_n (by omega) (by omega) (by omega) (by omega) (by omega) (by omega)) | exact qv k (wj_0 (by omega)) | exact qv k (wj_1 (by omega)) | exact qv k (wj_2 (by omega)) | exact qv k (wj_3 (by omega)) | exact qv k (wj_4 (by omega)) | exact qv k (wj_5 (by omega))
                          · refine g_aload_n F a_M_wordHere_273 rfl ?_
                            refine g_iconst F a_M_wordHere_274 ?_
                            refine g_v1 F a_M_wordHere_275 vc_M_126 mk_M_letter ob_10 ck_10.1 rfl rfl (by decide) ⟨Nat.le_refl _, Nat.le_refl _⟩ rfl (Nat.le_of_ble_eq_true rfl) (sp_M_letter hB0 hpz hb h18 h19 (by omega) (GCr.v ?_))
                            refine g_bipush F a_M_wordHere_278 (by decide) ?_
                            refine g_icmp_ne F (by first | omega | (have h9 := hr9 _ (by omega); omega) | exact hr32 _ (by omega)) (by first | omega | (have h9 := hr9 _ (by omega); omega) | exact hr32 _ (by omega)) a_M_wordHere_280 (fun h280 => ?_) (fun h280 => ?_)
                            · refine g_iconst F a_M_wordHere_287 ?_
                              refine g_iret F a_M_wordHere_288 rfl ⟨Nat.le_refl _, Nat.le_refl _⟩ ?_
                              first | exact qv k (wj_n (by omega) (by omega) (by omega) (by omega) (by omega) (by omega)) | exact qv k (wj_0 (by omega)) | exact qv k (wj_1 (by omega)) | exact qv k (wj_2 (by omega)) | exact qv k (wj_3 (by omega)) | exact qv k (wj_4 (by omega)) | exact qv k (wj_5 (by omega))
                            · refine g_iconst F a_M_wordHere_283 ?_
                              refine g_goto F a_M_wordHere_284 ?_
                              refine g_iret F a_M_wordHere_288 rfl ⟨Nat.le_refl _, Nat.le_refl _⟩ ?_
                              first | exact qv k (wj_n (by omega) (by omega) (by omega) (by omega) (by omega) (by omega)) | exact qv k (wj_0 (by omega)) | exact qv k (wj_1 (by omega)) | exact qv k (wj_2 (by omega)) | exact qv k (wj_3 (by omega)) | exact qv k (wj_4 (by omega)) | exact qv k (wj_5 (by omega))
                    · refine g_iconst F a_M_wordHere_241 ?_
                      refine g_iret F a_M_wordHere_242 rfl ⟨Nat.le_refl _, Nat.le_refl _⟩ ?_
                      first | exact qv k (wj_n (by omega) (by omega) (by omega) (by omega) (by omega) (by omega)) | exact qv k (wj_0 (by omega)) | exact qv k (wj_1 (by omega)) | exact qv k (wj_2 (by omega)) | exact qv k (wj_3 (by omega)) | exact qv k (wj_4 (by omega)) | exact qv k (wj_5 (by omega))
            · refine g_aload_n F a_M_wordHere_189 rfl ?_
              refine g_iconst F a_M_wordHere_190 ?_
              refine g_v1 F a_M_wordHere_191 vc_M_126 mk_M_letter ob_10 ck_10.1 rfl rfl (by decide) ⟨Nat.le_refl _, Nat.le_refl _⟩ rfl (Nat.le_of_ble_eq_true rfl) (sp_M_letter hB0 hpz hb h18 h19 (by omega) (GCr.v ?_))
              refine g_bipush F a_M_wordHere_194 (by decide) ?_
              refine g_icmp_ne F (by first | omega | (have h9 := hr9 _ (by omega); omega) | exact hr32 _ (by omega)) (by first | omega | (have h9 := hr9 _ (by omega); omega) | exact hr32 _ (by omega)) a_M_wordHere_196 (fun h196 => ?_) (fun h196 => ?_)
              · refine g_aload_n F a_M_wordHere_201 rfl ?_
                refine g_iconst F a_M_wordHere_202 ?_
                refine g_v1 F a_M_wordHere_203 vc_M_126 mk_M_letter ob_10 ck_10.1 rfl rfl (by decide) ⟨Nat.le_refl _, Nat.le_refl _⟩ rfl (Nat.le_of_ble_eq_true rfl) (sp_M_letter hB0 hpz hb h18 h19 (by omega) (GCr.v ?_))
                refine g_bipush F a_M_wordHere_206 (by decide) ?_
                refine g_icmp_ne F (by first | omega | (have h9 := hr9 _ (by omega); omega) | exact hr32 _ (by omega)) (by first | omega | (have h9 := hr9 _ (by omega); omega) | exact hr32 _ (by omega)) a_M_wordHere_208 (fun h208 => ?_) (fun h208 => ?_)
                · refine g_aload_n F a_M_wordHere_243 rfl ?_
                  refine g_iconst F a_M_wordHere_244 ?_
                  refine g_v1 F a_M_wordHere_245 vc_M_126 mk_M_letter ob_10 ck_10.1 rfl rfl (by decide) ⟨Nat.le_refl _, Nat.le_refl _⟩ rfl (Nat.le_of_ble_eq_true rfl) (sp_M_letter hB0 hpz hb h18 h19 (by omega) (GCr.v ?_))
                  refine g_bipush F a_M_wordHere_248 (by decide) ?_
                  refine g_icmp_ne F (by first | omega | (have h9 := hr9 _ (by omega); omega) | exact hr32 _ (by omega)) (by first | omega | (have h9 := hr9 _ (by omega); omega) | exact hr32 _ (by omega)) a_M_wordHere_250 (fun h250 => ?_) (fun h250 => ?_)
                  · refine g_iconst F a_M_wordHere_287 ?_
                    refine g_iret F a_M_wordHere_288 rfl ⟨Nat.le_refl _, Nat.le_refl _⟩ ?_
                    first | exact qv k (wj_n (by omega) (by omega) (by omega) (by omega) (by omega) (by omega)) | exact qv k (wj_0 (by omega)) | exact qv k (wj_1 (by omega)) | exact qv k (wj_2 (by omega)) | exact qv k (wj_3 (by omega)) | exact qv k (wj_4 (by omega)) | exact qv k (wj_5 (by omega))
                  · refine g_aload_n F a_M_wordHere_253 rfl ?_
                    refine g_iconst F a_M_wordHere_254 ?_
                    refine g_v1 F a_M_wordHere_255 vc_M_126 mk_M_letter ob_10 ck_10.1 rfl rfl (by decide) ⟨Nat.le_refl _, Nat.le_refl _⟩ rfl (Nat.le_of_ble_eq_true rfl) (sp_M_letter hB0 hpz hb h18 h19 (by omega) (GCr.v ?_))
                    refine g_bipush F a_M_wordHere_258 (by decide) ?_
                    refine g_icmp_ne F (by first | omega | (have h9 := hr9 _ (by omega); omega) | exact hr32 _ (by omega)) (by first | omega | (have h9 := hr9 _ (by omega); omega) | exact hr32 _ (by omega)) a_M_wordHere_260 (fun h260 => ?_) (fun h260 => ?_)
                    · refine g_iconst F a_M_wordHere_287 ?_
                      refine g_iret F a_M_wordHere_288 rfl ⟨Nat.le_refl _, Nat.le_refl _⟩ ?_
                      first | exact qv k (wj_n (by omega) (by omega) (by omega) (by omega) (by omega) (by omega)) | exact qv k (wj_0 (by omega)) | exact qv k (wj_1 (by omega)) | exact qv k (wj_2 (by omega)) | exact qv k (wj_3 (by omega)) | exact qv k (wj_4 (by omega)) | exact qv k (wj_5 (by omega))
                    · refine g_aload_n F a_M_wordHere_263 rfl ?_
                      refine g_iconst F a_M_wordHere_264 ?_
                      refine g_v1 F a_M_wordHere_265 vc_M_126 mk_M_letter ob_10 ck_10.1 rfl rfl (by decide) ⟨Nat.le_refl _, Nat.le_refl _⟩ rfl (Nat.le_of_ble_eq_true rfl) (sp_M_letter hB0 hpz hb h18 h19 (by omega) (GCr.v ?_))
                      refine g_bipush F a_M_wordHere_268 (by decide) ?_
                      refine g_icmp_ne F (by first | omega | (have h9 := hr9 _ (by omega); omega) | exact hr32 _ (by omega)) (by first | omega | (have h9 := hr9 _ (by omega); omega) | exact hr32 _ (by omega)) a_M_wordHere_270 (fun h270 => ?_) (fun h270 => ?_)
                      · refine g_iconst F a_M_wordHere_287 ?_
                        refine g_iret F a_M_wordHere_288 rfl ⟨Nat.le_refl _, Nat.le_refl _⟩ ?_
                        first | exact qv k (wj_n (by omega) (by omega) (by omega) (by omega) (by omega) (by omega)) | exact qv k (wj_0 (by omega)) | exact qv k (wj_1 (by omega)) | exact qv k (wj_2 (by omega)) | exact qv k (wj_3 (by omega)) | exact qv k (wj_4 (by omega)) | exact qv k (wj_5 (by omega))
                      · refine g_aload_n F a_M_wordHere_273 rfl ?_
                        refine g_iconst F a_M_wordHere_274 ?_
                        refine g_v1 F a_M_wordHere_275 vc_M_126 mk_M_letter ob_10 ck_10.1 rfl rfl (by decide) ⟨Nat.le_refl _, Nat.le_refl _⟩ rfl (Nat.le_of_ble_eq_true rfl) (sp_M_letter hB0 hpz hb h18 h19 (by omega) (GCr.v ?_))
                        refine g_bipush F a_M_wordHere_278 (by decide) ?_
                        refine g_icmp_ne F (by first | omega | (have h9 := hr9 _ (by omega); omega) | exact hr32 _ (by omega)) (by first | omega | (have h9 := hr9 _ (by omega); omega) | exact hr32 _ (by omega)) a_M_wordHere_280 (fun h280 => ?_) (fun h280 => ?_)
                        · refine g_iconst F a_M_wordHere_287 ?_
                          refine g_iret F a_M_wordHere_288 rfl ⟨Nat.le_refl _, Nat.le_refl _⟩ ?_
                          first | exact qv k (wj_n (by omega) (by omega) (by omega) (by omega) (by omega) (by omega)) | exact qv k (wj_0 (by omega)) | exact qv k (wj_1 (by omega)) | exact qv k (wj_2 (by omega)) | exact qv k (wj_3 (by omega)) | exact qv k (wj_4 (by omega)) | exact qv k (wj_5 (by omega))
                        · refine g_iconst F a_M_wordHere_283 ?_
                          refine g_goto F a_M_wordHere_284 ?_
                          refine g_iret F a_M_wordHere_288 rfl ⟨Nat.le_refl _, Nat.le_refl _⟩ ?_
                          first | exact qv k (wj_n (by omega) (by omega) (by omega) (by omega) (by omega) (by omega)) | exact qv k (wj_0 (by omega)) | exact qv k (wj_1 (by omega)) | exact qv k (wj_2 (by omega)) | exact qv k (wj_3 (by omega)) | exact qv k (wj_4 (by omega)) | exact qv k (wj_5 (by omega))
                · refine g_aload_n F a_M_wordHere_211 rfl ?_
                  refine g_iconst F a_M_wordHere_212 ?_
                  refine g_v1 F a_M_wordHere_213 vc_M_126 mk_M_letter ob_10 ck_10.1 rfl rfl (by decide) ⟨Nat.le_refl _, Nat.le_refl _⟩ rfl (Nat.le_of_ble_eq_true rfl) (sp_M_letter hB0 hpz hb h18 h19 (by omega) (GCr.v ?_))
                  refine g_bipush F a_M_wordHere_216 (by decide) ?_
                  refine g_icmp_ne F (by first | omega | (have h9 := hr9 _ (by omega); omega) | exact hr32 _ (by omega)) (by first | omega | (have h9 := hr9 _ (by omega); omega) | exact hr32 _ (by omega)) a_M_wordHere_218 (fun h218 => ?_) (fun h218 => ?_)
                  · refine g_aload_n F a_M_wordHere_243 rfl ?_
                    refine g_iconst F a_M_wordHere_244 ?_
                    refine g_v1 F a_M_wordHere_245 vc_M_126 mk_M_letter ob_10 ck_10.1 rfl rfl (by decide) ⟨Nat.le_refl _, Nat.le_refl _⟩ rfl (Nat.le_of_ble_eq_true rfl) (sp_M_letter hB0 hpz hb h18 h19 (by omega) (GCr.v ?_))
                    refine g_bipush F a_M_wordHere_248 (by decide) ?_
                    refine g_icmp_ne F (by first | omega | (have h9 := hr9 _ (by omega); omega) | exact hr32 _ (by omega)) (by first | omega | (have h9 := hr9 _ (by omega); omega) | exact hr32 _ (by omega)) a_M_wordHere_250 (fun h250 => ?_) (fun h250 => ?_)
                    · refine g_iconst F a_M_wordHere_287 ?_
                      refine g_iret F a_M_wordHere_288 rfl ⟨Nat.le_refl _, Nat.le_refl _⟩ ?_
                      first | exact qv k (wj_n (by omega) (by omega) (by omega) (by omega) (by omega) (by omega)) | exact qv k (wj_0 (by omega)) | exact qv k (wj_1 (by omega)) | exact qv k (wj_2 (by omega)) | exact qv k (wj_3 (by omega)) | exact qv k (wj_4 (by omega)) | exact qv k (wj_5 (by omega))
                    · refine g_aload_n F a_M_wordHere_253 rfl ?_
                      refine g_iconst F a_M_wordHere_254 ?_
                      refine g_v1 F a_M_wordHere_255 vc_M_126 mk_M_letter ob_10 ck_10.1 rfl rfl (by decide) ⟨Nat.le_refl _, Nat.le_refl _⟩ rfl (Nat.le_of_ble_eq_true rfl) (sp_M_letter hB0 hpz hb h18 h19 (by omega) (GCr.v ?_))
                      refine g_bipush F a_M_wordHere_258 (by decide) ?_
                      refine g_icmp_ne F (by first | omega | (have h9 := hr9 _ (by omega); omega) | exact hr32 _ (by omega)) (by first | omega | (have h9 := hr9 _ (by omega); omega) | exact hr32 _ (by omega)) a_M_wordHere_260 (fun h260 => ?_) (fun h260 => ?_)
                      · refine g_iconst F a_M_wordHere_287 ?_
                        refine g_iret F a_M_wordHere_288 rfl ⟨Nat.le_refl _, Nat.le_refl _⟩ ?_
                        first | exact qv k (wj_n (by omega) (by omega) (by omega) (by omega) (by omega) (by omega)) | exact qv k (wj_0 (by omega)) | exact qv k (wj_1 (by omega)) | exact qv k (wj_2 (by omega)) | exact qv k (wj_3 (by omega)) | exact qv k (wj_4 (by omega)) | exact qv k (wj_5 (by omega))
                      · refine g_aload_n F a_M_wordHere_263 rfl ?_
                        refine g_iconst F a_M_wordHere_264 ?_
                        refine g_v1 F a_M_wordHere_265 vc_M_126 mk_M_letter ob_10 ck_10.1 rfl rfl (by decide) ⟨Nat.le_refl _, Nat.le_refl _⟩ rfl (Nat.le_of_ble_eq_true rfl) (sp_M_letter hB0 hpz hb h18 h19 (by omega) (GCr.v ?_))
                        refine g_bipush F a_M_wordHere_268 (by decide) ?_
                        refine g_icmp_ne F (by first | omega | (have h9 := hr9 _ (by omega); omega) | exact hr32 _ (by omega)) (by first | omega | (have h9 := hr9 _ (by omega); omega) | exact hr32 _ (by omega)) a_M_wordHere_270 (fun h270 => ?_) (fun h270 => ?_)
                        · refine g_iconst F a_M_wordHere_287 ?_
                          refine g_iret F a_M_wordHere_288 rfl ⟨Nat.le_refl _, Nat.le_refl _⟩ ?_
                          first | exact qv k (wj_n (by omega) (by omega) (by omega) (by omega) (by omega) (by omega)) | exact qv k (wj_0 (by omega)) | exact qv k (wj_1 (by omega)) | exact qv k (wj_2 (by omega)) | exact qv k (wj_3 (by omega)) | exact qv k (wj_4 (by omega)) | exact qv k (wj_5 (by omega))
                        · refine g_aload_n F a_M_wordHere_273 rfl ?_
                          refine g_iconst F a_M_wordHere_274 ?_
                          refine g_v1 F a_M_wordHere_275 vc_M_126 mk_M_letter ob_10 ck_10.1 rfl rfl (by decide) ⟨Nat.le_refl _, Nat.le_refl _⟩ rfl (Nat.le_of_ble_eq_true rfl) (sp_M_letter hB0 hpz hb h18 h19 (by omega) (GCr.v ?_))
                          refine g_bipush F a_M_wordHere_278 (by decide) ?_
                          refine g_icmp_ne F (by first | omega | (have h9 := hr9 _ (by omega); omega) | exact hr32 _ (by omega)) (by first | omega | (have h9 := hr9 _ (by omega); omega) | exact hr32 _ (by omega)) a_M_wordHere_280 (fun h280 => ?_) (fun h280 => ?_)
                          · refine g_iconst F a_M_wordHere_287 ?_
                            refine g_iret F a_M_wordHere_288 rfl ⟨Nat.le_refl _, Nat.le_refl _⟩ ?_
                            first | exact qv k (wj_n (by omega) (by omega) (by omega) (by omega) (by omega) (by omega)) | exact qv k (wj_0 (by omega)) | exact qv k (wj_1 (by omega)) | exact qv k (wj_2 (by omega)) | exact qv k (wj_3 (by omega)) | exact qv k (wj_4 (by omega)) | exact qv k (wj_5 (by omega))
                          · refine g_iconst F a_M_wordHere_283 ?_
                            refine g_goto F a_M_wordHere_284 ?_
                            refine g_iret F a_M_wordHere_288 rfl ⟨Nat.le_refl _, Nat.le_refl _⟩ ?_
                            first | exact qv k (wj_n (by omega) (by omega) (by omega) (by omega) (by omega) (by omega)) | exact qv k (wj_0 (by omega)) | exact qv k (wj_1 (by omega)) | exact qv k (wj_2 (by omega)) | exact qv k (wj_3 (by omega)) | exact qv k (wj_4 (by omega)) | exact qv k (wj_5 (by omega))
                  · refine g_aload_n F a_M_wordHere_221 rfl ?_
                    refine g_iconst F a_M_wordHere_222 ?_
                    refine g_v1 F a_M_wordHere_223 vc_M_126 mk_M_letter ob_10 ck_10.1 rfl rfl (by decide) ⟨Nat.le_refl _, Nat.le_refl _⟩ rfl (Nat.le_of_ble_eq_true rfl) (sp_M_letter hB0 hpz hb h18 h19 (by omega) (GCr.v ?_))
                    refine g_bipush F a_M_wordHere_226 (by decide) ?_
                    refine g_icmp_ne F (by first | omega | (have h9 := hr9 _ (by omega); omega) | exact hr32 _ (by omega)) (by first | omega | (have h9 := hr9 _ (by omega); omega) | exact hr32 _ (by omega)) a_M_wordHere_228 (fun h228 => ?_) (fun h228 => ?_)
                    · refine g_aload_n F a_M_wordHere_243 rfl ?_
                      refine g_iconst F a_M_wordHere_244 ?_
                      refine g_v1 F a_M_wordHere_245 vc_M_126 mk_M_letter ob_10 ck_10.1 rfl rfl (by decide) ⟨Nat.le_refl _, Nat.le_refl _⟩ rfl (Nat.le_of_ble_eq_true rfl) (sp_M_letter hB0 hpz hb h18 h19 (by omega) (GCr.v ?_))
                      refine g_bipush F a_M_wordHere_248 (by decide) ?_
                      refine g_icmp_ne F (by first | omega | (have h9 := hr9 _ (by omega); omega) | exact hr32 _ (by omega)) (by first | omega | (have h9 := hr9 _ (by omega); omega) | exact hr32 _ (by omega)) a_M_wordHere_250 (fun h250 => ?_) (fun h250 => ?_)
                      · refine g_iconst F a_M_wordHere_287 ?_
                        refine g_iret F a_M_wordHere_288 rfl ⟨Nat.le_refl _, Nat.le_refl _⟩ ?_
                        first | exact qv k (wj_n (by omega) (by omega) (by omega) (by omega) (by omega) (by omega)) | exact qv k (wj_0 (by omega)) | exact qv k (wj_1 (by omega)) | exact qv k (wj_2 (by omega)) | exact qv k (wj_3 (by omega)) | exact qv k (wj_4 (by omega)) | exact qv k (wj_5 (by omega))
                      · refine g_aload_n F a_M_wordHere_253 rfl ?_
                        refine g_iconst F a_M_wordHere_254 ?_
                        refine g_v1 F a_M_wordHere_255 vc_M_126 mk_M_letter ob_10 ck_10.1 rfl rfl (by decide) ⟨Nat.le_refl _, Nat.le_refl _⟩ rfl (Nat.le_of_ble_eq_true rfl) (sp_M_letter hB0 hpz hb h18 h19 (by omega) (GCr.v ?_))
                        refine g_bipush F a_M_wordHere_258 (by decide) ?_
                        refine g_icmp_ne F (by first | omega | (have h9 := hr9 _ (by omega); omega) | exact hr32 _ (by omega)) (by first | omega | (have h9 := hr9 _ (by omega); omega) | exact hr32 _ (by omega)) a_M_wordHere_260 (fun h260 => ?_) (fun h260 => ?_)
                        · refine g_iconst F a_M_wordHere_287 ?_
                          refine g_iret F a_M_wordHere_288 rfl ⟨Nat.le_refl _, Nat.le_refl _⟩ ?_
                          first | exact qv k (wj_n (by omega) (by omega) (by omega) (by omega) (by omega) (by omega)) | exact qv k (wj_0 (by omega)) | exact qv k (wj_1 (by omega)) | exact qv k (wj_2 (by omega)) | exact qv k (wj_3 (by omega)) | exact qv k (wj_4 (by omega)) | exact qv k (wj_5 (by omega))
                        · refine g_aload_n F a_M_wordHere_263 rfl ?_
                          refine g_iconst F a_M_wordHere_264 ?_
                          refine g_v1 F a_M_wordHere_265 vc_M_126 mk_M_letter ob_10 ck_10.1 rfl rfl (by decide) ⟨Nat.le_refl _, Nat.le_refl _⟩ rfl (Nat.le_of_ble_eq_true rfl) (sp_M_letter hB0 hpz hb h18 h19 (by omega) (GCr.v ?_))
                          refine g_bipush F a_M_wordHere_268 (by decide) ?_
                          refine g_icmp_ne F (by first | omega | (have h9 := hr9 _ (by omega); omega) | exact hr32 _ (by omega)) (by first | omega | (have h9 := hr9 _ (by omega); omega) | exact hr32 _ (by omega)) a_M_wordHere_270 (fun h270 => ?_) (fun h270 => ?_)
                          · refine g_iconst F a_M_wordHere_287 ?_
                            refine g_iret F a_M_wordHere_288 rfl ⟨Nat.le_refl _, Nat.le_refl _⟩ ?_
                            first | exact qv k (wj_n (by omega) (by omega) (by omega) (by omega) (by omega) (by omega)) | exact qv k (wj_0 (by omega)) | exact qv k (wj_1 (by omega)) | exact qv k (wj_2 (by omega)) | exact qv k (wj_3 (by omega)) | exact qv k (wj_4 (by omega)) | exact qv k (wj_5 (by omega))
                          · refine g_aload_n F a_M_wordHere_273 rfl ?_
                            refine g_iconst F a_M_wordHere_274 ?_
                            refine g_v1 F a_M_wordHere_275 vc_M_126 mk_M_letter ob_10 ck_10.1 rfl rfl (by decide) ⟨Nat.le_refl _, Nat.le_refl _⟩ rfl (Nat.le_of_ble_eq_true rfl) (sp_M_letter hB0 hpz hb h18 h19 (by omega) (GCr.v ?_))
                            refine g_bipush F a_M_wordHere_278 (by decide) ?_
                            refine g_icmp_ne F (by first | omega | (have h9 := hr9 _ (by omega); omega) | exact hr32 _ (by omega)) (by first | omega | (have h9 := hr9 _ (by omega); omega) | exact hr32 _ (by omega)) a_M_wordHere_280 (fun h280 => ?_) (fun h280 => ?_)
                            · refine g_iconst F a_M_wordHere_287 ?_
                              refine g_iret F a_M_wordHere_288 rfl ⟨Nat.le_refl _, Nat.le_refl _⟩ ?_
                              first | exact qv k (wj_n (by omega) (by omega) (by omega) (by omega) (by omega) (by omega)) | exact qv k (wj_0 (by omega)) | exact qv k (wj_1 (by omega)) | exact qv k (wj_2 (by omega)) | exact qv k (wj_3 (by omega)) | exact qv k (wj_4 (by omega)) | exact qv k (wj_5 (by omega))
                            · refine g_iconst F a_M_wordHere_283 ?_
                              refine g_goto F a_M_wordHere_284 ?_
                              refine g_iret F a_M_wordHere_288 rfl ⟨Nat.le_refl _, Nat.le_refl _⟩ ?_
                              first | exact qv k (wj_n (by omega) (by omega) (by omega) (by omega) (by omega) (by omega)) | exact qv k (wj_0 (by omega)) | exact qv k (wj_1 (by omega)) | exact qv k (wj_2 (by omega)) | exact qv k (wj_3 (by omega)) | exact qv k (wj_4 (by omega)) | exact qv k (wj_5 (by omega))
                    · refine g_aload_n F a_M_wordHere_231 rfl ?_
                      refine g_iconst F a_M_wordHere_232 ?_
                      refine g_v1 F a_M_wordHere_233 vc_M_126 mk_M_letter ob_10 ck_10.1 rfl rfl (by decide) ⟨Nat.le_refl _, Nat.le_refl _⟩ rfl (Nat.le_of_ble_eq_true rfl) (sp_M_letter hB0 hpz hb h18 h19 (by omega) (GCr.v ?_))
                      refine g_bipush F a_M_wordHere_236 (by decide) ?_
                      refine g_icmp_ne F (by first | omega | (have h9 := hr9 _ (by omega); omega) | exact hr32 _ (by omega)) (by first | omega | (have h9 := hr9 _ (by omega); omega) | exact hr32 _ (by omega)) a_M_wordHere_238 (fun h238 => ?_) (fun h238 => ?_)
                      · refine g_aload_n F a_M_wordHere_243 rfl ?_
                        refine g_iconst F a_M_wordHere_244 ?_
                        refine g_v1 F a_M_wordHere_245 vc_M_126 mk_M_letter ob_10 ck_10.1 rfl rfl (by decide) ⟨Nat.le_refl _, Nat.le_refl _⟩ rfl (Nat.le_of_ble_eq_true rfl) (sp_M_letter hB0 hpz hb h18 h19 (by omega) (GCr.v ?_))
                        refine g_bipush F a_M_wordHere_248 (by decide) ?_
                        refine g_icmp_ne F (by first | omega | (have h9 := hr9 _ (by omega); omega) | exact hr32 _ (by omega)) (by first | omega | (have h9 := hr9 _ (by omega); omega) | exact hr32 _ (by omega)) a_M_wordHere_250 (fun h250 => ?_) (fun h250 => ?_)
                        · refine g_iconst F a_M_wordHere_287 ?_
                          refine g_iret F a_M_wordHere_288 rfl ⟨Nat.le_refl _, Nat.le_refl _⟩ ?_
                          first | exact qv k (wj_n (by omega) (by omega) (by omega) (by omega) (by omega) (by omega)) | exact qv k (wj_0 (by omega)) | exact qv k (wj_1 (by omega)) | exact qv k (wj_2 (by omega)) | exact qv k (wj_3 (by omega)) | exact qv k (wj_4 (by omega)) | exact qv k (wj_5 (by omega))
                        · refine g_aload_n F a_M_wordHere_253 rfl ?_
                          refine g_iconst F a_M_wordHere_254 ?_
                          refine g_v1 F a_M_wordHere_255 vc_M_126 mk_M_letter ob_10 ck_10.1 rfl rfl (by decide) ⟨Nat.le_refl _, Nat.le_refl _⟩ rfl (Nat.le_of_ble_eq_true rfl) (sp_M_letter hB0 hpz hb h18 h19 (by omega) (GCr.v ?_))
                          refine g_bipush F a_M_wordHere_258 (by decide) ?_
                          refine g_icmp_ne F (by first | omega | (have h9 := hr9 _ (by omega); omega) | exact hr32 _ (by omega)) (by first | omega | (have h9 := hr9 _ (by omega); omega) | exact hr32 _ (by omega)) a_M_wordHere_260 (fun h260 => ?_) (fun h260 => ?_)
                          · refine g_iconst F a_M_wordHere_287 ?_
                            refine g_iret F a_M_wordHere_288 rfl ⟨Nat.le_refl _, Nat.le_refl _⟩ ?_
                            first | exact qv k (wj_n (by omega) (by omega) (by omega) (by omega) (by omega) (by omega)) | exact qv k (wj_0 (by omega)) | exact qv k (wj_1 (by omega)) | exact qv k (wj_2 (by omega)) | exact qv k (wj_3 (by omega)) | exact qv k (wj_4 (by omega)) | exact qv k (wj_5 (by omega))
                          · refine g_aload_n F a_M_wordHere_263 rfl ?_
                            refine g_iconst F a_M_wordHere_264 ?_
                            refine g_v1 F a_M_wordHere_265 vc_M_126 mk_M_letter ob_10 ck_10.1 rfl rfl (by decide) ⟨Nat.le_refl _, Nat.le_refl _⟩ rfl (Nat.le_of_ble_eq_true rfl) (sp_M_letter hB0 hpz hb h18 h19 (by omega) (GCr.v ?_))
                            refine g_bipush F a_M_wordHere_268 (by decide) ?_
                            refine g_icmp_ne F (by first | omega | (have h9 := hr9 _ (by omega); omega) | exact hr32 _ (by omega)) (by first | omega | (have h9 := hr9 _ (by omega); omega) | exact hr32 _ (by omega)) a_M_wordHere_270 (fun h270 => ?_) (fun h270 => ?_)
                            · refine g_iconst F a_M_wordHere_287 ?_
                              refine g_iret F a_M_wordHere_288 rfl ⟨Nat.le_refl _, Nat.le_refl _⟩ ?_
                              first | exact qv k (wj_n (by omega) (by omega) (by omega) (by omega) (by omega) (by omega)) | exact qv k (wj_0 (by omega)) | exact qv k (wj_1 (by omega)) | exact qv k (wj_2 (by omega)) | exact qv k (wj_3 (by omega)) | exact qv k (wj_4 (by omega)) | exact qv k (wj_5 (by omega))
                            · refine g_aload_n F a_M_wordHere_273 rfl ?_
                              refine g_iconst F a_M_wordHere_274 ?_
                              refine g_v1 F a_M_wordHere_275 vc_M_126 mk_M_letter ob_10 ck_10.1 rfl rfl (by decide) ⟨Nat.le_refl _, Nat.le_refl _⟩ rfl (Nat.le_of_ble_eq_true rfl) (sp_M_letter hB0 hpz hb h18 h19 (by omega) (GCr.v ?_))
                              refine g_bipush F a_M_wordHere_278 (by decide) ?_
                              refine g_icmp_ne F (by first | omega | (have h9 := hr9 _ (by omega); omega) | exact hr32 _ (by omega)) (by first | omega | (have h9 := hr9 _ (by omega); omega) | exact hr32 _ (by omega)) a_M_wordHere_280 (fun h280 => ?_) (fun h280 => ?_)
                              · refine g_iconst F a_M_wordHere_287 ?_
                                refine g_iret F a_M_wordHere_288 rfl ⟨Nat.le_refl _, Nat.le_refl _⟩ ?_
                                first | exact qv k (wj_n (by omega) (by omega) (by omega) (by omega) (by omega) (by omega)) | exact qv k (wj_0 (by omega)) | exact qv k (wj_1 (by omega)) | exact qv k (wj_2 (by omega)) | exact qv k (wj_3 (by omega)) | exact qv k (wj_4 (by omega)) | exact qv k (wj_5 (by omega))
                              · refine g_iconst F a_M_wordHere_283 ?_
                                refine g_goto F a_M_wordHere_284 ?_
                                refine g_iret F a_M_wordHere_288 rfl ⟨Nat.le_refl _, Nat.le_refl _⟩ ?_
                                first | exact qv k (wj_n (by omega) (by omega) (by omega) (by omega) (by omega) (by omega)) | exact qv k (wj_0 (by omega)) | exact qv k (wj_1 (by omega)) | exact qv k (wj_2 (by omega)) | exact qv k (wj_3 (by omega)) | exact qv k (wj_4 (by omega)) | exact qv k (wj_5 (by omega))
                      · refine g_iconst F a_M_wordHere_241 ?_
                        refine g_iret F a_M_wordHere_242 rfl ⟨Nat.le_refl _, Nat.le_refl _⟩ ?_
                        first | exact qv k (wj_n (by omega) (by omega) (by omega) (by omega) (by omega) (by omega)) | exact qv k (wj_0 (by omega)) | exact qv k (wj_1 (by omega)) | exact qv k (wj_2 (by omega)) | exact qv k (wj_3 (by omega)) | exact qv k (wj_4 (by omega)) | exact qv k (wj_5 (by omega))
              · refine g_iconst F a_M_wordHere_199 ?_
                refine g_iret F a_M_wordHere_200 rfl ⟨Nat.le_refl _, Nat.le_refl _⟩ ?_
                first | exact qv k (wj_n (by omega) (by omega) (by omega) (by omega) (by omega) (by omega)) | exact qv k (wj_0 (by omega)) | exact qv k (wj_1 (by omega)) | exact qv k (wj_2 (by omega)) | exact qv k (wj_3 (by omega)) | exact qv k (wj_4 (by omega)) | exact qv k (wj_5 (by omega))
      · refine g_iconst F a_M_wordHere_157 ?_
        refine g_iret F a_M_wordHere_158 rfl ⟨Nat.le_refl _, Nat.le_refl _⟩ ?_
        first | exact qv k (wj_n (by omega) (by omega) (by omega) (by omega) (by omega) (by omega)) | exact qv k (wj_0 (by omega)) | exact qv k (wj_1 (by omega)) | exact qv k (wj_2 (by omega)) | exact qv k (wj_3 (by omega)) | exact qv k (wj_4 (by omega)) | exact qv k (wj_5 (by omega))
    · refine g_aload_n F a_M_wordHere_86 rfl ?_
      refine g_iconst F a_M_wordHere_87 ?_
      refine g_v1 F a_M_wordHere_88 vc_M_126 mk_M_letter ob_10 ck_10.1 rfl rfl (by decide) ⟨Nat.le_refl _, Nat.le_refl _⟩ rfl (Nat.le_of_ble_eq_true rfl) (sp_M_letter hB0 hpz hb h18 h19 (by omega) (GCr.v ?_))
      refine g_bipush F a_M_wordHere_91 (by decide) ?_
      refine g_icmp_ne F (by first | omega | (have h9 := hr9 _ (by omega); omega) | exact hr32 _ (by omega)) (by first | omega | (have h9 := hr9 _ (by omega); omega) | exact hr32 _ (by omega)) a_M_wordHere_93 (fun h93 => ?_) (fun h93 => ?_)
      · refine g_iconst F a_M_wordHere_150 ?_
        refine g_iret F a_M_wordHere_151 rfl ⟨Nat.le_refl _, Nat.le_refl _⟩ ?_
        first | exact qv k (wj_n (by omega) (by omega) (by omega) (by omega) (by omega) (by omega)) | exact qv k (wj_0 (by omega)) | exact qv k (wj_1 (by omega)) | exact qv k (wj_2 (by omega)) | exact qv k (wj_3 (by omega)) | exact qv k (wj_4 (by omega)) | exact qv k (wj_5 (by omega))
      · refine g_aload_n F a_M_wordHere_96 rfl ?_
        refine g_iconst F a_M_wordHere_97 ?_
        refine g_v1 F a_M_wordHere_98 vc_M_126 mk_M_letter ob_10 ck_10.1 rfl rfl (by decide) ⟨Nat.le_refl _, Nat.le_refl _⟩ rfl (Nat.le_of_ble_eq_true rfl) (sp_M_letter hB0 hpz hb h18 h19 (by omega) (GCr.v ?_))
        refine g_bipush F a_M_wordHere_101 (by decide) ?_
        refine g_icmp_ne F (by first | omega | (have h9 := hr9 _ (by omega); omega) | exact hr32 _ (by omega)) (by first | omega | (have h9 := hr9 _ (by omega); omega) | exact hr32 _ (by omega)) a_M_wordHere_103 (fun h103 => ?_) (fun h103 => ?_)
        · refine g_iconst F a_M_wordHere_150 ?_
          refine g_iret F a_M_wordHere_151 rfl ⟨Nat.le_refl _, Nat.le_refl _⟩ ?_
          first | exact qv k (wj_n (by omega) (by omega) (by omega) (by omega) (by omega) (by omega)) | exact qv k (wj_0 (by omega)) | exact qv k (wj_1 (by omega)) | exact qv k (wj_2 (by omega)) | exact qv k (wj_3 (by omega)) | exact qv k (wj_4 (by omega)) | exact qv k (wj_5 (by omega))
        · refine g_aload_n F a_M_wordHere_106 rfl ?_
          refine g_iconst F a_M_wordHere_107 ?_
          refine g_v1 F a_M_wordHere_108 vc_M_126 mk_M_letter ob_10 ck_10.1 rfl rfl (by decide) ⟨Nat.le_refl _, Nat.le_refl _⟩ rfl (Nat.le_of_ble_eq_true rfl) (sp_M_letter hB0 hpz hb h18 h19 (by omega) (GCr.v ?_))
          refine g_bipush F a_M_wordHere_111 (by decide) ?_
          refine g_icmp_ne F (by first | omega | (have h9 := hr9 _ (by omega); omega) | exact hr32 _ (by omega)) (by first | omega | (have h9 := hr9 _ (by omega); omega) | exact hr32 _ (by omega)) a_M_wordHere_113 (fun h113 => ?_) (fun h113 => ?_)
          · refine g_iconst F a_M_wordHere_150 ?_
            refine g_iret F a_M_wordHere_151 rfl ⟨Nat.le_refl _, Nat.le_refl _⟩ ?_
            first | exact qv k (wj_n (by omega) (by omega) (by omega) (by omega) (by omega) (by omega)) | exact qv k (wj_0 (by omega)) | exact qv k (wj_1 (by omega)) | exact qv k (wj_2 (by omega)) | exact qv k (wj_3 (by omega)) | exact qv k (wj_4 (by omega)) | exact qv k (wj_5 (by omega))
          · refine g_aload_n F a_M_wordHere_116 rfl ?_
            refine g_iconst F a_M_wordHere_117 ?_
            refine g_v1 F a_M_wordHere_118 vc_M_126 mk_M_letter ob_10 ck_10.1 rfl rfl (by decide) ⟨Nat.le_refl _, Nat.le_refl _⟩ rfl (Nat.le_of_ble_eq_true rfl) (sp_M_letter hB0 hpz hb h18 h19 (by omega) (GCr.v ?_))
            refine g_bipush F a_M_wordHere_121 (by decide) ?_
            refine g_icmp_ne F (by first | omega | (have h9 := hr9 _ (by omega); omega) | exact hr32 _ (by omega)) (by first | omega | (have h9 := hr9 _ (by omega); omega) | exact hr32 _ (by omega)) a_M_wordHere_123 (fun h123 => ?_) (fun h123 => ?_)
            · refine g_iconst F a_M_wordHere_150 ?_
              refine g_iret F a_M_wordHere_151 rfl ⟨Nat.le_refl _, Nat.le_refl _⟩ ?_
              first | exact qv k (wj_n (by omega) (by omega) (by omega) (by omega) (by omega) (by omega)) | exact qv k (wj_0 (by omega)) | exact qv k (wj_1 (by omega)) | exact qv k (wj_2 (by omega)) | exact qv k (wj_3 (by omega)) | exact qv k (wj_4 (by omega)) | exact qv k (wj_5 (by omega))
            · refine g_aload_n F a_M_wordHere_126 rfl ?_
              refine g_iconst F a_M_wordHere_127 ?_
              refine g_v1 F a_M_wordHere_128 vc_M_126 mk_M_letter ob_10 ck_10.1 rfl rfl (by decide) ⟨Nat.le_refl _, Nat.le_refl _⟩ rfl (Nat.le_of_ble_eq_true rfl) (sp_M_letter hB0 hpz hb h18 h19 (by omega) (GCr.v ?_))
              refine g_bipush F a_M_wordHere_131 (by decide) ?_
              refine g_icmp_ne F (by first | omega | (have h9 := hr9 _ (by omega); omega) | exact hr32 _ (by omega)) (by first | omega | (have h9 := hr9 _ (by omega); omega) | exact hr32 _ (by omega)) a_M_wordHere_133 (fun h133 => ?_) (fun h133 => ?_)
              · refine g_iconst F a_M_wordHere_150 ?_
                refine g_iret F a_M_wordHere_151 rfl ⟨Nat.le_refl _, Nat.le_refl _⟩ ?_
                first | exact qv k (wj_n (by omega) (by omega) (by omega) (by omega) (by omega) (by omega)) | exact qv k (wj_0 (by omega)) | exact qv k (wj_1 (by omega)) | exact qv k (wj_2 (by omega)) | exact qv k (wj_3 (by omega)) | exact qv k (wj_4 (by omega)) | exact qv k (wj_5 (by omega))
              · refine g_aload_n F a_M_wordHere_136 rfl ?_
                refine g_iconst F a_M_wordHere_137 ?_
                refine g_v1 F a_M_wordHere_138 vc_M_126 mk_M_letter ob_10 ck_10.1 rfl rfl (by decide) ⟨Nat.le_refl _, Nat.le_refl _⟩ rfl (Nat.le_of_ble_eq_true rfl) (sp_M_letter hB0 hpz hb h18 h19 (by omega) (GCr.v ?_))
                refine g_bipush F a_M_wordHere_141 (by decide) ?_
                refine g_icmp_ne F (by first | omega | (have h9 := hr9 _ (by omega); omega) | exact hr32 _ (by omega)) (by first | omega | (have h9 := hr9 _ (by omega); omega) | exact hr32 _ (by omega)) a_M_wordHere_143 (fun h143 => ?_) (fun h143 => ?_)
                · refine g_iconst F a_M_wordHere_150 ?_
                  refine g_iret F a_M_wordHere_151 rfl ⟨Nat.le_refl _, Nat.le_refl _⟩ ?_
                  first | exact qv k (wj_n (by omega) (by omega) (by omega) (by omega) (by omega) (by omega)) | exact qv k (wj_0 (by omega)) | exact qv k (wj_1 (by omega)) | exact qv k (wj_2 (by omega)) | exact qv k (wj_3 (by omega)) | exact qv k (wj_4 (by omega)) | exact qv k (wj_5 (by omega))
                · refine g_iconst F a_M_wordHere_146 ?_
                  refine g_goto F a_M_wordHere_147 ?_
                  refine g_iret F a_M_wordHere_151 rfl ⟨Nat.le_refl _, Nat.le_refl _⟩ ?_
                  first | exact qv k (wj_n (by omega) (by omega) (by omega) (by omega) (by omega) (by omega)) | exact qv k (wj_0 (by omega)) | exact qv k (wj_1 (by omega)) | exact qv k (wj_2 (by omega)) | exact qv k (wj_3 (by omega)) | exact qv k (wj_4 (by omega)) | exact qv k (wj_5 (by omega))
  · refine g_aload_n F a_M_wordHere_10 rfl ?_
    refine g_iconst F a_M_wordHere_11 ?_
    refine g_v1 F a_M_wordHere_12 vc_M_126 mk_M_letter ob_10 ck_10.1 rfl rfl (by decide) ⟨Nat.le_refl _, Nat.le_refl _⟩ rfl (Nat.le_of_ble_eq_true rfl) (sp_M_letter hB0 hpz hb h18 h19 (by omega) (GCr.v ?_))
    refine g_bipush F a_M_wordHere_15 (by decide) ?_
    refine g_icmp_ne F (by first | omega | (have h9 := hr9 _ (by omega); omega) | exact hr32 _ (by omega)) (by first | omega | (have h9 := hr9 _ (by omega); omega) | exact hr32 _ (by omega)) a_M_wordHere_17 (fun h17 => ?_) (fun h17 => ?_)
    · refine g_aload_n F a_M_wordHere_44 rfl ?_
      refine g_iconst F a_M_wordHere_45 ?_
      refine g_v1 F a_M_wordHere_46 vc_M_126 mk_M_letter ob_10 ck_10.1 rfl rfl (by decide) ⟨Nat.le_refl _, Nat.le_refl _⟩ rfl (Nat.le_of_ble_eq_true rfl) (sp_M_letter hB0 hpz hb h18 h19 (by omega) (GCr.v ?_))
      refine g_bipush F a_M_wordHere_49 (by decide) ?_
      refine g_icmp_ne F (by first | omega | (have h9 := hr9 _ (by omega); omega) | exact hr32 _ (by omega)) (by first | omega | (have h9 := hr9 _ (by omega); omega) | exact hr32 _ (by omega)) a_M_wordHere_51 (fun h51 => ?_) (fun h51 => ?_)
      · refine g_iconst F a_M_wordHere_78 ?_
        refine g_iret F a_M_wordHere_79 rfl ⟨Nat.le_refl _, Nat.le_refl _⟩ ?_
        first | exact qv k (wj_n (by omega) (by omega) (by omega) (by omega) (by omega) (by omega)) | exact qv k (wj_0 (by omega)) | exact qv k (wj_1 (by omega)) | exact qv k (wj_2 (by omega)) | exact qv k (wj_3 (by omega)) | exact qv k (wj_4 (by omega)) | exact qv k (wj_5 (by omega))
      · refine g_aload_n F a_M_wordHere_54 rfl ?_
        refine g_iconst F a_M_wordHere_55 ?_
        refine g_v1 F a_M_wordHere_56 vc_M_126 mk_M_letter ob_10 ck_10.1 rfl rfl (by decide) ⟨Nat.le_refl _, Nat.le_refl _⟩ rfl (Nat.le_of_ble_eq_true rfl) (sp_M_letter hB0 hpz hb h18 h19 (by omega) (GCr.v ?_))
        refine g_bipush F a_M_wordHere_59 (by decide) ?_
        refine g_icmp_ne F (by first | omega | (have h9 := hr9 _ (by omega); omega) | exact hr32 _ (by omega)) (by first | omega | (have h9 := hr9 _ (by omega); omega) | exact hr32 _ (by omega)) a_M_wordHere_61 (fun h61 => ?_) (fun h61 => ?_)
        · refine g_iconst F a_M_wordHere_78 ?_
          refine g_iret F a_M_wordHere_79 rfl ⟨Nat.le_refl _, Nat.le_refl _⟩ ?_
          first | exact qv k (wj_n (by omega) (by omega) (by omega) (by omega) (by omega) (by omega)) | exact qv k (wj_0 (by omega)) | exact qv k (wj_1 (by omega)) | exact qv k (wj_2 (by omega)) | exact qv k (wj_3 (by omega)) | exact qv k (wj_4 (by omega)) | exact qv k (wj_5 (by omega))
        · refine g_aload_n F a_M_wordHere_64 rfl ?_
          refine g_iconst F a_M_wordHere_65 ?_
          refine g_v1 F a_M_wordHere_66 vc_M_126 mk_M_letter ob_10 ck_10.1 rfl rfl (by decide) ⟨Nat.le_refl _, Nat.le_refl _⟩ rfl (Nat.le_of_ble_eq_true rfl) (sp_M_letter hB0 hpz hb h18 h19 (by omega) (GCr.v ?_))
          refine g_bipush F a_M_wordHere_69 (by decide) ?_
          refine g_icmp_ne F (by first | omega | (have h9 := hr9 _ (by omega); omega) | exact hr32 _ (by omega)) (by first | omega | (have h9 := hr9 _ (by omega); omega) | exact hr32 _ (by omega)) a_M_wordHere_71 (fun h71 => ?_) (fun h71 => ?_)
          · refine g_iconst F a_M_wordHere_78 ?_
            refine g_iret F a_M_wordHere_79 rfl ⟨Nat.le_refl _, Nat.le_refl _⟩ ?_
            first | exact qv k (wj_n (by omega) (by omega) (by omega) (by omega) (by omega) (by omega)) | exact qv k (wj_0 (by omega)) | exact qv k (wj_1 (by omega)) | exact qv k (wj_2 (by omega)) | exact qv k (wj_3 (by omega)) | exact qv k (wj_4 (by omega)) | exact qv k (wj_5 (by omega))
          · refine g_iconst F a_M_wordHere_74 ?_
            refine g_goto F a_M_wordHere_75 ?_
            refine g_iret F a_M_wordHere_79 rfl ⟨Nat.le_refl _, Nat.le_refl _⟩ ?_
            first | exact qv k (wj_n (by omega) (by omega) (by omega) (by omega) (by omega) (by omega)) | exact qv k (wj_0 (by omega)) | exact qv k (wj_1 (by omega)) | exact qv k (wj_2 (by omega)) | exact qv k (wj_3 (by omega)) | exact qv k (wj_4 (by omega)) | exact qv k (wj_5 (by omega))
    · refine g_aload_n F a_M_wordHere_20 rfl ?_
      refine g_iconst F a_M_wordHere_21 ?_
      refine g_v1 F a_M_wordHere_22 vc_M_126 mk_M_letter ob_10 ck_10.1 rfl rfl (by decide) ⟨Nat.le_refl _, Nat.le_refl _⟩ rfl (Nat.le_of_ble_eq_true rfl) (sp_M_letter hB0 hpz hb h18 h19 (by omega) (GCr.v ?_))
      refine g_bipush F a_M_wordHere_25 (by decide) ?_
      refine g_icmp_ne F (by first | omega | (have h9 := hr9 _ (by omega); omega) | exact hr32 _ (by omega)) (by first | omega | (have h9 := hr9 _ (by omega); omega) | exact hr32 _ (by omega)) a_M_wordHere_27 (fun h27 => ?_) (fun h27 => ?_)
      · refine g_aload_n F a_M_wordHere_44 rfl ?_
        refine g_iconst F a_M_wordHere_45 ?_
        refine g_v1 F a_M_wordHere_46 vc_M_126 mk_M_letter ob_10 ck_10.1 rfl rfl (by decide) ⟨Nat.le_refl _, Nat.le_refl _⟩ rfl (Nat.le_of_ble_eq_true rfl) (sp_M_letter hB0 hpz hb h18 h19 (by omega) (GCr.v ?_))
        refine g_bipush F a_M_wordHere_49 (by decide) ?_
        refine g_icmp_ne F (by first | omega | (have h9 := hr9 _ (by omega); omega) | exact hr32 _ (by omega)) (by first | omega | (have h9 := hr9 _ (by omega); omega) | exact hr32 _ (by omega)) a_M_wordHere_51 (fun h51 => ?_) (fun h51 => ?_)
        · refine g_iconst F a_M_wordHere_78 ?_
          refine g_iret F a_M_wordHere_79 rfl ⟨Nat.le_refl _, Nat.le_refl _⟩ ?_
          first | exact qv k (wj_n (by omega) (by omega) (by omega) (by omega) (by omega) (by omega)) | exact qv k (wj_0 (by omega)) | exact qv k (wj_1 (by omega)) | exact qv k (wj_2 (by omega)) | exact qv k (wj_3 (by omega)) | exact qv k (wj_4 (by omega)) | exact qv k (wj_5 (by omega))
        · refine g_aload_n F a_M_wordHere_54 rfl ?_
          refine g_iconst F a_M_wordHere_55 ?_
          refine g_v1 F a_M_wordHere_56 vc_M_126 mk_M_letter ob_10 ck_10.1 rfl rfl (by decide) ⟨Nat.le_refl _, Nat.le_refl _⟩ rfl (Nat.le_of_ble_eq_true rfl) (sp_M_letter hB0 hpz hb h18 h19 (by omega) (GCr.v ?_))
          refine g_bipush F a_M_wordHere_59 (by decide) ?_
          refine g_icmp_ne F (by first | omega | (have h9 := hr9 _ (by omega); omega) | exact hr32 _ (by omega)) (by first | omega | (have h9 := hr9 _ (by omega); omega) | exact hr32 _ (by omega)) a_M_wordHere_61 (fun h61 => ?_) (fun h61 => ?_)
          · refine g_iconst F a_M_wordHere_78 ?_
            refine g_iret F a_M_wordHere_79 rfl ⟨Nat.le_refl _, Nat.le_refl _⟩ ?_
            first | exact qv k (wj_n (by omega) (by omega) (by omega) (by omega) (by omega) (by omega)) | exact qv k (wj_0 (by omega)) | exact qv k (wj_1 (by omega)) | exact qv k (wj_2 (by omega)) | exact qv k (wj_3 (by omega)) | exact qv k (wj_4 (by omega)) | exact qv k (wj_5 (by omega))
          · refine g_aload_n F a_M_wordHere_64 rfl ?_
            refine g_iconst F a_M_wordHere_65 ?_
            refine g_v1 F a_M_wordHere_66 vc_M_126 mk_M_letter ob_10 ck_10.1 rfl rfl (by decide) ⟨Nat.le_refl _, Nat.le_refl _⟩ rfl (Nat.le_of_ble_eq_true rfl) (sp_M_letter hB0 hpz hb h18 h19 (by omega) (GCr.v ?_))
            refine g_bipush F a_M_wordHere_69 (by decide) ?_
            refine g_icmp_ne F (by first | omega | (have h9 := hr9 _ (by omega); omega) | exact hr32 _ (by omega)) (by first | omega | (have h9 := hr9 _ (by omega); omega) | exact hr32 _ (by omega)) a_M_wordHere_71 (fun h71 => ?_) (fun h71 => ?_)
            · refine g_iconst F a_M_wordHere_78 ?_
              refine g_iret F a_M_wordHere_79 rfl ⟨Nat.le_refl _, Nat.le_refl _⟩ ?_
              first | exact qv k (wj_n (by omega) (by omega) (by omega) (by omega) (by omega) (by omega)) | exact qv k (wj_0 (by omega)) | exact qv k (wj_1 (by omega)) | exact qv k (wj_2 (by omega)) | exact qv k (wj_3 (by omega)) | exact qv k (wj_4 (by omega)) | exact qv k (wj_5 (by omega))
            · refine g_iconst F a_M_wordHere_74 ?_
              refine g_goto F a_M_wordHere_75 ?_
              refine g_iret F a_M_wordHere_79 rfl ⟨Nat.le_refl _, Nat.le_refl _⟩ ?_
              first | exact qv k (wj_n (by omega) (by omega) (by omega) (by omega) (by omega) (by omega)) | exact qv k (wj_0 (by omega)) | exact qv k (wj_1 (by omega)) | exact qv k (wj_2 (by omega)) | exact qv k (wj_3 (by omega)) | exact qv k (wj_4 (by omega)) | exact qv k (wj_5 (by omega))
      · refine g_aload_n F a_M_wordHere_30 rfl ?_
        refine g_iconst F a_M_wordHere_31 ?_
        refine g_v1 F a_M_wordHere_32 vc_M_126 mk_M_letter ob_10 ck_10.1 rfl rfl (by decide) ⟨Nat.le_refl _, Nat.le_refl _⟩ rfl (Nat.le_of_ble_eq_true rfl) (sp_M_letter hB0 hpz hb h18 h19 (by omega) (GCr.v ?_))
        refine g_bipush F a_M_wordHere_35 (by decide) ?_
        refine g_icmp_ne F (by first | omega | (have h9 := hr9 _ (by omega); omega) | exact hr32 _ (by omega)) (by first | omega | (have h9 := hr9 _ (by omega); omega) | exact hr32 _ (by omega)) a_M_wordHere_37 (fun h37 => ?_) (fun h37 => ?_)
        · refine g_aload_n F a_M_wordHere_44 rfl ?_
          refine g_iconst F a_M_wordHere_45 ?_
          refine g_v1 F a_M_wordHere_46 vc_M_126 mk_M_letter ob_10 ck_10.1 rfl rfl (by decide) ⟨Nat.le_refl _, Nat.le_refl _⟩ rfl (Nat.le_of_ble_eq_true rfl) (sp_M_letter hB0 hpz hb h18 h19 (by omega) (GCr.v ?_))
          refine g_bipush F a_M_wordHere_49 (by decide) ?_
          refine g_icmp_ne F (by first | omega | (have h9 := hr9 _ (by omega); omega) | exact hr32 _ (by omega)) (by first | omega | (have h9 := hr9 _ (by omega); omega) | exact hr32 _ (by omega)) a_M_wordHere_51 (fun h51 => ?_) (fun h51 => ?_)
          · refine g_iconst F a_M_wordHere_78 ?_
            refine g_iret F a_M_wordHere_79 rfl ⟨Nat.le_refl _, Nat.le_refl _⟩ ?_
            first | exact qv k (wj_n (by omega) (by omega) (by omega) (by omega) (by omega) (by omega)) | exact qv k (wj_0 (by omega)) | exact qv k (wj_1 (by omega)) | exact qv k (wj_2 (by omega)) | exact qv k (wj_3 (by omega)) | exact qv k (wj_4 (by omega)) | exact qv k (wj_5 (by omega))
          · refine g_aload_n F a_M_wordHere_54 rfl ?_
            refine g_iconst F a_M_wordHere_55 ?_
            refine g_v1 F a_M_wordHere_56 vc_M_126 mk_M_letter ob_10 ck_10.1 rfl rfl (by decide) ⟨Nat.le_refl _, Nat.le_refl _⟩ rfl (Nat.le_of_ble_eq_true rfl) (sp_M_letter hB0 hpz hb h18 h19 (by omega) (GCr.v ?_))
            refine g_bipush F a_M_wordHere_59 (by decide) ?_
            refine g_icmp_ne F (by first | omega | (have h9 := hr9 _ (by omega); omega) | exact hr32 _ (by omega)) (by first | omega | (have h9 := hr9 _ (by omega); omega) | exact hr32 _ (by omega)) a_M_wordHere_61 (fun h61 => ?_) (fun h61 => ?_)
            · refine g_iconst F a_M_wordHere_78 ?_
              refine g_iret F a_M_wordHere_79 rfl ⟨Nat.le_refl _, Nat.le_refl _⟩ ?_
              first | exact qv k (wj_n (by omega) (by omega) (by omega) (by omega) (by omega) (by omega)) | exact qv k (wj_0 (by omega)) | exact qv k (wj_1 (by omega)) | exact qv k (wj_2 (by omega)) | exact qv k (wj_3 (by omega)) | exact qv k (wj_4 (by omega)) | exact qv k (wj_5 (by omega))
            · refine g_aload_n F a_M_wordHere_64 rfl ?_
              refine g_iconst F a_M_wordHere_65 ?_
              refine g_v1 F a_M_wordHere_66 vc_M_126 mk_M_letter ob_10 ck_10.1 rfl rfl (by decide) ⟨Nat.le_refl _, Nat.le_refl _⟩ rfl (Nat.le_of_ble_eq_true rfl) (sp_M_letter hB0 hpz hb h18 h19 (by omega) (GCr.v ?_))
              refine g_bipush F a_M_wordHere_69 (by decide) ?_
              refine g_icmp_ne F (by first | omega | (have h9 := hr9 _ (by omega); omega) | exact hr32 _ (by omega)) (by first | omega | (have h9 := hr9 _ (by omega); omega) | exact hr32 _ (by omega)) a_M_wordHere_71 (fun h71 => ?_) (fun h71 => ?_)
              · refine g_iconst F a_M_wordHere_78 ?_
                refine g_iret F a_M_wordHere_79 rfl ⟨Nat.le_refl _, Nat.le_refl _⟩ ?_
                first | exact qv k (wj_n (by omega) (by omega) (by omega) (by omega) (by omega) (by omega)) | exact qv k (wj_0 (by omega)) | exact qv k (wj_1 (by omega)) | exact qv k (wj_2 (by omega)) | exact qv k (wj_3 (by omega)) | exact qv k (wj_4 (by omega)) | exact qv k (wj_5 (by omega))
              · refine g_iconst F a_M_wordHere_74 ?_
                refine g_goto F a_M_wordHere_75 ?_
                refine g_iret F a_M_wordHere_79 rfl ⟨Nat.le_refl _, Nat.le_refl _⟩ ?_
                first | exact qv k (wj_n (by omega) (by omega) (by omega) (by omega) (by omega) (by omega)) | exact qv k (wj_0 (by omega)) | exact qv k (wj_1 (by omega)) | exact qv k (wj_2 (by omega)) | exact qv k (wj_3 (by omega)) | exact qv k (wj_4 (by omega)) | exact qv k (wj_5 (by omega))
        · refine g_iconst F a_M_wordHere_40 ?_
          refine g_goto F a_M_wordHere_41 ?_
          refine g_iret F a_M_wordHere_79 rfl ⟨Nat.le_refl _, Nat.le_refl _⟩ ?_
          first | exact qv k (wj_n (by omega) (by omega) (by omega) (by omega) (by omega) (by omega)) | exact qv k (wj_0 (by omega)) | exact qv k (wj_1 (by omega)) | exact qv k (wj_2 (by omega)) | exact qv k (wj_3 (by omega)) | exact qv k (wj_4 (by omega)) | exact qv k (wj_5 (by omega))
theorem nvB_r {B : Int → Int} {z p : Nat} (hB : okB B z) : ∀ k : Nat, k ≤ 2 → (∀ j : Nat, p ≤ j → j < p + k → isF (B j) = true) → 0 ≤ nv B p k ∧ nv B p k ≤ 99
  | 0, _, _ => by simp [nv]
  | 1, _, h => by
    have h0 := isF_r (h p (by omega) (by omega))
    have e : nv B p 1 = 10 * 0 + B ((p : Int) + ((0 : Nat) : Int)) - 48 := rfl
    rw [e, show (p : Int) + ((0 : Nat) : Int) = (p : Int) by omega]
    omega
  | 2, _, h => by
    have h0 := isF_r (h p (by omega) (by omega))
    have h1 := isF_r (h (p + 1) (by omega) (by omega))
    have e : nv B p 2 = 10 * (10 * 0 + B ((p : Int) + ((0 : Nat) : Int)) - 48) + B ((p : Int) + ((1 : Nat) : Int)) - 48 := rfl
    rw [e, show (p : Int) + ((0 : Nat) : Int) = (p : Int) by omega, show (p : Int) + ((1 : Nat) : Int) = ((p + 1 : Nat) : Int) by omega]
    omega
  | k + 3, h, _ => absurd h (by omega)
theorem lK_2 {B : Int → Int} {z p : Nat} (hp : p ≤ z) : lK B z p = 2 ↔ (lS B z p < scn isF B z (lS B z p) ∧ scn isF B z (lS B z p) ≤ lS B z p + 2) := by
  have hs := lS_r (B := B) hp
  have hr := scn_r isF B hs.2
  have key : lS B z p < z → isF (B (lS B z p)) = true → lS B z p < scn isF B z (lS B z p) := fun h1 h2 => by
    rw [scn_hit h1 h2]
    have := scn_r isF B (n := z) (p := lS B z p + 1) (by omega)
    omega
  have key2 : lS B z p < scn isF B z (lS B z p) → lS B z p < z ∧ isF (B (lS B z p)) = true := fun h => by
    refine ⟨by omega, ?_⟩
    cases e : isF (B (lS B z p)) with
    | true => rfl
    | false => rw [scn_miss e] at h; omega
  constructor
  · intro h
    unfold lK at h
    split at h
    · omega
    · split at h
      · omega
      · split at h
        · omega
        · split at h
          · rename_i h4
            split at h
            · exact ⟨key (by omega) h4, by assumption⟩
            · omega
          · omega
  · intro h
    obtain ⟨h1, h2⟩ := key2 h.1
    have h3 := isF_r h2
    unfold lK
    rw [if_neg (by omega), if_neg (by omega), if_neg (by unfold isL; simp only [decide_eq_true_eq]; omega), if_pos h2, if_pos h.2]
theorem lE_2 {B : Int → Int} {z p : Nat} (hp : p ≤ z) (h : lK B z p = 2) : lE B z p = scn isF B z (lS B z p) := by
  have hs := lS_r (B := B) hp
  have h0 := (lK_2 hp).mp h
  have hr := scn_r isF B hs.2
  have h2 : isF (B (lS B z p)) = true := by
    cases e : isF (B (lS B z p)) with
    | true => rfl
    | false => rw [scn_miss e] at h0; omega
  have h3 := isF_r h2
  unfold lE
  rw [if_neg (by omega), if_neg (by omega), if_neg (by unfold isL; simp only [decide_eq_true_eq]; omega), if_pos h2]
theorem lK_3 {B : Int → Int} {z p : Nat} (hp : p ≤ z) : lK B z p = 3 ↔ hrB B z (lS B z p) = 59 := by
  have hs := lS_r (B := B) hp
  unfold hrB
  constructor
  · intro h
    unfold lK at h
    split at h
    · omega
    · split at h
      · rw [if_pos (by omega)]; assumption
      · split at h
        · omega
        · split at h
          · split at h <;> omega
          · omega
  · intro h
    split at h
    · unfold lK
      rw [if_neg (by omega), if_pos h]
    · omega
theorem lE_3 {B : Int → Int} {z p : Nat} (hp : p ≤ z) (h : lK B z p = 3) : lE B z p = lS B z p + 1 := by
  have h1 := (lK_3 hp).mp h
  have hs := lS_r (B := B) hp
  unfold hrB at h1
  split at h1
  · unfold lE
    rw [if_neg (by omega), if_pos h1]
  · omega
def nv2 (B : Int → Int) (s j : Nat) : Int := if j ≤ 2 then nv B s j else nv B s 2
set_option maxHeartbeats 2000000 in
theorem lp_M_number {κ : Kx} {μ : MX} {Q : Option Value → (Heap → Prop) → Prop} {m : Mem} {B : Int → Int} {z p : Nat} (hB0 : okB B z) (hpz : p ≤ z) (hb : (m 10 0).2 8 = B) (h18 : (m 10 0).1 18 = (z : Int)) {lo hi : Int} (hlo : 0 ≤ lo ∧ lo ≤ 100) (hhi : -1 ≤ hi ∧ hi ≤ 100) (h19 : (m 10 0).1 19 = (lS B z p : Nat)) (k1 : nB B z lo hi p → Q (some (vi 1)) (World κ (mset m 10 0 (fup (fup (m 10 0).1 19 (lE B z p : Nat)) 20 (lV B z p), (m 10 0).2)))) (k0 : ¬ nB B z lo hi p → Q (some (vi 0)) (World κ m))  (F : Fx κ G_M_number 2 0 0 μ) :
    ∀ (n : Nat) (j : Nat) (v y : Int), z < lS B z p + j + n → lS B z p + j ≤ z → y = (j : Int) → v = nv2 B (lS B z p) j → scn isF B z (lS B z p) = scn isF B z (lS B z p + j) → (∀ t : Nat, lS B z p ≤ t → t < lS B z p + j → isF (B t) = true) →  GC κ μ (ZZ κ μ 0 0 Q) 0 0 9 [some (.ref (ad κ 10 0)), some (vi lo), some (vi hi), some (vi y), some (vi v)] [] (World κ m) := by
  have hz150 := hB0.1
  have hsr := lS_r (B := B) hpz
  intro n
  induction n with
  | zero =>
    intro j v y hn hj hy hv hs hal
    exact absurd hn (by omega)
  | succ n ih =>
    intro j v y hn hj hy hv hs hal
    have e19 := h19
    have hx9 : (m 10 0).2 8 ((m 10 0).1 19 + y) = B ((lS B z p + j : Nat) : Int) := by rw [hb, h19, hy]; rfl
    have hr9 : lS B z p + j < z → 0 ≤ B ((lS B z p + j : Nat) : Int) ∧ B ((lS B z p + j : Nat) : Int) ≤ 127 := fun h => hB0.2 _ (by omega)
    have all9 : isF (B ((lS B z p + j : Nat) : Int)) = true → ∀ t : Nat, lS B z p ≤ t → t < lS B z p + (j + 1) → isF (B t) = true := by
      intro h9 t a b
      by_cases e : t = lS B z p + j
      · rw [e]; exact h9
      · exact hal t a (by omega)
    have hvr : R32 v := by
      rw [hv]
      unfold nv2
      split
      · have := nvB_r hB0 (p := lS B z p) j (by omega) hal; omega
      · have := nvB_r hB0 (p := lS B z p) 2 (by omega) (fun t a b => hal t a (by omega)); omega
    refine g_aload_n F a_M_number_9 rfl ?_
    refine g_get_10_19 F a_M_number_10 fl_M_113 ?_
    refine g_iload_n F a_M_number_13 rfl ?_
    refine g_iadd F a_M_number_14 ?_
    refine g_aload_n F a_M_number_15 rfl ?_
    refine g_get_10_18 F a_M_number_16 fl_M_110 ?_
    refine g_icmp_ge F (by first | omega | exact hvr) (by first | omega | exact hvr) a_M_number_19 (fun h19 => ?_) (fun h19 => ?_)
    · have hend : scn isF B z (lS B z p) = lS B z p + j := by rw [hs]; exact scn_stop (by omega)
      have hk2 := lK_2 (B := B) hpz
      refine g_iload_n F a_M_number_77 rfl ?_
      refine g_iconst F a_M_number_78 ?_
      refine g_iconst F a_M_number_79 ?_
      refine g_s3 F a_M_number_80 sc_M_91 mk_M_in rfl (by decide) ⟨Nat.le_refl _, Nat.le_refl _⟩ rfl (Nat.le_of_ble_eq_true rfl) (sp_M_in (by omega) (by omega) (by omega) (fun c80 => GCr.v ?_) (fun c80 => GCr.v ?_))
      · refine g_ifeq1 F a_M_number_83 ?_
        refine g_iload F a_M_number_86 rfl ?_
        refine g_iload_n F a_M_number_88 rfl ?_
        refine g_iload_n F a_M_number_89 rfl ?_
        refine g_s3 F a_M_number_90 sc_M_91 mk_M_in rfl (by decide) ⟨Nat.le_refl _, Nat.le_refl _⟩ rfl (Nat.le_of_ble_eq_true rfl) (sp_M_in (by omega) (by omega) (by omega) (fun c90 => GCr.v ?_) (fun c90 => GCr.v ?_))
        · refine g_ifne1 F a_M_number_93 ?_
          refine g_aload_n F a_M_number_98 rfl ?_
          refine g_iload F a_M_number_99 rfl ?_
          refine g_put_10_20 F a_M_number_101 fl_M_135 ?_
          (try simp only [mset_app, mset_mset, fup_app, aup_app, fup_fup, aup_aup, false_and, and_false, true_and, and_true, and_self, reduceIte, Nat.reduceEqDiff, reduceCtorEq, fup_10, fs_4_5, fs_4_6, fs_5_6, fs_19_20])
          refine g_aload_n F a_M_number_104 rfl ?_
          refine g_dup F a_M_number_105 rfl ?_
          refine g_get_10_19 F a_M_number_106 fl_M_113 ?_
          (try simp only [mset_app, mset_mset, fup_app, aup_app, fup_fup, aup_aup, false_and, and_false, true_and, and_true, and_self, reduceIte, Nat.reduceEqDiff, reduceCtorEq, fup_10, fs_4_5, fs_4_6, fs_5_6, fs_19_20])
          refine g_iload_n F a_M_number_109 rfl ?_
          refine g_iadd F a_M_number_110 ?_
          refine g_put_10_19 F a_M_number_111 fl_M_113 ?_
          (try simp only [mset_app, mset_mset, fup_app, aup_app, fup_fup, aup_aup, false_and, and_false, true_and, and_true, and_self, reduceIte, Nat.reduceEqDiff, reduceCtorEq, fup_10, fs_4_5, fs_4_6, fs_5_6, fs_19_20])
          refine g_iconst F a_M_number_114 ?_
          refine g_zret F a_M_number_115 rfl rfl ⟨Nat.le_refl _, Nat.le_refl _⟩ ?_
          have hkk : lK B z p = 2 := hk2.mpr ⟨by omega, by omega⟩
          have hvv : lV B z p = v := by
            unfold lV
            rw [hend, hv]
            unfold nv2
            rw [if_pos (by omega), show lS B z p + j - lS B z p = j by omega]
          have hee := lE_2 hpz hkk
          have hq := k1 ⟨hkk, by omega, by omega⟩
          rw [hvv, hee, hend] at hq
          exact qw hq (by rw [e19, hy]; rfl)
        · refine g_ifne0 F a_M_number_93 ?_
          refine g_iconst F a_M_number_96 ?_
          refine g_zret F a_M_number_97 rfl rfl ⟨Nat.le_refl _, Nat.le_refl _⟩ ?_
          refine k0 (fun q => ?_)
          have hvv : lV B z p = v := by
            unfold lV
            rw [hend, hv]
            unfold nv2
            rw [if_pos (by omega), show lS B z p + j - lS B z p = j by omega]
          have q1 := q.2
          omega
      · refine g_ifeq0 F a_M_number_83 ?_
        refine g_iconst F a_M_number_96 ?_
        refine g_zret F a_M_number_97 rfl rfl ⟨Nat.le_refl _, Nat.le_refl _⟩ ?_
        refine k0 (fun q => ?_)
        have q1 := hk2.mp q.1
        omega
    · refine g_aload_n F a_M_number_22 rfl ?_
      refine g_get_10_17 F a_M_number_23 fl_M_34 ?_
      refine g_aload_n F a_M_number_26 rfl ?_
      refine g_get_10_19 F a_M_number_27 fl_M_113 ?_
      refine g_iload_n F a_M_number_30 rfl ?_
      refine g_iadd F a_M_number_31 ?_
      refine g_ild_10_8 F a_M_number_32 (by omega) ?_
      rw [hx9]
      refine g_s1 F a_M_number_33 sc_M_132 mk_M_isFigure rfl (by decide) ⟨Nat.le_refl _, Nat.le_refl _⟩ rfl (Nat.le_of_ble_eq_true rfl) (sp_M_isFigure (by omega) (fun c33 => GCr.v ?_) (fun c33 => GCr.v ?_))
      · refine g_ifeq1 F a_M_number_36 ?_
        refine g_iload_n F a_M_number_39 rfl ?_
        refine g_iconst F a_M_number_40 ?_
        refine g_icmp_ge F (by first | omega | exact hvr) (by first | omega | exact hvr) a_M_number_41 (fun h41 => ?_) (fun h41 => ?_)
        · refine g_iload F a_M_number_67 rfl ?_
          refine g_istore (ls' := [_, _, _, _, _]) F a_M_number_69 rfl rfl rfl ?_
          refine g_iinc (ls' := [_, _, _, _, _]) F a_M_number_71 rfl rfl rfl ?_
          refine g_goto F a_M_number_74 ?_
          have hv9 : v = nv2 B (lS B z p) (j + 1) := by
            rw [hv]
            unfold nv2
            rw [if_neg (show ¬ j + 1 ≤ 2 by omega)]
            split
            · rw [show j = 2 by omega]
            · rfl
          exact GC.loc2 (ih (j + 1) _ _ (by omega) (by omega) (by omega) hv9 (by rw [hs]; exact scn_hit (by omega) c33) (all9 c33)) ⟨rfl, rfl, rfl, rfl, rfl, trivial⟩
        · refine g_bipush F a_M_number_44 (by decide) ?_
          refine g_iload F a_M_number_46 rfl ?_
          refine g_imul F a_M_number_48 ?_
          refine g_aload_n F a_M_number_49 rfl ?_
          refine g_get_10_17 F a_M_number_50 fl_M_34 ?_
          refine g_aload_n F a_M_number_53 rfl ?_
          refine g_get_10_19 F a_M_number_54 fl_M_113 ?_
          refine g_iload_n F a_M_number_57 rfl ?_
          refine g_iadd F a_M_number_58 ?_
          refine g_ild_10_8 F a_M_number_59 (by omega) ?_
          rw [hx9]
          refine g_iadd F a_M_number_60 ?_
          refine g_bipush F a_M_number_61 (by decide) ?_
          refine g_isub F a_M_number_63 ?_
          refine g_goto F a_M_number_64 ?_
          refine g_istore (ls' := [_, _, _, _, _]) F a_M_number_69 rfl rfl rfl ?_
          refine g_iinc (ls' := [_, _, _, _, _]) F a_M_number_71 rfl rfl rfl ?_
          refine g_goto F a_M_number_74 ?_
          have hv9 : 10 * v + B ((lS B z p + j : Nat) : Int) - 48 = nv2 B (lS B z p) (j + 1) := by
            rw [hv]
            unfold nv2
            rw [if_pos (show j ≤ 2 by omega), if_pos (show j + 1 ≤ 2 by omega)]
            rfl
          exact GC.loc2 (ih (j + 1) _ _ (by omega) (by omega) (by omega) hv9 (by rw [hs]; exact scn_hit (by omega) c33) (all9 c33)) ⟨rfl, rfl, rfl, rfl, rfl, trivial⟩
      · refine g_ifeq0 F a_M_number_36 ?_
        have hend : scn isF B z (lS B z p) = lS B z p + j := by rw [hs]; exact scn_miss c33
        have hk2 := lK_2 (B := B) hpz
        refine g_iload_n F a_M_number_77 rfl ?_
        refine g_iconst F a_M_number_78 ?_
        refine g_iconst F a_M_number_79 ?_
        refine g_s3 F a_M_number_80 sc_M_91 mk_M_in rfl (by decide) ⟨Nat.le_refl _, Nat.le_refl _⟩ rfl (Nat.le_of_ble_eq_true rfl) (sp_M_in (by omega) (by omega) (by omega) (fun c80 => GCr.v ?_) (fun c80 => GCr.v ?_))
        · refine g_ifeq1 F a_M_number_83 ?_
          refine g_iload F a_M_number_86 rfl ?_
          refine g_iload_n F a_M_number_88 rfl ?_
          refine g_iload_n F a_M_number_89 rfl ?_
          refine g_s3 F a_M_number_90 sc_M_91 mk_M_in rfl (by decide) ⟨Nat.le_refl _, Nat.le_refl _⟩ rfl (Nat.le_of_ble_eq_true rfl) (sp_M_in (by omega) (by omega) (by omega) (fun c90 => GCr.v ?_) (fun c90 => GCr.v ?_))
          · refine g_ifne1 F a_M_number_93 ?_
            refine g_aload_n F a_M_number_98 rfl ?_
            refine g_iload F a_M_number_99 rfl ?_
            refine g_put_10_20 F a_M_number_101 fl_M_135 ?_
            (try simp only [mset_app, mset_mset, fup_app, aup_app, fup_fup, aup_aup, false_and, and_false, true_and, and_true, and_self, reduceIte, Nat.reduceEqDiff, reduceCtorEq, fup_10, fs_4_5, fs_4_6, fs_5_6, fs_19_20])
            refine g_aload_n F a_M_number_104 rfl ?_
            refine g_dup F a_M_number_105 rfl ?_
            refine g_get_10_19 F a_M_number_106 fl_M_113 ?_
            (try simp only [mset_app, mset_mset, fup_app, aup_app, fup_fup, aup_aup, false_and, and_false, true_and, and_true, and_self, reduceIte, Nat.reduceEqDiff, reduceCtorEq, fup_10, fs_4_5, fs_4_6, fs_5_6, fs_19_20])
            refine g_iload_n F a_M_number_109 rfl ?_
            refine g_iadd F a_M_number_110 ?_
            refine g_put_10_19 F a_M_number_111 fl_M_113 ?_
            (try simp only [mset_app, mset_mset, fup_app, aup_app, fup_fup, aup_aup, false_and, and_false, true_and, and_true, and_self, reduceIte, Nat.reduceEqDiff, reduceCtorEq, fup_10, fs_4_5, fs_4_6, fs_5_6, fs_19_20])
            refine g_iconst F a_M_number_114 ?_
            refine g_zret F a_M_number_115 rfl rfl ⟨Nat.le_refl _, Nat.le_refl _⟩ ?_
            have hkk : lK B z p = 2 := hk2.mpr ⟨by omega, by omega⟩
            have hvv : lV B z p = v := by
              unfold lV
              rw [hend, hv]
              unfold nv2
              rw [if_pos (by omega), show lS B z p + j - lS B z p = j by omega]
            have hee := lE_2 hpz hkk
            have hq := k1 ⟨hkk, by omega, by omega⟩
            rw [hvv, hee, hend] at hq
            exact qw hq (by rw [e19, hy]; rfl)
          · refine g_ifne0 F a_M_number_93 ?_
            refine g_iconst F a_M_number_96 ?_
            refine g_zret F a_M_number_97 rfl rfl ⟨Nat.le_refl _, Nat.le_refl _⟩ ?_
            refine k0 (fun q => ?_)
            have hvv : lV B z p = v := by
              unfold lV
              rw [hend, hv]
              unfold nv2
              rw [if_pos (by omega), show lS B z p + j - lS B z p = j by omega]
            have q1 := q.2
            omega
        · refine g_ifeq0 F a_M_number_83 ?_
          refine g_iconst F a_M_number_96 ?_
          refine g_zret F a_M_number_97 rfl rfl ⟨Nat.le_refl _, Nat.le_refl _⟩ ?_
          refine k0 (fun q => ?_)
          have q1 := hk2.mp q.1
          omega
set_option maxHeartbeats 1000000 in
theorem sp_M_number {κ : Kx} {Q : Option Value → (Heap → Prop) → Prop} {m : Mem} {B : Int → Int} {z p : Nat} (hB0 : okB B z) (hpz : p ≤ z) (hb : (m 10 0).2 8 = B) (h18 : (m 10 0).1 18 = (z : Int)) (h19 : (m 10 0).1 19 = (p : Int)) {lo hi : Int} (hlo : 0 ≤ lo ∧ lo ≤ 100) (hhi : -1 ≤ hi ∧ hi ≤ 100) (k1 : nB B z lo hi p → Q (some (vi 1)) (World κ (mset m 10 0 (fup (fup (m 10 0).1 19 (lE B z p : Nat)) 20 (lV B z p), (m 10 0).2)))) (k0 : ¬ nB B z lo hi p → Q (some (vi 0)) (World κ (mset m 10 0 (fup (m 10 0).1 19 (lS B z p : Nat), (m 10 0).2)))) : GG κ G_M_number 2 0 0 [.ref (ad κ 10 0), vi lo, vi hi] (World κ m) Q := by
  have hz150 := hB0.1
  have hhr := hrB_r (p := p) hB0
  refine GG.intro (ls := [some _, some _, some _, none, none]) (Nat.le_of_ble_eq_true rfl) rfl (fun μ F => ?_)
  refine g_aload_n F a_M_number_0 rfl ?_
  refine g_v0 F a_M_number_1 vc_M_129 mk_M_skip ob_10 ck_10.1 rfl rfl (by decide) ⟨Nat.le_refl _, Nat.le_refl _⟩ rfl (Nat.le_of_ble_eq_true rfl) (sp_M_skip hB0 hpz hb h18 h19 (GCr.n ?_))
  refine g_iconst F a_M_number_4 ?_
  refine g_istore_n (ls' := [_, _, _, _, _]) F a_M_number_5 rfl rfl rfl ?_
  refine g_iconst F a_M_number_6 ?_
  refine g_istore (ls' := [_, _, _, _, _]) F a_M_number_7 rfl rfl rfl ?_
  refine GC.loc2 (lp_M_number hB0 hpz (by exact hb) (by exact h18) hlo hhi rfl (fun q => ?_) k0 F (z + 1) 0 0 0 (by omega) (by have := (lS_r (B := B) hpz).2; omega) rfl rfl rfl (fun t a b => absurd b (by omega))) ⟨rfl, rfl, rfl, rfl, rfl, trivial⟩
  rw [mset_same, mset_mset]
  exact qw (k1 q) (by show World κ (mset m 10 0 (fup (fup (fup (m 10 0).1 19 _) 19 _) 20 _, _)) = _; rw [fup_fup])
set_option maxHeartbeats 1000000 in
theorem sp_M_ends {κ : Kx} {Q : Option Value → (Heap → Prop) → Prop} {m : Mem} {B : Int → Int} {z p : Nat} (hB0 : okB B z) (hpz : p ≤ z) (hb : (m 10 0).2 8 = B) (h18 : (m 10 0).1 18 = (z : Int)) (h19 : (m 10 0).1 19 = (p : Int)) (k1 : lK B z p = 3 → Q (some (vi 1)) (World κ (mset m 10 0 (fup (m 10 0).1 19 (lE B z p : Nat), (m 10 0).2)))) (k0 : ¬ lK B z p = 3 → Q (some (vi 0)) (World κ (mset m 10 0 (fup (m 10 0).1 19 (lS B z p : Nat), (m 10 0).2)))) : GG κ G_M_ends 2 0 0 [.ref (ad κ 10 0)] (World κ m) Q := by
  have hz150 := hB0.1
  have hhr := hrB_r (p := p) hB0
  refine GG.intro (ls := [some _]) (Nat.le_of_ble_eq_true rfl) rfl (fun μ F => ?_)
  refine g_aload_n F a_M_ends_0 rfl ?_
  refine g_v0 F a_M_ends_1 vc_M_129 mk_M_skip ob_10 ck_10.1 rfl rfl (by decide) ⟨Nat.le_refl _, Nat.le_refl _⟩ rfl (Nat.le_of_ble_eq_true rfl) (sp_M_skip hB0 hpz hb h18 h19 (GCr.n ?_))
  (try simp only [mset_app, mset_mset, fup_app, aup_app, fup_fup, aup_aup, false_and, and_false, true_and, and_true, and_self, reduceIte, Nat.reduceEqDiff, reduceCtorEq, fup_10, fs_4_5, fs_4_6, fs_5_6, fs_19_20])
  refine g_aload_n F a_M_ends_4 rfl ?_
  refine g_v0 F a_M_ends_5 vc_M_116 mk_M_here ob_10 ck_10.1 rfl rfl (by decide) ⟨Nat.le_refl _, Nat.le_refl _⟩ rfl (Nat.le_of_ble_eq_true rfl) (sp_M_here hB0 (p := lS B z p) (lS_r (B := B) hpz).2 (by exact hb) (by exact h18) rfl (GCr.v ?_))
  (try simp only [mset_app, mset_mset, fup_app, aup_app, fup_fup, aup_aup, false_and, and_false, true_and, and_true, and_self, reduceIte, Nat.reduceEqDiff, reduceCtorEq, fup_10, fs_4_5, fs_4_6, fs_5_6, fs_19_20])
  refine g_bipush F a_M_ends_8 (by decide) ?_
  refine g_icmp_eq F (by have h9 := hrB_r (p := lS B z p) hB0; omega) (by have h9 := hrB_r (p := lS B z p) hB0; omega) a_M_ends_10 (fun h10 => ?_) (fun h10 => ?_)
  · refine g_aload_n F a_M_ends_15 rfl ?_
    refine g_dup F a_M_ends_16 rfl ?_
    refine g_get_10_19 F a_M_ends_17 fl_M_113 ?_
    (try simp only [mset_app, mset_mset, fup_app, aup_app, fup_fup, aup_aup, false_and, and_false, true_and, and_true, and_self, reduceIte, Nat.reduceEqDiff, reduceCtorEq, fup_10, fs_4_5, fs_4_6, fs_5_6, fs_19_20])
    refine g_iconst F a_M_ends_20 ?_
    refine g_iadd F a_M_ends_21 ?_
    refine g_put_10_19 F a_M_ends_22 fl_M_113 ?_
    (try simp only [mset_app, mset_mset, fup_app, aup_app, fup_fup, aup_aup, false_and, and_false, true_and, and_true, and_self, reduceIte, Nat.reduceEqDiff, reduceCtorEq, fup_10, fs_4_5, fs_4_6, fs_5_6, fs_19_20])
    refine g_iconst F a_M_ends_25 ?_
    refine g_zret F a_M_ends_26 rfl rfl ⟨Nat.le_refl _, Nat.le_refl _⟩ ?_
    have h3 := (lK_3 (B := B) hpz).mpr (by omega)
    have hq := k1 h3
    rw [lE_3 hpz h3] at hq
    exact hq
  · refine g_iconst F a_M_ends_13 ?_
    refine g_zret F a_M_ends_14 rfl rfl ⟨Nat.le_refl _, Nat.le_refl _⟩ ?_
    exact k0 (fun q => by have := (lK_3 (B := B) hpz).mp q; omega)
