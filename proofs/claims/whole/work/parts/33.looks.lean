theorem alN_s {set a v d c : Int} {n : Nat} : alN set a v d c (n + 1) = alN set a v d c n + if set / 2 ^ n % 2 = 1 ∧ mks a n v d = mks a c v d then 1 else 0 := rfl
theorem maN_s {set a v d : Int} {n : Nat} : maN set a v d (n + 1) = max (maN set a v d n) (if set / 2 ^ n % 2 = 1 then alN set a v d n 6 else 0) := rfl
def alH (set a v d : Int) (p j : Nat) : Int := if set / 2 ^ p % 2 = 1 then alN set a v d p j else 0
theorem alH_r (set a v d : Int) (p j : Nat) : 0 ≤ alH set a v d p j ∧ alH set a v d p j ≤ j := by
  have := alN_r set a v d p j
  unfold alH
  split <;> omega
theorem alH_n {set a v d : Int} {p j : Nat} (h : ¬ set / 2 ^ p % 2 = 1) : alH set a v d p (j + 1) = alH set a v d p j := by
  unfold alH
  rw [if_neg h, if_neg h]
theorem alH_y {set a v d : Int} {p j : Nat} (h : set / 2 ^ p % 2 = 1) : alH set a v d p (j + 1) = alH set a v d p j + if set / 2 ^ j % 2 = 1 ∧ mks a j v d = mks a p v d then 1 else 0 := by
  unfold alH
  rw [if_pos h, if_pos h]
  rfl
set_option maxHeartbeats 2000000 in
theorem lp_M_al2_1 {κ : Kx} {μ : MX} {Z : State → Prop} {P : Heap → Prop} {s v d : Int} (hs : 0 ≤ s ∧ s < 64) (hv : 0 ≤ v ∧ v ≤ 90) (hd : 0 ≤ d ∧ d ≤ 100000) {p mo : Int} {p0 : Nat} (hp : p = (p0 : Int)) (hp6 : p0 < 6) (k : GC κ μ Z 0 0 111 [some (vi s), some (vi 1), some (vi v), some (vi d), some (vi mo), some (vi p), some (vi (alH s 1 v d p0 6)), none, none, none] [] P) (F : Fx κ G_M_alike 2 0 0 μ) :
    ∀ (n : Nat) (j : Nat) (c y : Int), 6 < j + n → j ≤ 6 → y = (j : Int) → c = alH s 1 v d p0 j →  GC κ μ Z 0 0 41 [some (vi s), some (vi 1), some (vi v), some (vi d), some (vi mo), some (vi p), some (vi c), some (vi (stn p v d)), some (vi y), none] [] P := by
  intro n
  induction n with
  | zero =>
    intro j c y hn hj hy hc
    exact absurd hn (by omega)
  | succ n ih =>
    intro j c y hn hj hy hc
    refine g_iload F a_M_alike_41 rfl ?_
    refine g_iconst F a_M_alike_43 ?_
    refine g_icmp_gt F (by first | omega | (have h9 := mks_r (a := 1) (k := p) (e := d) hv; have h8 := mks_r (a := 1) (k := y) (e := d) hv; unfold mks at h9 h8; simp only [reduceIte, Int.reduceEq] at h9 h8; omega)) (by first | omega | (have h9 := mks_r (a := 1) (k := p) (e := d) hv; have h8 := mks_r (a := 1) (k := y) (e := d) hv; unfold mks at h9 h8; simp only [reduceIte, Int.reduceEq] at h9 h8; omega)) a_M_alike_44 (fun h44 => ?_) (fun h44 => ?_)
    · obtain rfl : j = 6 := by omega
      rw [hc]
      exact GC.loc2 k ⟨rfl, rfl, rfl, rfl, rfl, rfl, rfl, trivial⟩
    · refine g_iload_n F a_M_alike_47 rfl ?_
      refine g_ifeq1 F a_M_alike_48 ?_
      refine g_iload F a_M_alike_51 rfl ?_
      refine g_iload_n F a_M_alike_53 rfl ?_
      refine g_iload_n F a_M_alike_54 rfl ?_
      refine g_s3 F a_M_alike_55 sc_M_196 mk_M_angleBy rfl (by decide) ⟨Nat.le_refl _, Nat.le_refl _⟩ rfl (Nat.le_of_ble_eq_true rfl) (sp_M_angleBy (by omega) hv hd (GCr.v ?_))
      refine g_goto F a_M_alike_58 ?_
      refine g_istore (ls' := [_, _, _, _, _, _, _, _, _, _]) F a_M_alike_68 rfl rfl rfl ?_
      refine g_iload F a_M_alike_70 rfl ?_
      refine g_iload_n F a_M_alike_72 rfl ?_
      refine g_iload F a_M_alike_73 rfl ?_
      refine g_s2 F a_M_alike_75 sc_M_152 mk_M_has rfl (by decide) ⟨Nat.le_refl _, Nat.le_refl _⟩ rfl (Nat.le_of_ble_eq_true rfl) (sp_M_has (n := p0) hs hp (by omega) (fun c75 => GCr.v ?_) (fun c75 => GCr.v ?_))
      · refine g_ifeq1 F a_M_alike_78 ?_
        refine g_iload_n F a_M_alike_81 rfl ?_
        refine g_iload F a_M_alike_82 rfl ?_
        refine g_s2 F a_M_alike_84 sc_M_152 mk_M_has rfl (by decide) ⟨Nat.le_refl _, Nat.le_refl _⟩ rfl (Nat.le_of_ble_eq_true rfl) (sp_M_has (n := j) hs hy (by omega) (fun c84 => GCr.v ?_) (fun c84 => GCr.v ?_))
        · refine g_ifeq1 F a_M_alike_87 ?_
          refine g_iload F a_M_alike_90 rfl ?_
          refine g_iload F a_M_alike_92 rfl ?_
          refine g_icmp_ne F (by first | omega | (have h9 := mks_r (a := 1) (k := p) (e := d) hv; have h8 := mks_r (a := 1) (k := y) (e := d) hv; unfold mks at h9 h8; simp only [reduceIte, Int.reduceEq] at h9 h8; omega)) (by first | omega | (have h9 := mks_r (a := 1) (k := p) (e := d) hv; have h8 := mks_r (a := 1) (k := y) (e := d) hv; unfold mks at h9 h8; simp only [reduceIte, Int.reduceEq] at h9 h8; omega)) a_M_alike_94 (fun h94 => ?_) (fun h94 => ?_)
          · refine g_iconst F a_M_alike_101 ?_
            refine g_iadd F a_M_alike_102 ?_
            refine g_istore (ls' := [_, _, _, _, _, _, _, _, _, _]) F a_M_alike_103 rfl rfl rfl ?_
            refine g_iinc (ls' := [_, _, _, _, _, _, _, _, _, _]) F a_M_alike_105 rfl rfl rfl ?_
            refine g_goto F a_M_alike_108 ?_
            exact GC.loc2 (ih (j + 1) _ _ (by omega) (by omega) (by omega) (by rw [alH_y c75, if_neg (fun q => h94 (show stn p v d = stn y v d by rw [hp, hy]; exact q.2.symm)), hc])) ⟨rfl, rfl, rfl, rfl, rfl, rfl, rfl, rfl, rfl, trivial⟩
          · refine g_iconst F a_M_alike_97 ?_
            refine g_goto F a_M_alike_98 ?_
            refine g_iadd F a_M_alike_102 ?_
            refine g_istore (ls' := [_, _, _, _, _, _, _, _, _, _]) F a_M_alike_103 rfl rfl rfl ?_
            refine g_iinc (ls' := [_, _, _, _, _, _, _, _, _, _]) F a_M_alike_105 rfl rfl rfl ?_
            refine g_goto F a_M_alike_108 ?_
            exact GC.loc2 (ih (j + 1) _ _ (by omega) (by omega) (by omega) (by rw [alH_y c75, if_pos ⟨c84, show stn (j : Int) v d = stn (p0 : Int) v d by rw [← hp, ← hy]; exact h94.symm⟩, hc])) ⟨rfl, rfl, rfl, rfl, rfl, rfl, rfl, rfl, rfl, trivial⟩
        · refine g_ifeq0 F a_M_alike_87 ?_
          refine g_iconst F a_M_alike_101 ?_
          refine g_iadd F a_M_alike_102 ?_
          refine g_istore (ls' := [_, _, _, _, _, _, _, _, _, _]) F a_M_alike_103 rfl rfl rfl ?_
          refine g_iinc (ls' := [_, _, _, _, _, _, _, _, _, _]) F a_M_alike_105 rfl rfl rfl ?_
          refine g_goto F a_M_alike_108 ?_
          exact GC.loc2 (ih (j + 1) _ _ (by omega) (by omega) (by omega) (by rw [alH_y c75, if_neg (fun q => c84 q.1), hc])) ⟨rfl, rfl, rfl, rfl, rfl, rfl, rfl, rfl, rfl, trivial⟩
      · refine g_ifeq0 F a_M_alike_78 ?_
        refine g_iconst F a_M_alike_101 ?_
        refine g_iadd F a_M_alike_102 ?_
        refine g_istore (ls' := [_, _, _, _, _, _, _, _, _, _]) F a_M_alike_103 rfl rfl rfl ?_
        refine g_iinc (ls' := [_, _, _, _, _, _, _, _, _, _]) F a_M_alike_105 rfl rfl rfl ?_
        refine g_goto F a_M_alike_108 ?_
        exact GC.loc2 (ih (j + 1) _ _ (by omega) (by omega) (by omega) (by rw [alH_n c75, Int.add_zero]; exact hc)) ⟨rfl, rfl, rfl, rfl, rfl, rfl, rfl, rfl, rfl, trivial⟩
set_option maxHeartbeats 2000000 in
theorem lp_M_al1_1 {κ : Kx} {μ : MX} {Q : Option Value → (Heap → Prop) → Prop} {P : Heap → Prop} {s v d : Int} (hs : 0 ≤ s ∧ s < 64) (hv : 0 ≤ v ∧ v ≤ 90) (hd : 0 ≤ d ∧ d ≤ 100000) (k : Q (some (vi (maN s 1 v d 6))) P) (F : Fx κ G_M_alike 2 0 0 μ) :
    ∀ (n : Nat) (j : Nat) (mo p : Int), 6 < j + n → j ≤ 6 → p = (j : Int) → mo = maN s 1 v d j →  GC κ μ (ZZ κ μ 0 0 Q) 0 0 6 [some (vi s), some (vi 1), some (vi v), some (vi d), some (vi mo), some (vi p), none, none, none, none] [] P := by
  intro n
  induction n with
  | zero =>
    intro j mo p hn hj hp hm
    exact absurd hn (by omega)
  | succ n ih =>
    intro j mo p hn hj hp hm
    have hmr := maN_r s 1 v d j
    have har := alH_r s 1 v d j 6
    refine g_iload F a_M_alike_6 rfl ?_
    refine g_iconst F a_M_alike_8 ?_
    refine g_icmp_gt F (by omega) (by omega) a_M_alike_9 (fun h9 => ?_) (fun h9 => ?_)
    · refine g_iload F a_M_alike_126 rfl ?_
      refine g_iret F a_M_alike_128 rfl ⟨Nat.le_refl _, Nat.le_refl _⟩ ?_
      obtain rfl : j = 6 := by omega
      exact qv k hm
    · refine g_iconst F a_M_alike_12 ?_
      refine g_istore (ls' := [_, _, _, _, _, _, _, _, _, _]) F a_M_alike_13 rfl rfl rfl ?_
      refine g_iload_n F a_M_alike_15 rfl ?_
      refine g_ifeq1 F a_M_alike_16 ?_
      refine g_iload F a_M_alike_19 rfl ?_
      refine g_iload_n F a_M_alike_21 rfl ?_
      refine g_iload_n F a_M_alike_22 rfl ?_
      refine g_s3 F a_M_alike_23 sc_M_196 mk_M_angleBy rfl (by decide) ⟨Nat.le_refl _, Nat.le_refl _⟩ rfl (Nat.le_of_ble_eq_true rfl) (sp_M_angleBy (by omega) hv hd (GCr.v ?_))
      refine g_goto F a_M_alike_26 ?_
      refine g_istore (ls' := [_, _, _, _, _, _, _, _, _, _]) F a_M_alike_36 rfl rfl rfl ?_
      refine g_iconst F a_M_alike_38 ?_
      refine g_istore (ls' := [_, _, _, _, _, _, _, _, _, _]) F a_M_alike_39 rfl rfl rfl ?_
      refine GC.loc2 (lp_M_al2_1 hs hv hd (p := p) (mo := mo) (p0 := j) hp (by omega) ?_ F 7 0 _ _ (by omega) (by omega) rfl (by unfold alH; split <;> rfl)) ⟨rfl, rfl, rfl, rfl, rfl, rfl, rfl, rfl, rfl, trivial⟩
      refine g_iload F a_M_alike_111 rfl ?_
      refine g_iload F a_M_alike_113 rfl ?_
      refine g_s2 F a_M_alike_115 sc_M_193 mk_M_greater rfl (by decide) ⟨Nat.le_refl _, Nat.le_refl _⟩ rfl (Nat.le_of_ble_eq_true rfl) (sp_M_greater (by omega) (by omega) (GCr.v ?_))
      refine g_istore (ls' := [_, _, _, _, _, _, _, _, _, _]) F a_M_alike_118 rfl rfl rfl ?_
      refine g_iinc (ls' := [_, _, _, _, _, _, _, _, _, _]) F a_M_alike_120 rfl rfl rfl ?_
      refine g_goto F a_M_alike_123 ?_
      exact GC.loc2 (ih (j + 1) _ _ (by omega) (by omega) (by omega) (by rw [maN_s, hm]; rfl)) ⟨rfl, rfl, rfl, rfl, rfl, rfl, trivial⟩
set_option maxHeartbeats 1000000 in
theorem sp_M_alike1 {κ : Kx} {Q : Option Value → (Heap → Prop) → Prop} {P : Heap → Prop} {s v d : Int} (hs : 0 ≤ s ∧ s < 64) (hv : 0 ≤ v ∧ v ≤ 90) (hd : 0 ≤ d ∧ d ≤ 100000) (k : Q (some (vi (maN s 1 v d 6))) P) : GG κ G_M_alike 2 0 0 [vi s, vi 1, vi v, vi d] P Q := by
  refine GG.intro (ls := [some _, some _, some _, some _, none, none, none, none, none, none]) (Nat.le_of_ble_eq_true rfl) rfl (fun μ F => ?_)
  refine g_iconst F a_M_alike_0 ?_
  refine g_istore (ls' := [_, _, _, _, _, _, _, _, _, _]) F a_M_alike_1 rfl rfl rfl ?_
  refine g_iconst F a_M_alike_3 ?_
  refine g_istore (ls' := [_, _, _, _, _, _, _, _, _, _]) F a_M_alike_4 rfl rfl rfl ?_
  exact GC.loc2 (lp_M_al1_1 hs hv hd k F 7 0 _ _ (by omega) (by omega) rfl rfl) ⟨rfl, rfl, rfl, rfl, rfl, rfl, trivial⟩
set_option maxHeartbeats 2000000 in
theorem lp_M_al2_0 {κ : Kx} {μ : MX} {Z : State → Prop} {P : Heap → Prop} {s v d : Int} (hs : 0 ≤ s ∧ s < 64) (hv : 0 ≤ v ∧ v ≤ 90) (hd : 0 ≤ d ∧ d ≤ 100000) {p mo : Int} {p0 : Nat} (hp : p = (p0 : Int)) (hp6 : p0 < 6) (k : GC κ μ Z 0 0 111 [some (vi s), some (vi 0), some (vi v), some (vi d), some (vi mo), some (vi p), some (vi (alH s 0 v d p0 6)), none, none, none] [] P) (F : Fx κ G_M_alike 2 0 0 μ) :
    ∀ (n : Nat) (j : Nat) (c y : Int), 6 < j + n → j ≤ 6 → y = (j : Int) → c = alH s 0 v d p0 j →  GC κ μ Z 0 0 41 [some (vi s), some (vi 0), some (vi v), some (vi d), some (vi mo), some (vi p), some (vi c), some (vi (see p v d)), some (vi y), none] [] P := by
  intro n
  induction n with
  | zero =>
    intro j c y hn hj hy hc
    exact absurd hn (by omega)
  | succ n ih =>
    intro j c y hn hj hy hc
    refine g_iload F a_M_alike_41 rfl ?_
    refine g_iconst F a_M_alike_43 ?_
    refine g_icmp_gt F (by first | omega | (have h9 := mks_r (a := 0) (k := p) (e := d) hv; have h8 := mks_r (a := 0) (k := y) (e := d) hv; unfold mks at h9 h8; simp only [reduceIte, Int.reduceEq] at h9 h8; omega)) (by first | omega | (have h9 := mks_r (a := 0) (k := p) (e := d) hv; have h8 := mks_r (a := 0) (k := y) (e := d) hv; unfold mks at h9 h8; simp only [reduceIte, Int.reduceEq] at h9 h8; omega)) a_M_alike_44 (fun h44 => ?_) (fun h44 => ?_)
    · obtain rfl : j = 6 := by omega
      rw [hc]
      exact GC.loc2 k ⟨rfl, rfl, rfl, rfl, rfl, rfl, rfl, trivial⟩
    · refine g_iload_n F a_M_alike_47 rfl ?_
      refine g_ifeq0 F a_M_alike_48 ?_
      refine g_iload F a_M_alike_61 rfl ?_
      refine g_iload_n F a_M_alike_63 rfl ?_
      refine g_iload_n F a_M_alike_64 rfl ?_
      refine g_s3 F a_M_alike_65 sc_M_203 mk_M_readBy rfl (by decide) ⟨Nat.le_refl _, Nat.le_refl _⟩ rfl (Nat.le_of_ble_eq_true rfl) (sp_M_readBy (by omega) hv hd (GCr.v ?_))
      refine g_istore (ls' := [_, _, _, _, _, _, _, _, _, _]) F a_M_alike_68 rfl rfl rfl ?_
      refine g_iload F a_M_alike_70 rfl ?_
      refine g_iload_n F a_M_alike_72 rfl ?_
      refine g_iload F a_M_alike_73 rfl ?_
      refine g_s2 F a_M_alike_75 sc_M_152 mk_M_has rfl (by decide) ⟨Nat.le_refl _, Nat.le_refl _⟩ rfl (Nat.le_of_ble_eq_true rfl) (sp_M_has (n := p0) hs hp (by omega) (fun c75 => GCr.v ?_) (fun c75 => GCr.v ?_))
      · refine g_ifeq1 F a_M_alike_78 ?_
        refine g_iload_n F a_M_alike_81 rfl ?_
        refine g_iload F a_M_alike_82 rfl ?_
        refine g_s2 F a_M_alike_84 sc_M_152 mk_M_has rfl (by decide) ⟨Nat.le_refl _, Nat.le_refl _⟩ rfl (Nat.le_of_ble_eq_true rfl) (sp_M_has (n := j) hs hy (by omega) (fun c84 => GCr.v ?_) (fun c84 => GCr.v ?_))
        · refine g_ifeq1 F a_M_alike_87 ?_
          refine g_iload F a_M_alike_90 rfl ?_
          refine g_iload F a_M_alike_92 rfl ?_
          refine g_icmp_ne F (by first | omega | (have h9 := mks_r (a := 0) (k := p) (e := d) hv; have h8 := mks_r (a := 0) (k := y) (e := d) hv; unfold mks at h9 h8; simp only [reduceIte, Int.reduceEq] at h9 h8; omega)) (by first | omega | (have h9 := mks_r (a := 0) (k := p) (e := d) hv; have h8 := mks_r (a := 0) (k := y) (e := d) hv; unfold mks at h9 h8; simp only [reduceIte, Int.reduceEq] at h9 h8; omega)) a_M_alike_94 (fun h94 => ?_) (fun h94 => ?_)
          · refine g_iconst F a_M_alike_101 ?_
            refine g_iadd F a_M_alike_102 ?_
            refine g_istore (ls' := [_, _, _, _, _, _, _, _, _, _]) F a_M_alike_103 rfl rfl rfl ?_
            refine g_iinc (ls' := [_, _, _, _, _, _, _, _, _, _]) F a_M_alike_105 rfl rfl rfl ?_
            refine g_goto F a_M_alike_108 ?_
            exact GC.loc2 (ih (j + 1) _ _ (by omega) (by omega) (by omega) (by rw [alH_y c75, if_neg (fun q => h94 (show see p v d = see y v d by rw [hp, hy]; exact q.2.symm)), hc])) ⟨rfl, rfl, rfl, rfl, rfl, rfl, rfl, rfl, rfl, trivial⟩
          · refine g_iconst F a_M_alike_97 ?_
            refine g_goto F a_M_alike_98 ?_
            refine g_iadd F a_M_alike_102 ?_
            refine g_istore (ls' := [_, _, _, _, _, _, _, _, _, _]) F a_M_alike_103 rfl rfl rfl ?_
            refine g_iinc (ls' := [_, _, _, _, _, _, _, _, _, _]) F a_M_alike_105 rfl rfl rfl ?_
            refine g_goto F a_M_alike_108 ?_
            exact GC.loc2 (ih (j + 1) _ _ (by omega) (by omega) (by omega) (by rw [alH_y c75, if_pos ⟨c84, show see (j : Int) v d = see (p0 : Int) v d by rw [← hp, ← hy]; exact h94.symm⟩, hc])) ⟨rfl, rfl, rfl, rfl, rfl, rfl, rfl, rfl, rfl, trivial⟩
        · refine g_ifeq0 F a_M_alike_87 ?_
          refine g_iconst F a_M_alike_101 ?_
          refine g_iadd F a_M_alike_102 ?_
          refine g_istore (ls' := [_, _, _, _, _, _, _, _, _, _]) F a_M_alike_103 rfl rfl rfl ?_
          refine g_iinc (ls' := [_, _, _, _, _, _, _, _, _, _]) F a_M_alike_105 rfl rfl rfl ?_
          refine g_goto F a_M_alike_108 ?_
          exact GC.loc2 (ih (j + 1) _ _ (by omega) (by omega) (by omega) (by rw [alH_y c75, if_neg (fun q => c84 q.1), hc])) ⟨rfl, rfl, rfl, rfl, rfl, rfl, rfl, rfl, rfl, trivial⟩
      · refine g_ifeq0 F a_M_alike_78 ?_
        refine g_iconst F a_M_alike_101 ?_
        refine g_iadd F a_M_alike_102 ?_
        refine g_istore (ls' := [_, _, _, _, _, _, _, _, _, _]) F a_M_alike_103 rfl rfl rfl ?_
        refine g_iinc (ls' := [_, _, _, _, _, _, _, _, _, _]) F a_M_alike_105 rfl rfl rfl ?_
        refine g_goto F a_M_alike_108 ?_
        exact GC.loc2 (ih (j + 1) _ _ (by omega) (by omega) (by omega) (by rw [alH_n c75, Int.add_zero]; exact hc)) ⟨rfl, rfl, rfl, rfl, rfl, rfl, rfl, rfl, rfl, trivial⟩
set_option maxHeartbeats 2000000 in
theorem lp_M_al1_0 {κ : Kx} {μ : MX} {Q : Option Value → (Heap → Prop) → Prop} {P : Heap → Prop} {s v d : Int} (hs : 0 ≤ s ∧ s < 64) (hv : 0 ≤ v ∧ v ≤ 90) (hd : 0 ≤ d ∧ d ≤ 100000) (k : Q (some (vi (maN s 0 v d 6))) P) (F : Fx κ G_M_alike 2 0 0 μ) :
    ∀ (n : Nat) (j : Nat) (mo p : Int), 6 < j + n → j ≤ 6 → p = (j : Int) → mo = maN s 0 v d j →  GC κ μ (ZZ κ μ 0 0 Q) 0 0 6 [some (vi s), some (vi 0), some (vi v), some (vi d), some (vi mo), some (vi p), none, none, none, none] [] P := by
  intro n
  induction n with
  | zero =>
    intro j mo p hn hj hp hm
    exact absurd hn (by omega)
  | succ n ih =>
    intro j mo p hn hj hp hm
    have hmr := maN_r s 0 v d j
    have har := alH_r s 0 v d j 6
    refine g_iload F a_M_alike_6 rfl ?_
    refine g_iconst F a_M_alike_8 ?_
    refine g_icmp_gt F (by omega) (by omega) a_M_alike_9 (fun h9 => ?_) (fun h9 => ?_)
    · refine g_iload F a_M_alike_126 rfl ?_
      refine g_iret F a_M_alike_128 rfl ⟨Nat.le_refl _, Nat.le_refl _⟩ ?_
      obtain rfl : j = 6 := by omega
      exact qv k hm
    · refine g_iconst F a_M_alike_12 ?_
      refine g_istore (ls' := [_, _, _, _, _, _, _, _, _, _]) F a_M_alike_13 rfl rfl rfl ?_
      refine g_iload_n F a_M_alike_15 rfl ?_
      refine g_ifeq0 F a_M_alike_16 ?_
      refine g_iload F a_M_alike_29 rfl ?_
      refine g_iload_n F a_M_alike_31 rfl ?_
      refine g_iload_n F a_M_alike_32 rfl ?_
      refine g_s3 F a_M_alike_33 sc_M_203 mk_M_readBy rfl (by decide) ⟨Nat.le_refl _, Nat.le_refl _⟩ rfl (Nat.le_of_ble_eq_true rfl) (sp_M_readBy (by omega) hv hd (GCr.v ?_))
      refine g_istore (ls' := [_, _, _, _, _, _, _, _, _, _]) F a_M_alike_36 rfl rfl rfl ?_
      refine g_iconst F a_M_alike_38 ?_
      refine g_istore (ls' := [_, _, _, _, _, _, _, _, _, _]) F a_M_alike_39 rfl rfl rfl ?_
      refine GC.loc2 (lp_M_al2_0 hs hv hd (p := p) (mo := mo) (p0 := j) hp (by omega) ?_ F 7 0 _ _ (by omega) (by omega) rfl (by unfold alH; split <;> rfl)) ⟨rfl, rfl, rfl, rfl, rfl, rfl, rfl, rfl, rfl, trivial⟩
      refine g_iload F a_M_alike_111 rfl ?_
      refine g_iload F a_M_alike_113 rfl ?_
      refine g_s2 F a_M_alike_115 sc_M_193 mk_M_greater rfl (by decide) ⟨Nat.le_refl _, Nat.le_refl _⟩ rfl (Nat.le_of_ble_eq_true rfl) (sp_M_greater (by omega) (by omega) (GCr.v ?_))
      refine g_istore (ls' := [_, _, _, _, _, _, _, _, _, _]) F a_M_alike_118 rfl rfl rfl ?_
      refine g_iinc (ls' := [_, _, _, _, _, _, _, _, _, _]) F a_M_alike_120 rfl rfl rfl ?_
      refine g_goto F a_M_alike_123 ?_
      exact GC.loc2 (ih (j + 1) _ _ (by omega) (by omega) (by omega) (by rw [maN_s, hm]; rfl)) ⟨rfl, rfl, rfl, rfl, rfl, rfl, trivial⟩
set_option maxHeartbeats 1000000 in
theorem sp_M_alike0 {κ : Kx} {Q : Option Value → (Heap → Prop) → Prop} {P : Heap → Prop} {s v d : Int} (hs : 0 ≤ s ∧ s < 64) (hv : 0 ≤ v ∧ v ≤ 90) (hd : 0 ≤ d ∧ d ≤ 100000) (k : Q (some (vi (maN s 0 v d 6))) P) : GG κ G_M_alike 2 0 0 [vi s, vi 0, vi v, vi d] P Q := by
  refine GG.intro (ls := [some _, some _, some _, some _, none, none, none, none, none, none]) (Nat.le_of_ble_eq_true rfl) rfl (fun μ F => ?_)
  refine g_iconst F a_M_alike_0 ?_
  refine g_istore (ls' := [_, _, _, _, _, _, _, _, _, _]) F a_M_alike_1 rfl rfl rfl ?_
  refine g_iconst F a_M_alike_3 ?_
  refine g_istore (ls' := [_, _, _, _, _, _, _, _, _, _]) F a_M_alike_4 rfl rfl rfl ?_
  exact GC.loc2 (lp_M_al1_0 hs hv hd k F 7 0 _ _ (by omega) (by omega) rfl rfl) ⟨rfl, rfl, rfl, rfl, rfl, rfl, trivial⟩
theorem lkF_s {set a : Int} {f : Nat → Int × Int} {cd : Nat → Int} {n : Nat} : lkF set a f cd (n + 1) = if maN set a (f n).1 (f n).2 6 < (lkF set a f cd n).2 then (cd n, maN set a (f n).1 (f n).2 6) else lkF set a f cd n := rfl
/-- the best look so far, as the model has it: its number is great at first -/
def lkM (set a : Int) (f : Nat → Int × Int) (cd : Nat → Int) (n : Nat) (b l : Int) : Prop := (n = 0 ∧ b = -1 ∧ l = 1048576) ∨ (0 < n ∧ b = (lkF set a f cd n).1 ∧ l = (lkF set a f cd n).2)
theorem lkM_r {set a : Int} {f : Nat → Int × Int} {cd : Nat → Int} {n : Nat} {b l : Int} (h : lkM set a f cd n b l) : 0 ≤ l ∧ l ≤ 1048576 := by
  rcases h with h | h
  · omega
  · have := lkF_r set a f cd n
    omega
theorem lkM_k {set a : Int} {f : Nat → Int × Int} {cd : Nat → Int} {n : Nat} {b l v d : Int} (h : lkM set a f cd n b l) (hf : f n = (v, d)) (hlt : l ≤ maN set a v d 6) : lkM set a f cd (n + 1) b (min l (maN set a v d 6)) := by
  have hm := maN_r set a v d 6
  rcases h with h | h
  · omega
  · refine Or.inr ⟨by omega, ?_⟩
    rw [lkF_s, hf, if_neg (by dsimp only; omega)]
    exact ⟨h.2.1, by omega⟩
theorem lkM_s {set a : Int} {f : Nat → Int × Int} {cd : Nat → Int} {n : Nat} {b l v d e : Int} (h : lkM set a f cd n b l) (hf : f n = (v, d)) (hc : cd n = e) (hlt : maN set a v d 6 < l) : lkM set a f cd (n + 1) e (min l (maN set a v d 6)) := by
  have hm := maN_r set a v d 6
  refine Or.inr ⟨by omega, ?_⟩
  rcases h with h | h
  · obtain ⟨rfl, h1, h2⟩ := h
    rw [lkF_s, hf, if_pos (by show maN set a v d 6 < 7; omega)]
    exact ⟨hc.symm, by dsimp only; omega⟩
  · rw [lkF_s, hf, if_pos (by dsimp only; omega)]
    exact ⟨hc.symm, by dsimp only; omega⟩
set_option maxHeartbeats 2000000 in
theorem lp_M_look {κ : Kx} {μ : MX} {Q : Option Value → (Heap → Prop) → Prop} {m : Mem} {x s : Int} (hs : 0 ≤ s ∧ s < 64) (hs0 : s ≠ 0) (k : Q (some (vi (lookA s))) (World κ m)) (F : Fx κ G_M_look 3 0 0 μ) :
    ∀ (n : Nat) (j : Nat) (b l y : Int), 80 < j + n → j ≤ 80 → y = (j : Int) → lkM s 1 lookF lookC j b l →  GC κ μ (ZZ κ μ 0 0 Q) 0 0 28 [some (.ref (ad κ 10 0)), some (vi x), some (vi s), some (vi b), some (vi l), some (vi y), none] [] (World κ m) := by
  intro n
  induction n with
  | zero =>
    intro j b l y hn hj hy hl
    exact absurd hn (by omega)
  | succ n ih =>
    intro j b l y hn hj hy hl
    have hlr := lkM_r hl
    have hmr := maN_r s 1 (10 * (y % 10)) (y / 10) 6
    have hlf : lookF j = (10 * (y % 10), y / 10) := by rw [hy]; rfl
    refine g_iload F a_M_look_28 rfl ?_
    refine g_bipush F a_M_look_30 (by decide) ?_
    refine g_icmp_ge F (by omega) (by omega) a_M_look_32 (fun h32 => ?_) (fun h32 => ?_)
    · refine g_iload_n F a_M_look_88 rfl ?_
      refine g_iret F a_M_look_89 rfl ⟨Nat.le_refl _, Nat.le_refl _⟩ ?_
      obtain rfl : j = 80 := by omega
      rcases hl with hl | hl
      · exact absurd hl.1 (by decide)
      · exact qv k (by unfold lookA; rw [hl.2.1, if_neg hs0])
    · refine g_iload_n F a_M_look_35 rfl ?_
      refine g_if_eq F (by omega) a_M_look_36 (fun h36 => ?_) (fun h36 => ?_)
      · refine g_iload_n F a_M_look_88 rfl ?_
        refine g_iret F a_M_look_89 rfl ⟨Nat.le_refl _, Nat.le_refl _⟩ ?_
        exact absurd (by assumption) hs0
      · refine g_iload_n F a_M_look_39 rfl ?_
        refine g_iconst F a_M_look_40 ?_
        refine g_bipush F a_M_look_41 (by decide) ?_
        refine g_iload F a_M_look_43 rfl ?_
        refine g_bipush F a_M_look_45 (by decide) ?_
        refine g_irem F (by omega) (by omega) a_M_look_47 ?_
        refine g_imul F a_M_look_48 ?_
        refine g_iload F a_M_look_49 rfl ?_
        refine g_bipush F a_M_look_51 (by decide) ?_
        refine g_idiv F (by omega) (by omega) a_M_look_53 ?_
        refine g_s4 F a_M_look_54 sc_M_279 mk_M_alike rfl (by decide) ⟨Nat.le_refl _, Nat.le_refl _⟩ rfl (Nat.le_of_ble_eq_true rfl) (sp_M_alike1 hs (by omega) (by omega) (GCr.v ?_))
        refine g_istore (ls' := [_, _, _, _, _, _, _]) F a_M_look_57 rfl rfl rfl ?_
        refine g_iload F a_M_look_59 rfl ?_
        refine g_iload F a_M_look_61 rfl ?_
        refine g_icmp_ge F (by omega) (by omega) a_M_look_63 (fun h63 => ?_) (fun h63 => ?_)
        · refine g_iload_n F a_M_look_71 rfl ?_
          refine g_istore_n (ls' := [_, _, _, _, _, _, _]) F a_M_look_72 rfl rfl rfl ?_
          refine g_iload F a_M_look_73 rfl ?_
          refine g_iload F a_M_look_75 rfl ?_
          refine g_s2 F a_M_look_77 sc_M_146 mk_M_lesser rfl (by decide) ⟨Nat.le_refl _, Nat.le_refl _⟩ rfl (Nat.le_of_ble_eq_true rfl) (sp_M_lesser (by omega) (by omega) (GCr.v ?_))
          refine g_istore (ls' := [_, _, _, _, _, _, _]) F a_M_look_80 rfl rfl rfl ?_
          refine g_iinc (ls' := [_, _, _, _, _, _, _]) F a_M_look_82 rfl rfl rfl ?_
          refine g_goto F a_M_look_85 ?_
          exact GC.loc2 (ih (j + 1) _ _ _ (by omega) (by omega) (by omega) (lkM_k hl hlf (by omega))) ⟨rfl, rfl, rfl, rfl, rfl, rfl, trivial⟩
        · refine g_iload F a_M_look_66 rfl ?_
          refine g_goto F a_M_look_68 ?_
          refine g_istore_n (ls' := [_, _, _, _, _, _, _]) F a_M_look_72 rfl rfl rfl ?_
          refine g_iload F a_M_look_73 rfl ?_
          refine g_iload F a_M_look_75 rfl ?_
          refine g_s2 F a_M_look_77 sc_M_146 mk_M_lesser rfl (by decide) ⟨Nat.le_refl _, Nat.le_refl _⟩ rfl (Nat.le_of_ble_eq_true rfl) (sp_M_lesser (by omega) (by omega) (GCr.v ?_))
          refine g_istore (ls' := [_, _, _, _, _, _, _]) F a_M_look_80 rfl rfl rfl ?_
          refine g_iinc (ls' := [_, _, _, _, _, _, _]) F a_M_look_82 rfl rfl rfl ?_
          refine g_goto F a_M_look_85 ?_
          exact GC.loc2 (ih (j + 1) _ _ _ (by omega) (by omega) (by omega) (lkM_s hl hlf hy.symm (by omega))) ⟨rfl, rfl, rfl, rfl, rfl, rfl, trivial⟩
set_option maxHeartbeats 1000000 in
theorem sp_M_look {κ : Kx} {Q : Option Value → (Heap → Prop) → Prop} {m : Mem} {D : Int} (hS : okM D (m 10 0)) (hD : D ≤ 100000) (hR : okR (ntM (m 10 0))) (hv9 : ∀ t : Int, 0 ≤ t ∧ t < (m 10 0).1 8 → (m 10 0).2 6 (t * 4 + 1) ≤ 90) {x : Int} (hx : R32 x) (kb : ¬ (0 ≤ x ∧ x < (m 10 0).1 1) → Q (some (vi (-2))) (World κ (bmM m 0))) (k : (0 ≤ x ∧ x < (m 10 0).1 1) → Q (some (vi (lookA (kfN (ntM (m 10 0)) x 1 6)))) (World κ m)) : GG κ G_M_look 3 0 0 [.ref (ad κ 10 0), vi x] (World κ m) Q := by
  obtain ⟨s0, s1, s2, s3, s4, s5, hfg, hkd, hsh, hgl⟩ := id hS
  refine GG.intro (ls := [some _, some _, none, none, none, none, none]) (Nat.le_of_ble_eq_true rfl) rfl (fun μ F => ?_)
  refine g_aload_n F a_M_look_0 rfl ?_
  refine g_iload_n F a_M_look_1 rfl ?_
  refine g_v1 F a_M_look_2 vc_M_236 mk_M_isMan ob_10 ck_10.1 rfl rfl (by decide) ⟨Nat.le_refl _, Nat.le_refl _⟩ rfl (Nat.le_of_ble_eq_true rfl) (sp_M_isMan hS hD (by omega) (fun c2 => GCr.v ?_) (fun c2 => GCr.v ?_))
  · refine g_ifne1 F a_M_look_5 ?_
    refine g_aload_n F a_M_look_13 rfl ?_
    refine g_iload_n F a_M_look_14 rfl ?_
    refine g_v1 F a_M_look_15 vc_M_273 mk_M_kindsOf ob_10 ck_10.1 rfl rfl (by decide) ⟨Nat.le_refl _, Nat.le_refl _⟩ rfl (Nat.le_of_ble_eq_true rfl) (sp_M_kindsOf hS hD hR hv9 (by omega) (GCr.v ?_))
    refine g_istore_n (ls' := [_, _, _, _, _, _, _]) F a_M_look_18 rfl rfl rfl ?_
    refine g_iconst F a_M_look_19 ?_
    refine g_istore_n (ls' := [_, _, _, _, _, _, _]) F a_M_look_20 rfl rfl rfl ?_
    refine g_ldc F a_M_look_21 kc_M_251 ?_
    refine g_istore (ls' := [_, _, _, _, _, _, _]) F a_M_look_23 rfl rfl rfl ?_
    refine g_iconst F a_M_look_25 ?_
    refine g_istore (ls' := [_, _, _, _, _, _, _]) F a_M_look_26 rfl rfl rfl ?_
    have hk6 := kfN_r (ntM (m 10 0)) x 1 6
    have hk7 : 0 ≤ (kfN (ntM (m 10 0)) x 1 6) ∧ (kfN (ntM (m 10 0)) x 1 6) < 64 := hk6
    by_cases hs0 : (kfN (ntM (m 10 0)) x 1 6) = 0
    · refine g_iload F a_M_look_28 rfl ?_
      refine g_bipush F a_M_look_30 (by decide) ?_
      refine g_icmp_ge F (by omega) (by omega) a_M_look_32 (fun h32 => ?_) (fun h32 => ?_)
      · refine g_iload_n F a_M_look_88 rfl ?_
        refine g_iret F a_M_look_89 rfl ⟨Nat.le_refl _, Nat.le_refl _⟩ ?_
        exfalso; omega
      · refine g_iload_n F a_M_look_35 rfl ?_
        refine g_if_eq F (by omega) a_M_look_36 (fun h36 => ?_) (fun h36 => ?_)
        · refine g_iload_n F a_M_look_88 rfl ?_
          refine g_iret F a_M_look_89 rfl ⟨Nat.le_refl _, Nat.le_refl _⟩ ?_
          exact qv (k (by assumption)) (by unfold lookA; rw [if_pos hs0])
        · exact absurd hs0 h36
    · exact GC.loc2 (lp_M_look hk7 hs0 (k (by assumption)) F 81 0 (-1) 1048576 0 (by omega) (by omega) rfl (Or.inl ⟨rfl, rfl, rfl⟩)) ⟨rfl, rfl, rfl, rfl, rfl, rfl, trivial⟩
  · refine g_ifne0 F a_M_look_5 ?_
    refine g_aload_n F a_M_look_8 rfl ?_
    refine g_v0 F a_M_look_9 vc_M_95 mk_M_bad ob_10 ck_10.1 rfl rfl (by decide) ⟨Nat.le_refl _, Nat.le_refl _⟩ rfl (Nat.le_of_ble_eq_true rfl) (sp_M_bad  (GCr.v ?_))
    refine g_iret F a_M_look_12 rfl ⟨Nat.le_refl _, Nat.le_refl _⟩ ?_
    exact kb (by assumption)
set_option maxHeartbeats 2000000 in
theorem lp_M_ask2 {κ : Kx} {μ : MX} {Z : State → Prop} {m : Mem} {x s d : Int} {d0 : Nat} (hs : 0 ≤ s ∧ s < 64) (hd : d = (d0 : Int)) (hd2 : d0 < 2) (k : ∀ b l : Int, lkM s 0 askF askC (91 * (d0 + 1)) b l → GC κ μ Z 0 0 94 [some (.ref (ad κ 10 0)), some (vi x), some (vi s), some (vi b), some (vi l), some (vi d), none, none] [] (World κ m)) (F : Fx κ G_M_ask 3 0 0 μ) :
    ∀ (n : Nat) (j : Nat) (b l y : Int), 91 < j + n → j ≤ 91 → y = (j : Int) → lkM s 0 askF askC (91 * d0 + j) b l →  GC κ μ Z 0 0 41 [some (.ref (ad κ 10 0)), some (vi x), some (vi s), some (vi b), some (vi l), some (vi d), some (vi y), none] [] (World κ m) := by
  intro n
  induction n with
  | zero =>
    intro j b l y hn hj hy hl
    exact absurd hn (by omega)
  | succ n ih =>
    intro j b l y hn hj hy hl
    have hlr := lkM_r hl
    have hmr := maN_r s 0 y d 6
    have hlf : j < 91 → askF (91 * d0 + j) = (y, d) := by
      intro h9
      unfold askF
      apply Prod.ext
      · show ((91 * d0 + j : Nat) : Int) % 91 = y; omega
      · show ((91 * d0 + j : Nat) : Int) / 91 = d; omega
    have hlc : j < 91 → askC (91 * d0 + j) = 100 * d + y := by
      intro h9
      unfold askC
      omega
    refine g_iload F a_M_ask_41 rfl ?_
    refine g_bipush F a_M_ask_43 (by decide) ?_
    refine g_icmp_gt F (by omega) (by omega) a_M_ask_45 (fun h45 => ?_) (fun h45 => ?_)
    · obtain rfl : j = 91 := by omega
      exact GC.loc2 (k b l hl) ⟨rfl, rfl, rfl, rfl, rfl, rfl, trivial⟩
    · refine g_iload_n F a_M_ask_48 rfl ?_
      refine g_iconst F a_M_ask_49 ?_
      refine g_iload F a_M_ask_50 rfl ?_
      refine g_iload F a_M_ask_52 rfl ?_
      refine g_s4 F a_M_ask_54 sc_M_279 mk_M_alike rfl (by decide) ⟨Nat.le_refl _, Nat.le_refl _⟩ rfl (Nat.le_of_ble_eq_true rfl) (sp_M_alike0 hs (by omega) (by omega) (GCr.v ?_))
      refine g_istore (ls' := [_, _, _, _, _, _, _, _]) F a_M_ask_57 rfl rfl rfl ?_
      refine g_iload F a_M_ask_59 rfl ?_
      refine g_iload F a_M_ask_61 rfl ?_
      refine g_icmp_ge F (by omega) (by omega) a_M_ask_63 (fun h63 => ?_) (fun h63 => ?_)
      · refine g_iload_n F a_M_ask_77 rfl ?_
        refine g_istore_n (ls' := [_, _, _, _, _, _, _, _]) F a_M_ask_78 rfl rfl rfl ?_
        refine g_iload F a_M_ask_79 rfl ?_
        refine g_iload F a_M_ask_81 rfl ?_
        refine g_s2 F a_M_ask_83 sc_M_146 mk_M_lesser rfl (by decide) ⟨Nat.le_refl _, Nat.le_refl _⟩ rfl (Nat.le_of_ble_eq_true rfl) (sp_M_lesser (by omega) (by omega) (GCr.v ?_))
        refine g_istore (ls' := [_, _, _, _, _, _, _, _]) F a_M_ask_86 rfl rfl rfl ?_
        refine g_iinc (ls' := [_, _, _, _, _, _, _, _]) F a_M_ask_88 rfl rfl rfl ?_
        refine g_goto F a_M_ask_91 ?_
        exact GC.loc2 (ih (j + 1) _ _ _ (by omega) (by omega) (by omega) (lkM_k hl (hlf (by omega)) (by omega))) ⟨rfl, rfl, rfl, rfl, rfl, rfl, rfl, trivial⟩
      · refine g_bipush F a_M_ask_66 (by decide) ?_
        refine g_iload F a_M_ask_68 rfl ?_
        refine g_imul F a_M_ask_70 ?_
        refine g_iload F a_M_ask_71 rfl ?_
        refine g_iadd F a_M_ask_73 ?_
        refine g_goto F a_M_ask_74 ?_
        refine g_istore_n (ls' := [_, _, _, _, _, _, _, _]) F a_M_ask_78 rfl rfl rfl ?_
        refine g_iload F a_M_ask_79 rfl ?_
        refine g_iload F a_M_ask_81 rfl ?_
        refine g_s2 F a_M_ask_83 sc_M_146 mk_M_lesser rfl (by decide) ⟨Nat.le_refl _, Nat.le_refl _⟩ rfl (Nat.le_of_ble_eq_true rfl) (sp_M_lesser (by omega) (by omega) (GCr.v ?_))
        refine g_istore (ls' := [_, _, _, _, _, _, _, _]) F a_M_ask_86 rfl rfl rfl ?_
        refine g_iinc (ls' := [_, _, _, _, _, _, _, _]) F a_M_ask_88 rfl rfl rfl ?_
        refine g_goto F a_M_ask_91 ?_
        exact GC.loc2 (ih (j + 1) _ _ _ (by omega) (by omega) (by omega) (lkM_s hl (hlf (by omega)) (hlc (by omega)) (by omega))) ⟨rfl, rfl, rfl, rfl, rfl, rfl, rfl, trivial⟩
set_option maxHeartbeats 2000000 in
theorem lp_M_ask1 {κ : Kx} {μ : MX} {Q : Option Value → (Heap → Prop) → Prop} {m : Mem} {x s : Int} (hs : 0 ≤ s ∧ s < 64) (hs0 : s ≠ 0) (k : Q (some (vi (askA s))) (World κ m)) (F : Fx κ G_M_ask 3 0 0 μ) :
    ∀ (n : Nat) (j : Nat) (b l d : Int), 2 < j + n → j ≤ 2 → d = (j : Int) → lkM s 0 askF askC (91 * j) b l →  GC κ μ (ZZ κ μ 0 0 Q) 0 0 28 [some (.ref (ad κ 10 0)), some (vi x), some (vi s), some (vi b), some (vi l), some (vi d), none, none] [] (World κ m) := by
  intro n
  induction n with
  | zero =>
    intro j b l d hn hj hd hl
    exact absurd hn (by omega)
  | succ n ih =>
    intro j b l d hn hj hd hl
    refine g_iload F a_M_ask_28 rfl ?_
    refine g_iconst F a_M_ask_30 ?_
    refine g_icmp_ge F (by omega) (by omega) a_M_ask_31 (fun h31 => ?_) (fun h31 => ?_)
    · refine g_iload_n F a_M_ask_100 rfl ?_
      refine g_iret F a_M_ask_101 rfl ⟨Nat.le_refl _, Nat.le_refl _⟩ ?_
      obtain rfl : j = 2 := by omega
      rcases hl with hl | hl
      · exact absurd hl.1 (by decide)
      · exact qv k (by unfold askA; rw [hl.2.1, if_neg hs0])
    · refine g_iload_n F a_M_ask_34 rfl ?_
      refine g_if_eq F (by omega) a_M_ask_35 (fun h35 => ?_) (fun h35 => ?_)
      · refine g_iload_n F a_M_ask_100 rfl ?_
        refine g_iret F a_M_ask_101 rfl ⟨Nat.le_refl _, Nat.le_refl _⟩ ?_
        exact absurd (by assumption) hs0
      · refine g_iconst F a_M_ask_38 ?_
        refine g_istore (ls' := [_, _, _, _, _, _, _, _]) F a_M_ask_39 rfl rfl rfl ?_
        refine GC.loc2 (lp_M_ask2 hs (d := d) (d0 := j) hd (by omega) (fun b2 l2 hl2 => ?_) F 92 0 b l 0 (by omega) (by omega) rfl hl) ⟨rfl, rfl, rfl, rfl, rfl, rfl, rfl, trivial⟩
        refine g_iinc (ls' := [_, _, _, _, _, _, _, _]) F a_M_ask_94 rfl rfl rfl ?_
        refine g_goto F a_M_ask_97 ?_
        exact GC.loc2 (ih (j + 1) b2 l2 _ (by omega) (by omega) (by omega) hl2) ⟨rfl, rfl, rfl, rfl, rfl, rfl, trivial⟩
set_option maxHeartbeats 1000000 in
theorem sp_M_ask {κ : Kx} {Q : Option Value → (Heap → Prop) → Prop} {m : Mem} {D : Int} (hS : okM D (m 10 0)) (hD : D ≤ 100000) (hR : okR (mkM (m 10 0))) (hv9 : ∀ t : Int, 0 ≤ t ∧ t < (m 10 0).1 9 → (m 10 0).2 7 (t * 4 + 1) ≤ 90) {x : Int} (hx : R32 x) (kb : ¬ (0 ≤ x ∧ x < (m 10 0).1 2) → Q (some (vi (-2))) (World κ (bmM m 0))) (k : (0 ≤ x ∧ x < (m 10 0).1 2) → Q (some (vi (askA (kfN (mkM (m 10 0)) x 0 6)))) (World κ m)) : GG κ G_M_ask 3 0 0 [.ref (ad κ 10 0), vi x] (World κ m) Q := by
  obtain ⟨s0, s1, s2, s3, s4, s5, hfg, hkd, hsh, hgl⟩ := id hS
  refine GG.intro (ls := [some _, some _, none, none, none, none, none, none]) (Nat.le_of_ble_eq_true rfl) rfl (fun μ F => ?_)
  refine g_aload_n F a_M_ask_0 rfl ?_
  refine g_iload_n F a_M_ask_1 rfl ?_
  refine g_v1 F a_M_ask_2 vc_M_227 mk_M_isReader ob_10 ck_10.1 rfl rfl (by decide) ⟨Nat.le_refl _, Nat.le_refl _⟩ rfl (Nat.le_of_ble_eq_true rfl) (sp_M_isReader hS hD (by omega) (fun c2 => GCr.v ?_) (fun c2 => GCr.v ?_))
  · refine g_ifne1 F a_M_ask_5 ?_
    refine g_aload_n F a_M_ask_13 rfl ?_
    refine g_iload_n F a_M_ask_14 rfl ?_
    refine g_v1 F a_M_ask_15 vc_M_276 mk_M_kindsBy ob_10 ck_10.1 rfl rfl (by decide) ⟨Nat.le_refl _, Nat.le_refl _⟩ rfl (Nat.le_of_ble_eq_true rfl) (sp_M_kindsBy hS hD hR hv9 (by omega) (GCr.v ?_))
    refine g_istore_n (ls' := [_, _, _, _, _, _, _, _]) F a_M_ask_18 rfl rfl rfl ?_
    refine g_iconst F a_M_ask_19 ?_
    refine g_istore_n (ls' := [_, _, _, _, _, _, _, _]) F a_M_ask_20 rfl rfl rfl ?_
    refine g_ldc F a_M_ask_21 kc_M_251 ?_
    refine g_istore (ls' := [_, _, _, _, _, _, _, _]) F a_M_ask_23 rfl rfl rfl ?_
    refine g_iconst F a_M_ask_25 ?_
    refine g_istore (ls' := [_, _, _, _, _, _, _, _]) F a_M_ask_26 rfl rfl rfl ?_
    have hk6 := kfN_r (mkM (m 10 0)) x 0 6
    have hk7 : 0 ≤ (kfN (mkM (m 10 0)) x 0 6) ∧ (kfN (mkM (m 10 0)) x 0 6) < 64 := hk6
    by_cases hs0 : (kfN (mkM (m 10 0)) x 0 6) = 0
    · refine g_iload F a_M_ask_28 rfl ?_
      refine g_iconst F a_M_ask_30 ?_
      refine g_icmp_ge F (by omega) (by omega) a_M_ask_31 (fun h31 => ?_) (fun h31 => ?_)
      · refine g_iload_n F a_M_ask_100 rfl ?_
        refine g_iret F a_M_ask_101 rfl ⟨Nat.le_refl _, Nat.le_refl _⟩ ?_
        exfalso; omega
      · refine g_iload_n F a_M_ask_34 rfl ?_
        refine g_if_eq F (by omega) a_M_ask_35 (fun h35 => ?_) (fun h35 => ?_)
        · refine g_iload_n F a_M_ask_100 rfl ?_
          refine g_iret F a_M_ask_101 rfl ⟨Nat.le_refl _, Nat.le_refl _⟩ ?_
          exact qv (k (by assumption)) (by unfold askA; rw [if_pos hs0])
        · exact absurd hs0 h35
    · exact GC.loc2 (lp_M_ask1 hk7 hs0 (k (by assumption)) F 3 0 (-1) 1048576 0 (by omega) (by omega) rfl (Or.inl ⟨rfl, rfl, rfl⟩)) ⟨rfl, rfl, rfl, rfl, rfl, rfl, trivial⟩
  · refine g_ifne0 F a_M_ask_5 ?_
    refine g_aload_n F a_M_ask_8 rfl ?_
    refine g_v0 F a_M_ask_9 vc_M_95 mk_M_bad ob_10 ck_10.1 rfl rfl (by decide) ⟨Nat.le_refl _, Nat.le_refl _⟩ rfl (Nat.le_of_ble_eq_true rfl) (sp_M_bad  (GCr.v ?_))
    refine g_iret F a_M_ask_12 rfl ⟨Nat.le_refl _, Nat.le_refl _⟩ ?_
    exact kb (by assumption)
set_option maxHeartbeats 1000000 in
theorem sp_M_status {κ : Kx} {Q : Option Value → (Heap → Prop) → Prop} {m : Mem} {x : Int} (hx : R32 x) (kb : ¬ (0 ≤ x ∧ x ≤ 2) → Q (some (vi (-1))) (World κ (bmM m 0))) (k : 0 ≤ x ∧ x ≤ 2 → Q (some (vi ((m 10 0).2 0 x))) (World κ m)) : GG κ G_M_status 1 0 0 [.ref (ad κ 10 0), vi x] (World κ m) Q := by
  refine GG.intro (ls := [some _, some _]) (Nat.le_of_ble_eq_true rfl) rfl (fun μ F => ?_)
  refine g_iload_n F a_M_status_0 rfl ?_
  refine g_iconst F a_M_status_1 ?_
  refine g_iconst F a_M_status_2 ?_
  refine g_s3 F a_M_status_3 sc_M_91 mk_M_in rfl (by decide) ⟨Nat.le_refl _, Nat.le_refl _⟩ rfl (Nat.le_of_ble_eq_true rfl) (sp_M_in (by omega) (by omega) (by omega) (fun c3 => GCr.v ?_) (fun c3 => GCr.v ?_))
  · refine g_ifne1 F a_M_status_6 ?_
    refine g_aload_n F a_M_status_21 rfl ?_
    refine g_get_10_0 F a_M_status_22 fl_M_1 ?_
    refine g_iload_n F a_M_status_25 rfl ?_
    refine g_ild_10_0 F a_M_status_26 (by omega) ?_
    refine g_iret F a_M_status_27 rfl ⟨Nat.le_refl _, Nat.le_refl _⟩ ?_
    first | exact kb (by assumption) | exact k (by assumption)
  · refine g_ifne0 F a_M_status_6 ?_
    refine g_aload_n F a_M_status_9 rfl ?_
    refine g_get_10_0 F a_M_status_10 fl_M_1 ?_
    refine g_iconst F a_M_status_13 ?_
    refine g_dup2 F a_M_status_14 rfl rfl ?_
    refine g_ild_10_0 F a_M_status_15 (by omega) ?_
    refine g_iconst F a_M_status_16 ?_
    refine g_iadd F a_M_status_17 ?_
    refine g_ist_10_0 F a_M_status_18 (by omega) ?_
    (try simp only [mset_app, mset_mset, fup_app, aup_app, fup_fup, aup_aup, false_and, and_false, true_and, and_true, and_self, reduceIte, Nat.reduceEqDiff, reduceCtorEq, fup_10, fs_4_5, fs_4_6, fs_5_6])
    refine g_iconst F a_M_status_19 ?_
    refine g_iret F a_M_status_20 rfl ⟨Nat.le_refl _, Nat.le_refl _⟩ ?_
    first | exact kb (by assumption) | exact k (by assumption)
set_option maxHeartbeats 1000000 in
theorem sp_M_part {κ : Kx} {Q : Option Value → (Heap → Prop) → Prop} {m : Mem} {x : Int} (hx : R32 x) (kb : ¬ (x = 0 ∨ x = 1) → Q (some (vl (-2))) (World κ (bmM m 0))) (k0 : x = 0 → Q (some (vl ((m 10 0).1 25))) (World κ m)) (k1 : x = 1 → Q (some (vl ((m 10 0).1 26))) (World κ m)) : GG κ G_M_part 1 0 0 [.ref (ad κ 10 0), vi x] (World κ m) Q := by
  refine GG.intro (ls := [some _, some _]) (Nat.le_of_ble_eq_true rfl) rfl (fun μ F => ?_)
  refine g_iload_n F a_M_part_0 rfl ?_
  refine g_if_ne F (by omega) a_M_part_1 (fun h1 => ?_) (fun h1 => ?_)
  · refine g_iload_n F a_M_part_11 rfl ?_
    refine g_iconst F a_M_part_12 ?_
    refine g_icmp_ne F (by omega) (by omega) a_M_part_13 (fun h13 => ?_) (fun h13 => ?_)
    · refine g_aload_n F a_M_part_23 rfl ?_
      refine g_v0 F a_M_part_24 vc_M_95 mk_M_bad ob_10 ck_10.1 rfl rfl (by decide) ⟨Nat.le_refl _, Nat.le_refl _⟩ rfl (Nat.le_of_ble_eq_true rfl) (sp_M_bad  (GCr.v ?_))
      refine g_i2l F (by omega) a_M_part_27 ?_
      refine g_lret F a_M_part_28 rfl ⟨Nat.le_refl _, Nat.le_refl _⟩ ?_
      first | exact kb (by omega) | exact k1 (by omega) | exact k0 (by omega)
    · refine g_aload_n F a_M_part_16 rfl ?_
      refine g_get_10_26 F a_M_part_17 fl_M_46 ?_
      refine g_goto F a_M_part_20 ?_
      refine g_lret F a_M_part_28 rfl ⟨Nat.le_refl _, Nat.le_refl _⟩ ?_
      first | exact kb (by omega) | exact k1 (by omega) | exact k0 (by omega)
  · refine g_aload_n F a_M_part_4 rfl ?_
    refine g_get_10_25 F a_M_part_5 fl_M_289 ?_
    refine g_goto F a_M_part_8 ?_
    refine g_lret F a_M_part_28 rfl ⟨Nat.le_refl _, Nat.le_refl _⟩ ?_
    first | exact kb (by omega) | exact k1 (by omega) | exact k0 (by omega)
def cntM (M : Rc) (x : Int) : Int := if x = 0 then M.1 1 else if x = 1 then M.1 2 else if x = 2 then M.1 6 else if x = 3 then sumN (shM M) (M.1 1).toNat else if x = 4 then M.1 7 else if x = 5 then M.1 8 else if x = 6 then M.1 9 else if x = 7 then M.1 23 else M.1 18
set_option maxHeartbeats 2000000 in
theorem lp_M_shameAll {κ : Kx} {μ : MX} {Q : Option Value → (Heap → Prop) → Prop} {m : Mem} {D : Int} (hS : okM D (m 10 0)) (hD : D ≤ 100000) (k : Q (some (vi (sumN (shM (m 10 0)) ((m 10 0).1 1).toNat))) (World κ m)) (F : Fx κ G_M_shameAll 0 0 0 μ) :
    ∀ (n : Nat) (j : Nat) (e v : Int), (m 10 0).1 1 < j + n → (j : Int) ≤ (m 10 0).1 1 → v = (j : Int) → e = sumN (shM (m 10 0)) j →  GC κ μ (ZZ κ μ 0 0 Q) 0 0 4 [some (.ref (ad κ 10 0)), some (vi e), some (vi v)] [] (World κ m) := by
  obtain ⟨s0, s1, s2, s3, s4, s5, hfg, hkd, hsh, hgl⟩ := id hS
  intro n
  induction n with
  | zero =>
    intro j e v hn hj hv he
    exact absurd hn (by omega)
  | succ n ih =>
    intro j e v hn hj hv he
    refine g_iload_n F a_M_shameAll_4 rfl ?_
    refine g_aload_n F a_M_shameAll_5 rfl ?_
    refine g_get_10_1 F a_M_shameAll_6 fl_M_60 ?_
    refine g_icmp_ge F (by omega) (by omega) a_M_shameAll_9 (fun h9 => ?_) (fun h9 => ?_)
    · refine g_iload_n F a_M_shameAll_27 rfl ?_
      refine g_iret F a_M_shameAll_28 rfl ⟨Nat.le_refl _, Nat.le_refl _⟩ ?_
      obtain rfl : j = ((m 10 0).1 1).toNat := by omega
      exact qv k he
    · refine g_iload_n F a_M_shameAll_12 rfl ?_
      refine g_aload_n F a_M_shameAll_13 rfl ?_
      refine g_get_10_11 F a_M_shameAll_14 fl_M_16 ?_
      refine g_iload_n F a_M_shameAll_17 rfl ?_
      refine g_ild_10_2 F a_M_shameAll_18 (by omega) ?_
      refine g_iadd F a_M_shameAll_19 ?_
      refine g_istore_n (ls' := [_, _, _]) F a_M_shameAll_20 rfl rfl rfl ?_
      refine g_iinc (ls' := [_, _, _]) F a_M_shameAll_21 rfl rfl rfl ?_
      refine g_goto F a_M_shameAll_24 ?_
      exact GC.loc2 (ih (j + 1) _ _ (by omega) (by omega) (by omega) (by rw [he, hv]; rfl)) ⟨rfl, rfl, rfl, trivial⟩
set_option maxHeartbeats 1000000 in
theorem sp_M_shameAll {κ : Kx} {Q : Option Value → (Heap → Prop) → Prop} {m : Mem} {D : Int} (hS : okM D (m 10 0)) (hD : D ≤ 100000) (k : Q (some (vi (sumN (shM (m 10 0)) ((m 10 0).1 1).toNat))) (World κ m)) : GG κ G_M_shameAll 0 0 0 [.ref (ad κ 10 0)] (World κ m) Q := by
  obtain ⟨s0, s1, s2, s3, s4, s5, hfg, hkd, hsh, hgl⟩ := id hS
  refine GG.intro (ls := [some _, none, none]) (Nat.le_of_ble_eq_true rfl) rfl (fun μ F => ?_)
  refine g_iconst F a_M_shameAll_0 ?_
  refine g_istore_n (ls' := [_, _, _]) F a_M_shameAll_1 rfl rfl rfl ?_
  refine g_iconst F a_M_shameAll_2 ?_
  refine g_istore_n (ls' := [_, _, _]) F a_M_shameAll_3 rfl rfl rfl ?_
  exact GC.loc2 (lp_M_shameAll hS hD k F (((m 10 0).1 1).toNat + 1) 0 _ _ (by omega) (by omega) rfl rfl) ⟨rfl, rfl, rfl, trivial⟩
set_option maxHeartbeats 1000000 in
theorem sp_M_countOf {κ : Kx} {Q : Option Value → (Heap → Prop) → Prop} {m : Mem} {D : Int} (hS : okM D (m 10 0)) (hD : D ≤ 100000) {x : Int} (hx : 0 ≤ x ∧ x ≤ 8) (k : Q (some (vi (cntM (m 10 0) x))) (World κ m)) : GG κ G_M_countOf 1 0 0 [.ref (ad κ 10 0), vi x] (World κ m) Q := by
  obtain ⟨s0, s1, s2, s3, s4, s5, hfg, hkd, hsh, hgl⟩ := id hS
  refine GG.intro (ls := [some _, some _]) (Nat.le_of_ble_eq_true rfl) rfl (fun μ F => ?_)
  refine g_iload_n F a_M_countOf_0 rfl ?_
  rcases (show x = 0 ∨ x = 1 ∨ x = 2 ∨ x = 3 ∨ x = 4 ∨ x = 5 ∨ x = 6 ∨ x = 7 ∨ (x < 0 ∨ 7 < x) by omega) with h1 | h1 | h1 | h1 | h1 | h1 | h1 | h1 | h1
  · refine g_tsw (tg := 48) F (by omega) a_M_countOf_1 (by omega) (by omega) (j := 0) (by omega) rfl (by decide) ?_
    refine g_aload_n F a_M_countOf_48 rfl ?_
    refine g_get_10_1 F a_M_countOf_49 fl_M_60 ?_
    refine g_iret F a_M_countOf_52 rfl ⟨Nat.le_refl _, Nat.le_refl _⟩ ?_
    exact qv k (by subst h1; rfl)
  · refine g_tsw (tg := 53) F (by omega) a_M_countOf_1 (by omega) (by omega) (j := 1) (by omega) rfl (by decide) ?_
    refine g_aload_n F a_M_countOf_53 rfl ?_
    refine g_get_10_2 F a_M_countOf_54 fl_M_64 ?_
    refine g_iret F a_M_countOf_57 rfl ⟨Nat.le_refl _, Nat.le_refl _⟩ ?_
    exact qv k (by subst h1; rfl)
  · refine g_tsw (tg := 58) F (by omega) a_M_countOf_1 (by omega) (by omega) (j := 2) (by omega) rfl (by decide) ?_
    refine g_aload_n F a_M_countOf_58 rfl ?_
    refine g_get_10_6 F a_M_countOf_59 fl_M_76 ?_
    refine g_iret F a_M_countOf_62 rfl ⟨Nat.le_refl _, Nat.le_refl _⟩ ?_
    exact qv k (by subst h1; rfl)
  · refine g_tsw (tg := 63) F (by omega) a_M_countOf_1 (by omega) (by omega) (j := 3) (by omega) rfl (by decide) ?_
    refine g_aload_n F a_M_countOf_63 rfl ?_
    refine g_v0 F a_M_countOf_64 vc_M_313 mk_M_shameAll ob_10 ck_10.1 rfl rfl (by decide) ⟨Nat.le_refl _, Nat.le_refl _⟩ rfl (Nat.le_of_ble_eq_true rfl) (sp_M_shameAll hS hD (GCr.v ?_))
    refine g_iret F a_M_countOf_67 rfl ⟨Nat.le_refl _, Nat.le_refl _⟩ ?_
    exact qv k (by subst h1; rfl)
  · refine g_tsw (tg := 68) F (by omega) a_M_countOf_1 (by omega) (by omega) (j := 4) (by omega) rfl (by decide) ?_
    refine g_aload_n F a_M_countOf_68 rfl ?_
    refine g_get_10_7 F a_M_countOf_69 fl_M_79 ?_
    refine g_iret F a_M_countOf_72 rfl ⟨Nat.le_refl _, Nat.le_refl _⟩ ?_
    exact qv k (by subst h1; rfl)
  · refine g_tsw (tg := 73) F (by omega) a_M_countOf_1 (by omega) (by omega) (j := 5) (by omega) rfl (by decide) ?_
    refine g_aload_n F a_M_countOf_73 rfl ?_
    refine g_get_10_8 F a_M_countOf_74 fl_M_82 ?_
    refine g_iret F a_M_countOf_77 rfl ⟨Nat.le_refl _, Nat.le_refl _⟩ ?_
    exact qv k (by subst h1; rfl)
  · refine g_tsw (tg := 78) F (by omega) a_M_countOf_1 (by omega) (by omega) (j := 6) (by omega) rfl (by decide) ?_
    refine g_aload_n F a_M_countOf_78 rfl ?_
    refine g_get_10_9 F a_M_countOf_79 fl_M_85 ?_
    refine g_iret F a_M_countOf_82 rfl ⟨Nat.le_refl _, Nat.le_refl _⟩ ?_
    exact qv k (by subst h1; rfl)
  · refine g_tsw (tg := 83) F (by omega) a_M_countOf_1 (by omega) (by omega) (j := 7) (by omega) rfl (by decide) ?_
    refine g_aload_n F a_M_countOf_83 rfl ?_
    refine g_get_10_23 F a_M_countOf_84 fl_M_88 ?_
    refine g_iret F a_M_countOf_87 rfl ⟨Nat.le_refl _, Nat.le_refl _⟩ ?_
    exact qv k (by subst h1; rfl)
  · refine g_tswD (tg := 88) F (by omega) a_M_countOf_1 (by omega) (by decide) ?_
    refine g_aload_n F a_M_countOf_88 rfl ?_
    refine g_get_10_18 F a_M_countOf_89 fl_M_110 ?_
    refine g_iret F a_M_countOf_92 rfl ⟨Nat.le_refl _, Nat.le_refl _⟩ ?_
    obtain rfl : x = 8 := by omega
    exact k
set_option maxHeartbeats 1000000 in
theorem sp_M_count {κ : Kx} {Q : Option Value → (Heap → Prop) → Prop} {m : Mem} {D : Int} (hS : okM D (m 10 0)) (hD : D ≤ 100000) {x : Int} (hx : R32 x) (kb : ¬ (0 ≤ x ∧ x ≤ 8) → Q (some (vi (-2))) (World κ (bmM m 0))) (k : 0 ≤ x ∧ x ≤ 8 → Q (some (vi (cntM (m 10 0) x))) (World κ m)) : GG κ G_M_count 2 0 0 [.ref (ad κ 10 0), vi x] (World κ m) Q := by
  obtain ⟨s0, s1, s2, s3, s4, s5, hfg, hkd, hsh, hgl⟩ := id hS
  refine GG.intro (ls := [some _, some _]) (Nat.le_of_ble_eq_true rfl) rfl (fun μ F => ?_)
  refine g_iload_n F a_M_count_0 rfl ?_
  refine g_iconst F a_M_count_1 ?_
  refine g_bipush F a_M_count_2 (by decide) ?_
  refine g_s3 F a_M_count_4 sc_M_91 mk_M_in rfl (by decide) ⟨Nat.le_refl _, Nat.le_refl _⟩ rfl (Nat.le_of_ble_eq_true rfl) (sp_M_in (by omega) (by omega) (by omega) (fun c4 => GCr.v ?_) (fun c4 => GCr.v ?_))
  · refine g_ifeq1 F a_M_count_7 ?_
    refine g_aload_n F a_M_count_10 rfl ?_
    refine g_iload_n F a_M_count_11 rfl ?_
    refine g_v1 F a_M_count_12 vc_M_316 mk_M_countOf ob_10 ck_10.1 rfl rfl (by decide) ⟨Nat.le_refl _, Nat.le_refl _⟩ rfl (Nat.le_of_ble_eq_true rfl) (sp_M_countOf hS hD (by omega) (GCr.v ?_))
    refine g_goto F a_M_count_15 ?_
    refine g_iret F a_M_count_22 rfl ⟨Nat.le_refl _, Nat.le_refl _⟩ ?_
    first | exact kb (by assumption) | exact k (by assumption)
  · refine g_ifeq0 F a_M_count_7 ?_
    refine g_aload_n F a_M_count_18 rfl ?_
    refine g_v0 F a_M_count_19 vc_M_95 mk_M_bad ob_10 ck_10.1 rfl rfl (by decide) ⟨Nat.le_refl _, Nat.le_refl _⟩ rfl (Nat.le_of_ble_eq_true rfl) (sp_M_bad  (GCr.v ?_))
    refine g_iret F a_M_count_22 rfl ⟨Nat.le_refl _, Nat.le_refl _⟩ ?_
    first | exact kb (by assumption) | exact k (by assumption)
