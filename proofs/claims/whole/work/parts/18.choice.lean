def farS (S : Rc) (set r : Int) : Int := max (errS S set r) (-(errS S set r))
theorem farS_r {D : Int} {S : Rc} (h : okS D S) (set r : Int) : 0 ≤ farS S set r ∧ farS S set r ≤ 600 := by
  have := errS_r h set r
  unfold farS
  omega
/-- BEST: the set and how far it is, of the sets below n -/
def loN (S : Rc) (nn r : Int) : Nat → Int × Int
  | 0 => (0, 1048576)
  | n + 1 => if bc n = nn ∧ farS S n r < (loN S nn r n).2 then ((n : Int), farS S n r) else loN S nn r n
theorem loN_far {D : Int} {S : Rc} (h : okS D S) (nn r : Int) : ∀ n : Nat, (loN S nn r n).2 = 1048576 ∨ ((loN S nn r n).2 < 1048576 ∧ (loN S nn r n).2 = farS S (loN S nn r n).1 r ∧ 0 ≤ (loN S nn r n).1 ∧ (loN S nn r n).1 < n)
  | 0 => Or.inl rfl
  | n + 1 => by
    have ih := loN_far h nn r n
    have hf := farS_r h n r
    unfold loN
    split
    · right
      dsimp only
      omega
    · rcases ih with ih | ih
      · exact Or.inl ih
      · exact Or.inr (by omega)
theorem loN_found {D : Int} {S : Rc} (h : okS D S) (nn r : Int) {t : Nat} (ht : bc t = nn) : ∀ n : Nat, t < n → (loN S nn r n).2 < 1048576
  | 0, h0 => absurd h0 (by omega)
  | n + 1, h1 => by
    have hf := farS_r h n r
    by_cases e : t = n
    · subst e
      unfold loN
      split
      · dsimp only; omega
      · rename_i q
        by_cases z : farS S t r < (loN S nn r t).2
        · exact absurd ⟨ht, z⟩ q
        · omega
    · have ih := loN_found h nn r ht n (by omega)
      unfold loN
      split
      · dsimp only; omega
      · exact ih
theorem bcp_dec : ∀ n : Nat, n < 7 → bc ((2 ^ n - 1 : Nat) : Int) = n := by decide +kernel
theorem pw_cast (n : Nat) : (((2 : Nat) ^ n : Nat) : Int) = 2 ^ n := by simp
/-- all sets of the MEN, as a number -/
def allN (S : Rc) : Nat := 2 ^ (S.1 4).toNat
theorem allN_i (S : Rc) : (allN S : Int) = 2 ^ (S.1 4).toNat := pw_cast _
theorem allN_r {D : Int} {S : Rc} (h : okS D S) : 1 ≤ (allN S : Int) ∧ (allN S : Int) ≤ 64 := by
  rw [allN_i]
  have h4 := h.2.2.2.2.1
  exact p64 (by omega)
theorem loN_ok {D : Int} {S : Rc} (h : okS D S) {nn r : Int} (hn : 0 ≤ nn ∧ nn ≤ S.1 4) : (loN S nn r (allN S)).2 < 1048576 := by
  have h4 := h.2.2.2.2.1
  have hb := bcp_dec nn.toNat (by omega)
  rw [Int.toNat_of_nonneg hn.1] at hb
  refine loN_found h nn r hb (allN S) ?_
  have h1 : (2 : Nat) ^ nn.toNat ≤ 2 ^ (S.1 4).toNat := Nat.pow_le_pow_right (by decide) (by omega)
  have h2 : 0 < (2 : Nat) ^ nn.toNat := Nat.pow_pos (by decide)
  show 2 ^ nn.toNat - 1 < 2 ^ (S.1 4).toNat
  omega
/-- FEWEST of the sets below n -/
def feN (S : Rc) (e r : Int) : Nat → Int
  | 0 => -1
  | n + 1 => if (feN S e r n = -1 ∨ bc n < bc (feN S e r n)) ∧ errS S n r = e then (n : Int) else feN S e r n
theorem feN_r (S : Rc) (e r : Int) : ∀ n : Nat, -1 ≤ feN S e r n ∧ feN S e r n < n
  | 0 => by simp [feN]
  | n + 1 => by
    have := feN_r S e r n
    unfold feN
    split <;> omega
/-- who of the first n MEN is READ as x is -/
def alS (S : Rc) (r x : Int) : Nat → Int
  | 0 => 0
  | n + 1 => alS S r x n + if sgt S x r = sgt S n r then 2 ^ n else 0
theorem alS_r (S : Rc) (r x : Int) : ∀ n : Nat, 0 ≤ alS S r x n ∧ alS S r x n < 2 ^ n
  | 0 => by simp [alS]
  | n + 1 => by
    have ih := alS_r S r x n
    unfold alS
    rw [Int.pow_succ]
    split <;> omega
def moN (S : Rc) (r : Int) : Nat → Int
  | 0 => 0
  | n + 1 => if bc (moN S r n) < bc (alS S r n (S.1 4).toNat) then alS S r n (S.1 4).toNat else moN S r n
theorem moN_r {D : Int} {S : Rc} (h : okS D S) (r : Int) : ∀ n : Nat, 0 ≤ moN S r n ∧ moN S r n < 64
  | 0 => by simp [moN]
  | n + 1 => by
    have ih := moN_r h r n
    have h1 := alS_r S r n (S.1 4).toNat
    have h4 := h.2.2.2.2.1
    have h2 := p64 (n := (S.1 4).toNat) (by omega)
    unfold moN
    split <;> omega
def prI (i j : Int) : Int := bOr (bShl 1 i) (bShl 1 j)
theorem pr_dec : ∀ i : Nat, i < 6 → ∀ j : Nat, j < 6 → 0 ≤ prI i j ∧ prI i j < 64 := by decide +kernel
theorem prI_r {i j : Int} (hi : 0 ≤ i ∧ i < 6) (hj : 0 ≤ j ∧ j < 6) : 0 ≤ prI i j ∧ prI i j < 64 := by
  have := pr_dec i.toNat (by omega) j.toNat (by omega)
  rw [Int.toNat_of_nonneg hi.1, Int.toNat_of_nonneg hj.1] at this
  exact this
def frS (S : Rc) (r i j : Int) : Int := farS S (prI i j) r
def rsN (S : Rc) (r i j : Int) : Nat → Bool
  | 0 => true
  | n + 1 => rsN S r i j n && (decide (frS S r i j ≤ frS S r n j) && decide (ang S n ≤ ang S j))
theorem rsN_mono {S : Rc} {r i j : Int} {p b : Nat} (h : p ≤ b) (hb : rsN S r i j b = true) : rsN S r i j p = true := by
  induction b with
  | zero => rw [show p = 0 by omega]; rfl
  | succ b ih =>
    by_cases e : p = b + 1
    · rw [e]; exact hb
    · have : rsN S r i j b = true := by
        unfold rsN at hb
        simp only [Bool.and_eq_true] at hb
        exact hb.1
      exact ih (by omega) this
def rsB (S : Rc) (r i j : Int) : Bool := rsN S r i j (S.1 4).toNat
/-- pairs that rest: of MAN i, behind those counted, the first n of j -/
def rwC (S : Rc) (r i c : Int) : Nat → Int
  | 0 => c
  | n + 1 => rwC S r i c n + if rsB S r i n = true then 1 else 0
def ttC (S : Rc) (r : Int) : Nat → Int
  | 0 => 0
  | n + 1 => rwC S r n (ttC S r n) (S.1 4).toNat
/-- the k-th of them, t if there is none -/
def rwT (S : Rc) (r k i c t : Int) : Nat → Int
  | 0 => t
  | n + 1 => if rsB S r i n = true ∧ rwC S r i c n = k then 10 * i + n else rwT S r k i c t n
def ttT (S : Rc) (r k t : Int) : Nat → Int
  | 0 => t
  | n + 1 => rwT S r k n (ttC S r n) (ttT S r k t n) (S.1 4).toNat
theorem rwC_le (S : Rc) (r i c : Int) (n : Nat) : ∀ a : Nat, rwC S r i c n ≤ rwC S r i c (n + a) ∧ rwC S r i c (n + a) ≤ rwC S r i c n + a
  | 0 => by simp
  | a + 1 => by
    have ih := rwC_le S r i c n a
    show rwC S r i c n ≤ rwC S r i c ((n + a) + 1) ∧ rwC S r i c ((n + a) + 1) ≤ _
    have e : rwC S r i c ((n + a) + 1) = rwC S r i c (n + a) + if rsB S r i ((n + a : Nat) : Int) = true then 1 else 0 := rfl
    rw [e]
    split <;> omega
theorem rwC_r (S : Rc) (r i c : Int) (n : Nat) : c ≤ rwC S r i c n ∧ rwC S r i c n ≤ c + n := by
  have := rwC_le S r i c 0 n
  rw [Nat.zero_add] at this
  exact this
theorem ttC_r {D : Int} {S : Rc} (h : okS D S) (r : Int) : ∀ n : Nat, 0 ≤ ttC S r n ∧ ttC S r n ≤ 6 * (n : Int)
  | 0 => by simp [ttC]
  | n + 1 => by
    have ih := ttC_r h r n
    have h4 := h.2.2.2.2.1
    have := rwC_r S r n (ttC S r n) (S.1 4).toNat
    unfold ttC
    omega
theorem rwT_done {S : Rc} {r k i c t : Int} {n : Nat} (h : k < rwC S r i c n) : ∀ a : Nat, rwT S r k i c t (n + a) = rwT S r k i c t n
  | 0 => rfl
  | a + 1 => by
    have ih := rwT_done (t := t) h a
    have hc := rwC_le S r i c n a
    have e : rwT S r k i c t (n + (a + 1)) = if rsB S r i ((n + a : Nat) : Int) = true ∧ rwC S r i c (n + a) = k then 10 * i + ((n + a : Nat) : Int) else rwT S r k i c t (n + a) := rfl
    rw [e, if_neg (by omega), ih]
theorem ttT_done {S : Rc} {r k t : Int} {n : Nat} (h : k < ttC S r n) : ∀ a : Nat, ttT S r k t (n + a) = ttT S r k t n ∧ k < ttC S r (n + a)
  | 0 => ⟨rfl, h⟩
  | a + 1 => by
    have ih := ttT_done (t := t) h a
    have e : ttT S r k t (n + (a + 1)) = rwT S r k ((n + a : Nat) : Int) (ttC S r (n + a)) (ttT S r k t (n + a)) (S.1 4).toNat := rfl
    have e2 : ttC S r (n + (a + 1)) = rwC S r ((n + a : Nat) : Int) (ttC S r (n + a)) (S.1 4).toNat := rfl
    have hd := rwT_done (S := S) (r := r) (k := k) (i := ((n + a : Nat) : Int)) (c := ttC S r (n + a)) (t := ttT S r k t (n + a)) (n := 0) ih.2 (S.1 4).toNat
    rw [Nat.zero_add] at hd
    have hr := rwC_r S r ((n + a : Nat) : Int) (ttC S r (n + a)) (S.1 4).toNat
    rw [e, e2, hd]
    exact ⟨ih.1, by omega⟩
set_option maxHeartbeats 2000000 in
theorem lp_X_least {κ : Kx} {μ : MX} {Q : Option Value → (Heap → Prop) → Prop} {i : Nat} {m : Mem} {D : Int} (hi : i < 9) (hS : okS D (m 2 i)) (hD : D ≤ 100000) {nn r : Int} (hn6 : 0 ≤ nn ∧ nn ≤ (m 2 i).1 4) (hr : R32 r) (k : Q (some (vi (loN (m 2 i) nn r (allN (m 2 i))).1)) (World κ m)) (F : Fx κ G_X_leastOff 2 0 0 μ) :
    ∀ (n : Nat) (j : Nat) (x b f : Int), (allN (m 2 i) : Int) < j + n → (j : Int) ≤ allN (m 2 i) → x = j → ((b = -1 ∧ (loN (m 2 i) nn r j).2 = 1048576) ∨ (0 ≤ b ∧ b = (loN (m 2 i) nn r j).1 ∧ f = (loN (m 2 i) nn r j).2 ∧ f < 1048576)) →  GC κ μ (ZZ κ μ 0 0 Q) 0 0 8 [some (.ref (ad κ 2 i)), some (vi nn), some (vi r), some (vi b), some (vi f), some (vi x), none] [] (World κ m) := by
  obtain ⟨h0, h1, h2, h3, h4, h5, hfg, hkd, hsh, hgl⟩ := id hS
  have hall := allN_r hS
  have hali := allN_i (m 2 i)
  intro n
  induction n with
  | zero =>
    intro j x b f hn hj hx hbf
    exact absurd hn (by omega)
  | succ n ih =>
    intro j x b f hn hj hx hbf
    have hlf := loN_far hS nn r j
    have hfl := farS_r hS (loN (m 2 i) nn r j).1 r
    refine g_iload F a_X_leastOff_8 rfl ?_
    refine g_iconst F a_X_leastOff_10 ?_
    refine g_aload_n F a_X_leastOff_11 rfl ?_
    refine g_get_2_4 F a_X_leastOff_12 fl_X_9 (by first | assumption | decide | omega) ?_
    refine g_ishl F a_X_leastOff_15 ?_
    rw [shl_eq (by omega), ← hali]
    refine g_icmp_ge F (by first | omega | (have := bc_r (s := x) (by omega); omega) | (have := errS_r hS x r; omega) | (have := farS_r hS x r; omega)) (by first | omega | (have := bc_r (s := x) (by omega); omega) | (have := errS_r hS x r; omega) | (have := farS_r hS x r; omega)) a_X_leastOff_16 (fun h16 => ?_) (fun h16 => ?_)
    · refine g_iload_n F a_X_leastOff_65 rfl ?_
      refine g_iret F a_X_leastOff_66 rfl ⟨Nat.le_refl _, Nat.le_refl _⟩ ?_
      have hok := loN_ok hS (r := r) hn6
      obtain rfl : j = allN (m 2 i) := by omega
      exact qv k (by omega)
    · refine g_iload F a_X_leastOff_19 rfl ?_
      refine g_s1 F a_X_leastOff_21 sc_X_15 mk_J_bitCount rfl (by decide) ⟨Nat.le_refl _, Nat.le_refl _⟩ rfl (Nat.le_of_ble_eq_true rfl) (sp_J_bitCount (by omega) (GCr.v ?_))
      refine g_iload_n F a_X_leastOff_24 rfl ?_
      refine g_icmp_ne F (by first | omega | (have := bc_r (s := x) (by omega); omega) | (have := errS_r hS x r; omega) | (have := farS_r hS x r; omega)) (by first | omega | (have := bc_r (s := x) (by omega); omega) | (have := errS_r hS x r; omega) | (have := farS_r hS x r; omega)) a_X_leastOff_25 (fun h25 => ?_) (fun h25 => ?_)
      · refine g_iinc (ls' := [_, _, _, _, _, _, _]) F a_X_leastOff_59 rfl rfl rfl ?_
        refine g_goto F a_X_leastOff_62 ?_
        refine GC.loc2 (ih (j + 1) _ _ _ (by omega) (by omega) (by omega) ?_) ⟨rfl, rfl, rfl, rfl, rfl, rfl, trivial⟩
        unfold loN
        rw [if_neg (by rw [← hx]; exact fun q => h25 q.1)]
        exact hbf
      · refine g_aload_n F a_X_leastOff_28 rfl ?_
        refine g_iload F a_X_leastOff_29 rfl ?_
        refine g_iload_n F a_X_leastOff_31 rfl ?_
        refine g_v2 F a_X_leastOff_32 vc_X_21 mk_H_errorOf (ob_2 (by first | assumption | decide | omega)) ck_2.1 rfl rfl (by decide) ⟨Nat.le_refl _, Nat.le_refl _⟩ rfl (Nat.le_of_ble_eq_true rfl) (sp_H_errorOf hi hS hD (by omega) (by omega) (GCr.v ?_))
        refine g_s1 F a_X_leastOff_35 sc_X_25 mk_J_abs rfl (by decide) ⟨Nat.le_refl _, Nat.le_refl _⟩ rfl (Nat.le_of_ble_eq_true rfl) (sp_J_abs (by first | omega | (have := errS_r hS x r; omega)) (GCr.v ?_))
        refine g_istore (ls' := [_, _, _, _, _, _, _]) F a_X_leastOff_38 rfl rfl rfl ?_
        refine g_iload_n F a_X_leastOff_40 rfl ?_
        refine g_iconst F a_X_leastOff_41 ?_
        refine g_icmp_eq F (by first | omega | (have := bc_r (s := x) (by omega); omega) | (have := errS_r hS x r; omega) | (have := farS_r hS x r; omega)) (by first | omega | (have := bc_r (s := x) (by omega); omega) | (have := errS_r hS x r; omega) | (have := farS_r hS x r; omega)) a_X_leastOff_42 (fun h42 => ?_) (fun h42 => ?_)
        · refine g_iload F a_X_leastOff_52 rfl ?_
          refine g_istore_n (ls' := [_, _, _, _, _, _, _]) F a_X_leastOff_54 rfl rfl rfl ?_
          refine g_iload F a_X_leastOff_55 rfl ?_
          refine g_istore (ls' := [_, _, _, _, _, _, _]) F a_X_leastOff_57 rfl rfl rfl ?_
          refine g_iinc (ls' := [_, _, _, _, _, _, _]) F a_X_leastOff_59 rfl rfl rfl ?_
          refine g_goto F a_X_leastOff_62 ?_
          refine GC.loc2 (ih (j + 1) _ _ _ (by omega) (by omega) (by omega) ?_) ⟨rfl, rfl, rfl, rfl, rfl, rfl, trivial⟩
          have hfr := farS_r hS x r
          unfold loN
          rw [if_pos (by rw [← hx]; exact ⟨h25, by omega⟩)]
          right
          dsimp only
          rw [← hx]
          exact ⟨by omega, rfl, rfl, by show farS _ _ _ < _; omega⟩
        · refine g_iload F a_X_leastOff_45 rfl ?_
          refine g_iload F a_X_leastOff_47 rfl ?_
          refine g_icmp_ge F (by first | omega | (have := bc_r (s := x) (by omega); omega) | (have := errS_r hS x r; omega) | (have := farS_r hS x r; omega)) (by first | omega | (have := bc_r (s := x) (by omega); omega) | (have := errS_r hS x r; omega) | (have := farS_r hS x r; omega)) a_X_leastOff_49 (fun h49 => ?_) (fun h49 => ?_)
          · refine g_iinc (ls' := [_, _, _, _, _, _, _]) F a_X_leastOff_59 rfl rfl rfl ?_
            refine g_goto F a_X_leastOff_62 ?_
            refine GC.loc2 (ih (j + 1) _ _ _ (by omega) (by omega) (by omega) ?_) ⟨rfl, rfl, rfl, rfl, rfl, rfl, trivial⟩
            unfold loN
            rw [if_neg (by rw [← hx]; exact fun q => absurd q.2 (by have h49' : f ≤ farS (m 2 i) x r := h49; omega))]
            exact hbf
          · refine g_iload F a_X_leastOff_52 rfl ?_
            refine g_istore_n (ls' := [_, _, _, _, _, _, _]) F a_X_leastOff_54 rfl rfl rfl ?_
            refine g_iload F a_X_leastOff_55 rfl ?_
            refine g_istore (ls' := [_, _, _, _, _, _, _]) F a_X_leastOff_57 rfl rfl rfl ?_
            refine g_iinc (ls' := [_, _, _, _, _, _, _]) F a_X_leastOff_59 rfl rfl rfl ?_
            refine g_goto F a_X_leastOff_62 ?_
            refine GC.loc2 (ih (j + 1) _ _ _ (by omega) (by omega) (by omega) ?_) ⟨rfl, rfl, rfl, rfl, rfl, rfl, trivial⟩
            have hfr := farS_r hS x r
            have h49' : farS (m 2 i) x r < f := h49
            unfold loN
            rw [if_pos (by rw [← hx]; exact ⟨h25, by omega⟩)]
            right
            dsimp only
            rw [← hx]
            exact ⟨by omega, rfl, rfl, by show farS _ _ _ < _; omega⟩
set_option maxHeartbeats 1000000 in
theorem sp_X_leastOff {κ : Kx} {Q : Option Value → (Heap → Prop) → Prop} {i : Nat} {m : Mem} {D : Int} (hi : i < 9) (hS : okS D (m 2 i)) (hD : D ≤ 100000) {nn r : Int} (hn6 : 0 ≤ nn ∧ nn ≤ (m 2 i).1 4) (hr : R32 r) (k : Q (some (vi (loN (m 2 i) nn r (allN (m 2 i))).1)) (World κ m)) : GG κ G_X_leastOff 2 0 0 [.ref (ad κ 2 i), vi nn, vi r] (World κ m) Q := by
  obtain ⟨h0, h1, h2, h3, h4, h5, hfg, hkd, hsh, hgl⟩ := id hS
  have hall := allN_r hS
  have hali := allN_i (m 2 i)
  refine GG.intro (ls := [some _, some _, some _, none, none, none, none]) (Nat.le_of_ble_eq_true rfl) rfl (fun μ F => ?_)
  refine g_iconst F a_X_leastOff_0 ?_
  refine g_istore_n (ls' := [_, _, _, _, _, _, _]) F a_X_leastOff_1 rfl rfl rfl ?_
  refine g_iconst F a_X_leastOff_2 ?_
  refine g_istore (ls' := [_, _, _, _, _, _, _]) F a_X_leastOff_3 rfl rfl rfl ?_
  refine g_iconst F a_X_leastOff_5 ?_
  refine g_istore (ls' := [_, _, _, _, _, _, _]) F a_X_leastOff_6 rfl rfl rfl ?_
  exact GC.loc2 (lp_X_least hi hS hD hn6 hr k F (allN (m 2 i) + 1) 0 _ _ _ (by omega) (by omega) rfl (Or.inl ⟨rfl, rfl⟩)) ⟨rfl, rfl, rfl, rfl, rfl, rfl, trivial⟩
set_option maxHeartbeats 2000000 in
theorem lp_X_fewest {κ : Kx} {μ : MX} {Q : Option Value → (Heap → Prop) → Prop} {i : Nat} {m : Mem} {D : Int} (hi : i < 9) (hS : okS D (m 2 i)) (hD : D ≤ 100000) {e r : Int} (he : R32 e) (hr : R32 r) (k : Q (some (vi (feN (m 2 i) e r (allN (m 2 i))))) (World κ m)) (F : Fx κ G_X_fewestOff 2 0 0 μ) :
    ∀ (n : Nat) (j : Nat) (x b : Int), (allN (m 2 i) : Int) < j + n → (j : Int) ≤ allN (m 2 i) → x = j → b = feN (m 2 i) e r j →  GC κ μ (ZZ κ μ 0 0 Q) 0 0 5 [some (.ref (ad κ 2 i)), some (vi e), some (vi r), some (vi b), some (vi x), none] [] (World κ m) := by
  obtain ⟨h0, h1, h2, h3, h4, h5, hfg, hkd, hsh, hgl⟩ := id hS
  have hall := allN_r hS
  have hali := allN_i (m 2 i)
  intro n
  induction n with
  | zero =>
    intro j x b hn hj hx hb
    exact absurd hn (by omega)
  | succ n ih =>
    intro j x b hn hj hx hb
    have hfe := feN_r (m 2 i) e r j
    refine g_iload F a_X_fewestOff_5 rfl ?_
    refine g_iconst F a_X_fewestOff_7 ?_
    refine g_aload_n F a_X_fewestOff_8 rfl ?_
    refine g_get_2_4 F a_X_fewestOff_9 fl_X_9 (by first | assumption | decide | omega) ?_
    refine g_ishl F a_X_fewestOff_12 ?_
    rw [shl_eq (by omega), ← hali]
    refine g_icmp_ge F (by first | omega | (have := bc_r (s := x) (by omega); omega) | (have := bc_r (s := b) (by omega); omega) | (have := errS_r hS x r; omega)) (by first | omega | (have := bc_r (s := x) (by omega); omega) | (have := bc_r (s := b) (by omega); omega) | (have := errS_r hS x r; omega)) a_X_fewestOff_13 (fun h13 => ?_) (fun h13 => ?_)
    · refine g_iload_n F a_X_fewestOff_65 rfl ?_
      refine g_iret F a_X_fewestOff_66 rfl ⟨Nat.le_refl _, Nat.le_refl _⟩ ?_
      obtain rfl : j = allN (m 2 i) := by omega
      exact qv k hb
    · refine g_iload_n F a_X_fewestOff_16 rfl ?_
      refine g_iconst F a_X_fewestOff_17 ?_
      refine g_icmp_eq F (by first | omega | (have := bc_r (s := x) (by omega); omega) | (have := bc_r (s := b) (by omega); omega) | (have := errS_r hS x r; omega)) (by first | omega | (have := bc_r (s := x) (by omega); omega) | (have := bc_r (s := b) (by omega); omega) | (have := errS_r hS x r; omega)) a_X_fewestOff_18 (fun h18 => ?_) (fun h18 => ?_)
      · refine g_iconst F a_X_fewestOff_33 ?_
        refine g_goto F a_X_fewestOff_34 ?_
        refine g_istore (ls' := [_, _, _, _, _, _]) F a_X_fewestOff_38 rfl rfl rfl ?_
        refine g_iload F a_X_fewestOff_40 rfl ?_
        refine g_ifeq1 F a_X_fewestOff_42 ?_
        refine g_aload_n F a_X_fewestOff_45 rfl ?_
        refine g_iload F a_X_fewestOff_46 rfl ?_
        refine g_iload_n F a_X_fewestOff_48 rfl ?_
        refine g_v2 F a_X_fewestOff_49 vc_X_21 mk_H_errorOf (ob_2 (by first | assumption | decide | omega)) ck_2.1 rfl rfl (by decide) ⟨Nat.le_refl _, Nat.le_refl _⟩ rfl (Nat.le_of_ble_eq_true rfl) (sp_H_errorOf hi hS hD (by omega) (by omega) (GCr.v ?_))
        refine g_iload_n F a_X_fewestOff_52 rfl ?_
        refine g_icmp_ne F (by first | omega | (have := bc_r (s := x) (by omega); omega) | (have := bc_r (s := b) (by omega); omega) | (have := errS_r hS x r; omega)) (by first | omega | (have := bc_r (s := x) (by omega); omega) | (have := bc_r (s := b) (by omega); omega) | (have := errS_r hS x r; omega)) a_X_fewestOff_53 (fun h53 => ?_) (fun h53 => ?_)
        · refine g_iinc (ls' := [_, _, _, _, _, _]) F a_X_fewestOff_59 rfl rfl rfl ?_
          refine g_goto F a_X_fewestOff_62 ?_
          exact GC.loc2 (ih (j + 1) _ _ (by omega) (by omega) (by omega) (by unfold feN; rw [if_neg (by rw [← hx]; exact fun q => h53 q.2)]; exact hb)) ⟨rfl, rfl, rfl, rfl, rfl, trivial⟩
        · refine g_iload F a_X_fewestOff_56 rfl ?_
          refine g_istore_n (ls' := [_, _, _, _, _, _]) F a_X_fewestOff_58 rfl rfl rfl ?_
          refine g_iinc (ls' := [_, _, _, _, _, _]) F a_X_fewestOff_59 rfl rfl rfl ?_
          refine g_goto F a_X_fewestOff_62 ?_
          exact GC.loc2 (ih (j + 1) _ _ (by omega) (by omega) (by omega) (by unfold feN; rw [if_pos (by rw [← hx, ← hb]; exact ⟨Or.inl h18, h53⟩)]; omega)) ⟨rfl, rfl, rfl, rfl, rfl, trivial⟩
      · refine g_iload F a_X_fewestOff_21 rfl ?_
        refine g_s1 F a_X_fewestOff_23 sc_X_15 mk_J_bitCount rfl (by decide) ⟨Nat.le_refl _, Nat.le_refl _⟩ rfl (Nat.le_of_ble_eq_true rfl) (sp_J_bitCount (by omega) (GCr.v ?_))
        refine g_iload_n F a_X_fewestOff_26 rfl ?_
        refine g_s1 F a_X_fewestOff_27 sc_X_15 mk_J_bitCount rfl (by decide) ⟨Nat.le_refl _, Nat.le_refl _⟩ rfl (Nat.le_of_ble_eq_true rfl) (sp_J_bitCount (by omega) (GCr.v ?_))
        refine g_icmp_ge F (by first | omega | (have := bc_r (s := x) (by omega); omega) | (have := bc_r (s := b) (by omega); omega) | (have := errS_r hS x r; omega)) (by first | omega | (have := bc_r (s := x) (by omega); omega) | (have := bc_r (s := b) (by omega); omega) | (have := errS_r hS x r; omega)) a_X_fewestOff_30 (fun h30 => ?_) (fun h30 => ?_)
        · refine g_iconst F a_X_fewestOff_37 ?_
          refine g_istore (ls' := [_, _, _, _, _, _]) F a_X_fewestOff_38 rfl rfl rfl ?_
          refine g_iload F a_X_fewestOff_40 rfl ?_
          refine g_ifeq0 F a_X_fewestOff_42 ?_
          refine g_iinc (ls' := [_, _, _, _, _, _]) F a_X_fewestOff_59 rfl rfl rfl ?_
          refine g_goto F a_X_fewestOff_62 ?_
          exact GC.loc2 (ih (j + 1) _ _ (by omega) (by omega) (by omega) (by unfold feN; rw [if_neg (by rw [← hx, ← hb]; exact fun q => q.1.elim h18 (fun z => absurd z (by omega)))]; exact hb)) ⟨rfl, rfl, rfl, rfl, rfl, trivial⟩
        · refine g_iconst F a_X_fewestOff_33 ?_
          refine g_goto F a_X_fewestOff_34 ?_
          refine g_istore (ls' := [_, _, _, _, _, _]) F a_X_fewestOff_38 rfl rfl rfl ?_
          refine g_iload F a_X_fewestOff_40 rfl ?_
          refine g_ifeq1 F a_X_fewestOff_42 ?_
          refine g_aload_n F a_X_fewestOff_45 rfl ?_
          refine g_iload F a_X_fewestOff_46 rfl ?_
          refine g_iload_n F a_X_fewestOff_48 rfl ?_
          refine g_v2 F a_X_fewestOff_49 vc_X_21 mk_H_errorOf (ob_2 (by first | assumption | decide | omega)) ck_2.1 rfl rfl (by decide) ⟨Nat.le_refl _, Nat.le_refl _⟩ rfl (Nat.le_of_ble_eq_true rfl) (sp_H_errorOf hi hS hD (by omega) (by omega) (GCr.v ?_))
          refine g_iload_n F a_X_fewestOff_52 rfl ?_
          refine g_icmp_ne F (by first | omega | (have := bc_r (s := x) (by omega); omega) | (have := bc_r (s := b) (by omega); omega) | (have := errS_r hS x r; omega)) (by first | omega | (have := bc_r (s := x) (by omega); omega) | (have := bc_r (s := b) (by omega); omega) | (have := errS_r hS x r; omega)) a_X_fewestOff_53 (fun h53 => ?_) (fun h53 => ?_)
          · refine g_iinc (ls' := [_, _, _, _, _, _]) F a_X_fewestOff_59 rfl rfl rfl ?_
            refine g_goto F a_X_fewestOff_62 ?_
            exact GC.loc2 (ih (j + 1) _ _ (by omega) (by omega) (by omega) (by unfold feN; rw [if_neg (by rw [← hx]; exact fun q => h53 q.2)]; exact hb)) ⟨rfl, rfl, rfl, rfl, rfl, trivial⟩
          · refine g_iload F a_X_fewestOff_56 rfl ?_
            refine g_istore_n (ls' := [_, _, _, _, _, _]) F a_X_fewestOff_58 rfl rfl rfl ?_
            refine g_iinc (ls' := [_, _, _, _, _, _]) F a_X_fewestOff_59 rfl rfl rfl ?_
            refine g_goto F a_X_fewestOff_62 ?_
            exact GC.loc2 (ih (j + 1) _ _ (by omega) (by omega) (by omega) (by unfold feN; rw [if_pos (by rw [← hx, ← hb]; exact ⟨Or.inr h30, h53⟩)]; omega)) ⟨rfl, rfl, rfl, rfl, rfl, trivial⟩
set_option maxHeartbeats 1000000 in
theorem sp_X_fewestOff {κ : Kx} {Q : Option Value → (Heap → Prop) → Prop} {i : Nat} {m : Mem} {D : Int} (hi : i < 9) (hS : okS D (m 2 i)) (hD : D ≤ 100000) {e r : Int} (he : R32 e) (hr : R32 r) (k : Q (some (vi (feN (m 2 i) e r (allN (m 2 i))))) (World κ m)) : GG κ G_X_fewestOff 2 0 0 [.ref (ad κ 2 i), vi e, vi r] (World κ m) Q := by
  obtain ⟨h0, h1, h2, h3, h4, h5, hfg, hkd, hsh, hgl⟩ := id hS
  have hall := allN_r hS
  have hali := allN_i (m 2 i)
  refine GG.intro (ls := [some _, some _, some _, none, none, none]) (Nat.le_of_ble_eq_true rfl) rfl (fun μ F => ?_)
  refine g_iconst F a_X_fewestOff_0 ?_
  refine g_istore_n (ls' := [_, _, _, _, _, _]) F a_X_fewestOff_1 rfl rfl rfl ?_
  refine g_iconst F a_X_fewestOff_2 ?_
  refine g_istore (ls' := [_, _, _, _, _, _]) F a_X_fewestOff_3 rfl rfl rfl ?_
  exact GC.loc2 (lp_X_fewest hi hS hD he hr k F (allN (m 2 i) + 1) 0 _ _ (by omega) (by omega) rfl rfl) ⟨rfl, rfl, rfl, rfl, rfl, trivial⟩
set_option maxHeartbeats 2000000 in
theorem lp_X_most2 {κ : Kx} {μ : MX} {Q : Option Value → (Heap → Prop) → Prop} {i : Nat} {m : Mem} {D : Int} (hi : i < 9) (hS : okS D (m 2 i)) (hD : D ≤ 100000) {r : Int} (hr : 0 ≤ r ∧ r < (m 2 i).1 5) {q0 o : Int} {jo : Nat} (ho : o = jo ∧ (jo : Int) < (m 2 i).1 4) (kk : ∀ q1 x : Int, q1 = alS (m 2 i) r jo ((m 2 i).1 4).toNat → GC κ μ (ZZ κ μ 0 0 Q) 0 0 58 [some (.ref (ad κ 2 i)), some (vi r), some (vi q0), some (vi o), some (vi q1), some (vi x)] [] (World κ m)) (F : Fx κ G_X_mostAlike 3 0 0 μ) :
    ∀ (n : Nat) (j : Nat) (x q1 : Int), (m 2 i).1 4 < j + n → (j : Int) ≤ (m 2 i).1 4 → x = j → q1 = alS (m 2 i) r jo j →  GC κ μ (ZZ κ μ 0 0 Q) 0 0 18 [some (.ref (ad κ 2 i)), some (vi r), some (vi q0), some (vi o), some (vi q1), some (vi x)] [] (World κ m) := by
  obtain ⟨h0, h1, h2, h3, h4, h5, hfg, hkd, hsh, hgl⟩ := id hS
  have hall := allN_r hS
  have hali := allN_i (m 2 i)
  intro n
  induction n with
  | zero =>
    intro j x q1 hn hj hx hq1
    exact absurd hn (by omega)
  | succ n ih =>
    intro j x q1 hn hj hx hq1
    have hal := alS_r (m 2 i) r jo j
    refine g_iload F a_X_mostAlike_18 rfl ?_
    refine g_aload_n F a_X_mostAlike_20 rfl ?_
    refine g_get_2_4 F a_X_mostAlike_21 fl_X_9 (by first | assumption | decide | omega) ?_
    refine g_icmp_ge F (by first | omega | (have := p64 (n := j) (by omega); omega) | exact bOr_r _ _ | (have := sgt_r hS (x := x) (r := r) (by omega); omega) | (have := sgt_r hS (x := o) (r := r) (by omega); omega)) (by first | omega | (have := p64 (n := j) (by omega); omega) | exact bOr_r _ _ | (have := sgt_r hS (x := x) (r := r) (by omega); omega) | (have := sgt_r hS (x := o) (r := r) (by omega); omega)) a_X_mostAlike_24 (fun h24 => ?_) (fun h24 => ?_)
    · refine GC.loc2 (kk q1 x ?_) ⟨rfl, rfl, rfl, rfl, rfl, rfl, trivial⟩
      rw [hq1, show ((m 2 i).1 4).toNat = j by omega]
    · refine g_aload_n F a_X_mostAlike_27 rfl ?_
      refine g_iload_n F a_X_mostAlike_28 rfl ?_
      refine g_iload_n F a_X_mostAlike_29 rfl ?_
      refine g_v2 F a_X_mostAlike_30 vc_X_30 mk_H_sightOf (ob_2 (by first | assumption | decide | omega)) ck_2.1 rfl rfl (by decide) ⟨Nat.le_refl _, Nat.le_refl _⟩ rfl (Nat.le_of_ble_eq_true rfl) (sp_H_sightOf hi hS hD (by omega) (by omega) (GCr.v ?_))
      refine g_aload_n F a_X_mostAlike_33 rfl ?_
      refine g_iload F a_X_mostAlike_34 rfl ?_
      refine g_iload_n F a_X_mostAlike_36 rfl ?_
      refine g_v2 F a_X_mostAlike_37 vc_X_30 mk_H_sightOf (ob_2 (by first | assumption | decide | omega)) ck_2.1 rfl rfl (by decide) ⟨Nat.le_refl _, Nat.le_refl _⟩ rfl (Nat.le_of_ble_eq_true rfl) (sp_H_sightOf hi hS hD (by omega) (by omega) (GCr.v ?_))
      refine g_icmp_ne F (by first | omega | (have := p64 (n := j) (by omega); omega) | exact bOr_r _ _ | (have := sgt_r hS (x := x) (r := r) (by omega); omega) | (have := sgt_r hS (x := o) (r := r) (by omega); omega)) (by first | omega | (have := p64 (n := j) (by omega); omega) | exact bOr_r _ _ | (have := sgt_r hS (x := x) (r := r) (by omega); omega) | (have := sgt_r hS (x := o) (r := r) (by omega); omega)) a_X_mostAlike_40 (fun h40 => ?_) (fun h40 => ?_)
      · refine g_iinc (ls' := [_, _, _, _, _, _]) F a_X_mostAlike_52 rfl rfl rfl ?_
        refine g_goto F a_X_mostAlike_55 ?_
        have h40' := h40
        rw [if_pos hr, if_pos hr] at h40'
        refine GC.loc2 (ih (j + 1) _ _ (by omega) (by omega) (by omega) ?_) ⟨rfl, rfl, rfl, rfl, rfl, rfl, trivial⟩
        unfold alS
        rw [if_neg (by rw [← hx, ← ho.1]; exact h40')]
        omega
      · refine g_iload F a_X_mostAlike_43 rfl ?_
        refine g_iconst F a_X_mostAlike_45 ?_
        refine g_iload F a_X_mostAlike_46 rfl ?_
        refine g_ishl F a_X_mostAlike_48 ?_
        refine g_ior F a_X_mostAlike_49 ?_
        refine g_istore (ls' := [_, _, _, _, _, _]) F a_X_mostAlike_50 rfl rfl rfl ?_
        refine g_iinc (ls' := [_, _, _, _, _, _]) F a_X_mostAlike_52 rfl rfl rfl ?_
        refine g_goto F a_X_mostAlike_55 ?_
        have h40' := h40
        rw [if_pos hr, if_pos hr] at h40'
        refine GC.loc2 (ih (j + 1) _ _ (by omega) (by omega) (by omega) ?_) ⟨rfl, rfl, rfl, rfl, rfl, rfl, trivial⟩
        unfold alS
        rw [if_pos (by rw [← hx, ← ho.1]; exact h40'), hq1, shl_n (by omega) hx, orp (by omega) hal]
set_option maxHeartbeats 2000000 in
theorem lp_X_most {κ : Kx} {μ : MX} {Q : Option Value → (Heap → Prop) → Prop} {i : Nat} {m : Mem} {D : Int} (hi : i < 9) (hS : okS D (m 2 i)) (hD : D ≤ 100000) {r : Int} (hr : 0 ≤ r ∧ r < (m 2 i).1 5) (k : Q (some (vi (moN (m 2 i) r ((m 2 i).1 4).toNat))) (World κ m)) (F : Fx κ G_X_mostAlike 3 0 0 μ) :
    ∀ (n : Nat) (j : Nat) (o q0 : Int), (m 2 i).1 4 < j + n → (j : Int) ≤ (m 2 i).1 4 → o = j → q0 = moN (m 2 i) r j →  GC κ μ (ZZ κ μ 0 0 Q) 0 0 4 [some (.ref (ad κ 2 i)), some (vi r), some (vi q0), some (vi o), none, none] [] (World κ m) := by
  obtain ⟨h0, h1, h2, h3, h4, h5, hfg, hkd, hsh, hgl⟩ := id hS
  have hall := allN_r hS
  have hali := allN_i (m 2 i)
  intro n
  induction n with
  | zero =>
    intro j o q0 hn hj ho hq0
    exact absurd hn (by omega)
  | succ n ih =>
    intro j o q0 hn hj ho hq0
    refine g_iload_n F a_X_mostAlike_4 rfl ?_
    refine g_aload_n F a_X_mostAlike_5 rfl ?_
    refine g_get_2_4 F a_X_mostAlike_6 fl_X_9 (by first | assumption | decide | omega) ?_
    refine g_icmp_ge F (by first | omega) (by first | omega) a_X_mostAlike_9 (fun h9 => ?_) (fun h9 => ?_)
    · refine g_iload_n F a_X_mostAlike_79 rfl ?_
      refine g_iret F a_X_mostAlike_80 rfl ⟨Nat.le_refl _, Nat.le_refl _⟩ ?_
      exact qv k (by rw [hq0, show ((m 2 i).1 4).toNat = j by omega])
    · refine g_iconst F a_X_mostAlike_12 ?_
      refine g_istore (ls' := [_, _, _, _, _, _]) F a_X_mostAlike_13 rfl rfl rfl ?_
      refine g_iconst F a_X_mostAlike_15 ?_
      refine g_istore (ls' := [_, _, _, _, _, _]) F a_X_mostAlike_16 rfl rfl rfl ?_
      refine GC.loc2 (lp_X_most2 hi hS hD hr ⟨ho, by omega⟩ (fun q1 x hq1 => ?_) F 7 0 _ _ (by omega) (by omega) rfl rfl) ⟨rfl, rfl, rfl, rfl, rfl, rfl, trivial⟩
      have hal := alS_r (m 2 i) r j ((m 2 i).1 4).toNat
      have hpm := p64 (n := ((m 2 i).1 4).toNat) (by omega)
      have hmo := moN_r hS r j
      refine g_iload F a_X_mostAlike_58 rfl ?_
      refine g_s1 F a_X_mostAlike_60 sc_X_15 mk_J_bitCount rfl (by decide) ⟨Nat.le_refl _, Nat.le_refl _⟩ rfl (Nat.le_of_ble_eq_true rfl) (sp_J_bitCount (by omega) (GCr.v ?_))
      refine g_iload_n F a_X_mostAlike_63 rfl ?_
      refine g_s1 F a_X_mostAlike_64 sc_X_15 mk_J_bitCount rfl (by decide) ⟨Nat.le_refl _, Nat.le_refl _⟩ rfl (Nat.le_of_ble_eq_true rfl) (sp_J_bitCount (by omega) (GCr.v ?_))
      refine g_icmp_le F (by first | omega | (have := bc_r (s := q0) (by omega); omega) | (have := bc_r (s := q1) (by omega); omega)) (by first | omega | (have := bc_r (s := q0) (by omega); omega) | (have := bc_r (s := q1) (by omega); omega)) a_X_mostAlike_67 (fun h67 => ?_) (fun h67 => ?_)
      · refine g_iinc (ls' := [_, _, _, _, _, _]) F a_X_mostAlike_73 rfl rfl rfl ?_
        refine g_goto F a_X_mostAlike_76 ?_
        refine GC.loc2 (ih (j + 1) _ _ (by omega) (by omega) (by omega) ?_) ⟨rfl, rfl, rfl, rfl, trivial⟩
        unfold moN
        rw [← hq1, ← hq0]
        first | rw [if_pos (by omega)] | rw [if_neg (by omega)]
      · refine g_iload F a_X_mostAlike_70 rfl ?_
        refine g_istore_n (ls' := [_, _, _, _, _, _]) F a_X_mostAlike_72 rfl rfl rfl ?_
        refine g_iinc (ls' := [_, _, _, _, _, _]) F a_X_mostAlike_73 rfl rfl rfl ?_
        refine g_goto F a_X_mostAlike_76 ?_
        refine GC.loc2 (ih (j + 1) _ _ (by omega) (by omega) (by omega) ?_) ⟨rfl, rfl, rfl, rfl, trivial⟩
        unfold moN
        rw [← hq1, ← hq0]
        first | rw [if_pos (by omega)] | rw [if_neg (by omega)]
set_option maxHeartbeats 1000000 in
theorem sp_X_mostAlike {κ : Kx} {Q : Option Value → (Heap → Prop) → Prop} {i : Nat} {m : Mem} {D : Int} (hi : i < 9) (hS : okS D (m 2 i)) (hD : D ≤ 100000) {r : Int} (hr : 0 ≤ r ∧ r < (m 2 i).1 5) (k : Q (some (vi (moN (m 2 i) r ((m 2 i).1 4).toNat))) (World κ m)) : GG κ G_X_mostAlike 3 0 0 [.ref (ad κ 2 i), vi r] (World κ m) Q := by
  obtain ⟨h0, h1, h2, h3, h4, h5, hfg, hkd, hsh, hgl⟩ := id hS
  have hall := allN_r hS
  have hali := allN_i (m 2 i)
  refine GG.intro (ls := [some _, some _, none, none, none, none]) (Nat.le_of_ble_eq_true rfl) rfl (fun μ F => ?_)
  refine g_iconst F a_X_mostAlike_0 ?_
  refine g_istore_n (ls' := [_, _, _, _, _, _]) F a_X_mostAlike_1 rfl rfl rfl ?_
  refine g_iconst F a_X_mostAlike_2 ?_
  refine g_istore_n (ls' := [_, _, _, _, _, _]) F a_X_mostAlike_3 rfl rfl rfl ?_
  exact GC.loc2 (lp_X_most hi hS hD hr k F 7 0 0 0 (by omega) (by omega) rfl rfl) ⟨rfl, rfl, rfl, rfl, trivial⟩
set_option maxHeartbeats 1000000 in
theorem sp_X_farOff {κ : Kx} {Q : Option Value → (Heap → Prop) → Prop} {i : Nat} {m : Mem} {D : Int} (hi : i < 9) (hS : okS D (m 2 i)) (hD : D ≤ 100000) {r a b : Int} (ha : 0 ≤ a ∧ a < 6) (hb : 0 ≤ b ∧ b < 6) (hr : R32 r) (k : Q (some (vi (frS (m 2 i) r a b))) (World κ m)) : GG κ G_X_farOff 2 0 0 [.ref (ad κ 2 i), vi r, vi a, vi b] (World κ m) Q := by
  obtain ⟨h0, h1, h2, h3, h4, h5, hfg, hkd, hsh, hgl⟩ := id hS
  have hall := allN_r hS
  have hali := allN_i (m 2 i)
  refine GG.intro (ls := [some _, some _, some _, some _]) (Nat.le_of_ble_eq_true rfl) rfl (fun μ F => ?_)
  refine g_aload_n F a_X_farOff_0 rfl ?_
  refine g_iconst F a_X_farOff_1 ?_
  refine g_iload_n F a_X_farOff_2 rfl ?_
  refine g_ishl F a_X_farOff_3 ?_
  refine g_iconst F a_X_farOff_4 ?_
  refine g_iload_n F a_X_farOff_5 rfl ?_
  refine g_ishl F a_X_farOff_6 ?_
  refine g_ior F a_X_farOff_7 ?_
  refine g_iload_n F a_X_farOff_8 rfl ?_
  refine g_v2 F a_X_farOff_9 vc_X_21 mk_H_errorOf (ob_2 (by first | assumption | decide | omega)) ck_2.1 rfl rfl (by decide) ⟨Nat.le_refl _, Nat.le_refl _⟩ rfl (Nat.le_of_ble_eq_true rfl) (sp_H_errorOf hi hS hD (prI_r ha hb) (by omega) (GCr.v ?_))
  refine g_s1 F a_X_farOff_12 sc_X_25 mk_J_abs rfl (by decide) ⟨Nat.le_refl _, Nat.le_refl _⟩ rfl (Nat.le_of_ble_eq_true rfl) (sp_J_abs (by have := errS_r hS (bOr (bShl 1 a) (bShl 1 b)) r; omega) (GCr.v ?_))
  refine g_iret F a_X_farOff_15 rfl ⟨Nat.le_refl _, Nat.le_refl _⟩ ?_
  exact k
set_option maxHeartbeats 2000000 in
theorem lp_X_rests {κ : Kx} {μ : MX} {Q : Option Value → (Heap → Prop) → Prop} {i : Nat} {m : Mem} {D : Int} (hi : i < 9) (hS : okS D (m 2 i)) (hD : D ≤ 100000) {r a b g f : Int} (ha : 0 ≤ a ∧ a < (m 2 i).1 4) (hb : 0 ≤ b ∧ b < (m 2 i).1 4) (hr : R32 r) (hf : f = frS (m 2 i) r a b) (hg : g = ang (m 2 i) b) (k1 : rsB (m 2 i) r a b = true → Q (some (vi 1)) (World κ m)) (k0 : rsB (m 2 i) r a b = false → Q (some (vi 0)) (World κ m)) (F : Fx κ G_X_rests 3 0 0 μ) :
    ∀ (n : Nat) (j : Nat) (x : Int), (m 2 i).1 4 < j + n → (j : Int) ≤ (m 2 i).1 4 → x = j → rsN (m 2 i) r a b j = true →  GC κ μ (ZZ κ μ 0 0 Q) 0 0 19 [some (.ref (ad κ 2 i)), some (vi r), some (vi a), some (vi b), some (vi f), some (vi g), some (vi x)] [] (World κ m) := by
  obtain ⟨h0, h1, h2, h3, h4, h5, hfg, hkd, hsh, hgl⟩ := id hS
  have hall := allN_r hS
  have hali := allN_i (m 2 i)
  have har := ang_r hS (x := b) (by omega)
  have hfr := farS_r hS (prI a b) r
  intro n
  induction n with
  | zero =>
    intro j x hn hj hx hq
    exact absurd hn (by omega)
  | succ n ih =>
    intro j x hn hj hx hq
    refine g_iload F a_X_rests_19 rfl ?_
    refine g_aload_n F a_X_rests_21 rfl ?_
    refine g_get_2_4 F a_X_rests_22 fl_X_9 (by first | assumption | decide | omega) ?_
    refine g_icmp_ge F (by first | omega | (have := farS_r hS (prI x b) r; unfold frS at *; omega) | (have := farS_r hS (prI a b) r; unfold frS at *; omega) | (have := ang_r hS (x := x) (by omega); omega) | (have := ang_r hS (x := b) (by omega); omega) | (split <;> omega)) (by first | omega | (have := farS_r hS (prI x b) r; unfold frS at *; omega) | (have := farS_r hS (prI a b) r; unfold frS at *; omega) | (have := ang_r hS (x := x) (by omega); omega) | (have := ang_r hS (x := b) (by omega); omega) | (split <;> omega)) a_X_rests_25 (fun h25 => ?_) (fun h25 => ?_)
    · refine g_iconst F a_X_rests_60 ?_
      refine g_zret F a_X_rests_61 rfl rfl ⟨Nat.le_refl _, Nat.le_refl _⟩ ?_
      exact k1 (by unfold rsB; rw [show ((m 2 i).1 4).toNat = j by omega]; exact hq)
    · refine g_aload_n F a_X_rests_28 rfl ?_
      refine g_iload_n F a_X_rests_29 rfl ?_
      refine g_iload F a_X_rests_30 rfl ?_
      refine g_iload_n F a_X_rests_32 rfl ?_
      refine g_s4 F a_X_rests_33 sc_X_39 mk_X_farOff rfl (by decide) ⟨Nat.le_refl _, Nat.le_refl _⟩ rfl (Nat.le_of_ble_eq_true rfl) (sp_X_farOff hi hS hD (by omega) (by omega) (by omega) (GCr.v ?_))
      refine g_iload F a_X_rests_36 rfl ?_
      refine g_icmp_lt F (by first | omega | (have := farS_r hS (prI x b) r; unfold frS at *; omega) | (have := farS_r hS (prI a b) r; unfold frS at *; omega) | (have := ang_r hS (x := x) (by omega); omega) | (have := ang_r hS (x := b) (by omega); omega) | (split <;> omega)) (by first | omega | (have := farS_r hS (prI x b) r; unfold frS at *; omega) | (have := farS_r hS (prI a b) r; unfold frS at *; omega) | (have := ang_r hS (x := x) (by omega); omega) | (have := ang_r hS (x := b) (by omega); omega) | (split <;> omega)) a_X_rests_38 (fun h38 => ?_) (fun h38 => ?_)
      · refine g_iconst F a_X_rests_52 ?_
        refine g_zret F a_X_rests_53 rfl rfl ⟨Nat.le_refl _, Nat.le_refl _⟩ ?_
        refine k0 ?_
        rw [← Bool.not_eq_true]
        intro q
        have q2 := rsN_mono (p := j + 1) (by omega) q
        unfold rsN at q2
        rw [hq, ← hx] at q2
        simp only [Bool.true_and, Bool.and_eq_true, decide_eq_true_eq] at q2
        rw [← hf, ← hg] at q2
        first | omega | (rw [if_pos (by omega)] at h49; omega)
      · refine g_aload_n F a_X_rests_41 rfl ?_
        refine g_iload F a_X_rests_42 rfl ?_
        refine g_v1 F a_X_rests_44 vc_X_43 mk_H_angleOf (ob_2 (by first | assumption | decide | omega)) ck_2.1 rfl rfl (by decide) ⟨Nat.le_refl _, Nat.le_refl _⟩ rfl (Nat.le_of_ble_eq_true rfl) (sp_H_angleOf hi hS hD (by omega) (GCr.v ?_))
        refine g_iload F a_X_rests_47 rfl ?_
        refine g_icmp_le F (by first | omega | (have := farS_r hS (prI x b) r; unfold frS at *; omega) | (have := farS_r hS (prI a b) r; unfold frS at *; omega) | (have := ang_r hS (x := x) (by omega); omega) | (have := ang_r hS (x := b) (by omega); omega) | (split <;> omega)) (by first | omega | (have := farS_r hS (prI x b) r; unfold frS at *; omega) | (have := farS_r hS (prI a b) r; unfold frS at *; omega) | (have := ang_r hS (x := x) (by omega); omega) | (have := ang_r hS (x := b) (by omega); omega) | (split <;> omega)) a_X_rests_49 (fun h49 => ?_) (fun h49 => ?_)
        · refine g_iinc (ls' := [_, _, _, _, _, _, _]) F a_X_rests_54 rfl rfl rfl ?_
          refine g_goto F a_X_rests_57 ?_
          rw [if_pos (by omega)] at h49
          have h36' := h38
          rw [hf] at h36'
          rw [hg] at h49
          refine GC.loc2 (ih (j + 1) _ (by omega) (by omega) (by omega) ?_) ⟨rfl, rfl, rfl, rfl, rfl, rfl, rfl, trivial⟩
          unfold rsN
          rw [hq, ← hx]
          simp only [Bool.true_and, Bool.and_eq_true, decide_eq_true_eq]
          exact ⟨by omega, by omega⟩
        · refine g_iconst F a_X_rests_52 ?_
          refine g_zret F a_X_rests_53 rfl rfl ⟨Nat.le_refl _, Nat.le_refl _⟩ ?_
          refine k0 ?_
          rw [← Bool.not_eq_true]
          intro q
          have q2 := rsN_mono (p := j + 1) (by omega) q
          unfold rsN at q2
          rw [hq, ← hx] at q2
          simp only [Bool.true_and, Bool.and_eq_true, decide_eq_true_eq] at q2
          rw [← hf, ← hg] at q2
          first | omega | (rw [if_pos (by omega)] at h49; omega)
set_option maxHeartbeats 1000000 in
theorem sp_X_rests {κ : Kx} {Q : Option Value → (Heap → Prop) → Prop} {i : Nat} {m : Mem} {D : Int} (hi : i < 9) (hS : okS D (m 2 i)) (hD : D ≤ 100000) {r a b : Int} (ha : 0 ≤ a ∧ a < (m 2 i).1 4) (hb : 0 ≤ b ∧ b < (m 2 i).1 4) (hr : R32 r) (k1 : rsB (m 2 i) r a b = true → Q (some (vi 1)) (World κ m)) (k0 : rsB (m 2 i) r a b = false → Q (some (vi 0)) (World κ m)) : GG κ G_X_rests 3 0 0 [.ref (ad κ 2 i), vi r, vi a, vi b] (World κ m) Q := by
  obtain ⟨h0, h1, h2, h3, h4, h5, hfg, hkd, hsh, hgl⟩ := id hS
  have hall := allN_r hS
  have hali := allN_i (m 2 i)
  refine GG.intro (ls := [some _, some _, some _, some _, none, none, none]) (Nat.le_of_ble_eq_true rfl) rfl (fun μ F => ?_)
  refine g_aload_n F a_X_rests_0 rfl ?_
  refine g_iload_n F a_X_rests_1 rfl ?_
  refine g_iload_n F a_X_rests_2 rfl ?_
  refine g_iload_n F a_X_rests_3 rfl ?_
  refine g_s4 F a_X_rests_4 sc_X_39 mk_X_farOff rfl (by decide) ⟨Nat.le_refl _, Nat.le_refl _⟩ rfl (Nat.le_of_ble_eq_true rfl) (sp_X_farOff hi hS hD (by omega) (by omega) (by omega) (GCr.v ?_))
  refine g_istore (ls' := [_, _, _, _, _, _, _]) F a_X_rests_7 rfl rfl rfl ?_
  refine g_aload_n F a_X_rests_9 rfl ?_
  refine g_iload_n F a_X_rests_10 rfl ?_
  refine g_v1 F a_X_rests_11 vc_X_43 mk_H_angleOf (ob_2 (by first | assumption | decide | omega)) ck_2.1 rfl rfl (by decide) ⟨Nat.le_refl _, Nat.le_refl _⟩ rfl (Nat.le_of_ble_eq_true rfl) (sp_H_angleOf hi hS hD (by omega) (GCr.v ?_))
  refine g_istore (ls' := [_, _, _, _, _, _, _]) F a_X_rests_14 rfl rfl rfl ?_
  refine g_iconst F a_X_rests_16 ?_
  refine g_istore (ls' := [_, _, _, _, _, _, _]) F a_X_rests_17 rfl rfl rfl ?_
  exact GC.loc2 (lp_X_rests hi hS hD ha hb hr rfl (if_pos (by omega)) k1 k0 F 7 0 _ (by omega) (by omega) rfl rfl) ⟨rfl, rfl, rfl, rfl, rfl, rfl, rfl, trivial⟩
set_option maxHeartbeats 2000000 in
theorem lp_X_pair2 {κ : Kx} {μ : MX} {Q : Option Value → (Heap → Prop) → Prop} {i : Nat} {m : Mem} {D : Int} (hi : i < 9) (hS : okS D (m 2 i)) (hD : D ≤ 100000) {r w o c0 : Int} (hr : R32 r) (hw : -1 ≤ w ∧ w < 2147483648) {jo : Nat} (ho : o = jo ∧ (jo : Int) < (m 2 i).1 4) (hc0 : 0 ≤ c0 ∧ c0 ≤ 36) (k2 : ∀ c x : Int, c = rwC (m 2 i) r o c0 ((m 2 i).1 4).toNat → rwT (m 2 i) r w o c0 (-1) ((m 2 i).1 4).toNat = -1 → ¬ (c0 ≤ w ∧ w < c) → GC κ μ (ZZ κ μ 0 0 Q) 0 0 61 [some (.ref (ad κ 2 i)), some (vi r), some (vi w), some (vi c), some (vi o), some (vi x)] [] (World κ m)) (k : ∀ x : Int, rwT (m 2 i) r w o c0 (-1) ((m 2 i).1 4).toNat = 10 * o + x → c0 ≤ w → w < rwC (m 2 i) r o c0 ((m 2 i).1 4).toNat → Q (some (vi (10 * o + x))) (World κ m)) (F : Fx κ G_X_restingPairs 4 0 0 μ) :
    ∀ (n : Nat) (j : Nat) (x c : Int), (m 2 i).1 4 < j + n → (j : Int) ≤ (m 2 i).1 4 → x = j → c = rwC (m 2 i) r o c0 j → rwT (m 2 i) r w o c0 (-1) j = -1 → (¬ (c0 ≤ w ∧ w < c)) →  GC κ μ (ZZ κ μ 0 0 Q) 0 0 17 [some (.ref (ad κ 2 i)), some (vi r), some (vi w), some (vi c), some (vi o), some (vi x)] [] (World κ m) := by
  obtain ⟨h0, h1, h2, h3, h4, h5, hfg, hkd, hsh, hgl⟩ := id hS
  have hall := allN_r hS
  have hali := allN_i (m 2 i)
  intro n
  induction n with
  | zero =>
    intro j x c hn hj hx hc ht hnw
    exact absurd hn (by omega)
  | succ n ih =>
    intro j x c hn hj hx hc ht hnw
    have hcr := rwC_r (m 2 i) r o c0 j
    refine g_iload F a_X_restingPairs_17 rfl ?_
    refine g_aload_n F a_X_restingPairs_19 rfl ?_
    refine g_get_2_4 F a_X_restingPairs_20 fl_X_9 (by first | assumption | decide | omega) ?_
    refine g_icmp_ge F (by omega) (by omega) a_X_restingPairs_23 (fun h23 => ?_) (fun h23 => ?_)
    · have ej : ((m 2 i).1 4).toNat = j := by omega
      exact GC.loc2 (k2 c x (by rw [ej]; exact hc) (by rw [ej]; exact ht) hnw) ⟨rfl, rfl, rfl, rfl, rfl, rfl, trivial⟩
    · refine g_aload_n F a_X_restingPairs_26 rfl ?_
      refine g_iload_n F a_X_restingPairs_27 rfl ?_
      refine g_iload F a_X_restingPairs_28 rfl ?_
      refine g_iload F a_X_restingPairs_30 rfl ?_
      refine g_s4 F a_X_restingPairs_32 sc_X_33 mk_X_rests rfl (by decide) ⟨Nat.le_refl _, Nat.le_refl _⟩ rfl (Nat.le_of_ble_eq_true rfl) (sp_X_rests hi hS hD (by omega) (by omega) hr (fun c32 => GCr.v ?_) (fun c32 => GCr.v ?_))
      · refine g_ifeq1 F a_X_restingPairs_35 ?_
        refine g_iload_n F a_X_restingPairs_38 rfl ?_
        refine g_iload_n F a_X_restingPairs_39 rfl ?_
        refine g_icmp_ne F (by omega) (by omega) a_X_restingPairs_40 (fun h40 => ?_) (fun h40 => ?_)
        · refine g_iinc (ls' := [_, _, _, _, _, _]) F a_X_restingPairs_52 rfl rfl rfl ?_
          refine g_iinc (ls' := [_, _, _, _, _, _]) F a_X_restingPairs_55 rfl rfl rfl ?_
          refine g_goto F a_X_restingPairs_58 ?_
          refine GC.loc2 (ih (j + 1) _ _ (by omega) (by omega) (by omega) ?_ ?_ (by omega)) ⟨rfl, rfl, rfl, rfl, rfl, rfl, trivial⟩
          · unfold rwC
            rw [if_pos (by rw [← hx]; exact c32)]
            omega
          · unfold rwT
            rw [if_neg (by rw [← hc]; omega)]
            exact ht
        · refine g_bipush F a_X_restingPairs_43 (by decide) ?_
          refine g_iload F a_X_restingPairs_45 rfl ?_
          refine g_imul F a_X_restingPairs_47 ?_
          refine g_iload F a_X_restingPairs_48 rfl ?_
          refine g_iadd F a_X_restingPairs_50 ?_
          refine g_iret F a_X_restingPairs_51 rfl ⟨Nat.le_refl _, Nat.le_refl _⟩ ?_
          obtain ⟨d, hd⟩ : ∃ d : Nat, ((m 2 i).1 4).toNat = (j + 1) + d := ⟨((m 2 i).1 4).toNat - (j + 1), by omega⟩
          have e1 : rwC (m 2 i) r o c0 (j + 1) = c + 1 := by unfold rwC; rw [if_pos (by rw [← hx]; exact c32), ← hc]
          have e2 := rwT_done (S := m 2 i) (r := r) (k := w) (i := o) (c := c0) (t := -1) (n := j + 1) (by omega) d
          have e3 := (rwC_le (m 2 i) r o c0 (j + 1) d).1
          refine k x ?_ (by omega) (by rw [hd]; omega)
          rw [hd, e2]
          unfold rwT
          rw [if_pos ⟨by rw [← hx]; exact c32, by omega⟩]
          omega
      · refine g_ifeq0 F a_X_restingPairs_35 ?_
        refine g_iinc (ls' := [_, _, _, _, _, _]) F a_X_restingPairs_55 rfl rfl rfl ?_
        refine g_goto F a_X_restingPairs_58 ?_
        refine GC.loc2 (ih (j + 1) _ _ (by omega) (by omega) (by omega) ?_ ?_ (by omega)) ⟨rfl, rfl, rfl, rfl, rfl, rfl, trivial⟩
        · unfold rwC
          rw [if_neg (by rw [← hx, c32]; simp)]
          omega
        · unfold rwT
          rw [if_neg (by rw [← hx, c32]; simp)]
          exact ht
set_option maxHeartbeats 2000000 in
theorem lp_X_pair {κ : Kx} {μ : MX} {Q : Option Value → (Heap → Prop) → Prop} {i : Nat} {m : Mem} {D : Int} (hi : i < 9) (hS : okS D (m 2 i)) (hD : D ≤ 100000) {r w : Int} (hr : R32 r) (hw : -1 ≤ w ∧ w < 2147483648) (k : Q (some (vi (if w = -1 then ttC (m 2 i) r ((m 2 i).1 4).toNat else ttT (m 2 i) r w (-1) ((m 2 i).1 4).toNat))) (World κ m)) (F : Fx κ G_X_restingPairs 4 0 0 μ) :
    ∀ (n : Nat) (j : Nat) (o c : Int), (m 2 i).1 4 < j + n → (j : Int) ≤ (m 2 i).1 4 → o = j → c = ttC (m 2 i) r j → ttT (m 2 i) r w (-1) j = -1 → (¬ (0 ≤ w ∧ w < c)) →  GC κ μ (ZZ κ μ 0 0 Q) 0 0 5 [some (.ref (ad κ 2 i)), some (vi r), some (vi w), some (vi c), some (vi o), none] [] (World κ m) := by
  obtain ⟨h0, h1, h2, h3, h4, h5, hfg, hkd, hsh, hgl⟩ := id hS
  have hall := allN_r hS
  have hali := allN_i (m 2 i)
  intro n
  induction n with
  | zero =>
    intro j o c hn hj ho hc ht hnw
    exact absurd hn (by omega)
  | succ n ih =>
    intro j o c hn hj ho hc ht hnw
    have hcr := ttC_r hS r j
    refine g_iload F a_X_restingPairs_5 rfl ?_
    refine g_aload_n F a_X_restingPairs_7 rfl ?_
    refine g_get_2_4 F a_X_restingPairs_8 fl_X_9 (by first | assumption | decide | omega) ?_
    refine g_icmp_ge F (by omega) (by omega) a_X_restingPairs_11 (fun h11 => ?_) (fun h11 => ?_)
    · refine g_iload_n F a_X_restingPairs_67 rfl ?_
      refine g_iconst F a_X_restingPairs_68 ?_
      refine g_icmp_ne F (by omega) (by omega) a_X_restingPairs_69 (fun h69 => ?_) (fun h69 => ?_)
      · refine g_iconst F a_X_restingPairs_76 ?_
        refine g_iret F a_X_restingPairs_77 rfl ⟨Nat.le_refl _, Nat.le_refl _⟩ ?_
        exact qv k (by rw [if_neg h69, show ((m 2 i).1 4).toNat = j by omega, ht])
      · refine g_iload_n F a_X_restingPairs_72 rfl ?_
        refine g_goto F a_X_restingPairs_73 ?_
        refine g_iret F a_X_restingPairs_77 rfl ⟨Nat.le_refl _, Nat.le_refl _⟩ ?_
        exact qv k (by rw [if_pos h69, show ((m 2 i).1 4).toNat = j by omega, hc])
    · refine g_iconst F a_X_restingPairs_14 ?_
      refine g_istore (ls' := [_, _, _, _, _, _]) F a_X_restingPairs_15 rfl rfl rfl ?_
      refine GC.loc2 (lp_X_pair2 hi hS hD hr hw ⟨ho, by omega⟩ (by omega) (fun q x hq1 hq2 hq3 => ?_) (fun x hk1 hk2 hk3 => ?_) F 7 0 _ _ (by omega) (by omega) rfl rfl rfl (by unfold rwC; omega)) ⟨rfl, rfl, rfl, rfl, rfl, rfl, trivial⟩
      · have hqr := rwC_r (m 2 i) r o c ((m 2 i).1 4).toNat
        refine g_iinc (ls' := [_, _, _, _, _, _]) F a_X_restingPairs_61 rfl rfl rfl ?_
        refine g_goto F a_X_restingPairs_64 ?_
        refine GC.loc2 (ih (j + 1) _ _ (by omega) (by omega) (by omega) (by unfold ttC; rw [← hc, ← ho]; exact hq1) ?_ (by omega)) ⟨rfl, rfl, rfl, rfl, rfl, trivial⟩
        unfold ttT
        rw [ht, ← hc, ← ho]
        exact hq2
      · obtain ⟨d, hd⟩ : ∃ d : Nat, ((m 2 i).1 4).toNat = (j + 1) + d := ⟨((m 2 i).1 4).toNat - (j + 1), by omega⟩
        have f1 : ttC (m 2 i) r (j + 1) = rwC (m 2 i) r o c ((m 2 i).1 4).toNat := by unfold ttC; rw [← hc, ← ho]
        have e2 := (ttT_done (S := m 2 i) (r := r) (k := w) (t := -1) (n := j + 1) (by omega) d).1
        refine qv k ?_
        rw [if_neg (by omega)]
        have e3 : ttT (m 2 i) r w (-1) ((m 2 i).1 4).toNat = ttT (m 2 i) r w (-1) (j + 1) := by
          rw [← e2]
          exact congrArg _ hd
        rw [e3]
        unfold ttT
        rw [ht, ← hc, ← ho]
        exact hk1.symm
set_option maxHeartbeats 1000000 in
theorem sp_X_restingPairs {κ : Kx} {Q : Option Value → (Heap → Prop) → Prop} {i : Nat} {m : Mem} {D : Int} (hi : i < 9) (hS : okS D (m 2 i)) (hD : D ≤ 100000) {r w : Int} (hr : R32 r) (hw : -1 ≤ w ∧ w < 2147483648) (k : Q (some (vi (if w = -1 then ttC (m 2 i) r ((m 2 i).1 4).toNat else ttT (m 2 i) r w (-1) ((m 2 i).1 4).toNat))) (World κ m)) : GG κ G_X_restingPairs 4 0 0 [.ref (ad κ 2 i), vi r, vi w] (World κ m) Q := by
  obtain ⟨h0, h1, h2, h3, h4, h5, hfg, hkd, hsh, hgl⟩ := id hS
  have hall := allN_r hS
  have hali := allN_i (m 2 i)
  refine GG.intro (ls := [some _, some _, some _, none, none, none]) (Nat.le_of_ble_eq_true rfl) rfl (fun μ F => ?_)
  refine g_iconst F a_X_restingPairs_0 ?_
  refine g_istore_n (ls' := [_, _, _, _, _, _]) F a_X_restingPairs_1 rfl rfl rfl ?_
  refine g_iconst F a_X_restingPairs_2 ?_
  refine g_istore (ls' := [_, _, _, _, _, _]) F a_X_restingPairs_3 rfl rfl rfl ?_
  exact GC.loc2 (lp_X_pair hi hS hD hr hw k F 7 0 _ _ (by omega) (by omega) rfl rfl rfl (by unfold ttC; omega)) ⟨rfl, rfl, rfl, rfl, rfl, trivial⟩
