def farS (S : Rc) (set r : Int) : Int := max (errS S set r) (-(errS S set r))
theorem farS_r {D : Int} {S : Rc} (h : okS D S) (set r : Int) : 0 ≤ farS S set r ∧ farS S set r ≤ 600 := by
  have := errS_r h set r
  unfold farS
  omega
/-- BEST: the set and how far it is, of the sets below n -/
def loN (S : Rc) (nn r : Int) : Nat → Int × Int
  | 0 => (0, 1048576)
  | n + 1 => if bc n = nn ∧ farS S n r < (loN S nn r n).2 then ((n : Int), farS S n r) else loN S nn r n
theorem loN_far {D : Int} {S : Rc} (h : okS D S) (nn r : Int) : ∀ n : Nat, (loN S nn r n).2 = 1048576 ∨ ((loN S nn r n).2 < 1048576 ∧ (loN S nn r n).2 = farS S (loN S nn r n).1 r ∧ 0 ≤ (loN S nn r n).1 ∧ (loN S nn r n).1 < n)
  | 0 => Or.inl rfl
  | n + 1 => by
    have ih := loN_far h nn r n
    have hf := farS_r h n r
    unfold loN
    split
    · right
      dsimp only
      omega
    · rcases ih with ih | ih
      · exact Or.inl ih
      · exact Or.inr (by omega)
theorem loN_found {D : Int} {S : Rc} (h : okS D S) (nn r : Int) {t : Nat} (ht : bc t = nn) : ∀ n : Nat, t < n → (loN S nn r n).2 < 1048576
  | 0, h0 => absurd h0 (by omega)
  | n + 1, h1 => by
    have hf := farS_r h n r
    by_cases e : t = n
    · subst e
      unfold loN
      split
      · dsimp only; omega
      · rename_i q
        by_cases z : farS S t r < (loN S nn r t).2
        · exact absurd ⟨ht, z⟩ q
        · omega
    · have ih := loN_found h nn r ht n (by omega)
      unfold loN
      split
      · dsimp only; omega
      · exact ih
theorem bcp_dec : ∀ n : Nat, n < 7 → bc ((2 ^ n - 1 : Nat) : Int) = n := by decide +kernel
theorem pw_cast (n : Nat) : (((2 : Nat) ^ n : Nat) : Int) = 2 ^ n := by simp
/-- all sets of the MEN, as a number -/
def allN (S : Rc) : Nat := 2 ^ (S.1 4).toNat
theorem allN_i (S : Rc) : (allN S : Int) = 2 ^ (S.1 4).toNat := pw_cast _
theorem allN_r {D : Int} {S : Rc} (h : okS D S) : 1 ≤ (allN S : Int) ∧ (allN S : Int) ≤ 64 := by
  rw [allN_i]
  have h4 := h.2.2.2.2.1
  exact p64 (by omega)
theorem loN_ok {D : Int} {S : Rc} (h : okS D S) {nn r : Int} (hn : 0 ≤ nn ∧ nn ≤ S.1 4) : (loN S nn r (allN S)).2 < 1048576 := by
  have h4 := h.2.2.2.2.1
  have hb := bcp_dec nn.toNat (by omega)
  rw [Int.toNat_of_nonneg hn.1] at hb
  refine loN_found h nn r hb (allN S) ?_
  have h1 : (2 : Nat) ^ nn.toNat ≤ 2 ^ (S.1 4).toNat := Nat.pow_le_pow_right (by decide) (by omega)
  have h2 : 0 < (2 : Nat) ^ nn.toNat := Nat.pow_pos (by decide)
  show 2 ^ nn.toNat - 1 < 2 ^ (S.1 4).toNat
  omega
/-- FEWEST of the sets below n -/
def feN (S : Rc) (e r : Int) : Nat → Int
  | 0 => -1
  | n + 1 => if (feN S e r n = -1 ∨ bc n < bc (feN S e r n)) ∧ errS S n r = e then (n : Int) else feN S e r n
theorem feN_r (S : Rc) (e r : Int) : ∀ n : Nat, -1 ≤ feN S e r n ∧ feN S e r n < n
  | 0 => by simp [feN]
  | n + 1 => by
    have := feN_r S e r n
    unfold feN
    split <;> omega
/-- who of the first n MEN is READ as x is -/
def alS (S : Rc) (r x : Int) : Nat → Int
  | 0 => 0
  | n + 1 => alS S r x n + if sgt S x r = sgt S n r then 2 ^ n else 0
theorem alS_r (S : Rc) (r x : Int) : ∀ n : Nat, 0 ≤ alS S r x n ∧ alS S r x n < 2 ^ n
  | 0 => by simp [alS]
  | n + 1 => by
    have ih := alS_r S r x n
    unfold alS
    rw [Int.pow_succ]
    split <;> omega
def moN (S : Rc) (r : Int) : Nat → Int
  | 0 => 0
  | n + 1 => if bc (moN S r n) < bc (alS S r n (S.1 4).toNat) then alS S r n (S.1 4).toNat else moN S r n
theorem moN_r {D : Int} {S : Rc} (h : okS D S) (r : Int) : ∀ n : Nat, 0 ≤ moN S r n ∧ moN S r n < 64
  | 0 => by simp [moN]
  | n + 1 => by
    have ih := moN_r h r n
    have h1 := alS_r S r n (S.1 4).toNat
    have h4 := h.2.2.2.2.1
    have h2 := p64 (n := (S.1 4).toNat) (by omega)
    unfold moN
    split <;> omega
def prI (i j : Int) : Int := bOr (bShl 1 i) (bShl 1 j)
theorem pr_dec : ∀ i : Nat, i < 6 → ∀ j : Nat, j < 6 → 0 ≤ prI i j ∧ prI i j < 64 := by decide +kernel
theorem prI_r {i j : Int} (hi : 0 ≤ i ∧ i < 6) (hj : 0 ≤ j ∧ j < 6) : 0 ≤ prI i j ∧ prI i j < 64 := by
  have := pr_dec i.toNat (by omega) j.toNat (by omega)
  rw [Int.toNat_of_nonneg hi.1, Int.toNat_of_nonneg hj.1] at this
  exact this
def frS (S : Rc) (r i j : Int) : Int := farS S (prI i j) r
def rsN (S : Rc) (r i j : Int) : Nat → Bool
  | 0 => true
  | n + 1 => rsN S r i j n && (decide (frS S r i j ≤ frS S r n j) && decide (ang S n ≤ ang S j))
theorem rsN_mono {S : Rc} {r i j : Int} {p b : Nat} (h : p ≤ b) (hb : rsN S r i j b = true) : rsN S r i j p = true := by
  induction b with
  | zero => rw [show p = 0 by omega]; rfl
  | succ b ih =>
    by_cases e : p = b + 1
    · rw [e]; exact hb
    · have : rsN S r i j b = true := by
        unfold rsN at hb
        simp only [Bool.and_eq_true] at hb
        exact hb.1
      exact ih (by omega) this
def rsB (S : Rc) (r i j : Int) : Bool := rsN S r i j (S.1 4).toNat
/-- pairs that rest: of MAN i, behind those counted, the first n of j -/
def rwC (S : Rc) (r i c : Int) : Nat → Int
  | 0 => c
  | n + 1 => rwC S r i c n + if rsB S r i n = true then 1 else 0
def ttC (S : Rc) (r : Int) : Nat → Int
  | 0 => 0
  | n + 1 => rwC S r n (ttC S r n) (S.1 4).toNat
/-- the k-th of them, t if there is none -/
def rwT (S : Rc) (r k i c t : Int) : Nat → Int
  | 0 => t
  | n + 1 => if rsB S r i n = true ∧ rwC S r i c n = k then 10 * i + n else rwT S r k i c t n
def ttT (S : Rc) (r k t : Int) : Nat → Int
  | 0 => t
  | n + 1 => rwT S r k n (ttC S r n) (ttT S r k t n) (S.1 4).toNat
theorem rwC_le (S : Rc) (r i c : Int) (n : Nat) : ∀ a : Nat, rwC S r i c n ≤ rwC S r i c (n + a) ∧ rwC S r i c (n + a) ≤ rwC S r i c n + a
  | 0 => by simp
  | a + 1 => by
    have ih := rwC_le S r i c n a
    show rwC S r i c n ≤ rwC S r i c ((n + a) + 1) ∧ rwC S r i c ((n + a) + 1) ≤ _
    have e : rwC S r i c ((n + a) + 1) = rwC S r i c (n + a) + if rsB S r i ((n + a : Nat) : Int) = true then 1 else 0 := rfl
    rw [e]
    split <;> omega
theorem rwC_r (S : Rc) (r i c : Int) (n : Nat) : c ≤ rwC S r i c n ∧ rwC S r i c n ≤ c + n := by
  have := rwC_le S r i c 0 n
  rw [Nat.zero_add] at this
  exact this
theorem ttC_r {D : Int} {S : Rc} (h : okS D S) (r : Int) : ∀ n : Nat, 0 ≤ ttC S r n ∧ ttC S r n ≤ 6 * (n : Int)
  | 0 => by simp [ttC]
  | n + 1 => by
    have ih := ttC_r h r n
    have h4 := h.2.2.2.2.1
    have := rwC_r S r n (ttC S r n) (S.1 4).toNat
    unfold ttC
    omega
theorem rwT_done {S : Rc} {r k i c t : Int} {n : Nat} (h : k < rwC S r i c n) : ∀ a : Nat, rwT S r k i c t (n + a) = rwT S r k i c t n
  | 0 => rfl
  | a + 1 => by
    have ih := rwT_done (t := t) h a
    have hc := rwC_le S r i c n a
    have e : rwT S r k i c t (n + (a + 1)) = if rsB S r i ((n + a : Nat) : Int) = true ∧ rwC S r i c (n + a) = k then 10 * i + ((n + a : Nat) : Int) else rwT S r k i c t (n + a) := rfl
    rw [e, if_neg (by omega), ih]
theorem ttT_done {S : Rc} {r k t : Int} {n : Nat} (h : k < ttC S r n) : ∀ a : Nat, ttT S r k t (n + a) = ttT S r k t n ∧ k < ttC S r (n + a)
  | 0 => ⟨rfl, h⟩
  | a + 1 => by
    have ih := ttT_done (t := t) h a
    have e : ttT S r k t (n + (a + 1)) = rwT S r k ((n + a : Nat) : Int) (ttC S r (n + a)) (ttT S r k t (n + a)) (S.1 4).toNat := rfl
    have e2 : ttC S r (n + (a + 1)) = rwC S r ((n + a : Nat) : Int) (ttC S r (n + a)) (S.1 4).toNat := rfl
    have hd := rwT_done (S := S) (r := r) (k := k) (i := ((n + a : Nat) : Int)) (c := ttC S r (n + a)) (t := ttT S r k t (n + a)) (n := 0) ih.2 (S.1 4).toNat
    rw [Nat.zero_add] at hd
    have hr := rwC_r S r ((n + a : Nat) : Int) (ttC S r (n + a)) (S.1 4).toNat
    rw [e, e2, hd]
    exact ⟨ih.1, by omega⟩
set_option maxHeartbeats 2000000 in
theorem lp_X_least {κ : Kx} {μ : MX} {Q : Option Value → (Heap → Prop) → Prop} {i : Nat} {m : Mem} {D : Int} (hi : i < 9) (hS : okS D (m 2 i)) (hD : D ≤ 100000) {nn r : Int} (hn6 : 0 ≤ nn ∧ nn ≤ (m 2 i).1 4) (hr : R32 r) (k : Q (some (vi (loN (m 2 i) nn r (allN (m 2 i))).1)) (World κ m)) (F : Fx κ G_X_leastOff 2 0 0 μ) :
    ∀ (n : Nat) (j : Nat) (x b f : Int), (allN (m 2 i) : Int) < j + n → (j : Int) ≤ allN (m 2 i) → x = j → ((b = -1 ∧ (loN (m 2 i) nn r j).2 = 1048576) ∨ (0 ≤ b ∧ b = (loN (m 2 i) nn r j).1 ∧ f = (loN (m 2 i) nn r j).2 ∧ f < 1048576)) →  GC κ μ (ZZ κ μ 0 0 Q) 0 0 8 [some (.ref (ad κ 2 i)), some (vi nn), some (vi r), some (vi b), some (vi f), some (vi x), none] [] (World κ m) := by
  obtain ⟨h0, h1, h2, h3, h4, h5, hfg, hkd, hsh, hgl⟩ := id hS
  have hall := allN_r hS
  have hali := allN_i (m 2 i)
  intro n
  induction n with
  | zero =>
    intro j x b f hn hj hx hbf
    exact absurd hn (by omega)
  | succ n ih =>
    intro j x b f hn hj hx hbf
    have hlf := loN_far hS nn r j
    have hfl := farS_r hS (loN (m 2 i) nn r j).1 r
    refine g_iload F a_X_leastOff_8 rfl ?_
    refine g_iconst F a_X_leastOff_10 ?_
    refine g_aload_n F a_X_leastOff_11 rfl ?_
    refine g_get_2_4 F a_X_leastOff_12 fl_X_9 (by first | assumption | decide | omega) ?_
    refine g_ishl F a_X_leastOff_15 ?_
    rw [shl_eq (by omega), ← hali]
    refine g_icmp_ge F (by first | omega | (have := bc_r (s := x) (by omega); omega) | (have := errS_r hS x r; omega) | (have := farS_r hS x r; omega)) (by first | omega | (have := bc_r (s := x) (by omega); omega) | (have := errS_r hS x r; omega) | (have := farS_r hS x r; omega)) a_X_leastOff_16 (fun h16 => ?_) (fun h16 => ?_)
    · refine g_iload_n F a_X_leastOff_65 rfl ?_
      refine g_iret F a_X_leastOff_66 rfl ⟨Nat.le_refl _, Nat.le_refl _⟩ ?_
      have hok := loN_ok hS (r := r) hn6
      obtain rfl : j = allN (m 2 i) := by omega
      exact qv k (by omega)
    · refine g_iload F a_X_leastOff_19 rfl ?_
      refine g_s1 F a_X_leastOff_21 sc_X_15 mk_J_bitCount rfl (by decide) ⟨Nat.le_refl _, Nat.le_refl _⟩ rfl (Nat.le_of_ble_eq_true rfl) (sp_J_bitCount (by omega) (GCr.v ?_))
      refine g_iload_n F a_X_leastOff_24 rfl ?_
      refine g_icmp_ne F (by first | omega | (have := bc_r (s := x) (by omega); omega) | (have := errS_r hS x r; omega) | (have := farS_r hS x r; omega)) (by first | omega | (have := bc_r (s := x) (by omega); omega) | (have := errS_r hS x r; omega) | (have := farS_r hS x r; omega)) a_X_leastOff_25 (fun h25 => ?_) (fun h25 => ?_)
      · refine g_iinc (ls' := [_, _, _, _, _, _, _]) F a_X_leastOff_59 rfl rfl rfl ?_
        refine g_goto F a_X_leastOff_62 ?_
        refine GC.loc2 (ih (j + 1) _ _ _ (by omega) (by omega) (by omega) ?_) ⟨rfl, rfl, rfl, rfl, rfl, rfl, trivial⟩
        unfold loN
        rw [if_neg (by rw [← hx]; exact fun q => h25 q.1)]
        exact hbf
      · refine g_aload_n F a_X_leastOff_28 rfl ?_
        refine g_iload F a_X_leastOff_29 rfl ?_
        refine g_iload_n F a_X_leastOff_31 rfl ?_
        refine g_v2 F a_X_leastOff_32 vc_X_21 mk_H_errorOf (ob_2 (by first | assumption | decide | omega)) ck_2.1 rfl rfl (by decide) ⟨Nat.le_refl _, Nat.le_refl _⟩ rfl (Nat.le_of_ble_eq_true rfl) (sp_H_errorOf hi hS hD (by omega) (by omega) (GCr.v ?_))
        refine g_s1 F a_X_leastOff_35 sc_X_25 mk_J_abs rfl (by decide) ⟨Nat.le_refl _, Nat.le_refl _⟩ rfl (Nat.le_of_ble_eq_true rfl) (sp_J_abs (by first | omega | (have := errS_r hS x r; omega)) (GCr.v ?_))
        refine g_istore (ls' := [_, _, _, _, _, _, _]) F a_X_leastOff_38 rfl rfl rfl ?_
        refine g_iload_n F a_X_leastOff_40 rfl ?_
        refine g_iconst F a_X_leastOff_41 ?_
        refine g_icmp_eq F (by first | omega | (have := bc_r (s := x) (by omega); omega) | (have := errS_r hS x r; omega) | (have := farS_r hS x r; omega)) (by first | omega | (have := bc_r (s := x) (by omega); omega) | (have := errS_r hS x r; omega) | (have := farS_r hS x r; omega)) a_X_leastOff_42 (fun h42 => ?_) (fun h42 => ?_)
        · refine g_iload F a_X_leastOff_52 rfl ?_
          refine g_istore_n (ls' := [_, _, _, _, _, _, _]) F a_X_leastOff_54 rfl rfl rfl ?_
          refine g_iload F a_X_leastOff_55 rfl ?_
          refine g_istore (ls' := [_, _, _, _, _, _, _]) F a_X_leastOff_57 rfl rfl rfl ?_
          refine g_iinc (ls' := [_, _, _, _, _, _, _]) F a_X_leastOff_59 rfl rfl rfl ?_
          refine g_goto F a_X_leastOff_62 ?_
          refine GC.loc2 (ih (j + 1) _ _ _ (by omega) (by omega) (by omega) ?_) ⟨rfl, rfl, rfl, rfl, rfl, rfl, trivial⟩
          have hfr := farS_r hS x r
          unfold loN
          rw [if_pos (by rw [← hx]; exact ⟨h25, by omega⟩)]
          right
          dsimp only
          rw [← hx]
          exact ⟨by omega, rfl, rfl, by show farS _ _ _ < _; omega⟩
        · refine g_iload F a_X_leastOff_45 rfl ?_
          refine g_iload F a_X_leastOff_47 rfl ?_
          refine g_icmp_ge F (by first | omega | (have := bc_r (s := x) (by omega); omega) | (have := errS_r hS x r; omega) | (have := farS_r hS x r; omega)) (by first | omega | (have := bc_r (s := x) (by omega); omega) | (have := errS_r hS x r; omega) | (have := farS_r hS x r; omega)) a_X_leastOff_49 (fun h49 => ?_) (fun h49 => ?_)
          · refine g_iinc (ls' := [_, _, _, _, _, _, _]) F a_X_leastOff_59 rfl rfl rfl ?_
            refine g_goto F a_X_leastOff_62 ?_
            refine GC.loc2 (ih (j + 1) _ _ _ (by omega) (by omega) (by omega) ?_) ⟨rfl, rfl, rfl, rfl, rfl, rfl, trivial⟩
            unfold loN
            rw [if_neg (by rw [← hx]; exact fun q => absurd q.2 (by have h49' : f ≤ farS (m 2 i) x r := h49; omega))]
            exact hbf
          · refine g_iload F a_X_leastOff_52 rfl ?_
            refine g_istore_n (ls' := [_, _, _, _, _, _, _]) F a_X_leastOff_54 rfl rfl rfl ?_
            refine g_iload F a_X_leastOff_55 rfl ?_
            refine g_istore (ls' := [_, _, _, _, _, _, _]) F a_X_leastOff_57 rfl rfl rfl ?_
            refine g_iinc (ls' := [_, _, _, _, _, _, _]) F a_X_leastOff_59 rfl rfl rfl ?_
            refine g_goto F a_X_leastOff_62 ?_
            refine GC.loc2 (ih (j + 1) _ _ _ (by omega) (by omega) (by omega) ?_) ⟨rfl, rfl, rfl, rfl, rfl, rfl, trivial⟩
            have hfr := farS_r hS x r
            have h49' : farS (m 2 i) x r < f := h49
            unfold loN
            rw [if_pos (by rw [← hx]; exact ⟨h25, by omega⟩)]
            right
            dsimp only
            rw [← hx]
            exact ⟨by omega, rfl, rfl, by show farS _ _ _ < _; omega⟩
set_option maxHeartbeats 1000000 in
theorem sp_X_leastOff {κ : Kx} {Q : Option Value → (Heap → Prop) → Prop} {i : Nat} {m : Mem} {D : Int} (hi : i < 9) (hS : okS D (m 2 i)) (hD : D ≤ 100000) {nn r : Int} (hn6 : 0 ≤ nn ∧ nn ≤ (m 2 i).1 4) (hr : R32 r) (k : Q (some (vi (loN (m 2 i) nn r (allN (m 2 i))).1)) (World κ m)) : GG κ G_X_leastOff 2 0 0 [.ref (ad κ 2 i), vi nn, vi r] (World κ m) Q := by
  obtain ⟨h0, h1, h2, h3, h4, h5, hfg, hkd, hsh, hgl⟩ := id hS
  have hall := allN_r hS
  have hali := allN_i (m 2 i)
  refine GG.intro (ls := [some _, some _, some _, none, none, none, none]) (Nat.le_of_ble_eq_true rfl) rfl (fun μ F => ?_)
  refine g_iconst F a_X_leastOff_0 ?_
  refine g_istore_n (ls' := [_, _, _, _, _, _, _]) F a_X_leastOff_1 rfl rfl rfl ?_
  refine g_iconst F a_X_leastOff_2 ?_
  refine g_istore (ls' := [_, _, _, _, _, _, _]) F a_X_leastOff_3 rfl rfl rfl ?_
  refine g_iconst F a_X_leastOff_5 ?_
  refine g_istore (ls' := [_, _, _, _, _, _, _]) F a_X_leastOff_6 rfl rfl rfl ?_
  exact GC.loc2 (lp_X_least hi hS hD hn6 hr k F (allN (m 2 i) + 1) 0 _ _ _ (by omega) (by omega) rfl (Or.inl ⟨rfl, rfl⟩)) ⟨rfl, rfl, rfl, rfl, rfl, rfl, trivial⟩
set_option maxHeartbeats 2000000 in
theorem lp_X_fewest {κ : Kx} {μ : MX} {Q : Option Value → (Heap → Prop) → Prop} {i : Nat} {m : Mem} {D : Int} (hi : i < 9) (hS : okS D (m 2 i)) (hD : D ≤ 100000) {e r : Int} (he : R32 e) (hr : R32 r) (k : Q (some (vi (feN (m 2 i) e r (allN (m 2 i))))) (World κ m)) (F : Fx κ G_X_fewestOff 2 0 0 μ) :
    ∀ (n : Nat) (j : Nat) (x b : Int), (allN (m 2 i) : Int) < j + n → (j : Int) ≤ allN (m 2 i) → x = j → b = feN (m 2 i) e r j →  GC κ μ (ZZ κ μ 0 0 Q) 0 0 5 [some (.ref (ad κ 2 i)), some (vi e), some (vi r), some (vi b), some (vi x), none] [] (World κ m) := by
  obtain ⟨h0, h1, h2, h3, h4, h5, hfg, hkd, hsh, hgl⟩ := id hS
  have hall := allN_r hS
  have hali := allN_i (m 2 i)
  intro n
  induction n with
  | zero =>
    intro j x b hn hj hx hb
    exact absurd hn (by omega)
  | succ n ih =>
    intro j x b hn hj hx hb
    have hfe := feN_r (m 2 i) e r j
    refine g_iload F a_X_fewestOff_5 rfl ?_
    refine g_iconst F a_X_fewestOff_7 ?_
    refine g_aload_n F a_X_fewestOff_8 rfl ?_
    refine g_get_2_4 F a_X_fewestOff_9 fl_X_9 (by first | assumption | decide | omega) ?_
    refine g_ishl F a_X_fewestOff_12 ?_
    rw [shl_eq (by omega), ← hali]
    refine g_icmp_ge F (by first | omega | (have := bc_r (s := x) (by omega); omega) | (have := bc_r (s := b) (by omega); omega) | (have := errS_r hS x r; omega)) (by first | omega | (have := bc_r (s := x) (by omega); omega) | (have := bc_r (s := b) (by omega); omega) | (have := errS_r hS x r; omega)) a_X_fewestOff_13 (fun h13 => ?_) (fun h13 => ?_)
    · refine g_iload_n F a_X_fewestOff_65 rfl ?_
      refine g_iret F a_X_fewestOff_66 rfl ⟨Nat.le_refl _, Nat.le_refl _⟩ ?_
      obtain rfl : j = allN (m 2 i) := by omega
      exact qv k hb
    · refine g_iload_n F a_X_fewestOff_16 rfl ?_
      refine g_iconst F a_X_fewestOff_17 ?_
      refine g_icmp_eq F (by first | omega | (have := bc_r (s := x) (by omega); omega) | (have := bc_r (s := b) (by omega); omega) | (have := errS_r hS x r; omega)) (by first | omega | (have := bc_r (s := x) (by omega); omega) | (have := bc_r (s := b) (by omega); omega) | (have := errS_r hS x r; omega)) a_X_fewestOff_18 (fun h18 => ?_) (fun h18 => ?_)
      · refine g_iconst F a_X_fewestOff_33 ?_
        refine g_goto F a_X_fewestOff_34 ?_
        refine g_istore (ls' := [_, _, _, _, _, _]) F a_X_fewestOff_38 rfl rfl rfl ?_
        refine g_iload F a_X_fewestOff_40 rfl ?_
        refine g_ifeq1 F a_X_fewestOff_42 ?_
        refine g_aload_n F a_X_fewestOff_45 rfl ?_
        refine g_iload F a_X_fewestOff_46 rfl ?_
        refine g_iload_n F a_X_fewestOff_48 rfl ?_
        refine g_v2 F a_X_fewestOff_49 vc_X_21 mk_H_errorOf (ob_2 (by first | assumption | decide | omega)) ck_2.1 rfl rfl (by decide) ⟨Nat.le_refl _, Nat.le_refl _⟩ rfl (Nat.le_of_ble_eq_true rfl) (sp_H_errorOf hi hS hD (by omega) (by omega) (GCr.v ?_))
        refine g_iload_n F a_X_fewestOff_52 rfl ?_
        refine g_icmp_ne F (by first | omega | (have := bc_r (s := x) (by omega); omega) | (have := bc_r (s := b) (by omega); omega) | (have := errS_r hS x r; omega)) (by first | omega | (have := bc_r (s := x) (by omega); omega) | (have := bc_r (s := b) (by omega); omega) | (have := errS_r hS x r; omega)) a_X_fewestOff_53 (fun h53 => ?_) (fun h53 => ?_)
        · refine g_iinc (ls' := [_, _, _, _, _, _]) F a_X_fewestOff_59 rfl rfl rfl ?_
          refine g_goto F a_X_fewestOff_62 ?_
          exact GC.loc2 (ih (j + 1) _ _ (by omega) (by omega) (by omega) (by unfold feN; rw [if_neg (by rw [← hx]; exact fun q => h53 q.2)]; exact hb)) ⟨rfl, rfl, rfl, rfl, rfl, trivial⟩
        · refine g_iload F a_X_fewestOff_56 rfl ?_
          refine g_istore_n (ls' := [_, _, _, _, _, _]) F a_X_fewestOff_58 rfl rfl rfl ?_
          refine g_iinc (ls' := [_, _, _, _, _, _]) F a_X_fewestOff_59 rfl rfl rfl ?_
          refine g_goto F a_X_fewestOff_62 ?_
          exact GC.loc2 (ih (j + 1) _ _ (by omega) (by omega) (by omega) (by unfold feN; rw [if_pos (by rw [← hx, ← hb]; exact ⟨Or.inl h18, h53⟩)]; omega)) ⟨rfl, rfl, rfl, rfl, rfl, trivial⟩
      · refine g_iload F a_X_fewestOff_21 rfl ?_
        refine g_s1 F a_X_fewestOff_23 sc_X_15 mk_J_bitCount rfl (by decide) ⟨Nat.le_refl _, Nat.le_refl _⟩ rfl (Nat.le_of_ble_eq_true rfl) (sp_J_bitCount (by omega) (GCr.v ?_))
        refine g_iload_n F a_X_fewestOff_26 rfl ?_
        refine g_s1 F a_X_fewestOff_27 sc_X_15 mk_J_bitCount rfl (by decide) ⟨Nat.le_refl _, Nat.le_refl _⟩ rfl (Nat.le_of_ble_eq_true rfl) (sp_J_bitCount (by omega) (GCr.v ?_))
        refine g_icmp_ge F (by first | omega | (have := bc_r (s := x) (by omega); omega) | (have := bc_r (s := b) (by omega); omega) | (have := errS_r hS x r; omega)) (by first | omega | (have := bc_r (s := x) (by omega); omega) | (have := bc_r (s := b) (by omega); omega) | (have := errS_r hS x r; omega)) a_X_fewestOff_30 (fun h30 => ?_) (fun h30 => ?_)
        · refine g_iconst F a_X_fewestOff_37 ?_
          refine g_istore (ls' := [_, _, _, _, _, _]) F a_X_fewestOff_38 rfl rfl rfl ?_
          refine g_iload F a_X_fewestOff_40 rfl ?_
          refine g_ifeq0 F a_X_fewestOff_42 ?_
          refine g_iinc (ls' := [_, _, _, _, _, _]) F a_X_fewestOff_59 rfl rfl rfl ?_
          refine g_goto F a_X_fewestOff_62 ?_
          exact GC.loc2 (ih (j + 1) _ _ (by omega) (by omega) (by omega) (by unfold feN; rw [if_neg (by rw [← hx, ← hb]; exact fun q => q.1.elim h18 (fun z => absurd z (by omega)))]; exact hb)) ⟨rfl, rfl, rfl, rfl, rfl, trivial⟩
        · refine g_iconst F a_X_fewestOff_33 ?_
          refine g_goto F a_X_fewestOff_34 ?_
          refine g_istore (ls' := [_, _, _, _, _, _]) F a_X_fewestOff_38 rfl rfl rfl ?_
          refine g_iload F a_X_fewestOff_40 rfl ?_
          refine g_ifeq1 F a_X_fewestOff_42 ?_
          refine g_aload_n F a_X_fewestOff_45 rfl ?_
          refine g_iload F a_X_fewestOff_46 rfl ?_
          refine g_iload_n F a_X_fewestOff_48 rfl ?_
          refine g_v2 F a_X_fewestOff_49 vc_X_21 mk_H_errorOf (ob_2 (by first | assumption | decide | omega)) ck_2.1 rfl rfl (by decide) ⟨Nat.le_refl _, Nat.le_refl _⟩ rfl (Nat.le_of_ble_eq_true rfl) (sp_H_errorOf hi hS hD (by omega) (by omega) (GCr.v ?_))
          refine g_iload_n F a_X_fewestOff_52 rfl ?_
          refine g_icmp_ne F (by first | omega | (have := bc_r (s := x) (by omega); omega) | (have := bc_r (s := b) (by omega); omega) | (have := errS_r hS x r; omega)) (by first | omega | (have := bc_r (s := x) (by omega); omega) | (have := bc_r (s := b) (by omega); omega) | (have := errS_r hS x r; omega)) a_X_fewestOff_53 (fun h53 => ?_) (fun h53 => ?_)
          · refine g_iinc (ls' := [_, _, _, _, _, _]) F a_X_fewestOff_59 rfl rfl rfl ?_
            refine g_goto F a_X_fewestOff_62 ?_
            exact GC.loc2 (ih (j + 1) _ _ (by omega) (by omega) (by omega) (by unfold feN; rw [if_neg (by rw [← hx]; exact fun q => h53 q.2)]; exact hb)) ⟨rfl, rfl, rfl, rfl, rfl, trivial⟩
          · refine g_iload F a_X_fewestOff_56 rfl ?_
            refine g_istore_n (ls' := [_, _, _, _, _, _]) F a_X_fewestOff_58 rfl rfl rfl ?_
            refine g_iinc (ls' := [_, _, _, _, _, _]) F a_X_fewestOff_59 rfl rfl rfl ?_
            refine g_goto F a_X_fewestOff_62 ?_
            exact GC.loc2 (ih (j + 1) _ _ (by omega) (by omega) (by omega) (by unfold feN; rw [if_pos (by rw [← hx, ← hb]; exact ⟨Or.inr h30, h53⟩)]; omega)) ⟨rfl, rfl, rfl, rfl, rfl, trivial⟩
set_option maxHeartbeats 1000000 in
theorem sp_X_fewestOff {κ : Kx} {Q : Option Value → (Heap → Prop) → Prop} {i : Nat} {m : Mem} {D : Int} (hi : i < 9) (hS : okS D (m 2 i)) (hD : D ≤ 100000) {e r : Int} (he : R32 e) (hr : R32 r) (k : Q (some (vi (feN (m 2 i) e r (allN (m 2 i))))) (World κ m)) : GG κ G_X_fewestOff 2 0 0 [.ref (ad κ 2 i), vi e, vi r] (World κ m) Q := by
  obtain ⟨h0, h1, h2, h3, h4, h5, hfg, hkd, hsh, hgl⟩ := id hS
  have hall := allN_r hS
  have hali := allN_i (m 2 i)
  refine GG.intro (ls := [some _, some _, some _, none, none, none]) (Nat.le_of_ble_eq_true rfl) rfl (fun μ F => ?_)
  refine g_iconst F a_X_fewestOff_0 ?_
  refine g_istore_n (ls' := [_, _, _, _, _, _]) F a_X_fewestOff_1 rfl rfl rfl ?_
  refine g_iconst F a_X_fewestOff_2 ?_
  refine g_istore (ls' := [_, _, _, _, _, _]) F a_X_fewestOff_3 rfl rfl rfl ?_
  exact GC.loc2 (lp_X_fewest hi hS hD he hr k F (allN (m 2 i) + 1) 0 _ _ (by omega) (by omega) rfl rfl) ⟨rfl, rfl, rfl, rfl, rfl, trivial⟩
