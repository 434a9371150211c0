theorem mset_52 (m : Mem) (T T' S : Rc) : mset (mset (mset m 5 0 T) 2 3 S) 5 0 T' = mset (mset m 5 0 T') 2 3 S := by
  funext c j
  simp only [mset_app]
  by_cases h : c = 5 ∧ j = 0
  · have h2 : ¬ (c = 2 ∧ j = 3) := by omega
    simp only [if_pos h, if_neg h2]
  · simp only [if_neg h]
def FT (m m' : Mem) : Prop := ∀ c j : Nat, ¬ (c = 5 ∧ j = 0) → ¬ (c = 2 ∧ j = 3) → m' c j = m c j
theorem FT.rfl {m : Mem} : FT m m := fun _ _ _ _ => Eq.refl _
theorem FT.trans {m m1 m2 : Mem} (h : FT m m1) (h2 : FT m1 m2) : FT m m2 := fun c j a b => (h2 c j a b).trans (h c j a b)
theorem FT_5 {m : Mem} {T : Rc} : FT m (mset m 5 0 T) := fun c j a b => by simp only [mset_app, if_neg a]
theorem FT_52 {m : Mem} {T S : Rc} : FT m (mset (mset m 5 0 T) 2 3 S) := fun c j a b => by simp only [mset_app, if_neg a, if_neg b]
abbrev nB (B : Int → Int) (z : Nat) (lo hi : Int) (p : Nat) : Prop := lK B z p = 2 ∧ lo ≤ lV B z p ∧ lV B z p ≤ hi
abbrev Rs := Nat ⊕ (Nat × Rc)
def finB (B : Int → Int) (z a : Nat) (S : Rc) : Rs := if lK B z a = 3 then .inr (lE B z a, S) else .inl (lS B z a)
def addM (S : Rc) (a b : Int) : Rc := (fup S.1 4 (S.1 4 + 1), aup (aup S.2 1 (gup (S.2 1) (S.1 4) a)) 2 (gup (S.2 2) (S.1 4) b))
def addG (S : Rc) (a : Int) : Rc := (fup S.1 5 (S.1 5 + 1), aup S.2 3 (gup (S.2 3) (S.1 5) a))
def addH (S : Rc) (x n : Int) : Rc := (S.1, aup S.2 2 (gup (S.2 2) x (min (S.2 2 x + n) 90)))
def iShip (B : Int → Int) (z a : Nat) (S : Rc) : Rs := if nB B z 0 9 a then finB B z (lE B z a) (begS (lV B z a) S) else .inl (lS B z a)
def iMan (B : Int → Int) (z a : Nat) (S : Rc) : Rs := if nB B z 0 5 a then (if nB B z 0 90 (lE B z a) then finB B z (lE B z (lE B z a)) (addM S (lV B z a) (lV B z (lE B z a))) else .inl (lS B z (lE B z a))) else .inl (lS B z a)
def iRd (B : Int → Int) (z a : Nat) (S : Rc) : Rs := if nB B z 0 5 a then finB B z (lE B z a) (addG S (lV B z a)) else .inl (lS B z a)
def iDeed (B : Int → Int) (z a : Nat) (S : Rc) : Rs := if nB B z 0 (S.1 4 - 1) a then (if nB B z 1 90 (lE B z a) then finB B z (lE B z (lE B z a)) (addH S (lV B z a) (lV B z (lE B z a))) else .inl (lS B z (lE B z a))) else .inl (lS B z a)
def fgL (B : Int → Int) (z : Nat) : Nat → Nat → Rc → Rs
  | 0, a, S => finB B z a S
  | f + 1, a, S => if f + 1 < 6 ∧ lK B z a = 3 then finB B z a S else if nB B z 0 1 a then fgL B z f (lE B z a) (S.1, aup S.2 0 (gup (S.2 0) (5 - f) (lV B z a))) else .inl (lS B z a)
def nnL (B : Int → Int) (z : Nat) (S : Rc) (r : Int) : Nat → Int → Nat → Rs
  | 0, t, a => finB B z a (sailS S t r)
  | f + 1, t, a => if lK B z a = 3 then finB B z a (sailS S t r) else if lK B z a = 2 ∧ lV B z a < S.1 4 ∧ bAnd (bShr t (lV B z a)) 1 ≠ 0 then .inl (lS B z a) else if nB B z 0 (S.1 4 - 1) a then nnL B z S r f (bOr t (bShl 1 (lV B z a))) (lE B z a) else .inl (lS B z a)
def iNoon (B : Int → Int) (z a : Nat) (S : Rc) : Rs := if nB B z 0 (S.1 5 - 1) a then nnL B z S (lV B z a) 6 0 (lE B z a) else .inl (lS B z a)
/-- an ITEM, the TOKEN at p its word -/
def item (B : Int → Int) (z p : Nat) (first : Bool) (S : Rc) : Rs :=
  if wB B z p 0 = true then (if first = true then iShip B z (lE B z p) S else .inl (lS B z p))
  else if first = true then .inl (lS B z p)
  else if wB B z p 1 = true then fgL B z 6 (lE B z p) S
  else if wB B z p 2 = true then (if S.1 4 < 6 then iMan B z (lE B z p) S else .inl (lS B z p))
  else if wB B z p 3 = true then (if S.1 5 < 3 then iRd B z (lE B z p) S else .inl (lS B z p))
  else if wB B z p 4 = true then iDeed B z (lE B z p) S
  else if wB B z p 5 = true then iNoon B z (lE B z p) S
  else .inl (lS B z p)
def IT (κ : Kx) (Q : Option Value → (Heap → Prop) → Prop) (D : Int) (m : Mem) (B : Int → Int) (z : Nat) (res : Rs) : Prop :=
  (∀ (m' : Mem) (q : Nat) (S' : Rc), res = .inr (q, S') → FT m m' → TX B z q (m' 5 0) → q ≤ z → m' 2 3 = S' → Q (some (vi 1)) (World κ m')) ∧
  (∀ (m' : Mem) (e : Nat), res = .inl e → FT m m' → (m' 5 0).1 2 = e → (m' 5 0).1 0 = z → (m' 5 0).2 0 = B → okS D (m' 2 3) → Q (some (vi 0)) (World κ m'))
set_option maxHeartbeats 1000000 in
theorem sp_T_shipItem {κ : Kx} {Q : Option Value → (Heap → Prop) → Prop} {m : Mem} {B : Int → Int} {z p : Nat} {D : Int} (hB0 : okB B z) (hpz : p ≤ z) (hT : TX B z p (m 5 0)) (hS : okS D (m 2 3)) (hD : D ≤ 100000) (hQ : IT κ Q D m B z (iShip B z (lE B z p) (m 2 3))) : GG κ G_T_shipItem 4 0 0 [.ref (ad κ 5 0), .ref (ad κ 2 3)] (World κ m) Q := by
  obtain ⟨t0, tb0, t2, t3, t4, tval⟩ := id hT
  obtain ⟨s0, s1, s2, s3, s4, s5, hfg, hkd, hsh, hgl⟩ := id hS
  have hz150 := hB0.1
  have her := lE_r (B := B) hpz
  have her2 := lE_r (B := B) her.2
  have her3 := lE_r (B := B) her2.2
  have her4 := lE_r (B := B) her3.2
  refine GG.intro (ls := [some _, some _, none]) (Nat.le_of_ble_eq_true rfl) rfl (fun μ F => ?_)
  refine g_aload_n F a_T_shipItem_0 rfl ?_
  refine g_v0 F a_T_shipItem_1 vc_T_22 mk_T_advance ob_5 ck_5.1 rfl rfl (by decide) ⟨Nat.le_refl _, Nat.le_refl _⟩ rfl (Nat.le_of_ble_eq_true rfl) (sp_T_advance (z := z) (p := lE B z p) (by rw [tb0]; exact hB0) her.2 t0 t3 (fun T0 ht0 hb0 => (GCr.n ?_)))
  rw [tb0] at ht0
  (try simp only [mset_app, mset_mset, fup_app, aup_app, fup_fup, aup_aup, false_and, and_false, true_and, and_true, and_self, reduceIte, Nat.reduceEqDiff, reduceCtorEq, fup_10, mset_52])
  refine g_aload_n F a_T_shipItem_4 rfl ?_
  refine g_iconst F a_T_shipItem_5 ?_
  refine g_bipush F a_T_shipItem_6 (by decide) ?_
  refine g_v2 F a_T_shipItem_8 vc_T_78 mk_T_number ob_5 ck_5.1 rfl rfl (by decide) ⟨Nat.le_refl _, Nat.le_refl _⟩ rfl (Nat.le_of_ble_eq_true rfl) (sp_T_number (p := (lE B z p)) hB0 (by omega) (by exact ht0) (by omega) (by omega) (fun a8 b8 c8 T1 ht1 hb8 => GCr.v ?_) (fun g8 => GCr.v ?_))
  · refine g_istore_n (ls' := [_, _, _]) F a_T_shipItem_11 rfl rfl rfl ?_
    refine g_iload_n F a_T_shipItem_12 rfl ?_
    refine g_iconst F a_T_shipItem_13 ?_
    refine g_icmp_eq F (by omega) (by omega) a_T_shipItem_14 (fun h14 => ?_) (fun h14 => ?_)
    · refine g_iconst F a_T_shipItem_24 ?_
      refine g_zret F a_T_shipItem_25 rfl rfl ⟨Nat.le_refl _, Nat.le_refl _⟩ ?_
      exfalso; omega
    · refine g_aload_n F a_T_shipItem_17 rfl ?_
      refine g_v0 F a_T_shipItem_18 vc_T_82 mk_T_ended ob_5 ck_5.1 rfl rfl (by decide) ⟨Nat.le_refl _, Nat.le_refl _⟩ rfl (Nat.le_of_ble_eq_true rfl) (sp_T_ended (p := (lE B z (lE B z p))) hB0 (by omega) (by exact ht1) (fun q T2 ht2 hb18 => GCr.v ?_) (fun g18 => GCr.v ?_))
      · refine g_ifne1 F a_T_shipItem_21 ?_
        refine g_aload_n F a_T_shipItem_26 rfl ?_
        refine g_iload_n F a_T_shipItem_27 rfl ?_
        refine g_v1 F a_T_shipItem_28 vc_T_86 mk_H_begin (ob_2 (by first | assumption | decide | omega)) ck_2.1 rfl rfl (by decide) ⟨Nat.le_refl _, Nat.le_refl _⟩ rfl (Nat.le_of_ble_eq_true rfl) (sp_H_begin (by decide) (by omega) (GCr.n ?_))
        (try simp only [mset_app, mset_mset, fup_app, aup_app, fup_fup, aup_aup, false_and, and_false, true_and, and_true, and_self, reduceIte, Nat.reduceEqDiff, reduceCtorEq, fup_10, mset_52])
        refine g_iconst F a_T_shipItem_31 ?_
        refine g_zret F a_T_shipItem_32 rfl rfl ⟨Nat.le_refl _, Nat.le_refl _⟩ ?_
        exact hQ.1 _ (lE B z (lE B z (lE B z p))) (begS (lV B z (lE B z p)) (m 2 3)) (by unfold iShip; rw [if_pos ⟨a8, b8, c8⟩]; exact if_pos (by assumption)) FT_52 (by exact ht2) (by omega) rfl
      · refine g_ifne0 F a_T_shipItem_21 ?_
        refine g_iconst F a_T_shipItem_24 ?_
        refine g_zret F a_T_shipItem_25 rfl rfl ⟨Nat.le_refl _, Nat.le_refl _⟩ ?_
        exact hQ.2 _ _ (by unfold iShip; rw [if_pos ⟨a8, b8, c8⟩]; exact if_neg g18) (by first | exact FT_5 | (rw [mset_mset]; exact FT_5) | (rw [mset_mset, mset_mset]; exact FT_5) | (rw [mset_mset, mset_mset, mset_mset]; exact FT_5)) (by exact ht1.2.2.1) (by exact ht1.1) (by exact ht1.2.1) hS
  · refine g_istore_n (ls' := [_, _, _]) F a_T_shipItem_11 rfl rfl rfl ?_
    refine g_iload_n F a_T_shipItem_12 rfl ?_
    refine g_iconst F a_T_shipItem_13 ?_
    refine g_icmp_eq F (by decide) (by decide) a_T_shipItem_14 (fun hz => ?_) (fun hz => absurd hz (by decide))
    refine g_iconst F a_T_shipItem_24 ?_
    refine g_zret F a_T_shipItem_25 rfl rfl ⟨Nat.le_refl _, Nat.le_refl _⟩ ?_
    exact hQ.2 _ _ (if_neg g8) (by first | exact FT_5 | (rw [mset_mset]; exact FT_5) | (rw [mset_mset, mset_mset]; exact FT_5) | (rw [mset_mset, mset_mset, mset_mset]; exact FT_5)) (by exact ht0.2.2.1) (by exact ht0.1) (by exact ht0.2.1) hS
set_option maxHeartbeats 1000000 in
theorem sp_T_manItem {κ : Kx} {Q : Option Value → (Heap → Prop) → Prop} {m : Mem} {B : Int → Int} {z p : Nat} {D : Int} (hB0 : okB B z) (hpz : p ≤ z) (hT : TX B z p (m 5 0)) (hS : okS D (m 2 3)) (hD : D ≤ 100000) (hm6 : (m 2 3).1 4 < 6) (hQ : IT κ Q D m B z (iMan B z (lE B z p) (m 2 3))) : GG κ G_T_manItem 4 0 0 [.ref (ad κ 5 0), .ref (ad κ 2 3)] (World κ m) Q := by
  obtain ⟨t0, tb0, t2, t3, t4, tval⟩ := id hT
  obtain ⟨s0, s1, s2, s3, s4, s5, hfg, hkd, hsh, hgl⟩ := id hS
  have hz150 := hB0.1
  have her := lE_r (B := B) hpz
  have her2 := lE_r (B := B) her.2
  have her3 := lE_r (B := B) her2.2
  have her4 := lE_r (B := B) her3.2
  refine GG.intro (ls := [some _, some _, none, none]) (Nat.le_of_ble_eq_true rfl) rfl (fun μ F => ?_)
  refine g_aload_n F a_T_manItem_0 rfl ?_
  refine g_v0 F a_T_manItem_1 vc_T_22 mk_T_advance ob_5 ck_5.1 rfl rfl (by decide) ⟨Nat.le_refl _, Nat.le_refl _⟩ rfl (Nat.le_of_ble_eq_true rfl) (sp_T_advance (z := z) (p := lE B z p) (by rw [tb0]; exact hB0) her.2 t0 t3 (fun T0 ht0 hb0 => (GCr.n ?_)))
  rw [tb0] at ht0
  (try simp only [mset_app, mset_mset, fup_app, aup_app, fup_fup, aup_aup, false_and, and_false, true_and, and_true, and_self, reduceIte, Nat.reduceEqDiff, reduceCtorEq, fup_10, mset_52])
  refine g_aload_n F a_T_manItem_4 rfl ?_
  refine g_iconst F a_T_manItem_5 ?_
  refine g_iconst F a_T_manItem_6 ?_
  refine g_v2 F a_T_manItem_7 vc_T_78 mk_T_number ob_5 ck_5.1 rfl rfl (by decide) ⟨Nat.le_refl _, Nat.le_refl _⟩ rfl (Nat.le_of_ble_eq_true rfl) (sp_T_number (p := (lE B z p)) hB0 (by omega) (by exact ht0) (by omega) (by omega) (fun a7 b7 c7 T1 ht1 hb7 => GCr.v ?_) (fun g7 => GCr.v ?_))
  · refine g_istore_n (ls' := [_, _, _, _]) F a_T_manItem_10 rfl rfl rfl ?_
    refine g_iload_n F a_T_manItem_11 rfl ?_
    refine g_iconst F a_T_manItem_12 ?_
    refine g_icmp_ne F (by omega) (by omega) a_T_manItem_13 (fun h13 => ?_) (fun h13 => ?_)
    · refine g_aload_n F a_T_manItem_18 rfl ?_
      refine g_iconst F a_T_manItem_19 ?_
      refine g_bipush F a_T_manItem_20 (by decide) ?_
      refine g_v2 F a_T_manItem_22 vc_T_78 mk_T_number ob_5 ck_5.1 rfl rfl (by decide) ⟨Nat.le_refl _, Nat.le_refl _⟩ rfl (Nat.le_of_ble_eq_true rfl) (sp_T_number (p := (lE B z (lE B z p))) hB0 (by omega) (by exact ht1) (by omega) (by omega) (fun a22 b22 c22 T2 ht2 hb22 => GCr.v ?_) (fun g22 => GCr.v ?_))
      · refine g_istore_n (ls' := [_, _, _, _]) F a_T_manItem_25 rfl rfl rfl ?_
        refine g_iload_n F a_T_manItem_26 rfl ?_
        refine g_iconst F a_T_manItem_27 ?_
        refine g_icmp_eq F (by omega) (by omega) a_T_manItem_28 (fun h28 => ?_) (fun h28 => ?_)
        · refine g_iconst F a_T_manItem_38 ?_
          refine g_zret F a_T_manItem_39 rfl rfl ⟨Nat.le_refl _, Nat.le_refl _⟩ ?_
          exfalso; omega
        · refine g_aload_n F a_T_manItem_31 rfl ?_
          refine g_v0 F a_T_manItem_32 vc_T_82 mk_T_ended ob_5 ck_5.1 rfl rfl (by decide) ⟨Nat.le_refl _, Nat.le_refl _⟩ rfl (Nat.le_of_ble_eq_true rfl) (sp_T_ended (p := (lE B z (lE B z (lE B z p)))) hB0 (by omega) (by exact ht2) (fun q T3 ht3 hb32 => GCr.v ?_) (fun g32 => GCr.v ?_))
          · refine g_ifne1 F a_T_manItem_35 ?_
            refine g_aload_n F a_T_manItem_40 rfl ?_
            refine g_iload_n F a_T_manItem_41 rfl ?_
            refine g_iload_n F a_T_manItem_42 rfl ?_
            refine g_v2 F a_T_manItem_43 vc_T_92 mk_H_addMan (ob_2 (by first | assumption | decide | omega)) ck_2.1 rfl rfl (by decide) ⟨Nat.le_refl _, Nat.le_refl _⟩ rfl (Nat.le_of_ble_eq_true rfl) (sp_H_addMan (D := D) (by decide) (by exact hS) hD (by exact hm6) (by omega) (by omega) (GCr.v ?_))
            (try simp only [mset_app, mset_mset, fup_app, aup_app, fup_fup, aup_aup, false_and, and_false, true_and, and_true, and_self, reduceIte, Nat.reduceEqDiff, reduceCtorEq, fup_10, mset_52])
            refine g_pop F a_T_manItem_46 rfl ?_
            refine g_iconst F a_T_manItem_47 ?_
            refine g_zret F a_T_manItem_48 rfl rfl ⟨Nat.le_refl _, Nat.le_refl _⟩ ?_
            exact hQ.1 _ (lE B z (lE B z (lE B z (lE B z p)))) (addM (m 2 3) (lV B z (lE B z p)) (lV B z (lE B z (lE B z p)))) (by unfold iMan; rw [if_pos ⟨a7, b7, c7⟩, if_pos ⟨a22, b22, c22⟩]; exact if_pos (by assumption)) FT_52 (by exact ht3) (by omega) rfl
          · refine g_ifne0 F a_T_manItem_35 ?_
            refine g_iconst F a_T_manItem_38 ?_
            refine g_zret F a_T_manItem_39 rfl rfl ⟨Nat.le_refl _, Nat.le_refl _⟩ ?_
            exact hQ.2 _ _ (by unfold iMan; rw [if_pos ⟨a7, b7, c7⟩, if_pos ⟨a22, b22, c22⟩]; exact if_neg g32) (by first | exact FT_5 | (rw [mset_mset]; exact FT_5) | (rw [mset_mset, mset_mset]; exact FT_5) | (rw [mset_mset, mset_mset, mset_mset]; exact FT_5)) (by exact ht2.2.2.1) (by exact ht2.1) (by exact ht2.2.1) hS
      · refine g_istore_n (ls' := [_, _, _, _]) F a_T_manItem_25 rfl rfl rfl ?_
        refine g_iload_n F a_T_manItem_26 rfl ?_
        refine g_iconst F a_T_manItem_27 ?_
        refine g_icmp_eq F (by decide) (by decide) a_T_manItem_28 (fun hz => ?_) (fun hz => absurd hz (by decide))
        refine g_iconst F a_T_manItem_38 ?_
        refine g_zret F a_T_manItem_39 rfl rfl ⟨Nat.le_refl _, Nat.le_refl _⟩ ?_
        exact hQ.2 _ _ (by unfold iMan; rw [if_pos ⟨a7, b7, c7⟩]; exact if_neg g22) (by first | exact FT_5 | (rw [mset_mset]; exact FT_5) | (rw [mset_mset, mset_mset]; exact FT_5) | (rw [mset_mset, mset_mset, mset_mset]; exact FT_5)) (by exact ht1.2.2.1) (by exact ht1.1) (by exact ht1.2.1) hS
    · refine g_iconst F a_T_manItem_16 ?_
      refine g_zret F a_T_manItem_17 rfl rfl ⟨Nat.le_refl _, Nat.le_refl _⟩ ?_
      exfalso; omega
  · refine g_istore_n (ls' := [_, _, _, _]) F a_T_manItem_10 rfl rfl rfl ?_
    refine g_iload_n F a_T_manItem_11 rfl ?_
    refine g_iconst F a_T_manItem_12 ?_
    refine g_icmp_ne F (by decide) (by decide) a_T_manItem_13 (fun hz => absurd hz (by decide)) (fun hz => ?_)
    refine g_iconst F a_T_manItem_16 ?_
    refine g_zret F a_T_manItem_17 rfl rfl ⟨Nat.le_refl _, Nat.le_refl _⟩ ?_
    exact hQ.2 _ _ (if_neg g7) (by first | exact FT_5 | (rw [mset_mset]; exact FT_5) | (rw [mset_mset, mset_mset]; exact FT_5) | (rw [mset_mset, mset_mset, mset_mset]; exact FT_5)) (by exact ht0.2.2.1) (by exact ht0.1) (by exact ht0.2.1) hS
set_option maxHeartbeats 1000000 in
theorem sp_T_readerItem {κ : Kx} {Q : Option Value → (Heap → Prop) → Prop} {m : Mem} {B : Int → Int} {z p : Nat} {D : Int} (hB0 : okB B z) (hpz : p ≤ z) (hT : TX B z p (m 5 0)) (hS : okS D (m 2 3)) (hD : D ≤ 100000) (hm6 : (m 2 3).1 5 < 3) (hQ : IT κ Q D m B z (iRd B z (lE B z p) (m 2 3))) : GG κ G_T_readerItem 4 0 0 [.ref (ad κ 5 0), .ref (ad κ 2 3)] (World κ m) Q := by
  obtain ⟨t0, tb0, t2, t3, t4, tval⟩ := id hT
  obtain ⟨s0, s1, s2, s3, s4, s5, hfg, hkd, hsh, hgl⟩ := id hS
  have hz150 := hB0.1
  have her := lE_r (B := B) hpz
  have her2 := lE_r (B := B) her.2
  have her3 := lE_r (B := B) her2.2
  have her4 := lE_r (B := B) her3.2
  refine GG.intro (ls := [some _, some _, none]) (Nat.le_of_ble_eq_true rfl) rfl (fun μ F => ?_)
  refine g_aload_n F a_T_readerItem_0 rfl ?_
  refine g_v0 F a_T_readerItem_1 vc_T_22 mk_T_advance ob_5 ck_5.1 rfl rfl (by decide) ⟨Nat.le_refl _, Nat.le_refl _⟩ rfl (Nat.le_of_ble_eq_true rfl) (sp_T_advance (z := z) (p := lE B z p) (by rw [tb0]; exact hB0) her.2 t0 t3 (fun T0 ht0 hb0 => (GCr.n ?_)))
  rw [tb0] at ht0
  (try simp only [mset_app, mset_mset, fup_app, aup_app, fup_fup, aup_aup, false_and, and_false, true_and, and_true, and_self, reduceIte, Nat.reduceEqDiff, reduceCtorEq, fup_10, mset_52])
  refine g_aload_n F a_T_readerItem_4 rfl ?_
  refine g_iconst F a_T_readerItem_5 ?_
  refine g_iconst F a_T_readerItem_6 ?_
  refine g_v2 F a_T_readerItem_7 vc_T_78 mk_T_number ob_5 ck_5.1 rfl rfl (by decide) ⟨Nat.le_refl _, Nat.le_refl _⟩ rfl (Nat.le_of_ble_eq_true rfl) (sp_T_number (p := (lE B z p)) hB0 (by omega) (by exact ht0) (by omega) (by omega) (fun a7 b7 c7 T1 ht1 hb7 => GCr.v ?_) (fun g7 => GCr.v ?_))
  · refine g_istore_n (ls' := [_, _, _]) F a_T_readerItem_10 rfl rfl rfl ?_
    refine g_iload_n F a_T_readerItem_11 rfl ?_
    refine g_iconst F a_T_readerItem_12 ?_
    refine g_icmp_eq F (by omega) (by omega) a_T_readerItem_13 (fun h13 => ?_) (fun h13 => ?_)
    · refine g_iconst F a_T_readerItem_23 ?_
      refine g_zret F a_T_readerItem_24 rfl rfl ⟨Nat.le_refl _, Nat.le_refl _⟩ ?_
      exfalso; omega
    · refine g_aload_n F a_T_readerItem_16 rfl ?_
      refine g_v0 F a_T_readerItem_17 vc_T_82 mk_T_ended ob_5 ck_5.1 rfl rfl (by decide) ⟨Nat.le_refl _, Nat.le_refl _⟩ rfl (Nat.le_of_ble_eq_true rfl) (sp_T_ended (p := (lE B z (lE B z p))) hB0 (by omega) (by exact ht1) (fun q T2 ht2 hb17 => GCr.v ?_) (fun g17 => GCr.v ?_))
      · refine g_ifne1 F a_T_readerItem_20 ?_
        refine g_aload_n F a_T_readerItem_25 rfl ?_
        refine g_iload_n F a_T_readerItem_26 rfl ?_
        refine g_v1 F a_T_readerItem_27 vc_T_95 mk_H_addReader (ob_2 (by first | assumption | decide | omega)) ck_2.1 rfl rfl (by decide) ⟨Nat.le_refl _, Nat.le_refl _⟩ rfl (Nat.le_of_ble_eq_true rfl) (sp_H_addReader (D := D) (by decide) (by exact hS) hD (by exact hm6) (by omega) (GCr.v ?_))
        (try simp only [mset_app, mset_mset, fup_app, aup_app, fup_fup, aup_aup, false_and, and_false, true_and, and_true, and_self, reduceIte, Nat.reduceEqDiff, reduceCtorEq, fup_10, mset_52])
        refine g_pop F a_T_readerItem_30 rfl ?_
        refine g_iconst F a_T_readerItem_31 ?_
        refine g_zret F a_T_readerItem_32 rfl rfl ⟨Nat.le_refl _, Nat.le_refl _⟩ ?_
        exact hQ.1 _ (lE B z (lE B z (lE B z p))) (addG (m 2 3) (lV B z (lE B z p))) (by unfold iRd; rw [if_pos ⟨a7, b7, c7⟩]; exact if_pos (by assumption)) FT_52 (by exact ht2) (by omega) rfl
      · refine g_ifne0 F a_T_readerItem_20 ?_
        refine g_iconst F a_T_readerItem_23 ?_
        refine g_zret F a_T_readerItem_24 rfl rfl ⟨Nat.le_refl _, Nat.le_refl _⟩ ?_
        exact hQ.2 _ _ (by unfold iRd; rw [if_pos ⟨a7, b7, c7⟩]; exact if_neg g17) (by first | exact FT_5 | (rw [mset_mset]; exact FT_5) | (rw [mset_mset, mset_mset]; exact FT_5) | (rw [mset_mset, mset_mset, mset_mset]; exact FT_5)) (by exact ht1.2.2.1) (by exact ht1.1) (by exact ht1.2.1) hS
  · refine g_istore_n (ls' := [_, _, _]) F a_T_readerItem_10 rfl rfl rfl ?_
    refine g_iload_n F a_T_readerItem_11 rfl ?_
    refine g_iconst F a_T_readerItem_12 ?_
    refine g_icmp_eq F (by decide) (by decide) a_T_readerItem_13 (fun hz => ?_) (fun hz => absurd hz (by decide))
    refine g_iconst F a_T_readerItem_23 ?_
    refine g_zret F a_T_readerItem_24 rfl rfl ⟨Nat.le_refl _, Nat.le_refl _⟩ ?_
    exact hQ.2 _ _ (if_neg g7) (by first | exact FT_5 | (rw [mset_mset]; exact FT_5) | (rw [mset_mset, mset_mset]; exact FT_5) | (rw [mset_mset, mset_mset, mset_mset]; exact FT_5)) (by exact ht0.2.2.1) (by exact ht0.1) (by exact ht0.2.1) hS
set_option maxHeartbeats 1000000 in
theorem sp_T_deedItem {κ : Kx} {Q : Option Value → (Heap → Prop) → Prop} {m : Mem} {B : Int → Int} {z p : Nat} {D : Int} (hB0 : okB B z) (hpz : p ≤ z) (hT : TX B z p (m 5 0)) (hS : okS D (m 2 3)) (hD : D ≤ 100000) (hQ : IT κ Q D m B z (iDeed B z (lE B z p) (m 2 3))) : GG κ G_T_deedItem 4 0 0 [.ref (ad κ 5 0), .ref (ad κ 2 3)] (World κ m) Q := by
  obtain ⟨t0, tb0, t2, t3, t4, tval⟩ := id hT
  obtain ⟨s0, s1, s2, s3, s4, s5, hfg, hkd, hsh, hgl⟩ := id hS
  have hz150 := hB0.1
  have her := lE_r (B := B) hpz
  have her2 := lE_r (B := B) her.2
  have her3 := lE_r (B := B) her2.2
  have her4 := lE_r (B := B) her3.2
  refine GG.intro (ls := [some _, some _, none, none]) (Nat.le_of_ble_eq_true rfl) rfl (fun μ F => ?_)
  refine g_aload_n F a_T_deedItem_0 rfl ?_
  refine g_v0 F a_T_deedItem_1 vc_T_22 mk_T_advance ob_5 ck_5.1 rfl rfl (by decide) ⟨Nat.le_refl _, Nat.le_refl _⟩ rfl (Nat.le_of_ble_eq_true rfl) (sp_T_advance (z := z) (p := lE B z p) (by rw [tb0]; exact hB0) her.2 t0 t3 (fun T0 ht0 hb0 => (GCr.n ?_)))
  rw [tb0] at ht0
  (try simp only [mset_app, mset_mset, fup_app, aup_app, fup_fup, aup_aup, false_and, and_false, true_and, and_true, and_self, reduceIte, Nat.reduceEqDiff, reduceCtorEq, fup_10, mset_52])
  refine g_aload_n F a_T_deedItem_4 rfl ?_
  refine g_iconst F a_T_deedItem_5 ?_
  refine g_aload_n F a_T_deedItem_6 rfl ?_
  refine g_get_2_4 F a_T_deedItem_7 fl_T_52 (by first | assumption | decide | omega) ?_
  (try simp only [mset_app, mset_mset, fup_app, aup_app, fup_fup, aup_aup, false_and, and_false, true_and, and_true, and_self, reduceIte, Nat.reduceEqDiff, reduceCtorEq, fup_10, mset_52])
  refine g_iconst F a_T_deedItem_10 ?_
  refine g_isub F a_T_deedItem_11 ?_
  refine g_v2 F a_T_deedItem_12 vc_T_78 mk_T_number ob_5 ck_5.1 rfl rfl (by decide) ⟨Nat.le_refl _, Nat.le_refl _⟩ rfl (Nat.le_of_ble_eq_true rfl) (sp_T_number (p := (lE B z p)) hB0 (by omega) (by exact ht0) (by omega) (by omega) (fun a12 b12 c12 T1 ht1 hb12 => GCr.v ?_) (fun g12 => GCr.v ?_))
  · refine g_istore_n (ls' := [_, _, _, _]) F a_T_deedItem_15 rfl rfl rfl ?_
    refine g_iload_n F a_T_deedItem_16 rfl ?_
    refine g_iconst F a_T_deedItem_17 ?_
    refine g_icmp_ne F (by omega) (by omega) a_T_deedItem_18 (fun h18 => ?_) (fun h18 => ?_)
    · refine g_aload_n F a_T_deedItem_23 rfl ?_
      refine g_iconst F a_T_deedItem_24 ?_
      refine g_bipush F a_T_deedItem_25 (by decide) ?_
      refine g_v2 F a_T_deedItem_27 vc_T_78 mk_T_number ob_5 ck_5.1 rfl rfl (by decide) ⟨Nat.le_refl _, Nat.le_refl _⟩ rfl (Nat.le_of_ble_eq_true rfl) (sp_T_number (p := (lE B z (lE B z p))) hB0 (by omega) (by exact ht1) (by omega) (by omega) (fun a27 b27 c27 T2 ht2 hb27 => GCr.v ?_) (fun g27 => GCr.v ?_))
      · refine g_istore_n (ls' := [_, _, _, _]) F a_T_deedItem_30 rfl rfl rfl ?_
        refine g_iload_n F a_T_deedItem_31 rfl ?_
        refine g_iconst F a_T_deedItem_32 ?_
        refine g_icmp_eq F (by omega) (by omega) a_T_deedItem_33 (fun h33 => ?_) (fun h33 => ?_)
        · refine g_iconst F a_T_deedItem_43 ?_
          refine g_zret F a_T_deedItem_44 rfl rfl ⟨Nat.le_refl _, Nat.le_refl _⟩ ?_
          exfalso; omega
        · refine g_aload_n F a_T_deedItem_36 rfl ?_
          refine g_v0 F a_T_deedItem_37 vc_T_82 mk_T_ended ob_5 ck_5.1 rfl rfl (by decide) ⟨Nat.le_refl _, Nat.le_refl _⟩ rfl (Nat.le_of_ble_eq_true rfl) (sp_T_ended (p := (lE B z (lE B z (lE B z p)))) hB0 (by omega) (by exact ht2) (fun q T3 ht3 hb37 => GCr.v ?_) (fun g37 => GCr.v ?_))
          · refine g_ifne1 F a_T_deedItem_40 ?_
            refine g_aload_n F a_T_deedItem_45 rfl ?_
            refine g_iload_n F a_T_deedItem_46 rfl ?_
            refine g_iload_n F a_T_deedItem_47 rfl ?_
            refine g_v2 F a_T_deedItem_48 vc_T_99 mk_H_addShame (ob_2 (by first | assumption | decide | omega)) ck_2.1 rfl rfl (by decide) ⟨Nat.le_refl _, Nat.le_refl _⟩ rfl (Nat.le_of_ble_eq_true rfl) (sp_H_addShame (D := D) (by decide) (by exact hS) hD (show 0 ≤ _ ∧ _ < (m 2 3).1 4 by omega) (by omega) (GCr.n ?_))
            (try simp only [mset_app, mset_mset, fup_app, aup_app, fup_fup, aup_aup, false_and, and_false, true_and, and_true, and_self, reduceIte, Nat.reduceEqDiff, reduceCtorEq, fup_10, mset_52])
            refine g_iconst F a_T_deedItem_51 ?_
            refine g_zret F a_T_deedItem_52 rfl rfl ⟨Nat.le_refl _, Nat.le_refl _⟩ ?_
            exact hQ.1 _ (lE B z (lE B z (lE B z (lE B z p)))) (addH (m 2 3) (lV B z (lE B z p)) (lV B z (lE B z (lE B z p)))) (by unfold iDeed; rw [if_pos ⟨a12, b12, c12⟩, if_pos ⟨a27, b27, c27⟩]; exact if_pos (by assumption)) FT_52 (by exact ht3) (by omega) rfl
          · refine g_ifne0 F a_T_deedItem_40 ?_
            refine g_iconst F a_T_deedItem_43 ?_
            refine g_zret F a_T_deedItem_44 rfl rfl ⟨Nat.le_refl _, Nat.le_refl _⟩ ?_
            exact hQ.2 _ _ (by unfold iDeed; rw [if_pos ⟨a12, b12, c12⟩, if_pos ⟨a27, b27, c27⟩]; exact if_neg g37) (by first | exact FT_5 | (rw [mset_mset]; exact FT_5) | (rw [mset_mset, mset_mset]; exact FT_5) | (rw [mset_mset, mset_mset, mset_mset]; exact FT_5)) (by exact ht2.2.2.1) (by exact ht2.1) (by exact ht2.2.1) hS
      · refine g_istore_n (ls' := [_, _, _, _]) F a_T_deedItem_30 rfl rfl rfl ?_
        refine g_iload_n F a_T_deedItem_31 rfl ?_
        refine g_iconst F a_T_deedItem_32 ?_
        refine g_icmp_eq F (by decide) (by decide) a_T_deedItem_33 (fun hz => ?_) (fun hz => absurd hz (by decide))
        refine g_iconst F a_T_deedItem_43 ?_
        refine g_zret F a_T_deedItem_44 rfl rfl ⟨Nat.le_refl _, Nat.le_refl _⟩ ?_
        exact hQ.2 _ _ (by unfold iDeed; rw [if_pos ⟨a12, b12, c12⟩]; exact if_neg g27) (by first | exact FT_5 | (rw [mset_mset]; exact FT_5) | (rw [mset_mset, mset_mset]; exact FT_5) | (rw [mset_mset, mset_mset, mset_mset]; exact FT_5)) (by exact ht1.2.2.1) (by exact ht1.1) (by exact ht1.2.1) hS
    · refine g_iconst F a_T_deedItem_21 ?_
      refine g_zret F a_T_deedItem_22 rfl rfl ⟨Nat.le_refl _, Nat.le_refl _⟩ ?_
      exfalso; omega
  · refine g_istore_n (ls' := [_, _, _, _]) F a_T_deedItem_15 rfl rfl rfl ?_
    refine g_iload_n F a_T_deedItem_16 rfl ?_
    refine g_iconst F a_T_deedItem_17 ?_
    refine g_icmp_ne F (by decide) (by decide) a_T_deedItem_18 (fun hz => absurd hz (by decide)) (fun hz => ?_)
    refine g_iconst F a_T_deedItem_21 ?_
    refine g_zret F a_T_deedItem_22 rfl rfl ⟨Nat.le_refl _, Nat.le_refl _⟩ ?_
    exact hQ.2 _ _ (if_neg g12) (by first | exact FT_5 | (rw [mset_mset]; exact FT_5) | (rw [mset_mset, mset_mset]; exact FT_5) | (rw [mset_mset, mset_mset, mset_mset]; exact FT_5)) (by exact ht0.2.2.1) (by exact ht0.1) (by exact ht0.2.1) hS
set_option maxHeartbeats 2000000 in
theorem lp_T_fog {κ : Kx} {μ : MX} {Q : Option Value → (Heap → Prop) → Prop} {m : Mem} {B : Int → Int} {z : Nat} {D : Int} {res : Rs} (hB0 : okB B z) (hD : D ≤ 100000) (hQ : IT κ Q D m B z res)  (F : Fx κ G_T_fogItem 4 0 0 μ) :
    ∀ (n : Nat) (f a : Nat) (x : Int) (T S : Rc), f < n → f ≤ 6 → x = 6 - (f : Int) → a ≤ z → TX B z a T → okS D S → fgL B z f a S = res →  GC κ μ (ZZ κ μ 0 0 Q) 0 0 6 [some (.ref (ad κ 5 0)), some (.ref (ad κ 2 3)), some (vi x), none] [] (World κ (mset (mset m 5 0 T) 2 3 S)) := by
  intro n
  induction n with
  | zero =>
    intro f a x T S hn hf hx ha ht hS hres
    exact absurd hn (by omega)
  | succ n ih =>
    intro f a x T S hn hf hx ha ht hS hres
    obtain ⟨t0, tb0, t2, t3, t4, tval⟩ := id ht
    have hkr := lK_r B z a
    have her := lE_r (B := B) ha
    have hz150 := hB0.1
    refine g_iload_n F a_T_fogItem_6 rfl ?_
    refine g_bipush F a_T_fogItem_7 (by decide) ?_
    refine g_icmp_ge F (by omega) (by omega) a_T_fogItem_9 (fun h9 => ?_) (fun h9 => ?_)
    · refine g_aload_n F a_T_fogItem_54 rfl ?_
      refine g_v0 F a_T_fogItem_55 vc_T_82 mk_T_ended ob_5 ck_5.1 rfl rfl (by decide) ⟨Nat.le_refl _, Nat.le_refl _⟩ rfl (Nat.le_of_ble_eq_true rfl) (sp_T_ended (p := a) hB0 (by omega) (by exact ht) (fun q T2 ht2 hb55 => GCr.v ?_) (fun g55 => GCr.v ?_))
      · refine g_zret F a_T_fogItem_58 rfl rfl ⟨Nat.le_refl _, Nat.le_refl _⟩ ?_
        obtain rfl : f = 0 := by omega
        rw [mset_52]
        exact hQ.1 _ (lE B z a) S (by rw [← hres]; exact if_pos (by assumption)) FT_52 (by exact ht2) (by omega) rfl
      · refine g_zret F a_T_fogItem_58 rfl rfl ⟨Nat.le_refl _, Nat.le_refl _⟩ ?_
        obtain rfl : f = 0 := by omega
        exact hQ.2 _ (lS B z a) (by rw [← hres]; exact if_neg (by assumption)) FT_52 (by exact ht.2.2.1) (by exact ht.1) (by exact ht.2.1) hS
    · refine g_iload_n F a_T_fogItem_12 rfl ?_
      refine g_if_le F (by omega) a_T_fogItem_13 (fun h13 => ?_) (fun h13 => ?_)
      · obtain ⟨f, rfl⟩ : ∃ f0 : Nat, f = f0 + 1 := ⟨f - 1, by omega⟩
        refine g_aload_n F a_T_fogItem_27 rfl ?_
        refine g_iconst F a_T_fogItem_28 ?_
        refine g_iconst F a_T_fogItem_29 ?_
        refine g_v2 F a_T_fogItem_30 vc_T_78 mk_T_number ob_5 ck_5.1 rfl rfl (by decide) ⟨Nat.le_refl _, Nat.le_refl _⟩ rfl (Nat.le_of_ble_eq_true rfl) (sp_T_number (p := a) hB0 (by omega) (by exact ht) (by omega) (by omega) (fun a30 b30 c30 T3 ht3 hb30 => GCr.v ?_) (fun g30 => GCr.v ?_))
        · refine g_istore_n (ls' := [_, _, _, _]) F a_T_fogItem_33 rfl rfl rfl ?_
          refine g_iload_n F a_T_fogItem_34 rfl ?_
          refine g_iconst F a_T_fogItem_35 ?_
          refine g_icmp_ne F (by omega) (by omega) a_T_fogItem_36 (fun h36 => ?_) (fun h36 => ?_)
          · refine g_aload_n F a_T_fogItem_41 rfl ?_
            refine g_get_2_6 F a_T_fogItem_42 fl_T_90 (by first | assumption | decide | omega) ?_
            (try simp only [mset_app, mset_mset, fup_app, aup_app, fup_fup, aup_aup, false_and, and_false, true_and, and_true, and_self, reduceIte, Nat.reduceEqDiff, reduceCtorEq, fup_10, mset_52])
            refine g_iload_n F a_T_fogItem_45 rfl ?_
            refine g_iload_n F a_T_fogItem_46 rfl ?_
            refine g_ist_2_0 F a_T_fogItem_47 (by first | assumption | decide | omega) (by omega) ?_
            (try simp only [mset_app, mset_mset, fup_app, aup_app, fup_fup, aup_aup, false_and, and_false, true_and, and_true, and_self, reduceIte, Nat.reduceEqDiff, reduceCtorEq, fup_10, mset_52])
            refine g_iinc (ls' := [_, _, _, _]) F a_T_fogItem_48 rfl rfl rfl ?_
            refine g_goto F a_T_fogItem_51 ?_
            refine GC.loc2 (ih f (lE B z a) _ T3 _ (by omega) (by omega) (by omega) (by omega) ht3 ?_ ?_) ⟨rfl, rfl, rfl, trivial⟩
            · obtain ⟨s0, s1, s2, s3, s4, s5, hfg, hkd, hsh, hgl⟩ := hS
              refine ⟨s0, s1, s2, s3, s4, s5, fun k hk => ?_, hkd, hsh, hgl⟩
              show 0 ≤ gup (S.2 0) x (lV B z a) k ∧ gup (S.2 0) x (lV B z a) k ≤ 1
              unfold gup
              split
              · omega
              · exact hfg k hk
            · rw [← hres]
              conv => rhs; unfold fgL
              rw [if_neg (by omega), if_pos ⟨a30, b30, c30⟩, show (5 - (f : Int)) = x by omega]
          · refine g_iconst F a_T_fogItem_39 ?_
            refine g_zret F a_T_fogItem_40 rfl rfl ⟨Nat.le_refl _, Nat.le_refl _⟩ ?_
            exfalso; omega
        · refine g_istore_n (ls' := [_, _, _, _]) F a_T_fogItem_33 rfl rfl rfl ?_
          refine g_iload_n F a_T_fogItem_34 rfl ?_
          refine g_iconst F a_T_fogItem_35 ?_
          refine g_icmp_ne F (by decide) (by decide) a_T_fogItem_36 (fun hz => absurd hz (by decide)) (fun hz => ?_)
          refine g_iconst F a_T_fogItem_39 ?_
          refine g_zret F a_T_fogItem_40 rfl rfl ⟨Nat.le_refl _, Nat.le_refl _⟩ ?_
          exact hQ.2 _ (lS B z a) (by rw [← hres]; unfold fgL; rw [if_neg (by omega), if_neg g30]) FT_52 (by exact ht.2.2.1) (by exact ht.1) (by exact ht.2.1) hS
      · refine g_aload_n F a_T_fogItem_16 rfl ?_
        refine g_get_5_4 F a_T_fogItem_17 fl_T_25 ?_
        (try simp only [mset_app, mset_mset, fup_app, aup_app, fup_fup, aup_aup, false_and, and_false, true_and, and_true, and_self, reduceIte, Nat.reduceEqDiff, reduceCtorEq, fup_10, mset_52])
        refine g_iconst F a_T_fogItem_20 ?_
        refine g_icmp_ne F (by omega) (by omega) a_T_fogItem_21 (fun h21 => ?_) (fun h21 => ?_)
        · obtain ⟨f, rfl⟩ : ∃ f0 : Nat, f = f0 + 1 := ⟨f - 1, by omega⟩
          refine g_aload_n F a_T_fogItem_27 rfl ?_
          refine g_iconst F a_T_fogItem_28 ?_
          refine g_iconst F a_T_fogItem_29 ?_
          refine g_v2 F a_T_fogItem_30 vc_T_78 mk_T_number ob_5 ck_5.1 rfl rfl (by decide) ⟨Nat.le_refl _, Nat.le_refl _⟩ rfl (Nat.le_of_ble_eq_true rfl) (sp_T_number (p := a) hB0 (by omega) (by exact ht) (by omega) (by omega) (fun a30 b30 c30 T3 ht3 hb30 => GCr.v ?_) (fun g30 => GCr.v ?_))
          · refine g_istore_n (ls' := [_, _, _, _]) F a_T_fogItem_33 rfl rfl rfl ?_
            refine g_iload_n F a_T_fogItem_34 rfl ?_
            refine g_iconst F a_T_fogItem_35 ?_
            refine g_icmp_ne F (by omega) (by omega) a_T_fogItem_36 (fun h36 => ?_) (fun h36 => ?_)
            · refine g_aload_n F a_T_fogItem_41 rfl ?_
              refine g_get_2_6 F a_T_fogItem_42 fl_T_90 (by first | assumption | decide | omega) ?_
              (try simp only [mset_app, mset_mset, fup_app, aup_app, fup_fup, aup_aup, false_and, and_false, true_and, and_true, and_self, reduceIte, Nat.reduceEqDiff, reduceCtorEq, fup_10, mset_52])
              refine g_iload_n F a_T_fogItem_45 rfl ?_
              refine g_iload_n F a_T_fogItem_46 rfl ?_
              refine g_ist_2_0 F a_T_fogItem_47 (by first | assumption | decide | omega) (by omega) ?_
              (try simp only [mset_app, mset_mset, fup_app, aup_app, fup_fup, aup_aup, false_and, and_false, true_and, and_true, and_self, reduceIte, Nat.reduceEqDiff, reduceCtorEq, fup_10, mset_52])
              refine g_iinc (ls' := [_, _, _, _]) F a_T_fogItem_48 rfl rfl rfl ?_
              refine g_goto F a_T_fogItem_51 ?_
              refine GC.loc2 (ih f (lE B z a) _ T3 _ (by omega) (by omega) (by omega) (by omega) ht3 ?_ ?_) ⟨rfl, rfl, rfl, trivial⟩
              · obtain ⟨s0, s1, s2, s3, s4, s5, hfg, hkd, hsh, hgl⟩ := hS
                refine ⟨s0, s1, s2, s3, s4, s5, fun k hk => ?_, hkd, hsh, hgl⟩
                show 0 ≤ gup (S.2 0) x (lV B z a) k ∧ gup (S.2 0) x (lV B z a) k ≤ 1
                unfold gup
                split
                · omega
                · exact hfg k hk
              · rw [← hres]
                conv => rhs; unfold fgL
                rw [if_neg (by omega), if_pos ⟨a30, b30, c30⟩, show (5 - (f : Int)) = x by omega]
            · refine g_iconst F a_T_fogItem_39 ?_
              refine g_zret F a_T_fogItem_40 rfl rfl ⟨Nat.le_refl _, Nat.le_refl _⟩ ?_
              exfalso; omega
          · refine g_istore_n (ls' := [_, _, _, _]) F a_T_fogItem_33 rfl rfl rfl ?_
            refine g_iload_n F a_T_fogItem_34 rfl ?_
            refine g_iconst F a_T_fogItem_35 ?_
            refine g_icmp_ne F (by decide) (by decide) a_T_fogItem_36 (fun hz => absurd hz (by decide)) (fun hz => ?_)
            refine g_iconst F a_T_fogItem_39 ?_
            refine g_zret F a_T_fogItem_40 rfl rfl ⟨Nat.le_refl _, Nat.le_refl _⟩ ?_
            exact hQ.2 _ (lS B z a) (by rw [← hres]; unfold fgL; rw [if_neg (by omega), if_neg g30]) FT_52 (by exact ht.2.2.1) (by exact ht.1) (by exact ht.2.1) hS
        · refine g_goto F a_T_fogItem_24 ?_
          refine g_aload_n F a_T_fogItem_54 rfl ?_
          refine g_v0 F a_T_fogItem_55 vc_T_82 mk_T_ended ob_5 ck_5.1 rfl rfl (by decide) ⟨Nat.le_refl _, Nat.le_refl _⟩ rfl (Nat.le_of_ble_eq_true rfl) (sp_T_ended (p := a) hB0 (by omega) (by exact ht) (fun q T2 ht2 hb55 => GCr.v ?_) (fun g55 => GCr.v ?_))
          · refine g_zret F a_T_fogItem_58 rfl rfl ⟨Nat.le_refl _, Nat.le_refl _⟩ ?_
            obtain ⟨f, rfl⟩ : ∃ f0 : Nat, f = f0 + 1 := ⟨f - 1, by omega⟩
            rw [mset_52]
            exact hQ.1 _ (lE B z a) S (by rw [← hres]; unfold fgL; rw [if_pos ⟨by omega, by omega⟩]; exact if_pos (by assumption)) FT_52 (by exact ht2) (by omega) rfl
          · refine g_zret F a_T_fogItem_58 rfl rfl ⟨Nat.le_refl _, Nat.le_refl _⟩ ?_
            obtain ⟨f, rfl⟩ : ∃ f0 : Nat, f = f0 + 1 := ⟨f - 1, by omega⟩
            exact hQ.2 _ (lS B z a) (by rw [← hres]; unfold fgL; rw [if_pos ⟨by omega, by omega⟩]; exact if_neg (by assumption)) FT_52 (by exact ht.2.2.1) (by exact ht.1) (by exact ht.2.1) hS
set_option maxHeartbeats 1000000 in
theorem sp_T_fogItem {κ : Kx} {Q : Option Value → (Heap → Prop) → Prop} {m : Mem} {B : Int → Int} {z p : Nat} {D : Int} (hB0 : okB B z) (hpz : p ≤ z) (hT : TX B z p (m 5 0)) (hS : okS D (m 2 3)) (hD : D ≤ 100000) (hQ : IT κ Q D m B z (fgL B z 6 (lE B z p) (m 2 3))) : GG κ G_T_fogItem 4 0 0 [.ref (ad κ 5 0), .ref (ad κ 2 3)] (World κ m) Q := by
  obtain ⟨t0, tb0, t2, t3, t4, tval⟩ := id hT
  obtain ⟨s0, s1, s2, s3, s4, s5, hfg, hkd, hsh, hgl⟩ := id hS
  have hz150 := hB0.1
  have her := lE_r (B := B) hpz
  have her2 := lE_r (B := B) her.2
  have her3 := lE_r (B := B) her2.2
  have her4 := lE_r (B := B) her3.2
  refine GG.intro (ls := [some _, some _, none, none]) (Nat.le_of_ble_eq_true rfl) rfl (fun μ F => ?_)
  refine g_aload_n F a_T_fogItem_0 rfl ?_
  refine g_v0 F a_T_fogItem_1 vc_T_22 mk_T_advance ob_5 ck_5.1 rfl rfl (by decide) ⟨Nat.le_refl _, Nat.le_refl _⟩ rfl (Nat.le_of_ble_eq_true rfl) (sp_T_advance (z := z) (p := lE B z p) (by rw [tb0]; exact hB0) her.2 t0 t3 (fun T0 ht0 hb0 => (GCr.n ?_)))
  rw [tb0] at ht0
  (try simp only [mset_app, mset_mset, fup_app, aup_app, fup_fup, aup_aup, false_and, and_false, true_and, and_true, and_self, reduceIte, Nat.reduceEqDiff, reduceCtorEq, fup_10, mset_52])
  refine g_iconst F a_T_fogItem_4 ?_
  refine g_istore_n (ls' := [_, _, _, _]) F a_T_fogItem_5 rfl rfl rfl ?_
  have e : World κ (mset m 5 0 T0) = World κ (mset (mset m 5 0 T0) 2 3 (m 2 3)) := congrArg _ (mset_self (mset m 5 0 T0) 2 3).symm
  rw [e]
  exact GC.loc2 (lp_T_fog hB0 hD hQ F 7 6 (lE B z p) _ T0 _ (by omega) (by omega) rfl her.2 ht0 hS rfl) ⟨rfl, rfl, rfl, trivial⟩
theorem orsh_dec : ∀ t : Nat, t < 64 → ∀ v : Nat, v < 6 → 0 ≤ bOr (t : Int) (bShl 1 (v : Int)) ∧ bOr (t : Int) (bShl 1 (v : Int)) < 64 := by decide +kernel
theorem orsh {t v : Int} (ht : 0 ≤ t ∧ t < 64) (hv : 0 ≤ v ∧ v < 6) : 0 ≤ bOr t (bShl 1 v) ∧ bOr t (bShl 1 v) < 64 := by
  have h := orsh_dec t.toNat (by omega) v.toNat (by omega)
  rw [Int.toNat_of_nonneg ht.1, Int.toNat_of_nonneg hv.1] at h
  exact h
set_option maxHeartbeats 2000000 in
theorem lp_T_noon {κ : Kx} {μ : MX} {Q : Option Value → (Heap → Prop) → Prop} {m : Mem} {B : Int → Int} {z : Nat} {D r : Int} {res : Rs} (hB0 : okB B z) (hD : D ≤ 100000) (hS : okS D (m 2 3)) (hr : 0 ≤ r ∧ r < (m 2 3).1 5) (hQ : IT κ Q D m B z res)  (F : Fx κ G_T_noonItem 4 0 0 μ) :
    ∀ (n : Nat) (f a : Nat) (x t : Int) (T : Rc), f < n → f ≤ 6 → x = 6 - (f : Int) → a ≤ z → TX B z a T → 0 ≤ t ∧ t < 64 → nnL B z (m 2 3) r f t a = res →  GC κ μ (ZZ κ μ 0 0 Q) 0 0 28 [some (.ref (ad κ 5 0)), some (.ref (ad κ 2 3)), some (vi r), some (vi t), some (vi x), none] [] (World κ (mset m 5 0 T)) := by
  obtain ⟨s0, s1, s2, s3, s4, s5, hfg, hkd, hsh, hgl⟩ := id hS
  intro n
  induction n with
  | zero =>
    intro f a x t T hn hf hx ha ht htt hres
    exact absurd hn (by omega)
  | succ n ih =>
    intro f a x t T hn hf hx ha ht htt hres
    obtain ⟨t0, tb0, t2, t3, t4, tval⟩ := id ht
    have hkr := lK_r B z a
    have her := lE_r (B := B) ha
    have hz150 := hB0.1
    refine g_iload F a_T_noonItem_28 rfl ?_
    refine g_bipush F a_T_noonItem_30 (by decide) ?_
    refine g_icmp_ge F (by first | omega | exact bAnd_r _ _ | (have := tval (by omega); have := lV_r hB0 ha (by omega); omega)) (by first | omega | exact bAnd_r _ _ | (have := tval (by omega); have := lV_r hB0 ha (by omega); omega)) a_T_noonItem_32 (fun h32 => ?_) (fun h32 => ?_)
    · refine g_aload_n F a_T_noonItem_109 rfl ?_
      refine g_v0 F a_T_noonItem_110 vc_T_82 mk_T_ended ob_5 ck_5.1 rfl rfl (by decide) ⟨Nat.le_refl _, Nat.le_refl _⟩ rfl (Nat.le_of_ble_eq_true rfl) (sp_T_ended (p := a) hB0 (by omega) (by exact ht) (fun q T2 ht2 hb110 => GCr.v ?_) (fun g110 => GCr.v ?_))
      · refine g_ifne1 F a_T_noonItem_113 ?_
        refine g_aload_n F a_T_noonItem_118 rfl ?_
        refine g_iload_n F a_T_noonItem_119 rfl ?_
        refine g_iload_n F a_T_noonItem_120 rfl ?_
        refine g_v2 F a_T_noonItem_121 vc_T_106 mk_H_sail (ob_2 (by first | assumption | decide | omega)) ck_2.1 rfl rfl (by decide) ⟨Nat.le_refl _, Nat.le_refl _⟩ rfl (Nat.le_of_ble_eq_true rfl) (sp_H_sail (D := D) (by decide) (by exact hS) hD htt (by omega) (GCr.n ?_))
        (try simp only [mset_app, mset_mset, fup_app, aup_app, fup_fup, aup_aup, false_and, and_false, true_and, and_true, and_self, reduceIte, Nat.reduceEqDiff, reduceCtorEq, fup_10, mset_52])
        refine g_iconst F a_T_noonItem_124 ?_
        refine g_zret F a_T_noonItem_125 rfl rfl ⟨Nat.le_refl _, Nat.le_refl _⟩ ?_
        obtain rfl : f = 0 := by omega
        exact hQ.1 _ (lE B z a) (sailS (m 2 3) t r) (by rw [← hres]; exact if_pos (by assumption)) FT_52 (by exact ht2) (by omega) rfl
      · refine g_ifne0 F a_T_noonItem_113 ?_
        refine g_iconst F a_T_noonItem_116 ?_
        refine g_zret F a_T_noonItem_117 rfl rfl ⟨Nat.le_refl _, Nat.le_refl _⟩ ?_
        obtain rfl : f = 0 := by omega
        exact hQ.2 _ (lS B z a) (by rw [← hres]; exact if_neg (by assumption)) (by first | exact FT_5 | (rw [mset_mset]; exact FT_5) | (rw [mset_mset, mset_mset]; exact FT_5) | (rw [mset_mset, mset_mset, mset_mset]; exact FT_5)) (by exact ht.2.2.1) (by exact ht.1) (by exact ht.2.1) hS
    · obtain ⟨f, rfl⟩ : ∃ f0 : Nat, f = f0 + 1 := ⟨f - 1, by omega⟩
      refine g_aload_n F a_T_noonItem_35 rfl ?_
      refine g_get_5_4 F a_T_noonItem_36 fl_T_25 ?_
      (try simp only [mset_app, mset_mset, fup_app, aup_app, fup_fup, aup_aup, false_and, and_false, true_and, and_true, and_self, reduceIte, Nat.reduceEqDiff, reduceCtorEq, fup_10, mset_52])
      refine g_iconst F a_T_noonItem_39 ?_
      refine g_icmp_eq F (by first | omega | exact bAnd_r _ _ | (have := tval (by omega); have := lV_r hB0 ha (by omega); omega)) (by first | omega | exact bAnd_r _ _ | (have := tval (by omega); have := lV_r hB0 ha (by omega); omega)) a_T_noonItem_40 (fun h40 => ?_) (fun h40 => ?_)
      · refine g_aload_n F a_T_noonItem_109 rfl ?_
        refine g_v0 F a_T_noonItem_110 vc_T_82 mk_T_ended ob_5 ck_5.1 rfl rfl (by decide) ⟨Nat.le_refl _, Nat.le_refl _⟩ rfl (Nat.le_of_ble_eq_true rfl) (sp_T_ended (p := a) hB0 (by omega) (by exact ht) (fun q T2 ht2 hb110 => GCr.v ?_) (fun g110 => GCr.v ?_))
        · refine g_ifne1 F a_T_noonItem_113 ?_
          refine g_aload_n F a_T_noonItem_118 rfl ?_
          refine g_iload_n F a_T_noonItem_119 rfl ?_
          refine g_iload_n F a_T_noonItem_120 rfl ?_
          refine g_v2 F a_T_noonItem_121 vc_T_106 mk_H_sail (ob_2 (by first | assumption | decide | omega)) ck_2.1 rfl rfl (by decide) ⟨Nat.le_refl _, Nat.le_refl _⟩ rfl (Nat.le_of_ble_eq_true rfl) (sp_H_sail (D := D) (by decide) (by exact hS) hD htt (by omega) (GCr.n ?_))
          (try simp only [mset_app, mset_mset, fup_app, aup_app, fup_fup, aup_aup, false_and, and_false, true_and, and_true, and_self, reduceIte, Nat.reduceEqDiff, reduceCtorEq, fup_10, mset_52])
          refine g_iconst F a_T_noonItem_124 ?_
          refine g_zret F a_T_noonItem_125 rfl rfl ⟨Nat.le_refl _, Nat.le_refl _⟩ ?_
          exact hQ.1 _ (lE B z a) (sailS (m 2 3) t r) (by rw [← hres]; unfold nnL; rw [if_pos (show lK B z a = 3 by omega)]; exact if_pos (by assumption)) FT_52 (by exact ht2) (by omega) rfl
        · refine g_ifne0 F a_T_noonItem_113 ?_
          refine g_iconst F a_T_noonItem_116 ?_
          refine g_zret F a_T_noonItem_117 rfl rfl ⟨Nat.le_refl _, Nat.le_refl _⟩ ?_
          exact hQ.2 _ (lS B z a) (by rw [← hres]; unfold nnL; rw [if_pos (show lK B z a = 3 by omega)]; exact if_neg (by assumption)) (by first | exact FT_5 | (rw [mset_mset]; exact FT_5) | (rw [mset_mset, mset_mset]; exact FT_5) | (rw [mset_mset, mset_mset, mset_mset]; exact FT_5)) (by exact ht.2.2.1) (by exact ht.1) (by exact ht.2.1) hS
      · refine g_aload_n F a_T_noonItem_43 rfl ?_
        refine g_get_5_4 F a_T_noonItem_44 fl_T_25 ?_
        (try simp only [mset_app, mset_mset, fup_app, aup_app, fup_fup, aup_aup, false_and, and_false, true_and, and_true, and_self, reduceIte, Nat.reduceEqDiff, reduceCtorEq, fup_10, mset_52])
        refine g_iconst F a_T_noonItem_47 ?_
        refine g_icmp_ne F (by first | omega | exact bAnd_r _ _ | (have := tval (by omega); have := lV_r hB0 ha (by omega); omega)) (by first | omega | exact bAnd_r _ _ | (have := tval (by omega); have := lV_r hB0 ha (by omega); omega)) a_T_noonItem_48 (fun h48 => ?_) (fun h48 => ?_)
        · refine g_aload_n F a_T_noonItem_75 rfl ?_
          refine g_iconst F a_T_noonItem_76 ?_
          refine g_aload_n F a_T_noonItem_77 rfl ?_
          refine g_get_2_4 F a_T_noonItem_78 fl_T_52 (by first | assumption | decide | omega) ?_
          (try simp only [mset_app, mset_mset, fup_app, aup_app, fup_fup, aup_aup, false_and, and_false, true_and, and_true, and_self, reduceIte, Nat.reduceEqDiff, reduceCtorEq, fup_10, mset_52])
          refine g_iconst F a_T_noonItem_81 ?_
          refine g_isub F a_T_noonItem_82 ?_
          refine g_v2 F a_T_noonItem_83 vc_T_78 mk_T_number ob_5 ck_5.1 rfl rfl (by decide) ⟨Nat.le_refl _, Nat.le_refl _⟩ rfl (Nat.le_of_ble_eq_true rfl) (sp_T_number (p := a) hB0 (by omega) (by exact ht) (by omega) (by omega) (fun a83 b83 c83 T3 ht3 hb83 => GCr.v ?_) (fun g83 => GCr.v ?_))
          · refine g_istore (ls' := [_, _, _, _, _, _]) F a_T_noonItem_86 rfl rfl rfl ?_
            refine g_iload F a_T_noonItem_88 rfl ?_
            refine g_iconst F a_T_noonItem_90 ?_
            refine g_icmp_ne F (by first | omega | exact bAnd_r _ _ | (have := tval (by omega); have := lV_r hB0 ha (by omega); omega)) (by first | omega | exact bAnd_r _ _ | (have := tval (by omega); have := lV_r hB0 ha (by omega); omega)) a_T_noonItem_91 (fun h91 => ?_) (fun h91 => ?_)
            · refine g_iload_n F a_T_noonItem_96 rfl ?_
              refine g_iconst F a_T_noonItem_97 ?_
              refine g_iload F a_T_noonItem_98 rfl ?_
              refine g_ishl F a_T_noonItem_100 ?_
              refine g_ior F a_T_noonItem_101 ?_
              refine g_istore_n (ls' := [_, _, _, _, _, _]) F a_T_noonItem_102 rfl rfl rfl ?_
              refine g_iinc (ls' := [_, _, _, _, _, _]) F a_T_noonItem_103 rfl rfl rfl ?_
              refine g_goto F a_T_noonItem_106 ?_
              exfalso; omega
            · refine g_iconst F a_T_noonItem_94 ?_
              refine g_zret F a_T_noonItem_95 rfl rfl ⟨Nat.le_refl _, Nat.le_refl _⟩ ?_
              exfalso; omega
          · refine g_istore (ls' := [_, _, _, _, _, _]) F a_T_noonItem_86 rfl rfl rfl ?_
            refine g_iload F a_T_noonItem_88 rfl ?_
            refine g_iconst F a_T_noonItem_90 ?_
            refine g_icmp_ne F (by decide) (by decide) a_T_noonItem_91 (fun hz => absurd hz (by decide)) (fun hz => ?_)
            refine g_iconst F a_T_noonItem_94 ?_
            refine g_zret F a_T_noonItem_95 rfl rfl ⟨Nat.le_refl _, Nat.le_refl _⟩ ?_
            exact hQ.2 _ (lS B z a) (by rw [← hres]; unfold nnL; rw [if_neg (show ¬ lK B z a = 3 by omega), if_neg (show ¬ (lK B z a = 2 ∧ lV B z a < (m 2 3).1 4 ∧ bAnd (bShr t (lV B z a)) 1 ≠ 0) from fun q => absurd q.1 (by omega)), if_neg g83]) (by first | exact FT_5 | (rw [mset_mset]; exact FT_5) | (rw [mset_mset, mset_mset]; exact FT_5) | (rw [mset_mset, mset_mset, mset_mset]; exact FT_5)) (by exact ht.2.2.1) (by exact ht.1) (by exact ht.2.1) hS
        · refine g_aload_n F a_T_noonItem_51 rfl ?_
          refine g_get_5_5 F a_T_noonItem_52 fl_T_103 ?_
          (try simp only [mset_app, mset_mset, fup_app, aup_app, fup_fup, aup_aup, false_and, and_false, true_and, and_true, and_self, reduceIte, Nat.reduceEqDiff, reduceCtorEq, fup_10, mset_52])
          refine g_aload_n F a_T_noonItem_55 rfl ?_
          refine g_get_2_4 F a_T_noonItem_56 fl_T_52 (by first | assumption | decide | omega) ?_
          (try simp only [mset_app, mset_mset, fup_app, aup_app, fup_fup, aup_aup, false_and, and_false, true_and, and_true, and_self, reduceIte, Nat.reduceEqDiff, reduceCtorEq, fup_10, mset_52])
          refine g_icmp_ge F (by first | omega | exact bAnd_r _ _ | (have := tval (by omega); have := lV_r hB0 ha (by omega); omega)) (by first | omega | exact bAnd_r _ _ | (have := tval (by omega); have := lV_r hB0 ha (by omega); omega)) a_T_noonItem_59 (fun h59 => ?_) (fun h59 => ?_)
          · refine g_aload_n F a_T_noonItem_75 rfl ?_
            refine g_iconst F a_T_noonItem_76 ?_
            refine g_aload_n F a_T_noonItem_77 rfl ?_
            refine g_get_2_4 F a_T_noonItem_78 fl_T_52 (by first | assumption | decide | omega) ?_
            (try simp only [mset_app, mset_mset, fup_app, aup_app, fup_fup, aup_aup, false_and, and_false, true_and, and_true, and_self, reduceIte, Nat.reduceEqDiff, reduceCtorEq, fup_10, mset_52])
            refine g_iconst F a_T_noonItem_81 ?_
            refine g_isub F a_T_noonItem_82 ?_
            refine g_v2 F a_T_noonItem_83 vc_T_78 mk_T_number ob_5 ck_5.1 rfl rfl (by decide) ⟨Nat.le_refl _, Nat.le_refl _⟩ rfl (Nat.le_of_ble_eq_true rfl) (sp_T_number (p := a) hB0 (by omega) (by exact ht) (by omega) (by omega) (fun a83 b83 c83 T3 ht3 hb83 => GCr.v ?_) (fun g83 => GCr.v ?_))
            · refine g_istore (ls' := [_, _, _, _, _, _]) F a_T_noonItem_86 rfl rfl rfl ?_
              refine g_iload F a_T_noonItem_88 rfl ?_
              refine g_iconst F a_T_noonItem_90 ?_
              refine g_icmp_ne F (by first | omega | exact bAnd_r _ _ | (have := tval (by omega); have := lV_r hB0 ha (by omega); omega)) (by first | omega | exact bAnd_r _ _ | (have := tval (by omega); have := lV_r hB0 ha (by omega); omega)) a_T_noonItem_91 (fun h91 => ?_) (fun h91 => ?_)
              · refine g_iload_n F a_T_noonItem_96 rfl ?_
                refine g_iconst F a_T_noonItem_97 ?_
                refine g_iload F a_T_noonItem_98 rfl ?_
                refine g_ishl F a_T_noonItem_100 ?_
                refine g_ior F a_T_noonItem_101 ?_
                refine g_istore_n (ls' := [_, _, _, _, _, _]) F a_T_noonItem_102 rfl rfl rfl ?_
                refine g_iinc (ls' := [_, _, _, _, _, _]) F a_T_noonItem_103 rfl rfl rfl ?_
                refine g_goto F a_T_noonItem_106 ?_
                have e5 := tval (by omega)
                exfalso; omega
              · refine g_iconst F a_T_noonItem_94 ?_
                refine g_zret F a_T_noonItem_95 rfl rfl ⟨Nat.le_refl _, Nat.le_refl _⟩ ?_
                exfalso; omega
            · refine g_istore (ls' := [_, _, _, _, _, _]) F a_T_noonItem_86 rfl rfl rfl ?_
              refine g_iload F a_T_noonItem_88 rfl ?_
              refine g_iconst F a_T_noonItem_90 ?_
              refine g_icmp_ne F (by decide) (by decide) a_T_noonItem_91 (fun hz => absurd hz (by decide)) (fun hz => ?_)
              refine g_iconst F a_T_noonItem_94 ?_
              refine g_zret F a_T_noonItem_95 rfl rfl ⟨Nat.le_refl _, Nat.le_refl _⟩ ?_
              have e5 := tval (by omega)
              exact hQ.2 _ (lS B z a) (by rw [← hres]; unfold nnL; rw [if_neg (show ¬ lK B z a = 3 by omega), if_neg (show ¬ (lK B z a = 2 ∧ lV B z a < (m 2 3).1 4 ∧ bAnd (bShr t (lV B z a)) 1 ≠ 0) from fun q => absurd q.2.1 (by omega)), if_neg g83]) (by first | exact FT_5 | (rw [mset_mset]; exact FT_5) | (rw [mset_mset, mset_mset]; exact FT_5) | (rw [mset_mset, mset_mset, mset_mset]; exact FT_5)) (by exact ht.2.2.1) (by exact ht.1) (by exact ht.2.1) hS
          · refine g_iload_n F a_T_noonItem_62 rfl ?_
            refine g_aload_n F a_T_noonItem_63 rfl ?_
            refine g_get_5_5 F a_T_noonItem_64 fl_T_103 ?_
            (try simp only [mset_app, mset_mset, fup_app, aup_app, fup_fup, aup_aup, false_and, and_false, true_and, and_true, and_self, reduceIte, Nat.reduceEqDiff, reduceCtorEq, fup_10, mset_52])
            refine g_ishr F a_T_noonItem_67 ?_
            refine g_iconst F a_T_noonItem_68 ?_
            refine g_iand F a_T_noonItem_69 ?_
            refine g_if_eq F (by first | omega | exact bAnd_r _ _ | (have := tval (by omega); have := lV_r hB0 ha (by omega); omega)) a_T_noonItem_70 (fun h70 => ?_) (fun h70 => ?_)
            · refine g_aload_n F a_T_noonItem_75 rfl ?_
              refine g_iconst F a_T_noonItem_76 ?_
              refine g_aload_n F a_T_noonItem_77 rfl ?_
              refine g_get_2_4 F a_T_noonItem_78 fl_T_52 (by first | assumption | decide | omega) ?_
              (try simp only [mset_app, mset_mset, fup_app, aup_app, fup_fup, aup_aup, false_and, and_false, true_and, and_true, and_self, reduceIte, Nat.reduceEqDiff, reduceCtorEq, fup_10, mset_52])
              refine g_iconst F a_T_noonItem_81 ?_
              refine g_isub F a_T_noonItem_82 ?_
              refine g_v2 F a_T_noonItem_83 vc_T_78 mk_T_number ob_5 ck_5.1 rfl rfl (by decide) ⟨Nat.le_refl _, Nat.le_refl _⟩ rfl (Nat.le_of_ble_eq_true rfl) (sp_T_number (p := a) hB0 (by omega) (by exact ht) (by omega) (by omega) (fun a83 b83 c83 T3 ht3 hb83 => GCr.v ?_) (fun g83 => GCr.v ?_))
              · refine g_istore (ls' := [_, _, _, _, _, _]) F a_T_noonItem_86 rfl rfl rfl ?_
                refine g_iload F a_T_noonItem_88 rfl ?_
                refine g_iconst F a_T_noonItem_90 ?_
                refine g_icmp_ne F (by first | omega | exact bAnd_r _ _ | (have := tval (by omega); have := lV_r hB0 ha (by omega); omega)) (by first | omega | exact bAnd_r _ _ | (have := tval (by omega); have := lV_r hB0 ha (by omega); omega)) a_T_noonItem_91 (fun h91 => ?_) (fun h91 => ?_)
                · refine g_iload_n F a_T_noonItem_96 rfl ?_
                  refine g_iconst F a_T_noonItem_97 ?_
                  refine g_iload F a_T_noonItem_98 rfl ?_
                  refine g_ishl F a_T_noonItem_100 ?_
                  refine g_ior F a_T_noonItem_101 ?_
                  refine g_istore_n (ls' := [_, _, _, _, _, _]) F a_T_noonItem_102 rfl rfl rfl ?_
                  refine g_iinc (ls' := [_, _, _, _, _, _]) F a_T_noonItem_103 rfl rfl rfl ?_
                  refine g_goto F a_T_noonItem_106 ?_
                  have e5 := tval (by omega)
                  have h70z := h70
                  rw [e5] at h70z
                  refine GC.loc2 (ih f (lE B z a) _ _ T3 (by omega) (by omega) (by omega) (by omega) ht3 (orsh htt (by omega)) ?_) ⟨rfl, rfl, rfl, rfl, rfl, trivial⟩
                  rw [← hres]
                  conv => rhs; unfold nnL
                  rw [if_neg (show ¬ lK B z a = 3 by omega), if_neg (show ¬ (lK B z a = 2 ∧ lV B z a < (m 2 3).1 4 ∧ bAnd (bShr t (lV B z a)) 1 ≠ 0) from fun q => q.2.2 h70z), if_pos ⟨a83, b83, c83⟩]
                · refine g_iconst F a_T_noonItem_94 ?_
                  refine g_zret F a_T_noonItem_95 rfl rfl ⟨Nat.le_refl _, Nat.le_refl _⟩ ?_
                  exfalso; omega
              · refine g_istore (ls' := [_, _, _, _, _, _]) F a_T_noonItem_86 rfl rfl rfl ?_
                refine g_iload F a_T_noonItem_88 rfl ?_
                refine g_iconst F a_T_noonItem_90 ?_
                refine g_icmp_ne F (by decide) (by decide) a_T_noonItem_91 (fun hz => absurd hz (by decide)) (fun hz => ?_)
                refine g_iconst F a_T_noonItem_94 ?_
                refine g_zret F a_T_noonItem_95 rfl rfl ⟨Nat.le_refl _, Nat.le_refl _⟩ ?_
                have e5 := tval (by omega)
                have h70z := h70
                rw [e5] at h70z
                exact hQ.2 _ (lS B z a) (by rw [← hres]; unfold nnL; rw [if_neg (show ¬ lK B z a = 3 by omega), if_neg (show ¬ (lK B z a = 2 ∧ lV B z a < (m 2 3).1 4 ∧ bAnd (bShr t (lV B z a)) 1 ≠ 0) from fun q => q.2.2 h70z), if_neg g83]) (by first | exact FT_5 | (rw [mset_mset]; exact FT_5) | (rw [mset_mset, mset_mset]; exact FT_5) | (rw [mset_mset, mset_mset, mset_mset]; exact FT_5)) (by exact ht.2.2.1) (by exact ht.1) (by exact ht.2.1) hS
            · refine g_iconst F a_T_noonItem_73 ?_
              refine g_zret F a_T_noonItem_74 rfl rfl ⟨Nat.le_refl _, Nat.le_refl _⟩ ?_
              have e5 := tval (by omega)
              have h70z := h70
              rw [e5] at h70z
              exact hQ.2 _ (lS B z a) (by rw [← hres]; unfold nnL; rw [if_neg (show ¬ lK B z a = 3 by omega), if_pos ⟨by omega, by omega, h70z⟩]) (by first | exact FT_5 | (rw [mset_mset]; exact FT_5) | (rw [mset_mset, mset_mset]; exact FT_5) | (rw [mset_mset, mset_mset, mset_mset]; exact FT_5)) (by exact ht.2.2.1) (by exact ht.1) (by exact ht.2.1) hS
set_option maxHeartbeats 1000000 in
theorem sp_T_noonItem {κ : Kx} {Q : Option Value → (Heap → Prop) → Prop} {m : Mem} {B : Int → Int} {z p : Nat} {D : Int} (hB0 : okB B z) (hpz : p ≤ z) (hT : TX B z p (m 5 0)) (hS : okS D (m 2 3)) (hD : D ≤ 100000) (hQ : IT κ Q D m B z (iNoon B z (lE B z p) (m 2 3))) : GG κ G_T_noonItem 4 0 0 [.ref (ad κ 5 0), .ref (ad κ 2 3)] (World κ m) Q := by
  obtain ⟨t0, tb0, t2, t3, t4, tval⟩ := id hT
  obtain ⟨s0, s1, s2, s3, s4, s5, hfg, hkd, hsh, hgl⟩ := id hS
  have hz150 := hB0.1
  have her := lE_r (B := B) hpz
  have her2 := lE_r (B := B) her.2
  have her3 := lE_r (B := B) her2.2
  have her4 := lE_r (B := B) her3.2
  refine GG.intro (ls := [some _, some _, none, none, none, none]) (Nat.le_of_ble_eq_true rfl) rfl (fun μ F => ?_)
  refine g_aload_n F a_T_noonItem_0 rfl ?_
  refine g_v0 F a_T_noonItem_1 vc_T_22 mk_T_advance ob_5 ck_5.1 rfl rfl (by decide) ⟨Nat.le_refl _, Nat.le_refl _⟩ rfl (Nat.le_of_ble_eq_true rfl) (sp_T_advance (z := z) (p := lE B z p) (by rw [tb0]; exact hB0) her.2 t0 t3 (fun T0 ht0 hb0 => (GCr.n ?_)))
  rw [tb0] at ht0
  (try simp only [mset_app, mset_mset, fup_app, aup_app, fup_fup, aup_aup, false_and, and_false, true_and, and_true, and_self, reduceIte, Nat.reduceEqDiff, reduceCtorEq, fup_10, mset_52])
  refine g_aload_n F a_T_noonItem_4 rfl ?_
  refine g_iconst F a_T_noonItem_5 ?_
  refine g_aload_n F a_T_noonItem_6 rfl ?_
  refine g_get_2_5 F a_T_noonItem_7 fl_T_62 (by first | assumption | decide | omega) ?_
  (try simp only [mset_app, mset_mset, fup_app, aup_app, fup_fup, aup_aup, false_and, and_false, true_and, and_true, and_self, reduceIte, Nat.reduceEqDiff, reduceCtorEq, fup_10, mset_52])
  refine g_iconst F a_T_noonItem_10 ?_
  refine g_isub F a_T_noonItem_11 ?_
  refine g_v2 F a_T_noonItem_12 vc_T_78 mk_T_number ob_5 ck_5.1 rfl rfl (by decide) ⟨Nat.le_refl _, Nat.le_refl _⟩ rfl (Nat.le_of_ble_eq_true rfl) (sp_T_number (p := (lE B z p)) hB0 (by omega) (by exact ht0) (by omega) (by omega) (fun a12 b12 c12 T1 ht1 hb12 => GCr.v ?_) (fun g12 => GCr.v ?_))
  · refine g_istore_n (ls' := [_, _, _, _, _, _]) F a_T_noonItem_15 rfl rfl rfl ?_
    refine g_iload_n F a_T_noonItem_16 rfl ?_
    refine g_iconst F a_T_noonItem_17 ?_
    refine g_icmp_ne F (by omega) (by omega) a_T_noonItem_18 (fun h18 => ?_) (fun h18 => ?_)
    · refine g_iconst F a_T_noonItem_23 ?_
      refine g_istore_n (ls' := [_, _, _, _, _, _]) F a_T_noonItem_24 rfl rfl rfl ?_
      refine g_iconst F a_T_noonItem_25 ?_
      refine g_istore (ls' := [_, _, _, _, _, _]) F a_T_noonItem_26 rfl rfl rfl ?_
      refine GC.loc2 (lp_T_noon (m := m) (r := lV B z (lE B z p)) hB0 hD hS ⟨b12, by omega⟩ hQ F 7 6 (lE B z (lE B z p)) _ _ T1 (by omega) (by omega) rfl her2.2 ht1 (by decide) ?_) ⟨rfl, rfl, rfl, rfl, rfl, trivial⟩
      unfold iNoon
      rw [if_pos ⟨a12, b12, c12⟩]
    · refine g_iconst F a_T_noonItem_21 ?_
      refine g_zret F a_T_noonItem_22 rfl rfl ⟨Nat.le_refl _, Nat.le_refl _⟩ ?_
      exfalso; omega
  · refine g_istore_n (ls' := [_, _, _, _, _, _]) F a_T_noonItem_15 rfl rfl rfl ?_
    refine g_iload_n F a_T_noonItem_16 rfl ?_
    refine g_iconst F a_T_noonItem_17 ?_
    refine g_icmp_ne F (by decide) (by decide) a_T_noonItem_18 (fun hz => absurd hz (by decide)) (fun hz => ?_)
    refine g_iconst F a_T_noonItem_21 ?_
    refine g_zret F a_T_noonItem_22 rfl rfl ⟨Nat.le_refl _, Nat.le_refl _⟩ ?_
    exact hQ.2 _ _ (if_neg g12) (by first | exact FT_5 | (rw [mset_mset]; exact FT_5) | (rw [mset_mset, mset_mset]; exact FT_5) | (rw [mset_mset, mset_mset, mset_mset]; exact FT_5)) (by exact ht0.2.2.1) (by exact ht0.1) (by exact ht0.2.1) hS
set_option maxHeartbeats 1000000 in
theorem sp_T_item1 {κ : Kx} {Q : Option Value → (Heap → Prop) → Prop} {m : Mem} {B : Int → Int} {z p : Nat} {D : Int} (hB0 : okB B z) (hpz : p ≤ z) (hT : TX B z p (m 5 0)) (hS : okS D (m 2 3)) (hD : D ≤ 100000) (hQ : IT κ Q D m B z (item B z p true (m 2 3))) : GG κ G_T_item 6 0 0 [.ref (ad κ 5 0), .ref (ad κ 2 3), vi 1] (World κ m) Q := by
  obtain ⟨t0, tb0, t2, t3, t4, tval⟩ := id hT
  obtain ⟨s0, s1, s2, s3, s4, s5, hfg, hkd, hsh, hgl⟩ := id hS
  have hz150 := hB0.1
  have her := lE_r (B := B) hpz
  have her2 := lE_r (B := B) her.2
  have her3 := lE_r (B := B) her2.2
  have her4 := lE_r (B := B) her3.2
  refine GG.intro (ls := [some _, some _, some _, none]) (Nat.le_of_ble_eq_true rfl) rfl (fun μ F => ?_)
  refine g_aload_n F a_T_item_0 rfl ?_
  refine g_ldcS (i := 0) F a_T_item_1 (by decide) rfl rfl ?_
  refine g_v1 F a_T_item_3 vc_T_37 mk_T_wordIs ob_5 ck_5.1 rfl rfl (by decide) ⟨Nat.le_refl _, Nat.le_refl _⟩ rfl (Nat.le_of_ble_eq_true rfl) (sp_T_wordIs (i := 0) hB0 hpz hT (by decide) (fun c3 => GCr.v ?_) (fun c3 => GCr.v ?_))
  · refine g_istore_n (ls' := [_, _, _, _]) F a_T_item_6 rfl rfl rfl ?_
    refine g_iload_n F a_T_item_7 rfl ?_
    refine g_iload_n F a_T_item_8 rfl ?_
    refine g_icmp_eq F (by decide) (by decide) a_T_item_9 (fun hz => ?_) (fun hz => absurd hz (by decide))
    refine g_iload_n F a_T_item_14 rfl ?_
    refine g_ifeq1 F a_T_item_15 ?_
    refine g_aload_n F a_T_item_18 rfl ?_
    refine g_aload_n F a_T_item_19 rfl ?_
    refine g_v1 F a_T_item_20 vc_T_41 mk_T_shipItem ob_5 ck_5.1 rfl rfl (by decide) ⟨Nat.le_refl _, Nat.le_refl _⟩ rfl (Nat.le_of_ble_eq_true rfl) (sp_T_shipItem hB0 hpz hT hS hD ⟨fun m1 q1 S1 e1 f1 x1 y1 v20 => GCr.v ?_, fun m1 q1 e1 f1 x1 y1 w1 v20 => GCr.v ?_⟩)
    · refine g_zret F a_T_item_23 rfl rfl ⟨Nat.le_refl _, Nat.le_refl _⟩ ?_
      exact hQ.1 m1 q1 S1 (by simp only [item, c3, Bool.false_eq_true, reduceIte, if_true, if_false, eq_self, reduceCtorEq]; exact e1) f1 x1 y1 v20
    · refine g_zret F a_T_item_23 rfl rfl ⟨Nat.le_refl _, Nat.le_refl _⟩ ?_
      exact hQ.2 m1 q1 (by simp only [item, c3, Bool.false_eq_true, reduceIte, if_true, if_false, eq_self, reduceCtorEq]; exact e1) f1 x1 y1 w1 v20
  · refine g_istore_n (ls' := [_, _, _, _]) F a_T_item_6 rfl rfl rfl ?_
    refine g_iload_n F a_T_item_7 rfl ?_
    refine g_iload_n F a_T_item_8 rfl ?_
    refine g_icmp_eq F (by decide) (by decide) a_T_item_9 (fun hz => absurd hz (by decide)) (fun hz => ?_)
    refine g_iconst F a_T_item_12 ?_
    refine g_zret F a_T_item_13 rfl rfl ⟨Nat.le_refl _, Nat.le_refl _⟩ ?_
    exact hQ.2 m (lS B z p) (by simp only [item, c3, Bool.false_eq_true, reduceIte, if_true, if_false, eq_self, reduceCtorEq]) FT.rfl t2 t0 tb0 hS
set_option maxHeartbeats 1000000 in
theorem sp_T_item0 {κ : Kx} {Q : Option Value → (Heap → Prop) → Prop} {m : Mem} {B : Int → Int} {z p : Nat} {D : Int} (hB0 : okB B z) (hpz : p ≤ z) (hT : TX B z p (m 5 0)) (hS : okS D (m 2 3)) (hD : D ≤ 100000) (hQ : IT κ Q D m B z (item B z p false (m 2 3))) : GG κ G_T_item 6 0 0 [.ref (ad κ 5 0), .ref (ad κ 2 3), vi 0] (World κ m) Q := by
  obtain ⟨t0, tb0, t2, t3, t4, tval⟩ := id hT
  obtain ⟨s0, s1, s2, s3, s4, s5, hfg, hkd, hsh, hgl⟩ := id hS
  have hz150 := hB0.1
  have her := lE_r (B := B) hpz
  have her2 := lE_r (B := B) her.2
  have her3 := lE_r (B := B) her2.2
  have her4 := lE_r (B := B) her3.2
  refine GG.intro (ls := [some _, some _, some _, none]) (Nat.le_of_ble_eq_true rfl) rfl (fun μ F => ?_)
  refine g_aload_n F a_T_item_0 rfl ?_
  refine g_ldcS (i := 0) F a_T_item_1 (by decide) rfl rfl ?_
  refine g_v1 F a_T_item_3 vc_T_37 mk_T_wordIs ob_5 ck_5.1 rfl rfl (by decide) ⟨Nat.le_refl _, Nat.le_refl _⟩ rfl (Nat.le_of_ble_eq_true rfl) (sp_T_wordIs (i := 0) hB0 hpz hT (by decide) (fun c3 => GCr.v ?_) (fun c3 => GCr.v ?_))
  · refine g_istore_n (ls' := [_, _, _, _]) F a_T_item_6 rfl rfl rfl ?_
    refine g_iload_n F a_T_item_7 rfl ?_
    refine g_iload_n F a_T_item_8 rfl ?_
    refine g_icmp_eq F (by decide) (by decide) a_T_item_9 (fun hz => absurd hz (by decide)) (fun hz => ?_)
    refine g_iconst F a_T_item_12 ?_
    refine g_zret F a_T_item_13 rfl rfl ⟨Nat.le_refl _, Nat.le_refl _⟩ ?_
    exact hQ.2 m (lS B z p) (by simp only [item, c3, Bool.false_eq_true, reduceIte, if_true, if_false, eq_self, reduceCtorEq]) FT.rfl t2 t0 tb0 hS
  · refine g_istore_n (ls' := [_, _, _, _]) F a_T_item_6 rfl rfl rfl ?_
    refine g_iload_n F a_T_item_7 rfl ?_
    refine g_iload_n F a_T_item_8 rfl ?_
    refine g_icmp_eq F (by decide) (by decide) a_T_item_9 (fun hz => ?_) (fun hz => absurd hz (by decide))
    refine g_iload_n F a_T_item_14 rfl ?_
    refine g_ifeq0 F a_T_item_15 ?_
    refine g_aload_n F a_T_item_24 rfl ?_
    refine g_ldcS (i := 1) F a_T_item_25 (by decide) rfl rfl ?_
    refine g_v1 F a_T_item_27 vc_T_37 mk_T_wordIs ob_5 ck_5.1 rfl rfl (by decide) ⟨Nat.le_refl _, Nat.le_refl _⟩ rfl (Nat.le_of_ble_eq_true rfl) (sp_T_wordIs (i := 1) hB0 hpz hT (by decide) (fun c27 => GCr.v ?_) (fun c27 => GCr.v ?_))
    · refine g_ifeq1 F a_T_item_30 ?_
      refine g_aload_n F a_T_item_33 rfl ?_
      refine g_aload_n F a_T_item_34 rfl ?_
      refine g_v1 F a_T_item_35 vc_T_47 mk_T_fogItem ob_5 ck_5.1 rfl rfl (by decide) ⟨Nat.le_refl _, Nat.le_refl _⟩ rfl (Nat.le_of_ble_eq_true rfl) (sp_T_fogItem hB0 hpz hT hS hD ⟨fun m1 q1 S1 e1 f1 x1 y1 v35 => GCr.v ?_, fun m1 q1 e1 f1 x1 y1 w1 v35 => GCr.v ?_⟩)
      · refine g_zret F a_T_item_38 rfl rfl ⟨Nat.le_refl _, Nat.le_refl _⟩ ?_
        exact hQ.1 m1 q1 S1 (by simp only [item, c3, c27, Bool.false_eq_true, reduceIte, if_true, if_false, eq_self, reduceCtorEq]; exact e1) f1 x1 y1 v35
      · refine g_zret F a_T_item_38 rfl rfl ⟨Nat.le_refl _, Nat.le_refl _⟩ ?_
        exact hQ.2 m1 q1 (by simp only [item, c3, c27, Bool.false_eq_true, reduceIte, if_true, if_false, eq_self, reduceCtorEq]; exact e1) f1 x1 y1 w1 v35
    · refine g_ifeq0 F a_T_item_30 ?_
      refine g_aload_n F a_T_item_39 rfl ?_
      refine g_ldcS (i := 2) F a_T_item_40 (by decide) rfl rfl ?_
      refine g_v1 F a_T_item_42 vc_T_37 mk_T_wordIs ob_5 ck_5.1 rfl rfl (by decide) ⟨Nat.le_refl _, Nat.le_refl _⟩ rfl (Nat.le_of_ble_eq_true rfl) (sp_T_wordIs (i := 2) hB0 hpz hT (by decide) (fun c42 => GCr.v ?_) (fun c42 => GCr.v ?_))
      · refine g_ifeq1 F a_T_item_45 ?_
        refine g_aload_n F a_T_item_48 rfl ?_
        refine g_get_2_4 F a_T_item_49 fl_T_52 (by first | assumption | decide | omega) ?_
        refine g_bipush F a_T_item_52 (by decide) ?_
        refine g_icmp_ge F (by omega) (by omega) a_T_item_54 (fun h54 => ?_) (fun h54 => ?_)
        · refine g_iconst F a_T_item_69 ?_
          refine g_zret F a_T_item_70 rfl rfl ⟨Nat.le_refl _, Nat.le_refl _⟩ ?_
          exact hQ.2 m (lS B z p) (by simp only [item, c3, c27, c42, if_neg (show ¬ (m 2 3).1 4 < 6 by omega), Bool.false_eq_true, reduceIte, if_true, if_false, eq_self, reduceCtorEq]) FT.rfl t2 t0 tb0 hS
        · refine g_aload_n F a_T_item_57 rfl ?_
          refine g_aload_n F a_T_item_58 rfl ?_
          refine g_v1 F a_T_item_59 vc_T_57 mk_T_manItem ob_5 ck_5.1 rfl rfl (by decide) ⟨Nat.le_refl _, Nat.le_refl _⟩ rfl (Nat.le_of_ble_eq_true rfl) (sp_T_manItem hB0 hpz hT hS hD h54 ⟨fun m1 q1 S1 e1 f1 x1 y1 v59 => GCr.v ?_, fun m1 q1 e1 f1 x1 y1 w1 v59 => GCr.v ?_⟩)
          · refine g_ifeq1 F a_T_item_62 ?_
            refine g_iconst F a_T_item_65 ?_
            refine g_goto F a_T_item_66 ?_
            refine g_zret F a_T_item_70 rfl rfl ⟨Nat.le_refl _, Nat.le_refl _⟩ ?_
            exact hQ.1 m1 q1 S1 (by simp only [item, c3, c27, c42, h54, Bool.false_eq_true, reduceIte, if_true, if_false, eq_self, reduceCtorEq]; exact e1) f1 x1 y1 v59
          · refine g_ifeq0 F a_T_item_62 ?_
            refine g_iconst F a_T_item_69 ?_
            refine g_zret F a_T_item_70 rfl rfl ⟨Nat.le_refl _, Nat.le_refl _⟩ ?_
            exact hQ.2 m1 q1 (by simp only [item, c3, c27, c42, h54, Bool.false_eq_true, reduceIte, if_true, if_false, eq_self, reduceCtorEq]; exact e1) f1 x1 y1 w1 v59
      · refine g_ifeq0 F a_T_item_45 ?_
        refine g_aload_n F a_T_item_71 rfl ?_
        refine g_ldcS (i := 3) F a_T_item_72 (by decide) rfl rfl ?_
        refine g_v1 F a_T_item_74 vc_T_37 mk_T_wordIs ob_5 ck_5.1 rfl rfl (by decide) ⟨Nat.le_refl _, Nat.le_refl _⟩ rfl (Nat.le_of_ble_eq_true rfl) (sp_T_wordIs (i := 3) hB0 hpz hT (by decide) (fun c74 => GCr.v ?_) (fun c74 => GCr.v ?_))
        · refine g_ifeq1 F a_T_item_77 ?_
          refine g_aload_n F a_T_item_80 rfl ?_
          refine g_get_2_5 F a_T_item_81 fl_T_62 (by first | assumption | decide | omega) ?_
          refine g_iconst F a_T_item_84 ?_
          refine g_icmp_ge F (by omega) (by omega) a_T_item_85 (fun h85 => ?_) (fun h85 => ?_)
          · refine g_iconst F a_T_item_100 ?_
            refine g_zret F a_T_item_101 rfl rfl ⟨Nat.le_refl _, Nat.le_refl _⟩ ?_
            exact hQ.2 m (lS B z p) (by simp only [item, c3, c27, c42, c74, if_neg (show ¬ (m 2 3).1 5 < 3 by omega), Bool.false_eq_true, reduceIte, if_true, if_false, eq_self, reduceCtorEq]) FT.rfl t2 t0 tb0 hS
          · refine g_aload_n F a_T_item_88 rfl ?_
            refine g_aload_n F a_T_item_89 rfl ?_
            refine g_v1 F a_T_item_90 vc_T_65 mk_T_readerItem ob_5 ck_5.1 rfl rfl (by decide) ⟨Nat.le_refl _, Nat.le_refl _⟩ rfl (Nat.le_of_ble_eq_true rfl) (sp_T_readerItem hB0 hpz hT hS hD h85 ⟨fun m1 q1 S1 e1 f1 x1 y1 v90 => GCr.v ?_, fun m1 q1 e1 f1 x1 y1 w1 v90 => GCr.v ?_⟩)
            · refine g_ifeq1 F a_T_item_93 ?_
              refine g_iconst F a_T_item_96 ?_
              refine g_goto F a_T_item_97 ?_
              refine g_zret F a_T_item_101 rfl rfl ⟨Nat.le_refl _, Nat.le_refl _⟩ ?_
              exact hQ.1 m1 q1 S1 (by simp only [item, c3, c27, c42, c74, h85, Bool.false_eq_true, reduceIte, if_true, if_false, eq_self, reduceCtorEq]; exact e1) f1 x1 y1 v90
            · refine g_ifeq0 F a_T_item_93 ?_
              refine g_iconst F a_T_item_100 ?_
              refine g_zret F a_T_item_101 rfl rfl ⟨Nat.le_refl _, Nat.le_refl _⟩ ?_
              exact hQ.2 m1 q1 (by simp only [item, c3, c27, c42, c74, h85, Bool.false_eq_true, reduceIte, if_true, if_false, eq_self, reduceCtorEq]; exact e1) f1 x1 y1 w1 v90
        · refine g_ifeq0 F a_T_item_77 ?_
          refine g_aload_n F a_T_item_102 rfl ?_
          refine g_ldcS (i := 4) F a_T_item_103 (by decide) rfl rfl ?_
          refine g_v1 F a_T_item_105 vc_T_37 mk_T_wordIs ob_5 ck_5.1 rfl rfl (by decide) ⟨Nat.le_refl _, Nat.le_refl _⟩ rfl (Nat.le_of_ble_eq_true rfl) (sp_T_wordIs (i := 4) hB0 hpz hT (by decide) (fun c105 => GCr.v ?_) (fun c105 => GCr.v ?_))
          · refine g_ifeq1 F a_T_item_108 ?_
            refine g_aload_n F a_T_item_111 rfl ?_
            refine g_aload_n F a_T_item_112 rfl ?_
            refine g_v1 F a_T_item_113 vc_T_70 mk_T_deedItem ob_5 ck_5.1 rfl rfl (by decide) ⟨Nat.le_refl _, Nat.le_refl _⟩ rfl (Nat.le_of_ble_eq_true rfl) (sp_T_deedItem hB0 hpz hT hS hD ⟨fun m1 q1 S1 e1 f1 x1 y1 v113 => GCr.v ?_, fun m1 q1 e1 f1 x1 y1 w1 v113 => GCr.v ?_⟩)
            · refine g_zret F a_T_item_116 rfl rfl ⟨Nat.le_refl _, Nat.le_refl _⟩ ?_
              exact hQ.1 m1 q1 S1 (by simp only [item, c3, c27, c42, c74, c105, Bool.false_eq_true, reduceIte, if_true, if_false, eq_self, reduceCtorEq]; exact e1) f1 x1 y1 v113
            · refine g_zret F a_T_item_116 rfl rfl ⟨Nat.le_refl _, Nat.le_refl _⟩ ?_
              exact hQ.2 m1 q1 (by simp only [item, c3, c27, c42, c74, c105, Bool.false_eq_true, reduceIte, if_true, if_false, eq_self, reduceCtorEq]; exact e1) f1 x1 y1 w1 v113
          · refine g_ifeq0 F a_T_item_108 ?_
            refine g_aload_n F a_T_item_117 rfl ?_
            refine g_ldcS (i := 5) F a_T_item_118 (by decide) rfl rfl ?_
            refine g_v1 F a_T_item_120 vc_T_37 mk_T_wordIs ob_5 ck_5.1 rfl rfl (by decide) ⟨Nat.le_refl _, Nat.le_refl _⟩ rfl (Nat.le_of_ble_eq_true rfl) (sp_T_wordIs (i := 5) hB0 hpz hT (by decide) (fun c120 => GCr.v ?_) (fun c120 => GCr.v ?_))
            · refine g_ifeq1 F a_T_item_123 ?_
              refine g_aload_n F a_T_item_126 rfl ?_
              refine g_aload_n F a_T_item_127 rfl ?_
              refine g_v1 F a_T_item_128 vc_T_75 mk_T_noonItem ob_5 ck_5.1 rfl rfl (by decide) ⟨Nat.le_refl _, Nat.le_refl _⟩ rfl (Nat.le_of_ble_eq_true rfl) (sp_T_noonItem hB0 hpz hT hS hD ⟨fun m1 q1 S1 e1 f1 x1 y1 v128 => GCr.v ?_, fun m1 q1 e1 f1 x1 y1 w1 v128 => GCr.v ?_⟩)
              · refine g_ifeq1 F a_T_item_131 ?_
                refine g_iconst F a_T_item_134 ?_
                refine g_goto F a_T_item_135 ?_
                refine g_zret F a_T_item_139 rfl rfl ⟨Nat.le_refl _, Nat.le_refl _⟩ ?_
                exact hQ.1 m1 q1 S1 (by simp only [item, c3, c27, c42, c74, c105, c120, Bool.false_eq_true, reduceIte, if_true, if_false, eq_self, reduceCtorEq]; exact e1) f1 x1 y1 v128
              · refine g_ifeq0 F a_T_item_131 ?_
                refine g_iconst F a_T_item_138 ?_
                refine g_zret F a_T_item_139 rfl rfl ⟨Nat.le_refl _, Nat.le_refl _⟩ ?_
                exact hQ.2 m1 q1 (by simp only [item, c3, c27, c42, c74, c105, c120, Bool.false_eq_true, reduceIte, if_true, if_false, eq_self, reduceCtorEq]; exact e1) f1 x1 y1 w1 v128
            · refine g_ifeq0 F a_T_item_123 ?_
              refine g_iconst F a_T_item_138 ?_
              refine g_zret F a_T_item_139 rfl rfl ⟨Nat.le_refl _, Nat.le_refl _⟩ ?_
              exact hQ.2 m (lS B z p) (by simp only [item, c3, c27, c42, c74, c105, c120, Bool.false_eq_true, reduceIte, if_true, if_false, eq_self, reduceCtorEq]) FT.rfl t2 t0 tb0 hS
