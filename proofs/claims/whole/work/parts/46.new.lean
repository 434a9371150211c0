section LP
variable {κ : Kx} {Γ Γ' : Gm} {d d' mc ms mc' ms' : Nat} {μ : MX} {Z : State → Prop} {kc ks pc nx idx c i j j0 n : Nat} {ls : List (Option Value)} {st : List Value} {pre l l' l0 : List va_E} {v : Value} {x : Int} {q : vw_C} {ty : Nat → FieldType} {fs : List Value}
theorem g_newP (F : Fx κ Γ d mc ms μ) (hd : AT 3 Γ.2.1 pc (.new idx) nx) (hcl : Cond.classLink Γ.1.cls idx q.1 ∈ bg) (hc : CK c q ty) (hfs : ∀ j, j < q.2.2 → defaultValue (ty j) = vp_V fs j) (hm : kc + 1 ≤ mc ∧ ks + q.2.2 ≤ ms) (hn : l.length = n) (hl' : l ++ [.inr (c, fs)] = l')
    (k : GC κ μ Z (kc + 1) (ks + q.2.2) nx ls (.ref (kb κ + (pre.length + n)) :: st) (LW κ (pre ++ l'))) : GC κ μ Z kc ks pc ls st (LW κ (pre ++ l)) := by
  refine g_newL F hd hcl hc hfs hm ?_
  rw [List.length_append, hn, List.append_assoc, hl']
  exact k
theorem g_newIP (F : Fx κ Γ d mc ms μ) {z : Nat} (hd : AT 2 Γ.2.1 pc (.newarray .int) nx) (hx : x = z) (hz : z ≤ 1000) (hm : kc + 1 ≤ mc ∧ ks + z ≤ ms) (hn : l.length = n) (hl' : l ++ [izA κ z] = l') (k : GC κ μ Z (kc + 1) (ks + z) nx ls (.ref (kb κ + (pre.length + n)) :: st) (LW κ (pre ++ l'))) : GC κ μ Z kc ks pc ls (vi x :: st) (LW κ (pre ++ l)) := by
  refine g_newI F hd hx hz hm ?_
  rw [List.length_append, hn, List.append_assoc, hl']
  exact k
theorem g_newZP (F : Fx κ Γ d mc ms μ) {z : Nat} (hd : AT 2 Γ.2.1 pc (.newarray .boolean) nx) (hx : x = z) (hz : z ≤ 1000) (hm : kc + 1 ≤ mc ∧ ks + z ≤ ms) (hn : l.length = n) (hl' : l ++ [bzA κ z] = l') (k : GC κ μ Z (kc + 1) (ks + z) nx ls (.ref (kb κ + (pre.length + n)) :: st) (LW κ (pre ++ l'))) : GC κ μ Z kc ks pc ls (vi x :: st) (LW κ (pre ++ l)) := by
  refine g_newZ F hd hx hz hm ?_
  rw [List.length_append, hn, List.append_assoc, hl']
  exact k
theorem g_newQP (F : Fx κ Γ d mc ms μ) {z t : Nat} {C : String} {cQ : ClassId} (hd : AT 3 Γ.2.1 pc (.anewarray idx) nx) (hcl : Cond.classLink Γ.1.cls idx C ∈ bg) (hov : ∀ U : State, KN κ U → va_AO C U) (ht : (tys κ)[t]? = some (cQ, .object C)) (hx : x = z) (hz : z ≤ 1000) (hm : kc + 1 ≤ mc ∧ ks + z ≤ ms) (hn : l.length = n) (hl' : l ++ [qzA cQ z (fun _ => none)] = l') (k : GC κ μ Z (kc + 1) (ks + z) nx ls (.ref (kb κ + (pre.length + n)) :: st) (LW κ (pre ++ l'))) : GC κ μ Z kc ks pc ls (vi x :: st) (LW κ (pre ++ l)) := by
  refine g_newQ F hd hcl hov ht hx hz hm ?_
  rw [List.length_append, hn, List.append_assoc, hl']
  exact k
theorem app_at {e : va_E} (h : l[j0]? = some e) : (pre ++ l)[pre.length + j0]? = some e := by
  rw [List.getElem?_append_right (by omega), show pre.length + j0 - pre.length = j0 by omega]
  exact h
theorem app_set {e : va_E} : (pre ++ l).set (pre.length + j0) e = pre ++ l.set j0 e := by
  rw [List.set_append_right _ _ (by omega), show pre.length + j0 - pre.length = j0 by omega]
theorem g_getP (F : Fx κ Γ d mc ms μ) (hd : AT 3 Γ.2.1 pc (.getfield idx) nx) (hf : FL Γ.1.cls idx c j) (hc : CK c q ty) (hE : l[j0]? = some (.inr (c, fs))) (hv : fs[j]? = some v) (kk : GC κ μ Z kc ks nx ls (v :: st) (LW κ (pre ++ l))) : GC κ μ Z kc ks pc ls (.ref (kb κ + (pre.length + j0)) :: st) (LW κ (pre ++ l)) := g_getL F hd hf hc (app_at hE) hv kk
theorem g_putP (F : Fx κ Γ d mc ms μ) (hd : AT 3 Γ.2.1 pc (.putfield idx) nx) (hf : FL Γ.1.cls idx c j) (hc : CK c q ty) (hE : l[j0]? = some (.inr (c, fs))) (hfin : (q.2.1 j).2.2.2 = false ∨ ((q.2.1 j).2.2.2 = true ∧ Γ.1.name = "<init>" ∧ (q.2.1 j).1 = Γ.1.cls)) (hn : narrow (ty j) v = v) (hft : fits (ty j) v = true) (hj : j < fs.length) (hl' : l.set j0 (.inr (c, fs.set j v)) = l')
    (kk : GC κ μ Z kc ks nx ls st (LW κ (pre ++ l'))) : GC κ μ Z kc ks pc ls (v :: .ref (kb κ + (pre.length + j0)) :: st) (LW κ (pre ++ l)) := by
  refine g_putL F hd hf hc (app_at hE) hfin hn hft hj ?_
  rw [app_set, hl']
  exact kk
theorem g_astP {z t cv iv xv : Nat} {cQ : ClassId} {f : Nat → Option Nat} (F : Fx κ Γ d mc ms μ) (hd : AT 1 Γ.2.1 pc .aastore nx) (hE : l[j0]? = some (qzA cQ z f)) (hq : classes[cv]? = some q) (ht : (tys κ)[t]? = some (cQ, .object q.1)) (hV : l[iv]? = some (.inr (cv, fs))) (hx : x = xv) (hxn : xv < z) (hz : z ≤ 1000) (hl' : l.set j0 (qzA cQ z (va_up f xv (some (kb κ + (pre.length + iv))))) = l')
    (kk : GC κ μ Z kc ks nx ls st (LW κ (pre ++ l'))) : GC κ μ Z kc ks pc ls (.ref (kb κ + (pre.length + iv)) :: vi x :: .ref (kb κ + (pre.length + j0)) :: st) (LW κ (pre ++ l)) := by
  refine g_astL (C := q.1) F hd (app_at hE) hq ht (app_at hV) hx hxn hz ?_
  rw [app_set, hl']
  exact kk
theorem g_inP {o : va_E} {As : List Value} (F : Fx κ Γ d mc ms μ) (hd : AT 3 Γ.2.1 pc (.invokespecial idx) nx) (hs : IC Γ.1.cls idx Γ' ∨ INC Γ.1.cls idx Γ') (hk : MK Γ') (hL : ls.length = Γ.2.2.1) (hdd : d' + 1 ≤ d) (hm : kc + mc' ≤ mc ∧ ks + ms' ≤ ms) (hn : As.length = Γ'.2.2.2.2) (hst : (st.map fun v => v.category).sum ≤ 8) (h0 : l0.length = j0) (hl : l0 ++ [o] = l)
    (h : ∀ Q : Option Value → (Heap → Prop) → Prop, Q none (LW κ ((pre ++ l0) ++ l')) → GG κ Γ' d' mc' ms' (.ref (kb κ + (pre ++ l0).length) :: As) (LW κ ((pre ++ l0) ++ [o])) Q) (kk : GC κ μ Z (kc + mc') (ks + ms') nx ls st (LW κ (pre ++ (l0 ++ l')))) : GC κ μ Z kc ks pc ls (As.reverse ++ .ref (kb κ + (pre.length + j0)) :: st) (LW κ (pre ++ l)) := by
  have hz := h (fun r P' => GC κ μ Z (kc + mc') (ks + ms') nx ls (r.toList ++ st) P') (by rw [List.append_assoc]; exact kk)
  rw [← h0, ← hl, ← List.length_append, ← List.append_assoc]
  rcases hs with hs | hs
  · exact g_callI F hd hs hk hL hdd hm hn hst hz
  · exact g_callIN F hd hs hk hL hdd hm hn hst hz
end LP
theorem df_0 : ∀ j : Nat, j < 12 → defaultValue (yC0 j) = vp_V [.null, .null, .null, .null, .null, .null, .null, .null, .null, vi 0, vi 0, vi 0] j := by
  intro j hj
  match j, hj with
  | 0, _ => rfl
  | 1, _ => rfl
  | 2, _ => rfl
  | 3, _ => rfl
  | 4, _ => rfl
  | 5, _ => rfl
  | 6, _ => rfl
  | 7, _ => rfl
  | 8, _ => rfl
  | 9, _ => rfl
  | 10, _ => rfl
  | 11, _ => rfl
theorem df_1 : ∀ j : Nat, j < 5 → defaultValue (yC1 j) = vp_V [.null, .null, .null, .null, .null] j := by
  intro j hj
  match j, hj with
  | 0, _ => rfl
  | 1, _ => rfl
  | 2, _ => rfl
  | 3, _ => rfl
  | 4, _ => rfl
theorem df_2 : ∀ j : Nat, j < 10 → defaultValue (yC2 j) = vp_V [vi 0, vi 0, vi 0, vi 0, vi 0, vi 0, .null, .null, .null, .null] j := by
  intro j hj
  match j, hj with
  | 0, _ => rfl
  | 1, _ => rfl
  | 2, _ => rfl
  | 3, _ => rfl
  | 4, _ => rfl
  | 5, _ => rfl
  | 6, _ => rfl
  | 7, _ => rfl
  | 8, _ => rfl
  | 9, _ => rfl
theorem df_3 : ∀ j : Nat, j < 3 → defaultValue (yC3 j) = vp_V [vi 0, vi 0, .null] j := by
  intro j hj
  match j, hj with
  | 0, _ => rfl
  | 1, _ => rfl
  | 2, _ => rfl
theorem df_4 : ∀ j : Nat, j < 2 → defaultValue (yC4 j) = vp_V [vi 0, .null] j := by
  intro j hj
  match j, hj with
  | 0, _ => rfl
  | 1, _ => rfl
theorem df_5 : ∀ j : Nat, j < 6 → defaultValue (yC5 j) = vp_V [vi 0, .null, vi 0, vi 0, vi 0, vi 0] j := by
  intro j hj
  match j, hj with
  | 0, _ => rfl
  | 1, _ => rfl
  | 2, _ => rfl
  | 3, _ => rfl
  | 4, _ => rfl
  | 5, _ => rfl
theorem df_6 : ∀ j : Nat, j < 2 → defaultValue (yC6 j) = vp_V [.null, .null] j := by
  intro j hj
  match j, hj with
  | 0, _ => rfl
  | 1, _ => rfl
theorem df_7 : ∀ j : Nat, j < 4 → defaultValue (yC7 j) = vp_V [.null, .null, .null, vi 0] j := by
  intro j hj
  match j, hj with
  | 0, _ => rfl
  | 1, _ => rfl
  | 2, _ => rfl
  | 3, _ => rfl
theorem df_8 : ∀ j : Nat, j < 1 → defaultValue (yC8 j) = vp_V [.null] j := by
  intro j hj
  match j, hj with
  | 0, _ => rfl
theorem df_9 : ∀ j : Nat, j < 2 → defaultValue (yC9 j) = vp_V [vl 0, vl 0] j := by
  intro j hj
  match j, hj with
  | 0, _ => rfl
  | 1, _ => rfl
theorem df_10 : ∀ j : Nat, j < 30 → defaultValue (yC10 j) = vp_V [.null, vi 0, vi 0, vi 0, vi 0, vi 0, vi 0, vi 0, vi 0, vi 0, .null, .null, .null, .null, .null, .null, .null, .null, vi 0, vi 0, vi 0, .null, .null, vi 0, .null, vl 0, vl 0, .null, .null, vl 0] j := by
  intro j hj
  match j, hj with
  | 0, _ => rfl
  | 1, _ => rfl
  | 2, _ => rfl
  | 3, _ => rfl
  | 4, _ => rfl
  | 5, _ => rfl
  | 6, _ => rfl
  | 7, _ => rfl
  | 8, _ => rfl
  | 9, _ => rfl
  | 10, _ => rfl
  | 11, _ => rfl
  | 12, _ => rfl
  | 13, _ => rfl
  | 14, _ => rfl
  | 15, _ => rfl
  | 16, _ => rfl
  | 17, _ => rfl
  | 18, _ => rfl
  | 19, _ => rfl
  | 20, _ => rfl
  | 21, _ => rfl
  | 22, _ => rfl
  | 23, _ => rfl
  | 24, _ => rfl
  | 25, _ => rfl
  | 26, _ => rfl
  | 27, _ => rfl
  | 28, _ => rfl
  | 29, _ => rfl
  | n + 30, h => exact absurd h (by omega)
def bH (κ : Kx) (i : Nat) : List va_E := (.inr (2, [vi 0, vi 0, vi 0, vi 0, vi 0, vi 0, .ref (kb κ + (i + 1)), .ref (kb κ + (i + 2)), .ref (kb κ + (i + 3)), .ref (kb κ + (i + 4))]) :: (izA κ 6 :: (izA κ 6 :: (izA κ 6 :: (izA κ 3 :: [])))))
set_option maxHeartbeats 4000000 in
set_option maxRecDepth 4000 in
theorem co_H_init {κ : Kx} {pre : List va_E} {Q : Option Value → (Heap → Prop) → Prop} (k : Q none (LW κ (pre ++ bH κ (pre.length)))) : GG κ G_H_init 1 4 21 [.ref (kb κ + pre.length)] (LW κ (pre ++ [.inr (2, [vi 0, vi 0, vi 0, vi 0, vi 0, vi 0, .null, .null, .null, .null])])) Q := by
  refine GG.intro (ls := [some _]) (Nat.le_of_ble_eq_true rfl) rfl (fun μ F => ?_)
  show GC κ μ _ 0 0 0 _ _ (LW κ (pre ++ (.inr (2, [vi 0, vi 0, vi 0, vi 0, vi 0, vi 0, .null, .null, .null, .null]) :: [])))
  refine g_aload_n F a_H_init_0 rfl ?_
  refine g_objInit F a_H_init_1 oi_H rfl (by decide) (Nat.le_of_ble_eq_true rfl) ?_
  refine g_aload_n F a_H_init_4 rfl ?_
  refine g_bipush F a_H_init_5 (by decide) ?_
  refine g_newIP (z := 6) (n := 1) (l' := (.inr (2, [vi 0, vi 0, vi 0, vi 0, vi 0, vi 0, .null, .null, .null, .null]) :: (izA κ 6 :: []))) F a_H_init_7 rfl (by decide) (by decide) rfl rfl ?_
  refine g_putP (j0 := 0) (l' := (.inr (2, [vi 0, vi 0, vi 0, vi 0, vi 0, vi 0, .ref (kb κ + (pre.length + 1)), .null, .null, .null]) :: (izA κ 6 :: []))) F a_H_init_9 fl_H_9 ck_2 rfl (Or.inr ⟨rfl, rfl, rfl⟩) rfl rfl (Nat.le_of_ble_eq_true rfl) rfl ?_
  refine g_aload_n F a_H_init_12 rfl ?_
  refine g_bipush F a_H_init_13 (by decide) ?_
  refine g_newIP (z := 6) (n := 2) (l' := (.inr (2, [vi 0, vi 0, vi 0, vi 0, vi 0, vi 0, .ref (kb κ + (pre.length + 1)), .null, .null, .null]) :: (izA κ 6 :: (izA κ 6 :: [])))) F a_H_init_15 rfl (by decide) (by decide) rfl rfl ?_
  refine g_putP (j0 := 0) (l' := (.inr (2, [vi 0, vi 0, vi 0, vi 0, vi 0, vi 0, .ref (kb κ + (pre.length + 1)), .ref (kb κ + (pre.length + 2)), .null, .null]) :: (izA κ 6 :: (izA κ 6 :: [])))) F a_H_init_17 fl_H_15 ck_2 rfl (Or.inr ⟨rfl, rfl, rfl⟩) rfl rfl (Nat.le_of_ble_eq_true rfl) rfl ?_
  refine g_aload_n F a_H_init_20 rfl ?_
  refine g_bipush F a_H_init_21 (by decide) ?_
  refine g_newIP (z := 6) (n := 3) (l' := (.inr (2, [vi 0, vi 0, vi 0, vi 0, vi 0, vi 0, .ref (kb κ + (pre.length + 1)), .ref (kb κ + (pre.length + 2)), .null, .null]) :: (izA κ 6 :: (izA κ 6 :: (izA κ 6 :: []))))) F a_H_init_23 rfl (by decide) (by decide) rfl rfl ?_
  refine g_putP (j0 := 0) (l' := (.inr (2, [vi 0, vi 0, vi 0, vi 0, vi 0, vi 0, .ref (kb κ + (pre.length + 1)), .ref (kb κ + (pre.length + 2)), .ref (kb κ + (pre.length + 3)), .null]) :: (izA κ 6 :: (izA κ 6 :: (izA κ 6 :: []))))) F a_H_init_25 fl_H_18 ck_2 rfl (Or.inr ⟨rfl, rfl, rfl⟩) rfl rfl (Nat.le_of_ble_eq_true rfl) rfl ?_
  refine g_aload_n F a_H_init_28 rfl ?_
  refine g_iconst F a_H_init_29 ?_
  refine g_newIP (z := 3) (n := 4) (l' := (.inr (2, [vi 0, vi 0, vi 0, vi 0, vi 0, vi 0, .ref (kb κ + (pre.length + 1)), .ref (kb κ + (pre.length + 2)), .ref (kb κ + (pre.length + 3)), .null]) :: (izA κ 6 :: (izA κ 6 :: (izA κ 6 :: (izA κ 3 :: [])))))) F a_H_init_30 rfl (by decide) (by decide) rfl rfl ?_
  refine g_putP (j0 := 0) (l' := (.inr (2, [vi 0, vi 0, vi 0, vi 0, vi 0, vi 0, .ref (kb κ + (pre.length + 1)), .ref (kb κ + (pre.length + 2)), .ref (kb κ + (pre.length + 3)), .ref (kb κ + (pre.length + 4))]) :: (izA κ 6 :: (izA κ 6 :: (izA κ 6 :: (izA κ 3 :: [])))))) F a_H_init_32 fl_H_21 ck_2 rfl (Or.inr ⟨rfl, rfl, rfl⟩) rfl rfl (Nat.le_of_ble_eq_true rfl) rfl ?_
  refine g_ret F a_H_init_35 rfl ⟨by decide, by decide⟩ ?_
  exact k
def bP (κ : Kx) (i : Nat) : List va_E := (.inr (4, [vi 0, .ref (kb κ + (i + 1))]) :: (izA κ 72 :: []))
set_option maxHeartbeats 4000000 in
set_option maxRecDepth 4000 in
theorem co_P_init {κ : Kx} {pre : List va_E} {Q : Option Value → (Heap → Prop) → Prop} (k : Q none (LW κ (pre ++ bP κ (pre.length)))) : GG κ G_P_init 1 1 72 [.ref (kb κ + pre.length)] (LW κ (pre ++ [.inr (4, [vi 0, .null])])) Q := by
  refine GG.intro (ls := [some _]) (Nat.le_of_ble_eq_true rfl) rfl (fun μ F => ?_)
  show GC κ μ _ 0 0 0 _ _ (LW κ (pre ++ (.inr (4, [vi 0, .null]) :: [])))
  refine g_aload_n F a_P_init_0 rfl ?_
  refine g_objInit F a_P_init_1 oi_P rfl (by decide) (Nat.le_of_ble_eq_true rfl) ?_
  refine g_aload_n F a_P_init_4 rfl ?_
  refine g_bipush F a_P_init_5 (by decide) ?_
  refine g_newIP (z := 72) (n := 1) (l' := (.inr (4, [vi 0, .null]) :: (izA κ 72 :: []))) F a_P_init_7 rfl (by decide) (by decide) rfl rfl ?_
  refine g_putP (j0 := 0) (l' := (.inr (4, [vi 0, .ref (kb κ + (pre.length + 1))]) :: (izA κ 72 :: []))) F a_P_init_9 fl_P_11 ck_4 rfl (Or.inr ⟨rfl, rfl, rfl⟩) rfl rfl (Nat.le_of_ble_eq_true rfl) rfl ?_
  refine g_ret F a_P_init_12 rfl ⟨by decide, by decide⟩ ?_
  exact k
def bT (κ : Kx) (i : Nat) : List va_E := (.inr (5, [vi 0, .ref (kb κ + (i + 1)), vi 0, vi 0, vi 0, vi 0]) :: (izA κ 150 :: []))
set_option maxHeartbeats 4000000 in
set_option maxRecDepth 4000 in
theorem co_T_init {κ : Kx} {pre : List va_E} {Q : Option Value → (Heap → Prop) → Prop} (k : Q none (LW κ (pre ++ bT κ (pre.length)))) : GG κ G_T_init 1 1 150 [.ref (kb κ + pre.length)] (LW κ (pre ++ [.inr (5, [vi 0, .null, vi 0, vi 0, vi 0, vi 0])])) Q := by
  refine GG.intro (ls := [some _]) (Nat.le_of_ble_eq_true rfl) rfl (fun μ F => ?_)
  show GC κ μ _ 0 0 0 _ _ (LW κ (pre ++ (.inr (5, [vi 0, .null, vi 0, vi 0, vi 0, vi 0]) :: [])))
  refine g_aload_n F a_T_init_0 rfl ?_
  refine g_objInit F a_T_init_1 oi_T rfl (by decide) (Nat.le_of_ble_eq_true rfl) ?_
  refine g_aload_n F a_T_init_4 rfl ?_
  refine g_sipush F a_T_init_5 (by decide) ?_
  refine g_newIP (z := 150) (n := 1) (l' := (.inr (5, [vi 0, .null, vi 0, vi 0, vi 0, vi 0]) :: (izA κ 150 :: []))) F a_T_init_8 rfl (by decide) (by decide) rfl rfl ?_
  refine g_putP (j0 := 0) (l' := (.inr (5, [vi 0, .ref (kb κ + (pre.length + 1)), vi 0, vi 0, vi 0, vi 0]) :: (izA κ 150 :: []))) F a_T_init_10 fl_T_11 ck_5 rfl (Or.inr ⟨rfl, rfl, rfl⟩) rfl rfl (Nat.le_of_ble_eq_true rfl) rfl ?_
  refine g_ret F a_T_init_13 rfl ⟨by decide, by decide⟩ ?_
  exact k
def bW (κ : Kx) (i : Nat) : List va_E := (.inr (7, [.ref (kb κ + (i + 1)), .ref (kb κ + (i + 2)), .ref (kb κ + (i + 3)), vi 0]) :: (izA κ 6 :: (izA κ 6 :: (izA κ 6 :: []))))
set_option maxHeartbeats 4000000 in
set_option maxRecDepth 4000 in
theorem co_W_init {κ : Kx} {pre : List va_E} {Q : Option Value → (Heap → Prop) → Prop} (k : Q none (LW κ (pre ++ bW κ (pre.length)))) : GG κ G_W_init 1 3 18 [.ref (kb κ + pre.length)] (LW κ (pre ++ [.inr (7, [.null, .null, .null, vi 0])])) Q := by
  refine GG.intro (ls := [some _]) (Nat.le_of_ble_eq_true rfl) rfl (fun μ F => ?_)
  show GC κ μ _ 0 0 0 _ _ (LW κ (pre ++ (.inr (7, [.null, .null, .null, vi 0]) :: [])))
  refine g_aload_n F a_W_init_0 rfl ?_
  refine g_objInit F a_W_init_1 oi_W rfl (by decide) (Nat.le_of_ble_eq_true rfl) ?_
  refine g_aload_n F a_W_init_4 rfl ?_
  refine g_bipush F a_W_init_5 (by decide) ?_
  refine g_newIP (z := 6) (n := 1) (l' := (.inr (7, [.null, .null, .null, vi 0]) :: (izA κ 6 :: []))) F a_W_init_7 rfl (by decide) (by decide) rfl rfl ?_
  refine g_putP (j0 := 0) (l' := (.inr (7, [.ref (kb κ + (pre.length + 1)), .null, .null, vi 0]) :: (izA κ 6 :: []))) F a_W_init_9 fl_W_9 ck_7 rfl (Or.inr ⟨rfl, rfl, rfl⟩) rfl rfl (Nat.le_of_ble_eq_true rfl) rfl ?_
  refine g_aload_n F a_W_init_12 rfl ?_
  refine g_bipush F a_W_init_13 (by decide) ?_
  refine g_newIP (z := 6) (n := 2) (l' := (.inr (7, [.ref (kb κ + (pre.length + 1)), .null, .null, vi 0]) :: (izA κ 6 :: (izA κ 6 :: [])))) F a_W_init_15 rfl (by decide) (by decide) rfl rfl ?_
  refine g_putP (j0 := 0) (l' := (.inr (7, [.ref (kb κ + (pre.length + 1)), .ref (kb κ + (pre.length + 2)), .null, vi 0]) :: (izA κ 6 :: (izA κ 6 :: [])))) F a_W_init_17 fl_W_15 ck_7 rfl (Or.inr ⟨rfl, rfl, rfl⟩) rfl rfl (Nat.le_of_ble_eq_true rfl) rfl ?_
  refine g_aload_n F a_W_init_20 rfl ?_
  refine g_bipush F a_W_init_21 (by decide) ?_
  refine g_newIP (z := 6) (n := 3) (l' := (.inr (7, [.ref (kb κ + (pre.length + 1)), .ref (kb κ + (pre.length + 2)), .null, vi 0]) :: (izA κ 6 :: (izA κ 6 :: (izA κ 6 :: []))))) F a_W_init_23 rfl (by decide) (by decide) rfl rfl ?_
  refine g_putP (j0 := 0) (l' := (.inr (7, [.ref (kb κ + (pre.length + 1)), .ref (kb κ + (pre.length + 2)), .ref (kb κ + (pre.length + 3)), vi 0]) :: (izA κ 6 :: (izA κ 6 :: (izA κ 6 :: []))))) F a_W_init_25 fl_W_18 ck_7 rfl (Or.inr ⟨rfl, rfl, rfl⟩) rfl rfl (Nat.le_of_ble_eq_true rfl) rfl ?_
  refine g_ret F a_W_init_28 rfl ⟨by decide, by decide⟩ ?_
  exact k
def bG (κ : Kx) (i : Nat) : List va_E := (.inr (8, [.ref (kb κ + (i + 1))]) :: (izA κ 6 :: []))
set_option maxHeartbeats 4000000 in
set_option maxRecDepth 4000 in
theorem co_G_init {κ : Kx} {pre : List va_E} {Q : Option Value → (Heap → Prop) → Prop} (k : Q none (LW κ (pre ++ bG κ (pre.length)))) : GG κ G_G_init 1 1 6 [.ref (kb κ + pre.length)] (LW κ (pre ++ [.inr (8, [.null])])) Q := by
  refine GG.intro (ls := [some _]) (Nat.le_of_ble_eq_true rfl) rfl (fun μ F => ?_)
  show GC κ μ _ 0 0 0 _ _ (LW κ (pre ++ (.inr (8, [.null]) :: [])))
  refine g_aload_n F a_G_init_0 rfl ?_
  refine g_objInit F a_G_init_1 oi_G rfl (by decide) (Nat.le_of_ble_eq_true rfl) ?_
  refine g_aload_n F a_G_init_4 rfl ?_
  refine g_bipush F a_G_init_5 (by decide) ?_
  refine g_newIP (z := 6) (n := 1) (l' := (.inr (8, [.null]) :: (izA κ 6 :: []))) F a_G_init_7 rfl (by decide) (by decide) rfl rfl ?_
  refine g_putP (j0 := 0) (l' := (.inr (8, [.ref (kb κ + (pre.length + 1))]) :: (izA κ 6 :: []))) F a_G_init_9 fl_G_9 ck_8 rfl (Or.inr ⟨rfl, rfl, rfl⟩) rfl rfl (Nat.le_of_ble_eq_true rfl) rfl ?_
  refine g_ret F a_G_init_12 rfl ⟨by decide, by decide⟩ ?_
  exact k
def bC (κ : Kx) (i : Nat) : List va_E := (.inr (9, [vl 0, vl 1]) :: [])
set_option maxHeartbeats 4000000 in
set_option maxRecDepth 4000 in
theorem co_C_init {κ : Kx} {pre : List va_E} {Q : Option Value → (Heap → Prop) → Prop} (k : Q none (LW κ (pre ++ bC κ (pre.length)))) : GG κ G_C_init 1 0 0 [.ref (kb κ + pre.length)] (LW κ (pre ++ [.inr (9, [vl 0, vl 0])])) Q := by
  refine GG.intro (ls := [some _]) (Nat.le_of_ble_eq_true rfl) rfl (fun μ F => ?_)
  show GC κ μ _ 0 0 0 _ _ (LW κ (pre ++ (.inr (9, [vl 0, vl 0]) :: [])))
  refine g_aload_n F a_C_init_0 rfl ?_
  refine g_objInit F a_C_init_1 oi_C rfl (by decide) (Nat.le_of_ble_eq_true rfl) ?_
  refine g_aload_n F a_C_init_4 rfl ?_
  refine g_lconst0 F a_C_init_5 ?_
  refine g_putP (j0 := 0) (l' := (.inr (9, [vl 0, vl 0]) :: [])) F a_C_init_6 fl_C_7 ck_9 rfl (Or.inl rfl) rfl rfl (Nat.le_of_ble_eq_true rfl) rfl ?_
  refine g_aload_n F a_C_init_9 rfl ?_
  refine g_lconst1 F a_C_init_10 ?_
  refine g_putP (j0 := 0) (l' := (.inr (9, [vl 0, vl 1]) :: [])) F a_C_init_11 fl_C_13 ck_9 rfl (Or.inl rfl) rfl rfl (Nat.le_of_ble_eq_true rfl) rfl ?_
  refine g_ret F a_C_init_14 rfl ⟨by decide, by decide⟩ ?_
  exact k
def bR (κ : Kx) (i : Nat) (wd : Int) : List va_E := (.inr (3, [vi 0, vi wd, .ref (kb κ + (i + 1))]) :: (izA κ 24 :: []))
set_option maxHeartbeats 4000000 in
set_option maxRecDepth 4000 in
theorem co_R_init {κ : Kx} {pre : List va_E} {Q : Option Value → (Heap → Prop) → Prop} {wd : Int} (k : Q none (LW κ (pre ++ bR κ (pre.length) wd))) : GG κ G_R_init 1 1 24 [.ref (kb κ + pre.length), vi wd] (LW κ (pre ++ [.inr (3, [vi 0, vi 0, .null])])) Q := by
  refine GG.intro (ls := [some _, some _]) (Nat.le_of_ble_eq_true rfl) rfl (fun μ F => ?_)
  show GC κ μ _ 0 0 0 _ _ (LW κ (pre ++ (.inr (3, [vi 0, vi 0, .null]) :: [])))
  refine g_aload_n F a_R_init_0 rfl ?_
  refine g_objInit F a_R_init_1 oi_R rfl (by decide) (Nat.le_of_ble_eq_true rfl) ?_
  refine g_aload_n F a_R_init_4 rfl ?_
  refine g_bipush F a_R_init_5 (by decide) ?_
  refine g_newIP (z := 24) (n := 1) (l' := (.inr (3, [vi 0, vi 0, .null]) :: (izA κ 24 :: []))) F a_R_init_7 rfl (by decide) (by decide) rfl rfl ?_
  refine g_putP (j0 := 0) (l' := (.inr (3, [vi 0, vi 0, .ref (kb κ + (pre.length + 1))]) :: (izA κ 24 :: []))) F a_R_init_9 fl_R_11 ck_3 rfl (Or.inr ⟨rfl, rfl, rfl⟩) rfl rfl (Nat.le_of_ble_eq_true rfl) rfl ?_
  refine g_aload_n F a_R_init_12 rfl ?_
  refine g_iload_n F a_R_init_13 rfl ?_
  refine g_putP (j0 := 0) (l' := (.inr (3, [vi 0, vi wd, .ref (kb κ + (pre.length + 1))]) :: (izA κ 24 :: []))) F a_R_init_14 fl_R_15 ck_3 rfl (Or.inr ⟨rfl, rfl, rfl⟩) rfl rfl (Nat.le_of_ble_eq_true rfl) rfl ?_
  refine g_ret F a_R_init_17 rfl ⟨by decide, by decide⟩ ?_
  exact k
def bO (κ : Kx) (i : Nat) : List va_E := (.inr (6, [.ref (kb κ + (i + 1)), .ref (kb κ + (i + 2))]) :: (izA κ 5 :: (qzA (kH κ) 5 (va_up (va_up (va_up (va_up (va_up (fun _ => none) 0 (some (kb κ + (i + 3)))) 1 (some (kb κ + (i + 8)))) 2 (some (kb κ + (i + 13)))) 3 (some (kb κ + (i + 18)))) 4 (some (kb κ + (i + 23)))) :: (bH κ (i + 3) ++ (bH κ (i + 8) ++ (bH κ (i + 13) ++ (bH κ (i + 18) ++ (bH κ (i + 23) ++ []))))))))
set_option maxHeartbeats 4000000 in
set_option maxRecDepth 4000 in
theorem co_O_init {κ : Kx} {pre : List va_E} {Q : Option Value → (Heap → Prop) → Prop} (k : Q none (LW κ (pre ++ bO κ (pre.length)))) : GG κ G_O_init 2 27 165 [.ref (kb κ + pre.length)] (LW κ (pre ++ [.inr (6, [.null, .null])])) Q := by
  refine GG.intro (ls := [some _, none]) (Nat.le_of_ble_eq_true rfl) rfl (fun μ F => ?_)
  show GC κ μ _ 0 0 0 _ _ (LW κ (pre ++ (.inr (6, [.null, .null]) :: [])))
  refine g_aload_n F a_O_init_0 rfl ?_
  refine g_objInit F a_O_init_1 oi_O rfl (by decide) (Nat.le_of_ble_eq_true rfl) ?_
  refine g_aload_n F a_O_init_4 rfl ?_
  refine g_iconst F a_O_init_5 ?_
  refine g_newIP (z := 5) (n := 1) (l' := (.inr (6, [.null, .null]) :: (izA κ 5 :: []))) F a_O_init_6 rfl (by decide) (by decide) rfl rfl ?_
  refine g_putP (j0 := 0) (l' := (.inr (6, [.ref (kb κ + (pre.length + 1)), .null]) :: (izA κ 5 :: []))) F a_O_init_8 fl_O_11 ck_6 rfl (Or.inr ⟨rfl, rfl, rfl⟩) rfl rfl (Nat.le_of_ble_eq_true rfl) rfl ?_
  refine g_aload_n F a_O_init_11 rfl ?_
  refine g_iconst F a_O_init_12 ?_
  refine g_newQP (z := 5) (t := 3) (cQ := kH κ) (n := 2) (l' := (.inr (6, [.ref (kb κ + (pre.length + 1)), .null]) :: (izA κ 5 :: (qzA (kH κ) 5 (fun _ => none) :: [])))) F a_O_init_13 cl_O_15 (fun U h => h.2.2.2) rfl rfl (by decide) (by decide) rfl rfl ?_
  refine g_putP (j0 := 0) (l' := (.inr (6, [.ref (kb κ + (pre.length + 1)), .ref (kb κ + (pre.length + 2))]) :: (izA κ 5 :: (qzA (kH κ) 5 (fun _ => none) :: [])))) F a_O_init_16 fl_O_17 ck_6 rfl (Or.inr ⟨rfl, rfl, rfl⟩) rfl rfl (Nat.le_of_ble_eq_true rfl) rfl ?_
  refine g_iconst F a_O_init_19 ?_
  refine g_istore_n (ls' := [_, _]) F a_O_init_20 rfl rfl rfl ?_
  refine g_iload_n F a_O_init_21 rfl ?_
  refine g_iconst F a_O_init_22 ?_
  refine g_icmp_ge F (by decide) (by decide) a_O_init_23 (fun hz => absurd hz (by decide)) (fun hz => ?_)
  refine g_aload_n F a_O_init_26 rfl ?_
  refine g_getP (j0 := 0) F a_O_init_27 fl_O_17 ck_6 rfl rfl ?_
  refine g_iload_n F a_O_init_30 rfl ?_
  refine g_newP (q := (RC2, TC2, 10)) (n := 3) (l' := (.inr (6, [.ref (kb κ + (pre.length + 1)), .ref (kb κ + (pre.length + 2))]) :: (izA κ 5 :: (qzA (kH κ) 5 (fun _ => none) :: (.inr (2, [vi 0, vi 0, vi 0, vi 0, vi 0, vi 0, .null, .null, .null, .null]) :: []))))) F a_O_init_31 cl_O_15 ck_2 df_2 (by decide) rfl rfl ?_
  refine g_dup F a_O_init_34 rfl ?_
  refine g_inP (As := []) (j0 := 3) (l0 := (.inr (6, [.ref (kb κ + (pre.length + 1)), .ref (kb κ + (pre.length + 2))]) :: (izA κ 5 :: (qzA (kH κ) 5 (fun _ => none) :: [])))) (l' := bH κ (pre.length + 3)) (o := .inr (2, [vi 0, vi 0, vi 0, vi 0, vi 0, vi 0, .null, .null, .null, .null])) F a_O_init_35 (Or.inr inc_O_21) mk_H_init rfl (by decide) (by decide) rfl (Nat.le_of_ble_eq_true rfl) rfl rfl (fun Q k9 => co_H_init (by rw [List.length_append]; exact k9)) ?_
  refine GC.pw (P' := LW κ (pre ++ (.inr (6, [.ref (kb κ + (pre.length + 1)), .ref (kb κ + (pre.length + 2))]) :: (izA κ 5 :: (qzA (kH κ) 5 (fun _ => none) :: (bH κ (pre.length + 3) ++ [])))))) ?_ rfl
  refine g_astP (j0 := 2) (iv := 3) (xv := 0) (t := 3) (cv := 2) (l' := (.inr (6, [.ref (kb κ + (pre.length + 1)), .ref (kb κ + (pre.length + 2))]) :: (izA κ 5 :: (qzA (kH κ) 5 (va_up (fun _ => none) 0 (some (kb κ + (pre.length + 3)))) :: (bH κ (pre.length + 3) ++ []))))) F a_O_init_38 rfl rfl rfl rfl rfl (by decide) (by decide) rfl ?_
  refine g_iinc (ls' := [_, some (vi 1)]) F a_O_init_39 rfl rfl rfl ?_
  refine g_goto F a_O_init_42 ?_
  refine g_iload_n F a_O_init_21 rfl ?_
  refine g_iconst F a_O_init_22 ?_
  refine g_icmp_ge F (by decide) (by decide) a_O_init_23 (fun hz => absurd hz (by decide)) (fun hz => ?_)
  refine g_aload_n F a_O_init_26 rfl ?_
  refine g_getP (j0 := 0) F a_O_init_27 fl_O_17 ck_6 rfl rfl ?_
  refine g_iload_n F a_O_init_30 rfl ?_
  refine g_newP (q := (RC2, TC2, 10)) (n := 8) (l' := (.inr (6, [.ref (kb κ + (pre.length + 1)), .ref (kb κ + (pre.length + 2))]) :: (izA κ 5 :: (qzA (kH κ) 5 (va_up (fun _ => none) 0 (some (kb κ + (pre.length + 3)))) :: (bH κ (pre.length + 3) ++ (.inr (2, [vi 0, vi 0, vi 0, vi 0, vi 0, vi 0, .null, .null, .null, .null]) :: [])))))) F a_O_init_31 cl_O_15 ck_2 df_2 (by decide) rfl rfl ?_
  refine g_dup F a_O_init_34 rfl ?_
  refine g_inP (As := []) (j0 := 8) (l0 := (.inr (6, [.ref (kb κ + (pre.length + 1)), .ref (kb κ + (pre.length + 2))]) :: (izA κ 5 :: (qzA (kH κ) 5 (va_up (fun _ => none) 0 (some (kb κ + (pre.length + 3)))) :: (bH κ (pre.length + 3) ++ []))))) (l' := bH κ (pre.length + 8)) (o := .inr (2, [vi 0, vi 0, vi 0, vi 0, vi 0, vi 0, .null, .null, .null, .null])) F a_O_init_35 (Or.inr inc_O_21) mk_H_init rfl (by decide) (by decide) rfl (Nat.le_of_ble_eq_true rfl) rfl rfl (fun Q k9 => co_H_init (by rw [List.length_append]; exact k9)) ?_
  refine GC.pw (P' := LW κ (pre ++ (.inr (6, [.ref (kb κ + (pre.length + 1)), .ref (kb κ + (pre.length + 2))]) :: (izA κ 5 :: (qzA (kH κ) 5 (va_up (fun _ => none) 0 (some (kb κ + (pre.length + 3)))) :: (bH κ (pre.length + 3) ++ (bH κ (pre.length + 8) ++ []))))))) ?_ rfl
  refine g_astP (j0 := 2) (iv := 8) (xv := 1) (t := 3) (cv := 2) (l' := (.inr (6, [.ref (kb κ + (pre.length + 1)), .ref (kb κ + (pre.length + 2))]) :: (izA κ 5 :: (qzA (kH κ) 5 (va_up (va_up (fun _ => none) 0 (some (kb κ + (pre.length + 3)))) 1 (some (kb κ + (pre.length + 8)))) :: (bH κ (pre.length + 3) ++ (bH κ (pre.length + 8) ++ [])))))) F a_O_init_38 rfl rfl rfl rfl rfl (by decide) (by decide) rfl ?_
  refine g_iinc (ls' := [_, some (vi 2)]) F a_O_init_39 rfl rfl rfl ?_
  refine g_goto F a_O_init_42 ?_
  refine g_iload_n F a_O_init_21 rfl ?_
  refine g_iconst F a_O_init_22 ?_
  refine g_icmp_ge F (by decide) (by decide) a_O_init_23 (fun hz => absurd hz (by decide)) (fun hz => ?_)
  refine g_aload_n F a_O_init_26 rfl ?_
  refine g_getP (j0 := 0) F a_O_init_27 fl_O_17 ck_6 rfl rfl ?_
  refine g_iload_n F a_O_init_30 rfl ?_
  refine g_newP (q := (RC2, TC2, 10)) (n := 13) (l' := (.inr (6, [.ref (kb κ + (pre.length + 1)), .ref (kb κ + (pre.length + 2))]) :: (izA κ 5 :: (qzA (kH κ) 5 (va_up (va_up (fun _ => none) 0 (some (kb κ + (pre.length + 3)))) 1 (some (kb κ + (pre.length + 8)))) :: (bH κ (pre.length + 3) ++ (bH κ (pre.length + 8) ++ (.inr (2, [vi 0, vi 0, vi 0, vi 0, vi 0, vi 0, .null, .null, .null, .null]) :: []))))))) F a_O_init_31 cl_O_15 ck_2 df_2 (by decide) rfl rfl ?_
  refine g_dup F a_O_init_34 rfl ?_
  refine g_inP (As := []) (j0 := 13) (l0 := (.inr (6, [.ref (kb κ + (pre.length + 1)), .ref (kb κ + (pre.length + 2))]) :: (izA κ 5 :: (qzA (kH κ) 5 (va_up (va_up (fun _ => none) 0 (some (kb κ + (pre.length + 3)))) 1 (some (kb κ + (pre.length + 8)))) :: (bH κ (pre.length + 3) ++ (bH κ (pre.length + 8) ++ [])))))) (l' := bH κ (pre.length + 13)) (o := .inr (2, [vi 0, vi 0, vi 0, vi 0, vi 0, vi 0, .null, .null, .null, .null])) F a_O_init_35 (Or.inr inc_O_21) mk_H_init rfl (by decide) (by decide) rfl (Nat.le_of_ble_eq_true rfl) rfl rfl (fun Q k9 => co_H_init (by rw [List.length_append]; exact k9)) ?_
  refine GC.pw (P' := LW κ (pre ++ (.inr (6, [.ref (kb κ + (pre.length + 1)), .ref (kb κ + (pre.length + 2))]) :: (izA κ 5 :: (qzA (kH κ) 5 (va_up (va_up (fun _ => none) 0 (some (kb κ + (pre.length + 3)))) 1 (some (kb κ + (pre.length + 8)))) :: (bH κ (pre.length + 3) ++ (bH κ (pre.length + 8) ++ (bH κ (pre.length + 13) ++ [])))))))) ?_ rfl
  refine g_astP (j0 := 2) (iv := 13) (xv := 2) (t := 3) (cv := 2) (l' := (.inr (6, [.ref (kb κ + (pre.length + 1)), .ref (kb κ + (pre.length + 2))]) :: (izA κ 5 :: (qzA (kH κ) 5 (va_up (va_up (va_up (fun _ => none) 0 (some (kb κ + (pre.length + 3)))) 1 (some (kb κ + (pre.length + 8)))) 2 (some (kb κ + (pre.length + 13)))) :: (bH κ (pre.length + 3) ++ (bH κ (pre.length + 8) ++ (bH κ (pre.length + 13) ++ []))))))) F a_O_init_38 rfl rfl rfl rfl rfl (by decide) (by decide) rfl ?_
  refine g_iinc (ls' := [_, some (vi 3)]) F a_O_init_39 rfl rfl rfl ?_
  refine g_goto F a_O_init_42 ?_
  refine g_iload_n F a_O_init_21 rfl ?_
  refine g_iconst F a_O_init_22 ?_
  refine g_icmp_ge F (by decide) (by decide) a_O_init_23 (fun hz => absurd hz (by decide)) (fun hz => ?_)
  refine g_aload_n F a_O_init_26 rfl ?_
  refine g_getP (j0 := 0) F a_O_init_27 fl_O_17 ck_6 rfl rfl ?_
  refine g_iload_n F a_O_init_30 rfl ?_
  refine g_newP (q := (RC2, TC2, 10)) (n := 18) (l' := (.inr (6, [.ref (kb κ + (pre.length + 1)), .ref (kb κ + (pre.length + 2))]) :: (izA κ 5 :: (qzA (kH κ) 5 (va_up (va_up (va_up (fun _ => none) 0 (some (kb κ + (pre.length + 3)))) 1 (some (kb κ + (pre.length + 8)))) 2 (some (kb κ + (pre.length + 13)))) :: (bH κ (pre.length + 3) ++ (bH κ (pre.length + 8) ++ (bH κ (pre.length + 13) ++ (.inr (2, [vi 0, vi 0, vi 0, vi 0, vi 0, vi 0, .null, .null, .null, .null]) :: [])))))))) F a_O_init_31 cl_O_15 ck_2 df_2 (by decide) rfl rfl ?_
  refine g_dup F a_O_init_34 rfl ?_
  refine g_inP (As := []) (j0 := 18) (l0 := (.inr (6, [.ref (kb κ + (pre.length + 1)), .ref (kb κ + (pre.length + 2))]) :: (izA κ 5 :: (qzA (kH κ) 5 (va_up (va_up (va_up (fun _ => none) 0 (some (kb κ + (pre.length + 3)))) 1 (some (kb κ + (pre.length + 8)))) 2 (some (kb κ + (pre.length + 13)))) :: (bH κ (pre.length + 3) ++ (bH κ (pre.length + 8) ++ (bH κ (pre.length + 13) ++ []))))))) (l' := bH κ (pre.length + 18)) (o := .inr (2, [vi 0, vi 0, vi 0, vi 0, vi 0, vi 0, .null, .null, .null, .null])) F a_O_init_35 (Or.inr inc_O_21) mk_H_init rfl (by decide) (by decide) rfl (Nat.le_of_ble_eq_true rfl) rfl rfl (fun Q k9 => co_H_init (by rw [List.length_append]; exact k9)) ?_
  refine GC.pw (P' := LW κ (pre ++ (.inr (6, [.ref (kb κ + (pre.length + 1)), .ref (kb κ + (pre.length + 2))]) :: (izA κ 5 :: (qzA (kH κ) 5 (va_up (va_up (va_up (fun _ => none) 0 (some (kb κ + (pre.length + 3)))) 1 (some (kb κ + (pre.length + 8)))) 2 (some (kb κ + (pre.length + 13)))) :: (bH κ (pre.length + 3) ++ (bH κ (pre.length + 8) ++ (bH κ (pre.length + 13) ++ (bH κ (pre.length + 18) ++ []))))))))) ?_ rfl
  refine g_astP (j0 := 2) (iv := 18) (xv := 3) (t := 3) (cv := 2) (l' := (.inr (6, [.ref (kb κ + (pre.length + 1)), .ref (kb κ + (pre.length + 2))]) :: (izA κ 5 :: (qzA (kH κ) 5 (va_up (va_up (va_up (va_up (fun _ => none) 0 (some (kb κ + (pre.length + 3)))) 1 (some (kb κ + (pre.length + 8)))) 2 (some (kb κ + (pre.length + 13)))) 3 (some (kb κ + (pre.length + 18)))) :: (bH κ (pre.length + 3) ++ (bH κ (pre.length + 8) ++ (bH κ (pre.length + 13) ++ (bH κ (pre.length + 18) ++ [])))))))) F a_O_init_38 rfl rfl rfl rfl rfl (by decide) (by decide) rfl ?_
  refine g_iinc (ls' := [_, some (vi 4)]) F a_O_init_39 rfl rfl rfl ?_
  refine g_goto F a_O_init_42 ?_
  refine g_iload_n F a_O_init_21 rfl ?_
  refine g_iconst F a_O_init_22 ?_
  refine g_icmp_ge F (by decide) (by decide) a_O_init_23 (fun hz => absurd hz (by decide)) (fun hz => ?_)
  refine g_aload_n F a_O_init_26 rfl ?_
  refine g_getP (j0 := 0) F a_O_init_27 fl_O_17 ck_6 rfl rfl ?_
  refine g_iload_n F a_O_init_30 rfl ?_
  refine g_newP (q := (RC2, TC2, 10)) (n := 23) (l' := (.inr (6, [.ref (kb κ + (pre.length + 1)), .ref (kb κ + (pre.length + 2))]) :: (izA κ 5 :: (qzA (kH κ) 5 (va_up (va_up (va_up (va_up (fun _ => none) 0 (some (kb κ + (pre.length + 3)))) 1 (some (kb κ + (pre.length + 8)))) 2 (some (kb κ + (pre.length + 13)))) 3 (some (kb κ + (pre.length + 18)))) :: (bH κ (pre.length + 3) ++ (bH κ (pre.length + 8) ++ (bH κ (pre.length + 13) ++ (bH κ (pre.length + 18) ++ (.inr (2, [vi 0, vi 0, vi 0, vi 0, vi 0, vi 0, .null, .null, .null, .null]) :: []))))))))) F a_O_init_31 cl_O_15 ck_2 df_2 (by decide) rfl rfl ?_
  refine g_dup F a_O_init_34 rfl ?_
  refine g_inP (As := []) (j0 := 23) (l0 := (.inr (6, [.ref (kb κ + (pre.length + 1)), .ref (kb κ + (pre.length + 2))]) :: (izA κ 5 :: (qzA (kH κ) 5 (va_up (va_up (va_up (va_up (fun _ => none) 0 (some (kb κ + (pre.length + 3)))) 1 (some (kb κ + (pre.length + 8)))) 2 (some (kb κ + (pre.length + 13)))) 3 (some (kb κ + (pre.length + 18)))) :: (bH κ (pre.length + 3) ++ (bH κ (pre.length + 8) ++ (bH κ (pre.length + 13) ++ (bH κ (pre.length + 18) ++ [])))))))) (l' := bH κ (pre.length + 23)) (o := .inr (2, [vi 0, vi 0, vi 0, vi 0, vi 0, vi 0, .null, .null, .null, .null])) F a_O_init_35 (Or.inr inc_O_21) mk_H_init rfl (by decide) (by decide) rfl (Nat.le_of_ble_eq_true rfl) rfl rfl (fun Q k9 => co_H_init (by rw [List.length_append]; exact k9)) ?_
  refine GC.pw (P' := LW κ (pre ++ (.inr (6, [.ref (kb κ + (pre.length + 1)), .ref (kb κ + (pre.length + 2))]) :: (izA κ 5 :: (qzA (kH κ) 5 (va_up (va_up (va_up (va_up (fun _ => none) 0 (some (kb κ + (pre.length + 3)))) 1 (some (kb κ + (pre.length + 8)))) 2 (some (kb κ + (pre.length + 13)))) 3 (some (kb κ + (pre.length + 18)))) :: (bH κ (pre.length + 3) ++ (bH κ (pre.length + 8) ++ (bH κ (pre.length + 13) ++ (bH κ (pre.length + 18) ++ (bH κ (pre.length + 23) ++ [])))))))))) ?_ rfl
  refine g_astP (j0 := 2) (iv := 23) (xv := 4) (t := 3) (cv := 2) (l' := (.inr (6, [.ref (kb κ + (pre.length + 1)), .ref (kb κ + (pre.length + 2))]) :: (izA κ 5 :: (qzA (kH κ) 5 (va_up (va_up (va_up (va_up (va_up (fun _ => none) 0 (some (kb κ + (pre.length + 3)))) 1 (some (kb κ + (pre.length + 8)))) 2 (some (kb κ + (pre.length + 13)))) 3 (some (kb κ + (pre.length + 18)))) 4 (some (kb κ + (pre.length + 23)))) :: (bH κ (pre.length + 3) ++ (bH κ (pre.length + 8) ++ (bH κ (pre.length + 13) ++ (bH κ (pre.length + 18) ++ (bH κ (pre.length + 23) ++ []))))))))) F a_O_init_38 rfl rfl rfl rfl rfl (by decide) (by decide) rfl ?_
  refine g_iinc (ls' := [_, some (vi 5)]) F a_O_init_39 rfl rfl rfl ?_
  refine g_goto F a_O_init_42 ?_
  refine g_iload_n F a_O_init_21 rfl ?_
  refine g_iconst F a_O_init_22 ?_
  refine g_icmp_ge F (by decide) (by decide) a_O_init_23 (fun hz => ?_) (fun hz => absurd hz (by decide))
  refine g_ret F a_O_init_45 rfl ⟨by decide, by decide⟩ ?_
  exact k
def bS (κ : Kx) (i : Nat) : List va_E := (.inr (1, [.ref (kb κ + (i + 1)), .ref (kb κ + (i + 6)), .ref (kb κ + (i + 8)), .ref (kb κ + (i + 10)), .ref (kb κ + (i + 12))]) :: (.inr (2, [vi 0, vi 0, vi 5, vi 0, vi 0, vi 0, .ref (kb κ + (i + 2)), .ref (kb κ + (i + 3)), .ref (kb κ + (i + 4)), .ref (kb κ + (i + 5))]) :: (izA κ 6 :: (izA κ 6 :: (izA κ 6 :: (izA κ 3 :: (bR κ (i + 6) 3 ++ (bR κ (i + 8) 4 ++ (bR κ (i + 10) 4 ++ (bP κ (i + 12) ++ []))))))))))
set_option maxHeartbeats 4000000 in
set_option maxRecDepth 4000 in
theorem co_S_init {κ : Kx} {pre : List va_E} {Q : Option Value → (Heap → Prop) → Prop} (k : Q none (LW κ (pre ++ bS κ (pre.length)))) : GG κ G_S_init 2 13 186 [.ref (kb κ + pre.length)] (LW κ (pre ++ [.inr (1, [.null, .null, .null, .null, .null])])) Q := by
  refine GG.intro (ls := [some _]) (Nat.le_of_ble_eq_true rfl) rfl (fun μ F => ?_)
  show GC κ μ _ 0 0 0 _ _ (LW κ (pre ++ (.inr (1, [.null, .null, .null, .null, .null]) :: [])))
  refine g_aload_n F a_S_init_0 rfl ?_
  refine g_objInit F a_S_init_1 oi_S rfl (by decide) (Nat.le_of_ble_eq_true rfl) ?_
  refine g_aload_n F a_S_init_4 rfl ?_
  refine g_newP (q := (RC2, TC2, 10)) (n := 1) (l' := (.inr (1, [.null, .null, .null, .null, .null]) :: (.inr (2, [vi 0, vi 0, vi 0, vi 0, vi 0, vi 0, .null, .null, .null, .null]) :: []))) F a_S_init_5 cl_S_7 ck_2 df_2 (by decide) rfl rfl ?_
  refine g_dup F a_S_init_8 rfl ?_
  refine g_inP (As := []) (j0 := 1) (l0 := (.inr (1, [.null, .null, .null, .null, .null]) :: [])) (l' := bH κ (pre.length + 1)) (o := .inr (2, [vi 0, vi 0, vi 0, vi 0, vi 0, vi 0, .null, .null, .null, .null])) F a_S_init_9 (Or.inr inc_S_9) mk_H_init rfl (by decide) (by decide) rfl (Nat.le_of_ble_eq_true rfl) rfl rfl (fun Q k9 => co_H_init (by rw [List.length_append]; exact k9)) ?_
  refine GC.pw (P' := LW κ (pre ++ (.inr (1, [.null, .null, .null, .null, .null]) :: (bH κ (pre.length + 1) ++ [])))) ?_ rfl
  refine g_putP (j0 := 0) (l' := (.inr (1, [.ref (kb κ + (pre.length + 1)), .null, .null, .null, .null]) :: (bH κ (pre.length + 1) ++ []))) F a_S_init_12 fl_S_10 ck_1 rfl (Or.inr ⟨rfl, rfl, rfl⟩) rfl rfl (Nat.le_of_ble_eq_true rfl) rfl ?_
  refine g_aload_n F a_S_init_15 rfl ?_
  refine g_newP (q := (RC3, TC3, 3)) (n := 6) (l' := (.inr (1, [.ref (kb κ + (pre.length + 1)), .null, .null, .null, .null]) :: (bH κ (pre.length + 1) ++ (.inr (3, [vi 0, vi 0, .null]) :: [])))) F a_S_init_16 cl_S_16 ck_3 df_3 (by decide) rfl rfl ?_
  refine g_dup F a_S_init_19 rfl ?_
  refine g_iconst F a_S_init_20 ?_
  refine g_inP (As := [vi 3]) (j0 := 6) (l0 := (.inr (1, [.ref (kb κ + (pre.length + 1)), .null, .null, .null, .null]) :: (bH κ (pre.length + 1) ++ []))) (l' := bR κ (pre.length + 6) 3) (o := .inr (3, [vi 0, vi 0, .null])) F a_S_init_21 (Or.inl ic_S_18) mk_R_init rfl (by decide) (by decide) rfl (Nat.le_of_ble_eq_true rfl) rfl rfl (fun Q k9 => co_R_init (by rw [List.length_append]; exact k9)) ?_
  refine GC.pw (P' := LW κ (pre ++ (.inr (1, [.ref (kb κ + (pre.length + 1)), .null, .null, .null, .null]) :: (bH κ (pre.length + 1) ++ (bR κ (pre.length + 6) 3 ++ []))))) ?_ rfl
  refine g_putP (j0 := 0) (l' := (.inr (1, [.ref (kb κ + (pre.length + 1)), .ref (kb κ + (pre.length + 6)), .null, .null, .null]) :: (bH κ (pre.length + 1) ++ (bR κ (pre.length + 6) 3 ++ [])))) F a_S_init_24 fl_S_21 ck_1 rfl (Or.inr ⟨rfl, rfl, rfl⟩) rfl rfl (Nat.le_of_ble_eq_true rfl) rfl ?_
  refine g_aload_n F a_S_init_27 rfl ?_
  refine g_newP (q := (RC3, TC3, 3)) (n := 8) (l' := (.inr (1, [.ref (kb κ + (pre.length + 1)), .ref (kb κ + (pre.length + 6)), .null, .null, .null]) :: (bH κ (pre.length + 1) ++ (bR κ (pre.length + 6) 3 ++ (.inr (3, [vi 0, vi 0, .null]) :: []))))) F a_S_init_28 cl_S_16 ck_3 df_3 (by decide) rfl rfl ?_
  refine g_dup F a_S_init_31 rfl ?_
  refine g_iconst F a_S_init_32 ?_
  refine g_inP (As := [vi 4]) (j0 := 8) (l0 := (.inr (1, [.ref (kb κ + (pre.length + 1)), .ref (kb κ + (pre.length + 6)), .null, .null, .null]) :: (bH κ (pre.length + 1) ++ (bR κ (pre.length + 6) 3 ++ [])))) (l' := bR κ (pre.length + 8) 4) (o := .inr (3, [vi 0, vi 0, .null])) F a_S_init_33 (Or.inl ic_S_18) mk_R_init rfl (by decide) (by decide) rfl (Nat.le_of_ble_eq_true rfl) rfl rfl (fun Q k9 => co_R_init (by rw [List.length_append]; exact k9)) ?_
  refine GC.pw (P' := LW κ (pre ++ (.inr (1, [.ref (kb κ + (pre.length + 1)), .ref (kb κ + (pre.length + 6)), .null, .null, .null]) :: (bH κ (pre.length + 1) ++ (bR κ (pre.length + 6) 3 ++ (bR κ (pre.length + 8) 4 ++ [])))))) ?_ rfl
  refine g_putP (j0 := 0) (l' := (.inr (1, [.ref (kb κ + (pre.length + 1)), .ref (kb κ + (pre.length + 6)), .ref (kb κ + (pre.length + 8)), .null, .null]) :: (bH κ (pre.length + 1) ++ (bR κ (pre.length + 6) 3 ++ (bR κ (pre.length + 8) 4 ++ []))))) F a_S_init_36 fl_S_25 ck_1 rfl (Or.inr ⟨rfl, rfl, rfl⟩) rfl rfl (Nat.le_of_ble_eq_true rfl) rfl ?_
  refine g_aload_n F a_S_init_39 rfl ?_
  refine g_newP (q := (RC3, TC3, 3)) (n := 10) (l' := (.inr (1, [.ref (kb κ + (pre.length + 1)), .ref (kb κ + (pre.length + 6)), .ref (kb κ + (pre.length + 8)), .null, .null]) :: (bH κ (pre.length + 1) ++ (bR κ (pre.length + 6) 3 ++ (bR κ (pre.length + 8) 4 ++ (.inr (3, [vi 0, vi 0, .null]) :: [])))))) F a_S_init_40 cl_S_16 ck_3 df_3 (by decide) rfl rfl ?_
  refine g_dup F a_S_init_43 rfl ?_
  refine g_iconst F a_S_init_44 ?_
  refine g_inP (As := [vi 4]) (j0 := 10) (l0 := (.inr (1, [.ref (kb κ + (pre.length + 1)), .ref (kb κ + (pre.length + 6)), .ref (kb κ + (pre.length + 8)), .null, .null]) :: (bH κ (pre.length + 1) ++ (bR κ (pre.length + 6) 3 ++ (bR κ (pre.length + 8) 4 ++ []))))) (l' := bR κ (pre.length + 10) 4) (o := .inr (3, [vi 0, vi 0, .null])) F a_S_init_45 (Or.inl ic_S_18) mk_R_init rfl (by decide) (by decide) rfl (Nat.le_of_ble_eq_true rfl) rfl rfl (fun Q k9 => co_R_init (by rw [List.length_append]; exact k9)) ?_
  refine GC.pw (P' := LW κ (pre ++ (.inr (1, [.ref (kb κ + (pre.length + 1)), .ref (kb κ + (pre.length + 6)), .ref (kb κ + (pre.length + 8)), .null, .null]) :: (bH κ (pre.length + 1) ++ (bR κ (pre.length + 6) 3 ++ (bR κ (pre.length + 8) 4 ++ (bR κ (pre.length + 10) 4 ++ []))))))) ?_ rfl
  refine g_putP (j0 := 0) (l' := (.inr (1, [.ref (kb κ + (pre.length + 1)), .ref (kb κ + (pre.length + 6)), .ref (kb κ + (pre.length + 8)), .ref (kb κ + (pre.length + 10)), .null]) :: (bH κ (pre.length + 1) ++ (bR κ (pre.length + 6) 3 ++ (bR κ (pre.length + 8) 4 ++ (bR κ (pre.length + 10) 4 ++ [])))))) F a_S_init_48 fl_S_28 ck_1 rfl (Or.inr ⟨rfl, rfl, rfl⟩) rfl rfl (Nat.le_of_ble_eq_true rfl) rfl ?_
  refine g_aload_n F a_S_init_51 rfl ?_
  refine g_newP (q := (RC4, TC4, 2)) (n := 12) (l' := (.inr (1, [.ref (kb κ + (pre.length + 1)), .ref (kb κ + (pre.length + 6)), .ref (kb κ + (pre.length + 8)), .ref (kb κ + (pre.length + 10)), .null]) :: (bH κ (pre.length + 1) ++ (bR κ (pre.length + 6) 3 ++ (bR κ (pre.length + 8) 4 ++ (bR κ (pre.length + 10) 4 ++ (.inr (4, [vi 0, .null]) :: []))))))) F a_S_init_52 cl_S_31 ck_4 df_4 (by decide) rfl rfl ?_
  refine g_dup F a_S_init_55 rfl ?_
  refine g_inP (As := []) (j0 := 12) (l0 := (.inr (1, [.ref (kb κ + (pre.length + 1)), .ref (kb κ + (pre.length + 6)), .ref (kb κ + (pre.length + 8)), .ref (kb κ + (pre.length + 10)), .null]) :: (bH κ (pre.length + 1) ++ (bR κ (pre.length + 6) 3 ++ (bR κ (pre.length + 8) 4 ++ (bR κ (pre.length + 10) 4 ++ [])))))) (l' := bP κ (pre.length + 12)) (o := .inr (4, [vi 0, .null])) F a_S_init_56 (Or.inr inc_S_33) mk_P_init rfl (by decide) (by decide) rfl (Nat.le_of_ble_eq_true rfl) rfl rfl (fun Q k9 => co_P_init (by rw [List.length_append]; exact k9)) ?_
  refine GC.pw (P' := LW κ (pre ++ (.inr (1, [.ref (kb κ + (pre.length + 1)), .ref (kb κ + (pre.length + 6)), .ref (kb κ + (pre.length + 8)), .ref (kb κ + (pre.length + 10)), .null]) :: (bH κ (pre.length + 1) ++ (bR κ (pre.length + 6) 3 ++ (bR κ (pre.length + 8) 4 ++ (bR κ (pre.length + 10) 4 ++ (bP κ (pre.length + 12) ++ [])))))))) ?_ rfl
  refine g_putP (j0 := 0) (l' := (.inr (1, [.ref (kb κ + (pre.length + 1)), .ref (kb κ + (pre.length + 6)), .ref (kb κ + (pre.length + 8)), .ref (kb κ + (pre.length + 10)), .ref (kb κ + (pre.length + 12))]) :: (bH κ (pre.length + 1) ++ (bR κ (pre.length + 6) 3 ++ (bR κ (pre.length + 8) 4 ++ (bR κ (pre.length + 10) 4 ++ (bP κ (pre.length + 12) ++ []))))))) F a_S_init_59 fl_S_34 ck_1 rfl (Or.inr ⟨rfl, rfl, rfl⟩) rfl rfl (Nat.le_of_ble_eq_true rfl) rfl ?_
  refine g_aload_n F a_S_init_62 rfl ?_
  refine g_getP (j0 := 0) F a_S_init_63 fl_S_10 ck_1 rfl rfl ?_
  refine g_iconst F a_S_init_66 ?_
  refine g_putP (j0 := 1) (l' := (.inr (1, [.ref (kb κ + (pre.length + 1)), .ref (kb κ + (pre.length + 6)), .ref (kb κ + (pre.length + 8)), .ref (kb κ + (pre.length + 10)), .ref (kb κ + (pre.length + 12))]) :: (.inr (2, [vi 0, vi 0, vi 5, vi 0, vi 0, vi 0, .ref (kb κ + (pre.length + 2)), .ref (kb κ + (pre.length + 3)), .ref (kb κ + (pre.length + 4)), .ref (kb κ + (pre.length + 5))]) :: (izA κ 6 :: (izA κ 6 :: (izA κ 6 :: (izA κ 3 :: (bR κ (pre.length + 6) 3 ++ (bR κ (pre.length + 8) 4 ++ (bR κ (pre.length + 10) 4 ++ (bP κ (pre.length + 12) ++ []))))))))))) F a_S_init_67 fl_S_38 ck_2 rfl (Or.inl rfl) rfl rfl (Nat.le_of_ble_eq_true rfl) rfl ?_
  refine g_ret F a_S_init_70 rfl ⟨by decide, by decide⟩ ?_
  exact k
def bA (κ : Kx) (i : Nat) : List va_E := (.inr (0, [.ref (kb κ + (i + 1)), .ref (kb κ + (i + 15)), .ref (kb κ + (i + 16)), .ref (kb κ + (i + 17)), .ref (kb κ + (i + 22)), .ref (kb κ + (i + 24)), .ref (kb κ + (i + 52)), .ref (kb κ + (i + 56)), .ref (kb κ + (i + 58)), vi 0, vi 0, vi 0]) :: (bS κ (i + 1) ++ (qzA (kS κ) 2 (va_up (va_up (fun _ => none) 0 (some (kb κ + (i + 59)))) 1 (some (kb κ + (i + 73)))) :: (bzA κ 2 :: (bH κ (i + 17) ++ (bT κ (i + 22) ++ (bO κ (i + 24) ++ (bW κ (i + 52) ++ (bG κ (i + 56) ++ (bC κ (i + 58) ++ (bS κ (i + 59) ++ (bS κ (i + 73) ++ []))))))))))))
set_option maxHeartbeats 4000000 in
set_option maxRecDepth 4000 in
theorem co_A_init {κ : Kx} {pre : List va_E} {Q : Option Value → (Heap → Prop) → Prop} (k : Q none (LW κ (pre ++ bA κ (pre.length)))) : GG κ G_A_init 3 86 962 [.ref (kb κ + pre.length)] (LW κ (pre ++ [.inr (0, [.null, .null, .null, .null, .null, .null, .null, .null, .null, vi 0, vi 0, vi 0])])) Q := by
  refine GG.intro (ls := [some _, none]) (Nat.le_of_ble_eq_true rfl) rfl (fun μ F => ?_)
  show GC κ μ _ 0 0 0 _ _ (LW κ (pre ++ (.inr (0, [.null, .null, .null, .null, .null, .null, .null, .null, .null, vi 0, vi 0, vi 0]) :: [])))
  refine g_aload_n F a_A_init_0 rfl ?_
  refine g_objInit F a_A_init_1 oi_A rfl (by decide) (Nat.le_of_ble_eq_true rfl) ?_
  refine g_aload_n F a_A_init_4 rfl ?_
  refine g_newP (q := (RC1, TC1, 5)) (n := 1) (l' := (.inr (0, [.null, .null, .null, .null, .null, .null, .null, .null, .null, vi 0, vi 0, vi 0]) :: (.inr (1, [.null, .null, .null, .null, .null]) :: []))) F a_A_init_5 cl_A_7 ck_1 df_1 (by decide) rfl rfl ?_
  refine g_dup F a_A_init_8 rfl ?_
  refine g_inP (As := []) (j0 := 1) (l0 := (.inr (0, [.null, .null, .null, .null, .null, .null, .null, .null, .null, vi 0, vi 0, vi 0]) :: [])) (l' := bS κ (pre.length + 1)) (o := .inr (1, [.null, .null, .null, .null, .null])) F a_A_init_9 (Or.inl ic_A_9) mk_S_init rfl (by decide) (by decide) rfl (Nat.le_of_ble_eq_true rfl) rfl rfl (fun Q k9 => co_S_init (by rw [List.length_append]; exact k9)) ?_
  refine GC.pw (P' := LW κ (pre ++ (.inr (0, [.null, .null, .null, .null, .null, .null, .null, .null, .null, vi 0, vi 0, vi 0]) :: (bS κ (pre.length + 1) ++ [])))) ?_ rfl
  refine g_putP (j0 := 0) (l' := (.inr (0, [.ref (kb κ + (pre.length + 1)), .null, .null, .null, .null, .null, .null, .null, .null, vi 0, vi 0, vi 0]) :: (bS κ (pre.length + 1) ++ []))) F a_A_init_12 fl_A_10 ck_0 rfl (Or.inr ⟨rfl, rfl, rfl⟩) rfl rfl (Nat.le_of_ble_eq_true rfl) rfl ?_
  refine g_aload_n F a_A_init_15 rfl ?_
  refine g_iconst F a_A_init_16 ?_
  refine g_newQP (z := 2) (t := 2) (cQ := kS κ) (n := 15) (l' := (.inr (0, [.ref (kb κ + (pre.length + 1)), .null, .null, .null, .null, .null, .null, .null, .null, vi 0, vi 0, vi 0]) :: (bS κ (pre.length + 1) ++ (qzA (kS κ) 2 (fun _ => none) :: [])))) F a_A_init_17 cl_A_7 (fun U h => h.2.2.1) rfl rfl (by decide) (by decide) rfl rfl ?_
  refine g_putP (j0 := 0) (l' := (.inr (0, [.ref (kb κ + (pre.length + 1)), .ref (kb κ + (pre.length + 15)), .null, .null, .null, .null, .null, .null, .null, vi 0, vi 0, vi 0]) :: (bS κ (pre.length + 1) ++ (qzA (kS κ) 2 (fun _ => none) :: [])))) F a_A_init_20 fl_A_16 ck_0 rfl (Or.inr ⟨rfl, rfl, rfl⟩) rfl rfl (Nat.le_of_ble_eq_true rfl) rfl ?_
  refine g_aload_n F a_A_init_23 rfl ?_
  refine g_iconst F a_A_init_24 ?_
  refine g_newZP (z := 2) (n := 16) (l' := (.inr (0, [.ref (kb κ + (pre.length + 1)), .ref (kb κ + (pre.length + 15)), .null, .null, .null, .null, .null, .null, .null, vi 0, vi 0, vi 0]) :: (bS κ (pre.length + 1) ++ (qzA (kS κ) 2 (fun _ => none) :: (bzA κ 2 :: []))))) F a_A_init_25 rfl (by decide) (by decide) rfl rfl ?_
  refine g_putP (j0 := 0) (l' := (.inr (0, [.ref (kb κ + (pre.length + 1)), .ref (kb κ + (pre.length + 15)), .ref (kb κ + (pre.length + 16)), .null, .null, .null, .null, .null, .null, vi 0, vi 0, vi 0]) :: (bS κ (pre.length + 1) ++ (qzA (kS κ) 2 (fun _ => none) :: (bzA κ 2 :: []))))) F a_A_init_27 fl_A_20 ck_0 rfl (Or.inr ⟨rfl, rfl, rfl⟩) rfl rfl (Nat.le_of_ble_eq_true rfl) rfl ?_
  refine g_aload_n F a_A_init_30 rfl ?_
  refine g_newP (q := (RC2, TC2, 10)) (n := 17) (l' := (.inr (0, [.ref (kb κ + (pre.length + 1)), .ref (kb κ + (pre.length + 15)), .ref (kb κ + (pre.length + 16)), .null, .null, .null, .null, .null, .null, vi 0, vi 0, vi 0]) :: (bS κ (pre.length + 1) ++ (qzA (kS κ) 2 (fun _ => none) :: (bzA κ 2 :: (.inr (2, [vi 0, vi 0, vi 0, vi 0, vi 0, vi 0, .null, .null, .null, .null]) :: [])))))) F a_A_init_31 cl_A_24 ck_2 df_2 (by decide) rfl rfl ?_
  refine g_dup F a_A_init_34 rfl ?_
  refine g_inP (As := []) (j0 := 17) (l0 := (.inr (0, [.ref (kb κ + (pre.length + 1)), .ref (kb κ + (pre.length + 15)), .ref (kb κ + (pre.length + 16)), .null, .null, .null, .null, .null, .null, vi 0, vi 0, vi 0]) :: (bS κ (pre.length + 1) ++ (qzA (kS κ) 2 (fun _ => none) :: (bzA κ 2 :: []))))) (l' := bH κ (pre.length + 17)) (o := .inr (2, [vi 0, vi 0, vi 0, vi 0, vi 0, vi 0, .null, .null, .null, .null])) F a_A_init_35 (Or.inr inc_A_26) mk_H_init rfl (by decide) (by decide) rfl (Nat.le_of_ble_eq_true rfl) rfl rfl (fun Q k9 => co_H_init (by rw [List.length_append]; exact k9)) ?_
  refine GC.pw (P' := LW κ (pre ++ (.inr (0, [.ref (kb κ + (pre.length + 1)), .ref (kb κ + (pre.length + 15)), .ref (kb κ + (pre.length + 16)), .null, .null, .null, .null, .null, .null, vi 0, vi 0, vi 0]) :: (bS κ (pre.length + 1) ++ (qzA (kS κ) 2 (fun _ => none) :: (bzA κ 2 :: (bH κ (pre.length + 17) ++ []))))))) ?_ rfl
  refine g_putP (j0 := 0) (l' := (.inr (0, [.ref (kb κ + (pre.length + 1)), .ref (kb κ + (pre.length + 15)), .ref (kb κ + (pre.length + 16)), .ref (kb κ + (pre.length + 17)), .null, .null, .null, .null, .null, vi 0, vi 0, vi 0]) :: (bS κ (pre.length + 1) ++ (qzA (kS κ) 2 (fun _ => none) :: (bzA κ 2 :: (bH κ (pre.length + 17) ++ [])))))) F a_A_init_38 fl_A_27 ck_0 rfl (Or.inr ⟨rfl, rfl, rfl⟩) rfl rfl (Nat.le_of_ble_eq_true rfl) rfl ?_
  refine g_aload_n F a_A_init_41 rfl ?_
  refine g_newP (q := (RC5, TC5, 6)) (n := 22) (l' := (.inr (0, [.ref (kb κ + (pre.length + 1)), .ref (kb κ + (pre.length + 15)), .ref (kb κ + (pre.length + 16)), .ref (kb κ + (pre.length + 17)), .null, .null, .null, .null, .null, vi 0, vi 0, vi 0]) :: (bS κ (pre.length + 1) ++ (qzA (kS κ) 2 (fun _ => none) :: (bzA κ 2 :: (bH κ (pre.length + 17) ++ (.inr (5, [vi 0, .null, vi 0, vi 0, vi 0, vi 0]) :: []))))))) F a_A_init_42 cl_A_31 ck_5 df_5 (by decide) rfl rfl ?_
  refine g_dup F a_A_init_45 rfl ?_
  refine g_inP (As := []) (j0 := 22) (l0 := (.inr (0, [.ref (kb κ + (pre.length + 1)), .ref (kb κ + (pre.length + 15)), .ref (kb κ + (pre.length + 16)), .ref (kb κ + (pre.length + 17)), .null, .null, .null, .null, .null, vi 0, vi 0, vi 0]) :: (bS κ (pre.length + 1) ++ (qzA (kS κ) 2 (fun _ => none) :: (bzA κ 2 :: (bH κ (pre.length + 17) ++ [])))))) (l' := bT κ (pre.length + 22)) (o := .inr (5, [vi 0, .null, vi 0, vi 0, vi 0, vi 0])) F a_A_init_46 (Or.inr inc_A_33) mk_T_init rfl (by decide) (by decide) rfl (Nat.le_of_ble_eq_true rfl) rfl rfl (fun Q k9 => co_T_init (by rw [List.length_append]; exact k9)) ?_
  refine GC.pw (P' := LW κ (pre ++ (.inr (0, [.ref (kb κ + (pre.length + 1)), .ref (kb κ + (pre.length + 15)), .ref (kb κ + (pre.length + 16)), .ref (kb κ + (pre.length + 17)), .null, .null, .null, .null, .null, vi 0, vi 0, vi 0]) :: (bS κ (pre.length + 1) ++ (qzA (kS κ) 2 (fun _ => none) :: (bzA κ 2 :: (bH κ (pre.length + 17) ++ (bT κ (pre.length + 22) ++ [])))))))) ?_ rfl
  refine g_putP (j0 := 0) (l' := (.inr (0, [.ref (kb κ + (pre.length + 1)), .ref (kb κ + (pre.length + 15)), .ref (kb κ + (pre.length + 16)), .ref (kb κ + (pre.length + 17)), .ref (kb κ + (pre.length + 22)), .null, .null, .null, .null, vi 0, vi 0, vi 0]) :: (bS κ (pre.length + 1) ++ (qzA (kS κ) 2 (fun _ => none) :: (bzA κ 2 :: (bH κ (pre.length + 17) ++ (bT κ (pre.length + 22) ++ []))))))) F a_A_init_49 fl_A_34 ck_0 rfl (Or.inr ⟨rfl, rfl, rfl⟩) rfl rfl (Nat.le_of_ble_eq_true rfl) rfl ?_
  refine g_aload_n F a_A_init_52 rfl ?_
  refine g_newP (q := (RC6, TC6, 2)) (n := 24) (l' := (.inr (0, [.ref (kb κ + (pre.length + 1)), .ref (kb κ + (pre.length + 15)), .ref (kb κ + (pre.length + 16)), .ref (kb κ + (pre.length + 17)), .ref (kb κ + (pre.length + 22)), .null, .null, .null, .null, vi 0, vi 0, vi 0]) :: (bS κ (pre.length + 1) ++ (qzA (kS κ) 2 (fun _ => none) :: (bzA κ 2 :: (bH κ (pre.length + 17) ++ (bT κ (pre.length + 22) ++ (.inr (6, [.null, .null]) :: [])))))))) F a_A_init_53 cl_A_38 ck_6 df_6 (by decide) rfl rfl ?_
  refine g_dup F a_A_init_56 rfl ?_
  refine g_inP (As := []) (j0 := 24) (l0 := (.inr (0, [.ref (kb κ + (pre.length + 1)), .ref (kb κ + (pre.length + 15)), .ref (kb κ + (pre.length + 16)), .ref (kb κ + (pre.length + 17)), .ref (kb κ + (pre.length + 22)), .null, .null, .null, .null, vi 0, vi 0, vi 0]) :: (bS κ (pre.length + 1) ++ (qzA (kS κ) 2 (fun _ => none) :: (bzA κ 2 :: (bH κ (pre.length + 17) ++ (bT κ (pre.length + 22) ++ []))))))) (l' := bO κ (pre.length + 24)) (o := .inr (6, [.null, .null])) F a_A_init_57 (Or.inl ic_A_40) mk_O_init rfl (by decide) (by decide) rfl (Nat.le_of_ble_eq_true rfl) rfl rfl (fun Q k9 => co_O_init (by rw [List.length_append]; exact k9)) ?_
  refine GC.pw (P' := LW κ (pre ++ (.inr (0, [.ref (kb κ + (pre.length + 1)), .ref (kb κ + (pre.length + 15)), .ref (kb κ + (pre.length + 16)), .ref (kb κ + (pre.length + 17)), .ref (kb κ + (pre.length + 22)), .null, .null, .null, .null, vi 0, vi 0, vi 0]) :: (bS κ (pre.length + 1) ++ (qzA (kS κ) 2 (fun _ => none) :: (bzA κ 2 :: (bH κ (pre.length + 17) ++ (bT κ (pre.length + 22) ++ (bO κ (pre.length + 24) ++ []))))))))) ?_ rfl
  refine g_putP (j0 := 0) (l' := (.inr (0, [.ref (kb κ + (pre.length + 1)), .ref (kb κ + (pre.length + 15)), .ref (kb κ + (pre.length + 16)), .ref (kb κ + (pre.length + 17)), .ref (kb κ + (pre.length + 22)), .ref (kb κ + (pre.length + 24)), .null, .null, .null, vi 0, vi 0, vi 0]) :: (bS κ (pre.length + 1) ++ (qzA (kS κ) 2 (fun _ => none) :: (bzA κ 2 :: (bH κ (pre.length + 17) ++ (bT κ (pre.length + 22) ++ (bO κ (pre.length + 24) ++ [])))))))) F a_A_init_60 fl_A_41 ck_0 rfl (Or.inr ⟨rfl, rfl, rfl⟩) rfl rfl (Nat.le_of_ble_eq_true rfl) rfl ?_
  refine g_aload_n F a_A_init_63 rfl ?_
  refine g_newP (q := (RC7, TC7, 4)) (n := 52) (l' := (.inr (0, [.ref (kb κ + (pre.length + 1)), .ref (kb κ + (pre.length + 15)), .ref (kb κ + (pre.length + 16)), .ref (kb κ + (pre.length + 17)), .ref (kb κ + (pre.length + 22)), .ref (kb κ + (pre.length + 24)), .null, .null, .null, vi 0, vi 0, vi 0]) :: (bS κ (pre.length + 1) ++ (qzA (kS κ) 2 (fun _ => none) :: (bzA κ 2 :: (bH κ (pre.length + 17) ++ (bT κ (pre.length + 22) ++ (bO κ (pre.length + 24) ++ (.inr (7, [.null, .null, .null, vi 0]) :: []))))))))) F a_A_init_64 cl_A_45 ck_7 df_7 (by decide) rfl rfl ?_
  refine g_dup F a_A_init_67 rfl ?_
  refine g_inP (As := []) (j0 := 52) (l0 := (.inr (0, [.ref (kb κ + (pre.length + 1)), .ref (kb κ + (pre.length + 15)), .ref (kb κ + (pre.length + 16)), .ref (kb κ + (pre.length + 17)), .ref (kb κ + (pre.length + 22)), .ref (kb κ + (pre.length + 24)), .null, .null, .null, vi 0, vi 0, vi 0]) :: (bS κ (pre.length + 1) ++ (qzA (kS κ) 2 (fun _ => none) :: (bzA κ 2 :: (bH κ (pre.length + 17) ++ (bT κ (pre.length + 22) ++ (bO κ (pre.length + 24) ++ [])))))))) (l' := bW κ (pre.length + 52)) (o := .inr (7, [.null, .null, .null, vi 0])) F a_A_init_68 (Or.inr inc_A_47) mk_W_init rfl (by decide) (by decide) rfl (Nat.le_of_ble_eq_true rfl) rfl rfl (fun Q k9 => co_W_init (by rw [List.length_append]; exact k9)) ?_
  refine GC.pw (P' := LW κ (pre ++ (.inr (0, [.ref (kb κ + (pre.length + 1)), .ref (kb κ + (pre.length + 15)), .ref (kb κ + (pre.length + 16)), .ref (kb κ + (pre.length + 17)), .ref (kb κ + (pre.length + 22)), .ref (kb κ + (pre.length + 24)), .null, .null, .null, vi 0, vi 0, vi 0]) :: (bS κ (pre.length + 1) ++ (qzA (kS κ) 2 (fun _ => none) :: (bzA κ 2 :: (bH κ (pre.length + 17) ++ (bT κ (pre.length + 22) ++ (bO κ (pre.length + 24) ++ (bW κ (pre.length + 52) ++ [])))))))))) ?_ rfl
  refine g_putP (j0 := 0) (l' := (.inr (0, [.ref (kb κ + (pre.length + 1)), .ref (kb κ + (pre.length + 15)), .ref (kb κ + (pre.length + 16)), .ref (kb κ + (pre.length + 17)), .ref (kb κ + (pre.length + 22)), .ref (kb κ + (pre.length + 24)), .ref (kb κ + (pre.length + 52)), .null, .null, vi 0, vi 0, vi 0]) :: (bS κ (pre.length + 1) ++ (qzA (kS κ) 2 (fun _ => none) :: (bzA κ 2 :: (bH κ (pre.length + 17) ++ (bT κ (pre.length + 22) ++ (bO κ (pre.length + 24) ++ (bW κ (pre.length + 52) ++ []))))))))) F a_A_init_71 fl_A_48 ck_0 rfl (Or.inr ⟨rfl, rfl, rfl⟩) rfl rfl (Nat.le_of_ble_eq_true rfl) rfl ?_
  refine g_aload_n F a_A_init_74 rfl ?_
  refine g_newP (q := (RC8, TC8, 1)) (n := 56) (l' := (.inr (0, [.ref (kb κ + (pre.length + 1)), .ref (kb κ + (pre.length + 15)), .ref (kb κ + (pre.length + 16)), .ref (kb κ + (pre.length + 17)), .ref (kb κ + (pre.length + 22)), .ref (kb κ + (pre.length + 24)), .ref (kb κ + (pre.length + 52)), .null, .null, vi 0, vi 0, vi 0]) :: (bS κ (pre.length + 1) ++ (qzA (kS κ) 2 (fun _ => none) :: (bzA κ 2 :: (bH κ (pre.length + 17) ++ (bT κ (pre.length + 22) ++ (bO κ (pre.length + 24) ++ (bW κ (pre.length + 52) ++ (.inr (8, [.null]) :: [])))))))))) F a_A_init_75 cl_A_52 ck_8 df_8 (by decide) rfl rfl ?_
  refine g_dup F a_A_init_78 rfl ?_
  refine g_inP (As := []) (j0 := 56) (l0 := (.inr (0, [.ref (kb κ + (pre.length + 1)), .ref (kb κ + (pre.length + 15)), .ref (kb κ + (pre.length + 16)), .ref (kb κ + (pre.length + 17)), .ref (kb κ + (pre.length + 22)), .ref (kb κ + (pre.length + 24)), .ref (kb κ + (pre.length + 52)), .null, .null, vi 0, vi 0, vi 0]) :: (bS κ (pre.length + 1) ++ (qzA (kS κ) 2 (fun _ => none) :: (bzA κ 2 :: (bH κ (pre.length + 17) ++ (bT κ (pre.length + 22) ++ (bO κ (pre.length + 24) ++ (bW κ (pre.length + 52) ++ []))))))))) (l' := bG κ (pre.length + 56)) (o := .inr (8, [.null])) F a_A_init_79 (Or.inr inc_A_54) mk_G_init rfl (by decide) (by decide) rfl (Nat.le_of_ble_eq_true rfl) rfl rfl (fun Q k9 => co_G_init (by rw [List.length_append]; exact k9)) ?_
  refine GC.pw (P' := LW κ (pre ++ (.inr (0, [.ref (kb κ + (pre.length + 1)), .ref (kb κ + (pre.length + 15)), .ref (kb κ + (pre.length + 16)), .ref (kb κ + (pre.length + 17)), .ref (kb κ + (pre.length + 22)), .ref (kb κ + (pre.length + 24)), .ref (kb κ + (pre.length + 52)), .null, .null, vi 0, vi 0, vi 0]) :: (bS κ (pre.length + 1) ++ (qzA (kS κ) 2 (fun _ => none) :: (bzA κ 2 :: (bH κ (pre.length + 17) ++ (bT κ (pre.length + 22) ++ (bO κ (pre.length + 24) ++ (bW κ (pre.length + 52) ++ (bG κ (pre.length + 56) ++ []))))))))))) ?_ rfl
  refine g_putP (j0 := 0) (l' := (.inr (0, [.ref (kb κ + (pre.length + 1)), .ref (kb κ + (pre.length + 15)), .ref (kb κ + (pre.length + 16)), .ref (kb κ + (pre.length + 17)), .ref (kb κ + (pre.length + 22)), .ref (kb κ + (pre.length + 24)), .ref (kb κ + (pre.length + 52)), .ref (kb κ + (pre.length + 56)), .null, vi 0, vi 0, vi 0]) :: (bS κ (pre.length + 1) ++ (qzA (kS κ) 2 (fun _ => none) :: (bzA κ 2 :: (bH κ (pre.length + 17) ++ (bT κ (pre.length + 22) ++ (bO κ (pre.length + 24) ++ (bW κ (pre.length + 52) ++ (bG κ (pre.length + 56) ++ [])))))))))) F a_A_init_82 fl_A_55 ck_0 rfl (Or.inr ⟨rfl, rfl, rfl⟩) rfl rfl (Nat.le_of_ble_eq_true rfl) rfl ?_
  refine g_aload_n F a_A_init_85 rfl ?_
  refine g_newP (q := (RC9, TC9, 2)) (n := 58) (l' := (.inr (0, [.ref (kb κ + (pre.length + 1)), .ref (kb κ + (pre.length + 15)), .ref (kb κ + (pre.length + 16)), .ref (kb κ + (pre.length + 17)), .ref (kb κ + (pre.length + 22)), .ref (kb κ + (pre.length + 24)), .ref (kb κ + (pre.length + 52)), .ref (kb κ + (pre.length + 56)), .null, vi 0, vi 0, vi 0]) :: (bS κ (pre.length + 1) ++ (qzA (kS κ) 2 (fun _ => none) :: (bzA κ 2 :: (bH κ (pre.length + 17) ++ (bT κ (pre.length + 22) ++ (bO κ (pre.length + 24) ++ (bW κ (pre.length + 52) ++ (bG κ (pre.length + 56) ++ (.inr (9, [vl 0, vl 0]) :: []))))))))))) F a_A_init_86 cl_A_59 ck_9 df_9 (by decide) rfl rfl ?_
  refine g_dup F a_A_init_89 rfl ?_
  refine g_inP (As := []) (j0 := 58) (l0 := (.inr (0, [.ref (kb κ + (pre.length + 1)), .ref (kb κ + (pre.length + 15)), .ref (kb κ + (pre.length + 16)), .ref (kb κ + (pre.length + 17)), .ref (kb κ + (pre.length + 22)), .ref (kb κ + (pre.length + 24)), .ref (kb κ + (pre.length + 52)), .ref (kb κ + (pre.length + 56)), .null, vi 0, vi 0, vi 0]) :: (bS κ (pre.length + 1) ++ (qzA (kS κ) 2 (fun _ => none) :: (bzA κ 2 :: (bH κ (pre.length + 17) ++ (bT κ (pre.length + 22) ++ (bO κ (pre.length + 24) ++ (bW κ (pre.length + 52) ++ (bG κ (pre.length + 56) ++ [])))))))))) (l' := bC κ (pre.length + 58)) (o := .inr (9, [vl 0, vl 0])) F a_A_init_90 (Or.inr inc_A_61) mk_C_init rfl (by decide) (by decide) rfl (Nat.le_of_ble_eq_true rfl) rfl rfl (fun Q k9 => co_C_init (by rw [List.length_append]; exact k9)) ?_
  refine GC.pw (P' := LW κ (pre ++ (.inr (0, [.ref (kb κ + (pre.length + 1)), .ref (kb κ + (pre.length + 15)), .ref (kb κ + (pre.length + 16)), .ref (kb κ + (pre.length + 17)), .ref (kb κ + (pre.length + 22)), .ref (kb κ + (pre.length + 24)), .ref (kb κ + (pre.length + 52)), .ref (kb κ + (pre.length + 56)), .null, vi 0, vi 0, vi 0]) :: (bS κ (pre.length + 1) ++ (qzA (kS κ) 2 (fun _ => none) :: (bzA κ 2 :: (bH κ (pre.length + 17) ++ (bT κ (pre.length + 22) ++ (bO κ (pre.length + 24) ++ (bW κ (pre.length + 52) ++ (bG κ (pre.length + 56) ++ (bC κ (pre.length + 58) ++ [])))))))))))) ?_ rfl
  refine g_putP (j0 := 0) (l' := (.inr (0, [.ref (kb κ + (pre.length + 1)), .ref (kb κ + (pre.length + 15)), .ref (kb κ + (pre.length + 16)), .ref (kb κ + (pre.length + 17)), .ref (kb κ + (pre.length + 22)), .ref (kb κ + (pre.length + 24)), .ref (kb κ + (pre.length + 52)), .ref (kb κ + (pre.length + 56)), .ref (kb κ + (pre.length + 58)), vi 0, vi 0, vi 0]) :: (bS κ (pre.length + 1) ++ (qzA (kS κ) 2 (fun _ => none) :: (bzA κ 2 :: (bH κ (pre.length + 17) ++ (bT κ (pre.length + 22) ++ (bO κ (pre.length + 24) ++ (bW κ (pre.length + 52) ++ (bG κ (pre.length + 56) ++ (bC κ (pre.length + 58) ++ []))))))))))) F a_A_init_93 fl_A_62 ck_0 rfl (Or.inr ⟨rfl, rfl, rfl⟩) rfl rfl (Nat.le_of_ble_eq_true rfl) rfl ?_
  refine g_iconst F a_A_init_96 ?_
  refine g_istore_n (ls' := [_, _]) F a_A_init_97 rfl rfl rfl ?_
  refine g_iload_n F a_A_init_98 rfl ?_
  refine g_iconst F a_A_init_99 ?_
  refine g_icmp_ge F (by decide) (by decide) a_A_init_100 (fun hz => absurd hz (by decide)) (fun hz => ?_)
  refine g_aload_n F a_A_init_103 rfl ?_
  refine g_getP (j0 := 0) F a_A_init_104 fl_A_16 ck_0 rfl rfl ?_
  refine g_iload_n F a_A_init_107 rfl ?_
  refine g_newP (q := (RC1, TC1, 5)) (n := 59) (l' := (.inr (0, [.ref (kb κ + (pre.length + 1)), .ref (kb κ + (pre.length + 15)), .ref (kb κ + (pre.length + 16)), .ref (kb κ + (pre.length + 17)), .ref (kb κ + (pre.length + 22)), .ref (kb κ + (pre.length + 24)), .ref (kb κ + (pre.length + 52)), .ref (kb κ + (pre.length + 56)), .ref (kb κ + (pre.length + 58)), vi 0, vi 0, vi 0]) :: (bS κ (pre.length + 1) ++ (qzA (kS κ) 2 (fun _ => none) :: (bzA κ 2 :: (bH κ (pre.length + 17) ++ (bT κ (pre.length + 22) ++ (bO κ (pre.length + 24) ++ (bW κ (pre.length + 52) ++ (bG κ (pre.length + 56) ++ (bC κ (pre.length + 58) ++ (.inr (1, [.null, .null, .null, .null, .null]) :: [])))))))))))) F a_A_init_108 cl_A_7 ck_1 df_1 (by decide) rfl rfl ?_
  refine g_dup F a_A_init_111 rfl ?_
  refine g_inP (As := []) (j0 := 59) (l0 := (.inr (0, [.ref (kb κ + (pre.length + 1)), .ref (kb κ + (pre.length + 15)), .ref (kb κ + (pre.length + 16)), .ref (kb κ + (pre.length + 17)), .ref (kb κ + (pre.length + 22)), .ref (kb κ + (pre.length + 24)), .ref (kb κ + (pre.length + 52)), .ref (kb κ + (pre.length + 56)), .ref (kb κ + (pre.length + 58)), vi 0, vi 0, vi 0]) :: (bS κ (pre.length + 1) ++ (qzA (kS κ) 2 (fun _ => none) :: (bzA κ 2 :: (bH κ (pre.length + 17) ++ (bT κ (pre.length + 22) ++ (bO κ (pre.length + 24) ++ (bW κ (pre.length + 52) ++ (bG κ (pre.length + 56) ++ (bC κ (pre.length + 58) ++ []))))))))))) (l' := bS κ (pre.length + 59)) (o := .inr (1, [.null, .null, .null, .null, .null])) F a_A_init_112 (Or.inl ic_A_9) mk_S_init rfl (by decide) (by decide) rfl (Nat.le_of_ble_eq_true rfl) rfl rfl (fun Q k9 => co_S_init (by rw [List.length_append]; exact k9)) ?_
  refine GC.pw (P' := LW κ (pre ++ (.inr (0, [.ref (kb κ + (pre.length + 1)), .ref (kb κ + (pre.length + 15)), .ref (kb κ + (pre.length + 16)), .ref (kb κ + (pre.length + 17)), .ref (kb κ + (pre.length + 22)), .ref (kb κ + (pre.length + 24)), .ref (kb κ + (pre.length + 52)), .ref (kb κ + (pre.length + 56)), .ref (kb κ + (pre.length + 58)), vi 0, vi 0, vi 0]) :: (bS κ (pre.length + 1) ++ (qzA (kS κ) 2 (fun _ => none) :: (bzA κ 2 :: (bH κ (pre.length + 17) ++ (bT κ (pre.length + 22) ++ (bO κ (pre.length + 24) ++ (bW κ (pre.length + 52) ++ (bG κ (pre.length + 56) ++ (bC κ (pre.length + 58) ++ (bS κ (pre.length + 59) ++ []))))))))))))) ?_ rfl
  refine g_astP (j0 := 15) (iv := 59) (xv := 0) (t := 2) (cv := 1) (l' := (.inr (0, [.ref (kb κ + (pre.length + 1)), .ref (kb κ + (pre.length + 15)), .ref (kb κ + (pre.length + 16)), .ref (kb κ + (pre.length + 17)), .ref (kb κ + (pre.length + 22)), .ref (kb κ + (pre.length + 24)), .ref (kb κ + (pre.length + 52)), .ref (kb κ + (pre.length + 56)), .ref (kb κ + (pre.length + 58)), vi 0, vi 0, vi 0]) :: (bS κ (pre.length + 1) ++ (qzA (kS κ) 2 (va_up (fun _ => none) 0 (some (kb κ + (pre.length + 59)))) :: (bzA κ 2 :: (bH κ (pre.length + 17) ++ (bT κ (pre.length + 22) ++ (bO κ (pre.length + 24) ++ (bW κ (pre.length + 52) ++ (bG κ (pre.length + 56) ++ (bC κ (pre.length + 58) ++ (bS κ (pre.length + 59) ++ [])))))))))))) F a_A_init_115 rfl rfl rfl rfl rfl (by decide) (by decide) rfl ?_
  refine g_iinc (ls' := [_, some (vi 1)]) F a_A_init_116 rfl rfl rfl ?_
  refine g_goto F a_A_init_119 ?_
  refine g_iload_n F a_A_init_98 rfl ?_
  refine g_iconst F a_A_init_99 ?_
  refine g_icmp_ge F (by decide) (by decide) a_A_init_100 (fun hz => absurd hz (by decide)) (fun hz => ?_)
  refine g_aload_n F a_A_init_103 rfl ?_
  refine g_getP (j0 := 0) F a_A_init_104 fl_A_16 ck_0 rfl rfl ?_
  refine g_iload_n F a_A_init_107 rfl ?_
  refine g_newP (q := (RC1, TC1, 5)) (n := 73) (l' := (.inr (0, [.ref (kb κ + (pre.length + 1)), .ref (kb κ + (pre.length + 15)), .ref (kb κ + (pre.length + 16)), .ref (kb κ + (pre.length + 17)), .ref (kb κ + (pre.length + 22)), .ref (kb κ + (pre.length + 24)), .ref (kb κ + (pre.length + 52)), .ref (kb κ + (pre.length + 56)), .ref (kb κ + (pre.length + 58)), vi 0, vi 0, vi 0]) :: (bS κ (pre.length + 1) ++ (qzA (kS κ) 2 (va_up (fun _ => none) 0 (some (kb κ + (pre.length + 59)))) :: (bzA κ 2 :: (bH κ (pre.length + 17) ++ (bT κ (pre.length + 22) ++ (bO κ (pre.length + 24) ++ (bW κ (pre.length + 52) ++ (bG κ (pre.length + 56) ++ (bC κ (pre.length + 58) ++ (bS κ (pre.length + 59) ++ (.inr (1, [.null, .null, .null, .null, .null]) :: []))))))))))))) F a_A_init_108 cl_A_7 ck_1 df_1 (by decide) rfl rfl ?_
  refine g_dup F a_A_init_111 rfl ?_
  refine g_inP (As := []) (j0 := 73) (l0 := (.inr (0, [.ref (kb κ + (pre.length + 1)), .ref (kb κ + (pre.length + 15)), .ref (kb κ + (pre.length + 16)), .ref (kb κ + (pre.length + 17)), .ref (kb κ + (pre.length + 22)), .ref (kb κ + (pre.length + 24)), .ref (kb κ + (pre.length + 52)), .ref (kb κ + (pre.length + 56)), .ref (kb κ + (pre.length + 58)), vi 0, vi 0, vi 0]) :: (bS κ (pre.length + 1) ++ (qzA (kS κ) 2 (va_up (fun _ => none) 0 (some (kb κ + (pre.length + 59)))) :: (bzA κ 2 :: (bH κ (pre.length + 17) ++ (bT κ (pre.length + 22) ++ (bO κ (pre.length + 24) ++ (bW κ (pre.length + 52) ++ (bG κ (pre.length + 56) ++ (bC κ (pre.length + 58) ++ (bS κ (pre.length + 59) ++ [])))))))))))) (l' := bS κ (pre.length + 73)) (o := .inr (1, [.null, .null, .null, .null, .null])) F a_A_init_112 (Or.inl ic_A_9) mk_S_init rfl (by decide) (by decide) rfl (Nat.le_of_ble_eq_true rfl) rfl rfl (fun Q k9 => co_S_init (by rw [List.length_append]; exact k9)) ?_
  refine GC.pw (P' := LW κ (pre ++ (.inr (0, [.ref (kb κ + (pre.length + 1)), .ref (kb κ + (pre.length + 15)), .ref (kb κ + (pre.length + 16)), .ref (kb κ + (pre.length + 17)), .ref (kb κ + (pre.length + 22)), .ref (kb κ + (pre.length + 24)), .ref (kb κ + (pre.length + 52)), .ref (kb κ + (pre.length + 56)), .ref (kb κ + (pre.length + 58)), vi 0, vi 0, vi 0]) :: (bS κ (pre.length + 1) ++ (qzA (kS κ) 2 (va_up (fun _ => none) 0 (some (kb κ + (pre.length + 59)))) :: (bzA κ 2 :: (bH κ (pre.length + 17) ++ (bT κ (pre.length + 22) ++ (bO κ (pre.length + 24) ++ (bW κ (pre.length + 52) ++ (bG κ (pre.length + 56) ++ (bC κ (pre.length + 58) ++ (bS κ (pre.length + 59) ++ (bS κ (pre.length + 73) ++ [])))))))))))))) ?_ rfl
  refine g_astP (j0 := 15) (iv := 73) (xv := 1) (t := 2) (cv := 1) (l' := (.inr (0, [.ref (kb κ + (pre.length + 1)), .ref (kb κ + (pre.length + 15)), .ref (kb κ + (pre.length + 16)), .ref (kb κ + (pre.length + 17)), .ref (kb κ + (pre.length + 22)), .ref (kb κ + (pre.length + 24)), .ref (kb κ + (pre.length + 52)), .ref (kb κ + (pre.length + 56)), .ref (kb κ + (pre.length + 58)), vi 0, vi 0, vi 0]) :: (bS κ (pre.length + 1) ++ (qzA (kS κ) 2 (va_up (va_up (fun _ => none) 0 (some (kb κ + (pre.length + 59)))) 1 (some (kb κ + (pre.length + 73)))) :: (bzA κ 2 :: (bH κ (pre.length + 17) ++ (bT κ (pre.length + 22) ++ (bO κ (pre.length + 24) ++ (bW κ (pre.length + 52) ++ (bG κ (pre.length + 56) ++ (bC κ (pre.length + 58) ++ (bS κ (pre.length + 59) ++ (bS κ (pre.length + 73) ++ []))))))))))))) F a_A_init_115 rfl rfl rfl rfl rfl (by decide) (by decide) rfl ?_
  refine g_iinc (ls' := [_, some (vi 2)]) F a_A_init_116 rfl rfl rfl ?_
  refine g_goto F a_A_init_119 ?_
  refine g_iload_n F a_A_init_98 rfl ?_
  refine g_iconst F a_A_init_99 ?_
  refine g_icmp_ge F (by decide) (by decide) a_A_init_100 (fun hz => ?_) (fun hz => absurd hz (by decide))
  refine g_ret F a_A_init_122 rfl ⟨by decide, by decide⟩ ?_
  exact k
