/-! ===== a heap that grows: the cells made so far, as they come ===== -/
def LW (κ : Kx) (es : List va_E) (H : Heap) : Prop := H.size = kb κ + es.length ∧ ∀ (k : Nat) (e : va_E), es[k]? = some e → va_at (kD κ) classes (kb κ + k, e) H
theorem LW.push {κ : Kx} {es : List va_E} {e : va_E} {H H1 : Heap} (h : LW κ es H) (hz : H1.size = H.size + 1) (ho : ∀ q : Nat, q < H.size → H1[q]? = H[q]?) (he : va_at (kD κ) classes (H.size, e) H1) : LW κ (es ++ [e]) H1 := by
  refine ⟨by rw [hz, h.1, List.length_append]; rfl, fun k x hk => ?_⟩
  by_cases hl : k < es.length
  · rw [List.getElem?_append_left hl] at hk
    exact (h.2 k x hk).kept (ho _ (h.2 k x hk).lt)
  · rw [List.getElem?_append_right (by omega)] at hk
    have hz2 : k - es.length < 1 := (List.getElem?_eq_some_iff.mp hk).1
    rw [show k - es.length = 0 by omega] at hk
    cases hk
    rw [show kb κ + k = H.size by rw [h.1]; omega]
    exact he
theorem LW.put {κ : Kx} {es : List va_E} {i : Nat} {e : va_E} {H H1 : Heap} (h : LW κ es H) (hz : H1.size = H.size) (ho : ∀ q : Nat, q ≠ kb κ + i → H1[q]? = H[q]?) (hi : i < es.length) (he : va_at (kD κ) classes (kb κ + i, e) H1) : LW κ (es.set i e) H1 := by
  refine ⟨by rw [hz, h.1, List.length_set], fun k x hk => ?_⟩
  by_cases hl : k = i
  · subst hl
    rw [List.getElem?_set_self hi] at hk
    cases hk
    exact he
  · rw [List.getElem?_set_ne (Ne.symm hl)] at hk
    exact (h.2 k x hk).kept (ho _ (by show kb κ + k ≠ kb κ + i; omega))
def izA (κ : Kx) (n : Nat) : va_E := .inl (kI κ, n, .inl (fun _ => Int32.ofInt 0))
def bzA (κ : Kx) (n : Nat) : va_E := .inl (kZ κ, n, .inl (fun _ => Int32.ofInt 0))
def qzA (cA : ClassId) (n : Nat) (f : Nat → Option Nat) : va_E := .inl (cA, n, .inr (.inr (.inr (.inr f))))
theorem cl32 {x : Int} {n : Nat} (h : x = n) (hn : n ≤ 1000) : ¬ (Int32.ofInt x) < 0 ∧ (Int32.ofInt x).toNatClampNeg = n := by
  obtain ⟨h1, h2⟩ := clampI (x := x) (by omega) (by omega)
  exact ⟨h1, by omega⟩
section LWR
variable {κ : Kx} {Γ Γ' : Gm} {d d' mc ms mc' ms' : Nat} {μ : MX} {Z : State → Prop} {kc ks pc nx idx c i j : Nat} {ls : List (Option Value)} {st : List Value} {es : List va_E} {v : Value} {x : Int} {q : vw_C} {ty : Nat → FieldType} {fs : List Value}
theorem Fx.ab (F : Fx κ Γ d mc ms μ) : ∀ q : Nat, (mS μ).heap.size ≤ q → Ab κ q := fun q hq => Nat.le_trans F.2.2.2.2.2.2.2.2.1.2.1 hq
theorem g_newL (F : Fx κ Γ d mc ms μ) (hd : AT 3 Γ.2.1 pc (.new idx) nx) (hcl : Cond.classLink Γ.1.cls idx q.1 ∈ bg) (hc : CK c q ty) (hfs : ∀ j, j < q.2.2 → defaultValue (ty j) = vp_V fs j) (hm : kc + 1 ≤ mc ∧ ks + q.2.2 ≤ ms)
    (k : GC κ μ Z (kc + 1) (ks + q.2.2) nx ls (.ref (kb κ + es.length) :: st) (LW κ (es ++ [.inr (c, fs)]))) : GC κ μ Z kc ks pc ls st (LW κ es) := by
  obtain ⟨hd, rfl⟩ := hd
  intro H locs la hS hP hl
  have hA := F.ab
  obtain ⟨hx, hb, hml, hret, hlk, hown, hnm, hts, hK, r1, r2, r3, r4⟩ := F
  have hKn := hK.1.1 c _ hc.1
  refine W.newcK hx hb hown (hts _ hcl) (hts _ hc.2.2.2.2.1) (hts _ hc.2.2.2.2.2) rfl hd (by omega) (by omega) hKn.2.1 rfl (fun H1 kC hkC e1 z1 o1 => ?_)
  rw [hP.1]
  refine k H1 locs la ⟨Nat.le_trans hS.1 (by omega), fun y h1 h2 => (o1 y (Nat.lt_of_lt_of_le h1 hS.1)).trans (hS.2.1 y h1 h2), hS.2.2⟩ (hP.push z1 o1 ?_) hl
  exact ⟨_, hc.1, (u_born ty hts hc.2.1 hKn hkC e1 hc.2.2.1).to hfs⟩
theorem g_getL (F : Fx κ Γ d mc ms μ) (hd : AT 3 Γ.2.1 pc (.getfield idx) nx) (hf : FL Γ.1.cls idx c j) (hc : CK c q ty) (hE : es[i]? = some (.inr (c, fs))) (hv : fs[j]? = some v) (kk : GC κ μ Z kc ks nx ls (v :: st) (LW κ es)) : GC κ μ Z kc ks pc ls (.ref (kb κ + i) :: st) (LW κ es) := by
  obtain ⟨hd, rfl⟩ := hd
  obtain ⟨q', h1, h2, h3⟩ := hf
  obtain rfl : q' = q := Option.some.inj (h1.symm.trans hc.1)
  intro H locs la hS hP hl
  exact va_get (D := kD κ) (C := q'.1) (T := q'.2.1) (N := q'.2.2) (ws := [(kb κ + i, .inr (c, fs))]) F.1 F.2.1 F.2.2.2.2.2.2.2.1 hc.2.1 F.2.2.2.2.2.1 F.2.2.2.2.2.2.2.2.1.1 (fun k x hk => by
    have hz : k < 1 := (List.getElem?_eq_some_iff.mp hk).1
    rw [show k = 0 by omega] at hk
    cases hk
    exact hP.2 i _ hE) 0 rfl h1 j h2 (F.2.2.2.2.2.2.2.1 _ h3) (fun _ h => h) hv hd (kk H locs la hS hP hl)
theorem g_putL (F : Fx κ Γ d mc ms μ) (hd : AT 3 Γ.2.1 pc (.putfield idx) nx) (hf : FL Γ.1.cls idx c j) (hc : CK c q ty) (hE : es[i]? = some (.inr (c, fs))) (hfin : (q.2.1 j).2.2.2 = false ∨ ((q.2.1 j).2.2.2 = true ∧ Γ.1.name = "<init>" ∧ (q.2.1 j).1 = Γ.1.cls)) (hn : narrow (ty j) v = v) (hft : fits (ty j) v = true) (hj : j < fs.length)
    (kk : GC κ μ Z kc ks nx ls st (LW κ (es.set i (.inr (c, fs.set j v))))) : GC κ μ Z kc ks pc ls (v :: .ref (kb κ + i) :: st) (LW κ es) := by
  obtain ⟨hd, rfl⟩ := hd
  obtain ⟨q', h1, h2, h3⟩ := hf
  obtain rfl : q' = q := Option.some.inj (h1.symm.trans hc.1)
  intro H locs la hS hP hl
  have hA := F.ab
  obtain ⟨hx, hb, hml, hret, hlk, hown, hnm, hts, hK, r1, r2, r3, r4⟩ := F
  have hap := va_apart (own := Γ.1.cls) (C := q'.1) (T := q'.2.1) (N := q'.2.2) hts hc.2.1 ty hc.2.2.1 hc.2.2.2.1 hK.1 hc.1
  obtain ⟨r, g1, cell, q1, q2, q3, q4⟩ := hP.2 i _ hE
  obtain rfl : r = q' := Option.some.inj (g1.symm.trans hc.1)
  obtain ⟨hSl, hfc, kC, hkC, hkind⟩ := hK.1.1 c _ hc.1
  obtain ⟨cf, kf, fi, f, hi, hsl⟩ := hSl j h2
  have hlay := hts _ (hc.2.1 _ (u_in_lay h2))
  have hst := (u_facts hfc hkC (u_lays hts hc.2.1 h2) hi).1
  have hil : i < es.length := (List.getElem?_eq_some_iff.mp hE).1
  have fin : ∀ H' : Heap, H'[kb κ + i]? = some (cell.setSlot f.slot v) → H'.size = H.size → (∀ y, y ≠ kb κ + i → H'[y]? = H[y]?) → WX μ H' (locs ++ [⟨kb κ + i, f.slot⟩]) kc ks Z (F0 (mM μ) (pc + 3) la st) := by
    intro H' e1 e2 e3
    rw [hsl] at e1 ⊢
    exact kk H' _ la (hS.put e2 e3 (Nat.le_add_right _ _)) (hP.put e2 e3 hil ⟨_, hc.1, t_OB.to (V := updV (vp_V fs) j v) ⟨_, e1, q2, q3, t_set q4 hap h2 v⟩ (fun y _ => vp_updV_set hj v y)⟩) hl
  rcases hfin with hfin | ⟨hfin, hname, hdecl⟩
  · unfold u_lay at hlay
    rw [if_neg (by rw [hfin]; decide)] at hlay
    have h6 := u_store hfc hkC hkind hlay hi (hc.2.2.1 j h2) hn hft
    exact W.putK hx hb (f := f) ⟨hown, hts _ h3, ⟨_, _, _, hi⟩, hst⟩ (by rw [q2]; exact h6) q1 q3 (by rw [hsl]; exact k2_hasslot (q4 j h2)) rfl rfl hd fin
  · unfold u_lay at hlay
    rw [if_pos hfin] at hlay
    have hcf : (mM μ).cls = cf := by
      obtain ⟨_, _, c', _, _, _, -, -, hf', -, -, -, hown2, -⟩ := Cond.laysFinal_spec hlay
      have e1 : c' = cf := by have := hi.symm.trans hf'; simp at this; exact this.1.symm
      rw [hdecl] at hown2
      rw [← e1]; exact Option.some.inj (hown.symm.trans hown2)
    have h6 := u_fits hfc hkC hkind (Or.inr hlay) hi (hc.2.2.1 j h2) hn hft
    exact W.putFinK hx hb hown (hts _ h3) hi hst hcf (by rw [hnm]; exact hname) (by rw [q2]; exact h6) q1 q3 (by rw [hsl]; exact k2_hasslot (q4 j h2)) rfl rfl hd fin
theorem g_newI {n : Nat} (F : Fx κ Γ d mc ms μ) (hd : AT 2 Γ.2.1 pc (.newarray .int) nx) (hx : x = n) (hn : n ≤ 1000) (hm : kc + 1 ≤ mc ∧ ks + n ≤ ms) (k : GC κ μ Z (kc + 1) (ks + n) nx ls (.ref (kb κ + es.length) :: st) (LW κ (es ++ [izA κ n]))) : GC κ μ Z kc ks pc ls (vi x :: st) (LW κ es) := by
  obtain ⟨hd, rfl⟩ := hd
  intro H locs la hS hP hl
  obtain ⟨h1, h2⟩ := cl32 hx hn
  obtain ⟨hx, hb, hml, hret, hlk, hown, hnm, hts, hK, r1, r2, r3, r4⟩ := F
  refine va_newaK (N := n) (atype := .int) hx hb (hts _ ac_int) rfl hd rfl h1 h2 (by show n * 4 ≤ _; omega) (by omega) (by omega) rfl (fun H1 cA e1 z1 o1 hAr hNm => ?_)
  have hcA : cA = kI κ := by
    have h3 : (mS μ).vm.findClass ("[" ++ FieldType.int.toString) = some (kI κ) := (hK.1.2 0 (kI κ, .int) rfl).2
    exact Option.some.inj (hNm.symm.trans h3)
  rw [hP.1]
  exact k H1 locs la ⟨Nat.le_trans hS.1 (by omega), fun y q1 q2 => (o1 y (Nat.lt_of_lt_of_le q1 hS.1)).trans (hS.2.1 y q1 q2), hS.2.2⟩ (hP.push z1 o1 (by unfold izA; rw [← hcA]; exact e1)) hl
theorem g_newZ {n : Nat} (F : Fx κ Γ d mc ms μ) (hd : AT 2 Γ.2.1 pc (.newarray .boolean) nx) (hx : x = n) (hn : n ≤ 1000) (hm : kc + 1 ≤ mc ∧ ks + n ≤ ms) (k : GC κ μ Z (kc + 1) (ks + n) nx ls (.ref (kb κ + es.length) :: st) (LW κ (es ++ [bzA κ n]))) : GC κ μ Z kc ks pc ls (vi x :: st) (LW κ es) := by
  obtain ⟨hd, rfl⟩ := hd
  intro H locs la hS hP hl
  obtain ⟨h1, h2⟩ := cl32 hx hn
  obtain ⟨hx, hb, hml, hret, hlk, hown, hnm, hts, hK, r1, r2, r3, r4⟩ := F
  refine va_newaK (N := n) (atype := .boolean) hx hb (hts _ ac_bool) rfl hd rfl h1 h2 (by show n * 1 ≤ _; omega) (by omega) (by omega) rfl (fun H1 cA e1 z1 o1 hAr hNm => ?_)
  have hcA : cA = kZ κ := by
    have h3 : (mS μ).vm.findClass ("[" ++ FieldType.boolean.toString) = some (kZ κ) := (hK.1.2 1 (kZ κ, .boolean) rfl).2
    exact Option.some.inj (hNm.symm.trans h3)
  rw [hP.1]
  exact k H1 locs la ⟨Nat.le_trans hS.1 (by omega), fun y q1 q2 => (o1 y (Nat.lt_of_lt_of_le q1 hS.1)).trans (hS.2.1 y q1 q2), hS.2.2⟩ (hP.push z1 o1 (by unfold bzA; rw [← hcA]; exact e1)) hl
theorem g_newQ {n t : Nat} {C : String} {cQ : ClassId} (F : Fx κ Γ d mc ms μ) (hd : AT 3 Γ.2.1 pc (.anewarray idx) nx) (hcl : Cond.classLink Γ.1.cls idx C ∈ bg) (hov : ∀ U : State, KN κ U → va_AO C U) (ht : (tys κ)[t]? = some (cQ, .object C)) (hx : x = n) (hn : n ≤ 1000) (hm : kc + 1 ≤ mc ∧ ks + n ≤ ms) (k : GC κ μ Z (kc + 1) (ks + n) nx ls (.ref (kb κ + es.length) :: st) (LW κ (es ++ [qzA cQ n (fun _ => none)]))) : GC κ μ Z kc ks pc ls (vi x :: st) (LW κ es) := by
  obtain ⟨hd, rfl⟩ := hd
  intro H locs la hS hP hl
  obtain ⟨h1, h2⟩ := cl32 hx hn
  subst h2
  obtain ⟨hx, hb, hml, hret, hlk, hown, hnm, hts, hK, r1, r2, r3, r4⟩ := F
  refine W.anew hx hb hown (hts _ hcl) (va_AO.use (hov _ hK.2.2.2)) rfl hd rfl h1 (by omega) (by omega) (by omega) (fun cA kA comp f1 f2 f3 f4 => ?_)
  generalize hH1 : H.push ({ cls := cA, slots := Array.replicate (Int32.ofInt x).toNatClampNeg .null, vm := .none } : Cell) = H1
  have z1 : H1.size = H.size + 1 := by rw [← hH1, Array.size_push]
  have e1 : H1[H.size]? = some (arrV cA (Int32.ofInt x).toNatClampNeg (fun _ => .null)) := by rw [← hH1, Array.getElem?_push_size, ← arrV_new]
  have o1 : ∀ y : Nat, y < H.size → H1[y]? = H[y]? := fun y hy => by rw [← hH1, Array.getElem?_push, if_neg (Nat.ne_of_lt hy)]
  have hcA : cA = cQ := by
    obtain ⟨_, _, _, _, _, h9⟩ := (hK.1.2 t _ ht).2
    exact Option.some.inj (f1.symm.trans h9)
  rw [hP.1]
  exact k H1 locs la ⟨Nat.le_trans hS.1 (by omega), fun y q1 q2 => (o1 y (Nat.lt_of_lt_of_le q1 hS.1)).trans (hS.2.1 y q1 q2), hS.2.2⟩ (hP.push z1 o1 (by rw [← hcA]; exact e1)) hl
theorem g_astL {n t cv iv xv : Nat} {C : String} {cQ : ClassId} {f : Nat → Option Nat} (F : Fx κ Γ d mc ms μ) (hd : AT 1 Γ.2.1 pc .aastore nx) (hE : es[i]? = some (qzA cQ n f)) (hq : classes[cv]? = some q) (ht : (tys κ)[t]? = some (cQ, .object q.1)) (hV : es[iv]? = some (.inr (cv, fs))) (hx : x = xv) (hxn : xv < n) (hn : n ≤ 1000)
    (kk : GC κ μ Z kc ks nx ls st (LW κ (es.set i (qzA cQ n (va_up f xv (some (kb κ + iv))))))) : GC κ μ Z kc ks pc ls (.ref (kb κ + iv) :: vi x :: .ref (kb κ + i) :: st) (LW κ es) := by
  obtain ⟨hd, rfl⟩ := hd
  intro H locs la hS hP hl
  obtain ⟨h1, h2⟩ := cl32 hx (by omega)
  obtain ⟨hx, hb, hml, hret, hlk, hown, hnm, hts, hK, r1, r2, r3, r4⟩ := F
  have ha := hP.2 i _ hE
  have hil : i < es.length := (List.getElem?_eq_some_iff.mp hE).1
  obtain ⟨r', hr', cellV, g1, g2, g3, -⟩ := hP.2 iv _ hV
  have hcls := (hK.1.1 cv _ hq).2
  obtain ⟨kA, comp, k1, k2, k3, -⟩ := (hK.1.2 t _ ht).2
  obtain rfl : comp = (kD κ).1 cv := Option.some.inj (k3.symm.trans hcls.1)
  obtain ⟨kC, hkC, -⟩ := hcls.2
  refine W.aast hx hb ha (fun y h => by cases h) (fun h => by cases h) k1 k2 rfl hkC ⟨h1, by show _ < (arrV _ _ _).slots.size; rw [arrV_size, h2]; exact hxn⟩ g1 (fun y h => by rw [g3] at h; cases h) (by rw [g2]; exact hkC) (by rw [g2]; exact va_assign hcls) rfl rfl hd (fun H1 e z oq => ?_)
  refine kk H1 _ la (hS.put z oq (Nat.le_add_right _ _)) (hP.put z oq hil ?_) hl
  show H1[kb κ + i]? = some (vp_cell _ _)
  rw [e, h2, vp_cell_q, vp_cell_q, arrV_store]
  congr 2
  funext y
  by_cases hy : y = xv
  · subst hy
    simp [updV, va_up, va_rf]
  · simp [updV, va_up, hy]
end LWR
