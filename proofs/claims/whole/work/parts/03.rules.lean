/-! ===== the judgement GC: a method's body over a picture P of the heap; GG: a method's contract ===== -/
/-- context: class numbers and slots; classes of int[], boolean[], State[], Ship[]; the first new address; tables' addresses; strings' addresses -/
abbrev Kx : Type := va_G × (ClassId × ClassId × ClassId × ClassId) × Nat × (Nat → Nat) × (Nat → Nat) × (Nat → Nat)
abbrev MX : Type := Program × Launch × Env × Room × State × MethodId × Array Value × List Frame × Method × Code
def kD (κ : Kx) : va_G := κ.1
def kI (κ : Kx) : ClassId := κ.2.1.1
def kZ (κ : Kx) : ClassId := κ.2.1.2.1
def kS (κ : Kx) : ClassId := κ.2.1.2.2.1
def kH (κ : Kx) : ClassId := κ.2.1.2.2.2
def kb (κ : Kx) : Nat := κ.2.2.1
def kt (κ : Kx) : Nat → Nat := κ.2.2.2.1
def kK (κ : Kx) : Nat → Nat := κ.2.2.2.2.1
def kV (κ : Kx) : Nat → Nat := κ.2.2.2.2.2
def Ab (κ : Kx) : Nat → Prop := fun q => kb κ ≤ q
def tys (κ : Kx) : List (ClassId × FieldType) := [(kI κ, .int), (kZ κ, .boolean), (kS κ, .object RC1), (kH κ, .object RC2)]
def tabv (k : Nat) (j : Nat) : Int := if k = 0 then [0, 0, -3, 0, -9, -4].getD j 0 else [0, 2, 0, 5, 0, 0].getD j 0
def str_len : List Nat := [4, 3, 3, 6, 4, 4]
def str_byt : List (List Int32) := [[115, 104, 105, 112], [102, 111, 103], [109, 97, 110], [114, 101, 97, 100, 101, 114], [100, 101, 101, 100], [110, 111, 111, 110]]
def str_idx (k : Nat) : Nat := [35, 45, 50, 60, 68, 73].getD k 0
def str_txt (k : Nat) : String := ["ship", "fog", "man", "reader", "deed", "noon"].getD k ""
/-- what nobody writes -/
def KT (κ : Kx) (U : State) (H : Heap) : Prop :=
  (va_Z "ShameAngles$Route" "LEAST" "[I" (.ref (kt κ 0)) (Ab κ) U H ∧ va_T .int (kt κ 0) 6 (fun j => .int (Int32.ofInt (tabv 0 j))) (Ab κ) U H) ∧
  (va_Z "ShameAngles$Route" "GREATEST" "[I" (.ref (kt κ 1)) (Ab κ) U H ∧ va_T .int (kt κ 1) 6 (fun j => .int (Int32.ofInt (tabv 1 j))) (Ab κ) U H) ∧
  va_Z "java/lang/String" "COMPACT_STRINGS" "Z" (.int 1) (Ab κ) U H ∧ va_Zq "jdk/internal/util/Preconditions" "SIOOBE_FORMATTER" "Ljava/util/function/BiFunction;" (Ab κ) U H ∧
  vk_S 6 str_len str_byt (kK κ) (kV κ) (Ab κ) U H
def KN (κ : Kx) (U : State) : Prop :=
  (∀ q ∈ nest_w, va_Nw (.methodLinkNest q.1 q.2.1 q.2.2 "ShameAngles") U) ∧ (∀ i : Nat, i < 6 → vk_R "ShameAngles$Script" (str_idx i) (str_txt i) (kK κ i) U) ∧ va_AO RC1 U ∧ va_AO RC2 U
def KS (κ : Kx) (U : State) : Prop := va_K (kD κ) classes (tys κ) U ∧ kb κ ≤ U.heap.size ∧ KT κ U U.heap ∧ KN κ U
theorem KT.moved {κ : Kx} {u U : State} {H : Heap} (hvm : u.vm.Alike U.vm) (h : KT κ u H) : KT κ U H :=
  ⟨⟨va_Z.moved hvm h.1.1, va_T.moved hvm h.1.2⟩, ⟨va_Z.moved hvm h.2.1.1, va_T.moved hvm h.2.1.2⟩, va_Z.moved hvm h.2.2.1, va_Zq.moved hvm h.2.2.2.1, vk_S.moved hvm h.2.2.2.2⟩
theorem KT.kept {κ : Kx} {U : State} {H H1 : Heap} (h : KT κ U H) (hq : ∀ a : Nat, a < H.size → ¬ Ab κ a → H1[a]? = H[a]?) : KT κ U H1 :=
  ⟨⟨va_Z.kept h.1.1 hq, va_T.kept h.1.2 hq⟩, ⟨va_Z.kept h.2.1.1 hq, va_T.kept h.2.1.2 hq⟩, va_Z.kept h.2.2.1 hq, va_Zq.kept h.2.2.2.1 hq, vk_S.kept h.2.2.2.2 hq⟩
theorem KN.warm {κ : Kx} {s U : State} (hW : s.WarmedH U.vm) (h : KN κ s) : KN κ U :=
  ⟨fun q hq => va_Nw.warmM hW (h.1 q hq), fun i hi => vk_R.warm hW (h.2.1 i hi), va_AO.moved hW.alike h.2.2.1, va_AO.moved hW.alike h.2.2.2⟩
theorem KN.same {κ : Kx} {u U : State} (hv : U.vm = u.vm) (h : KN κ u) : KN κ U :=
  ⟨fun q hq => va_Nw.same rfl hv.symm (h.1 q hq), fun i hi => vk_R.same hv (h.2.1 i hi), va_AO.moved (by rw [hv]; exact Vm.Alike.refl _) h.2.2.1, va_AO.moved (by rw [hv]; exact Vm.Alike.refl _) h.2.2.2⟩
theorem KS.same {κ : Kx} {u U : State} (hv : U.vm = u.vm) (hh : U.heap = u.heap) (h : KS κ u) : KS κ U := by
  have ha : u.vm.Alike U.vm := by rw [hv]; exact Vm.Alike.refl _
  refine ⟨va_K.moved ha h.1, by rw [hh]; exact h.2.1, ?_, KN.same hv h.2.2.2⟩
  rw [hh]
  exact KT.moved ha h.2.2.1
theorem KS.warm {κ : Kx} {s U : State} {H : Heap} {locs : List Loc} (h : KS κ s) (hW : s.WarmedH U.vm) (hH : U.heap = H) (hS : va_S (Ab κ) s.heap H locs) : KS κ U := by
  refine ⟨va_K.moved hW.alike h.1, by rw [hH]; exact Nat.le_trans h.2.1 hS.1, ?_, KN.warm hW h.2.2.2⟩
  rw [hH]
  exact KT.kept (KT.moved hW.alike h.2.2.1) hS.2.1
def mP (μ : MX) : Program := μ.1
def mL (μ : MX) : Launch := μ.2.1
def mE (μ : MX) : Env := μ.2.2.1
def mR (μ : MX) : Room := μ.2.2.2.1
def mS (μ : MX) : State := μ.2.2.2.2.1
def mM (μ : MX) : MethodId := μ.2.2.2.2.2.1
def mA (μ : MX) : Array Value := μ.2.2.2.2.2.2.1
def mB (μ : MX) : List Frame := μ.2.2.2.2.2.2.2.1
def mMe (μ : MX) : Method := μ.2.2.2.2.2.2.2.2.1
def mC (μ : MX) : Code := μ.2.2.2.2.2.2.2.2.2
def WX (μ : MX) (H : Heap) (locs : List Loc) (kc ks : Nat) (Z : State → Prop) (g : JFrame) : Prop :=
  W (mP μ) (mL μ) (mE μ) (mR μ) (mS μ) (mM μ) (mA μ) (mB μ) (mMe μ) (mC μ) H locs kc ks Z g
def slo : Slot → Option Value
  | .val v => some v
  | _ => none
def entl (av : List Value) (n : Nat) : List (Option Value) := (lg_sl av ++ List.replicate (n - (lg_sl av).length) Slot.unset).map slo
def lok (la : Array Slot) (ls : List (Option Value)) : Prop := la.size = ls.length ∧ lv_wf la ∧ ∀ (i : Nat) (v : Value), ls[i]? = some (some v) → la[i]? = some (.val v)
theorem lok.entry (av : List Value) {n : Nat} (h : (lg_sl av).length ≤ n) : lok ((lg_sl av ++ List.replicate (n - (lg_sl av).length) Slot.unset).toArray) (entl av n) := by
  have h1 := lv_entry av h
  refine ⟨by simp [entl], h1.2.1, fun i v hi => ?_⟩
  unfold entl at hi
  rw [List.getElem?_map] at hi
  rw [List.getElem?_toArray]
  cases hs : (lg_sl av ++ List.replicate (n - (lg_sl av).length) Slot.unset)[i]? with
  | none => rw [hs] at hi; cases hi
  | some x =>
    rw [hs] at hi
    cases x with
    | val w => cases hi; rfl
    | _ => cases hi
def prs (ls : List (Option Value)) : List (Nat × Value) := (List.range ls.length).filterMap (fun j => (ls.getD j none).map (fun v => (j, v)))
theorem lok.has {la : Array Slot} {ls : List (Option Value)} (h : lok la ls) : lv_has la ls.length (prs ls) := by
  refine ⟨h.1, h.2.1, fun q hq => ?_⟩
  obtain ⟨j, hj, hq⟩ := List.mem_filterMap.mp hq
  have hj' := List.mem_range.mp hj
  rw [List.getD_eq_getElem?_getD, List.getElem?_eq_getElem hj'] at hq
  cases hv : ls[j] with
  | none => rw [hv] at hq; cases hq
  | some v =>
    rw [hv] at hq
    cases hq
    exact h.2.2 j v (by rw [List.getElem?_eq_getElem hj', hv])
theorem prs_mem {ls : List (Option Value)} {i : Nat} {v : Value} (h : ls[i]? = some (some v)) : (i, v) ∈ prs ls := by
  have hi : i < ls.length := (List.getElem?_eq_some_iff.mp h).1
  refine List.mem_filterMap.mpr ⟨i, List.mem_range.mpr hi, ?_⟩
  rw [List.getD_eq_getElem?_getD, h]
  rfl
/-- the value ahead of the place is no long -/
def pc1 (ls : List (Option Value)) (i : Nat) : Bool := match i with
  | 0 => true
  | i + 1 => match ls.getD i none with
    | some v => v.category == 1
    | none => true
theorem pc1_spec {ls : List (Option Value)} {i j : Nat} {v : Value} (h : pc1 ls i = true) (hj : j + 1 = i) (hv : ls[j]? = some (some v)) : v.category ≠ 2 := by
  subst hj
  have h : (match ls.getD j none with | some v => v.category == 1 | none => true) = true := h
  rw [List.getD_eq_getElem?_getD, hv] at h
  intro e
  simp [e] at h
theorem lok.set1 {la : Array Slot} {ls : List (Option Value)} {i : Nat} {v : Value} (hi : i < ls.length) (hp : pc1 ls i = true) (h : lv_has la ls.length ((i, v) :: (prs ls).filter (fun q => !(q.1 == i) && !(q.1 + 1 == i && q.2.category == 2)))) : lok la (ls.set i (some v)) := by
  refine ⟨by rw [h.1, List.length_set], h.2.1, fun j w hj => ?_⟩
  by_cases e : j = i
  · subst e
    rw [List.getElem?_set_self hi] at hj
    cases hj
    exact h.2.2 _ List.mem_cons_self
  · rw [List.getElem?_set_ne (Ne.symm e)] at hj
    refine h.2.2 (j, w) (List.mem_cons_of_mem _ (List.mem_filter.mpr ⟨prs_mem hj, ?_⟩))
    by_cases e2 : j + 1 = i
    · have := pc1_spec hp e2 hj
      simp [e, this]
    · simp [e, e2]
theorem lok.set2 {la : Array Slot} {ls : List (Option Value)} {i : Nat} {v : Value} (hi : i + 1 < ls.length) (hp : pc1 ls i = true) (h : lv_has la ls.length ((i, v) :: (prs ls).filter (fun q => !(q.1 == i) && (!(q.1 == i + 1) && !(q.1 + 1 == i && q.2.category == 2))))) : lok la ((ls.set i (some v)).set (i + 1) none) := by
  refine ⟨by rw [h.1, List.length_set, List.length_set], h.2.1, fun j w hj => ?_⟩
  by_cases e1 : j = i + 1
  · subst e1
    rw [List.getElem?_set_self (by rw [List.length_set]; exact hi)] at hj
    cases hj
  rw [List.getElem?_set_ne (Ne.symm e1)] at hj
  by_cases e : j = i
  · subst e
    rw [List.getElem?_set_self (by omega)] at hj
    cases hj
    exact h.2.2 _ List.mem_cons_self
  · rw [List.getElem?_set_ne (Ne.symm e)] at hj
    refine h.2.2 (j, w) (List.mem_cons_of_mem _ (List.mem_filter.mpr ⟨prs_mem hj, ?_⟩))
    by_cases e2 : j + 1 = i
    · have := pc1_spec hp e2 hj
      simp [e, e1, this]
    · simp [e, e1, e2]
/-- the body's judgement -/
def GC (κ : Kx) (μ : MX) (Z : State → Prop) (kc ks pc : Nat) (ls : List (Option Value)) (st : List Value) (P : Heap → Prop) : Prop :=
  ∀ (H : Heap) (locs : List Loc) (la : Array Slot), va_S (Ab κ) (mS μ).heap H locs → P H → lok la ls → WX μ H locs kc ks Z (F0 (mM μ) pc la st)
def Fx (κ : Kx) (Γ : Gm) (d mc ms : Nat) (μ : MX) : Prop :=
  (mP μ).tables.exec = Jvm.exec ∧ (mC μ).code = Γ.2.1 ∧ (mC μ).maxLocals = Γ.2.2.1 ∧ (mMe μ).sig.returnType = Γ.2.2.2.1 ∧ (mMe μ).locks = false ∧ (mS μ).vm.findClass Γ.1.cls = some (mM μ).cls ∧ (mMe μ).name = Γ.1.name ∧
  (∀ w ∈ bg, w.before (mA μ) (mS μ) = true) ∧ KS κ (mS μ) ∧ d ≤ (mR μ).frames ∧ 64 * d ≤ (mR μ).locals ∧ mc ≤ (mR μ).cells ∧ ms ≤ (mR μ).slots
def QQ (κ : Kx) (Q : Option Value → (Heap → Prop) → Prop) : Array Value → State → Outcome → State → Prop := fun _ st o t =>
  (∃ (r : Option Value) (P' : Heap → Prop), o = .returned r ∧ P' t.heap ∧ Q r P') ∧ va_F (Ab κ) st t
/-- what comes behind a body -/
def ZZ (κ : Kx) (μ : MX) (mc ms : Nat) (Q : Option Value → (Heap → Prop) → Prop) : State → Prop := MQ (mB μ) (QQ κ Q) (mA μ) (mS μ) mc ms (Ab κ)
def GG (κ : Kx) (Γ : Gm) (d mc ms : Nat) (av : List Value) (P : Heap → Prop) (Q : Option Value → (Heap → Prop) → Prop) : Prop :=
  (lg_sl av).length ≤ Γ.2.2.1 ∧ ∀ μ : MX, Fx κ Γ d mc ms μ → GC κ μ (ZZ κ μ mc ms Q) 0 0 0 (entl av Γ.2.2.1) [] P
theorem GG.intro {κ : Kx} {Γ : Gm} {d mc ms : Nat} {av : List Value} {P : Heap → Prop} {Q : Option Value → (Heap → Prop) → Prop} {ls : List (Option Value)} (h1 : (lg_sl av).length ≤ Γ.2.2.1) (h2 : entl av Γ.2.2.1 = ls)
    (k : ∀ μ : MX, Fx κ Γ d mc ms μ → GC κ μ (ZZ κ μ mc ms Q) 0 0 0 ls [] P) : GG κ Γ d mc ms av P Q := ⟨h1, fun μ F => by rw [h2]; exact k μ F⟩
def codeW (Γ : Gm) : Cond := Cond.code Γ.1 Γ.2.1 Γ.2.2.1 Γ.2.2.2.1
theorem GG.met {κ : Kx} {Γ : Gm} {d mc ms : Nat} {av : List Value} {P : Heap → Prop} {Q : Option Value → (Heap → Prop) → Prop} (l : Launch) (hk : MK Γ) (h : GG κ Γ d mc ms av P Q) :
    Met l Γ.1 (codeW Γ :: bg) ({ frames := d, cells := mc, slots := ms, locals := 64 * d }) (va_Pc av (fun U => P U.heap ∧ KS κ U)) (QQ κ Q) mc ms (Ab κ) := by
  refine va_MetF (cc := Γ.2.1) (maxL := Γ.2.2.1) (ret := Γ.2.2.2.1) hk.2.2.1 rfl ?_
  intro p e s m args below meth c s₁ B hml hv
  obtain ⟨rfl, hP, hK⟩ := hv
  have hts := atoms_spec (ws := codeW Γ :: bg) B.pre
  have F : Fx κ Γ d mc ms (p, l, e, { frames := d, cells := mc, slots := ms, locals := 64 * d }, s, m, av.toArray, below, meth, c) := ⟨B.exec, B.bytes, hml, B.returns, B.notSynchronized, findClass_of_methodNamed B.named, (name_of_methodNamed B.named B.method).1, fun w hw => hts w (List.mem_cons_of_mem _ hw), hK, Nat.le_refl d, Nat.le_refl _, Nat.le_refl mc, Nat.le_refl ms⟩
  rw [lg_entry_eq]
  exact h.2 (p, l, e, { frames := d, cells := mc, slots := ms, locals := 64 * d }, s, m, av.toArray, below, meth, c) F s.heap [] _ va_S.rf hP (lok.entry av h.1)
/-- the instruction at a place, its length, the next place -/
def AT (n : Nat) (cc : ByteArray) (pc : Nat) (i : Instr) (nx : Nat) : Prop := decode cc pc = .ok (i, n) ∧ nx = pc + n
def AJ (cc : ByteArray) (pc : Nat) (f : Int → Instr) (tg nx : Nat) : Prop := (∃ o : Int, decode cc pc = .ok (f o, 3) ∧ (pc : Int) + o = (tg : Int)) ∧ nx = pc + 3
abbrev vi (a : Int) : Value := .int (Int32.ofInt a)
abbrev vl (a : Int) : Value := .long (Int64.ofInt a)
section GR
variable {κ : Kx} {Γ : Gm} {d mc ms : Nat} {μ : MX} {Z : State → Prop} {kc ks pc nx tg : Nat} {ls ls' : List (Option Value)} {st : List Value} {P : Heap → Prop} {a b : Int} {x : Nat} {v u : Value}
theorem b2i (x : Int32) : Int32.ofInt x.toInt = x := Int32.ofInt_toInt x
theorem g_iconst (F : Fx κ Γ d mc ms μ) {n : Int} (hd : AT 1 Γ.2.1 pc (.iconst n) nx) (k : GC κ μ Z kc ks nx ls (vi n :: st) P) : GC κ μ Z kc ks pc ls (st) P := by
  obtain ⟨hd, rfl⟩ := hd
  intro H locs la hS hP hl
  exact lv_iconst F.1 F.2.1 hd rfl (k H locs la hS hP hl)
theorem g_bipush (F : Fx κ Γ d mc ms μ) {n : Int} (hd : AT 2 Γ.2.1 pc (.bipush n) nx) (hv : (Int8.ofInt n).toInt32 = Int32.ofInt n) (k : GC κ μ Z kc ks nx ls (vi n :: st) P) : GC κ μ Z kc ks pc ls (st) P := by
  obtain ⟨hd, rfl⟩ := hd
  intro H locs la hS hP hl
  exact lv_bipush F.1 F.2.1 hd hv (k H locs la hS hP hl)
theorem g_sipush (F : Fx κ Γ d mc ms μ) {n : Int} (hd : AT 3 Γ.2.1 pc (.sipush n) nx) (hv : (Int16.ofInt n).toInt32 = Int32.ofInt n) (k : GC κ μ Z kc ks nx ls (vi n :: st) P) : GC κ μ Z kc ks pc ls (st) P := by
  obtain ⟨hd, rfl⟩ := hd
  intro H locs la hS hP hl
  exact lv_sipush F.1 F.2.1 hd hv (k H locs la hS hP hl)
theorem g_lconst0 (F : Fx κ Γ d mc ms μ) (hd : AT 1 Γ.2.1 pc (.lconst 0) nx) (k : GC κ μ Z kc ks nx ls (vl 0 :: st) P) : GC κ μ Z kc ks pc ls (st) P := by
  obtain ⟨hd, rfl⟩ := hd
  intro H locs la hS hP hl
  exact lv_lconst F.1 F.2.1 hd rfl (k H locs la hS hP hl)
theorem g_lconst1 (F : Fx κ Γ d mc ms μ) (hd : AT 1 Γ.2.1 pc (.lconst 1) nx) (k : GC κ μ Z kc ks nx ls (vl 1 :: st) P) : GC κ μ Z kc ks pc ls (st) P := by
  obtain ⟨hd, rfl⟩ := hd
  intro H locs la hS hP hl
  exact lv_lconst F.1 F.2.1 hd rfl (k H locs la hS hP hl)
theorem g_ldc (F : Fx κ Γ d mc ms μ) {idx : Nat} (hd : AT 2 Γ.2.1 pc (.ldc idx) nx) (hc : Cond.constant Γ.1.cls idx (Int32.ofInt a) ∈ bg) (k : GC κ μ Z kc ks nx ls (vi a :: st) P) : GC κ μ Z kc ks pc ls (st) P := by
  obtain ⟨hd, rfl⟩ := hd
  intro H locs la hS hP hl
  exact lv_ldc F.1 F.2.1 F.2.2.2.2.2.1 (F.2.2.2.2.2.2.2.1 _ hc) hd (k H locs la hS hP hl)
theorem g_ldcw (F : Fx κ Γ d mc ms μ) {idx : Nat} (hd : AT 3 Γ.2.1 pc (.ldc_w idx) nx) (hc : Cond.constant Γ.1.cls idx (Int32.ofInt a) ∈ bg) (k : GC κ μ Z kc ks nx ls (vi a :: st) P) : GC κ μ Z kc ks pc ls (st) P := by
  obtain ⟨hd, rfl⟩ := hd
  intro H locs la hS hP hl
  exact lv_ldcw F.1 F.2.1 F.2.2.2.2.2.1 (F.2.2.2.2.2.2.2.1 _ hc) hd (k H locs la hS hP hl)
theorem g_ldc2 (F : Fx κ Γ d mc ms μ) {idx : Nat} (hd : AT 3 Γ.2.1 pc (.ldc2_w idx) nx) (hc : Cond.constantLong Γ.1.cls idx (Int64.ofInt a) ∈ bg) (k : GC κ μ Z kc ks nx ls (vl a :: st) P) : GC κ μ Z kc ks pc ls (st) P := by
  obtain ⟨hd, rfl⟩ := hd
  intro H locs la hS hP hl
  exact lv_ldc2 F.1 F.2.1 F.2.2.2.2.2.1 (F.2.2.2.2.2.2.2.1 _ hc) hd (k H locs la hS hP hl)
theorem g_iload_n (F : Fx κ Γ d mc ms μ) {n : Fin 4} {z : Int32} (hd : AT 1 Γ.2.1 pc (.iload_n n) nx) (hl0 : ls[(n : Nat)]? = some (some (.int z))) (k : GC κ μ Z kc ks nx ls (.int z :: st) P) : GC κ μ Z kc ks pc ls (st) P := by
  obtain ⟨hd, rfl⟩ := hd
  intro H locs la hS hP hl
  exact lv_iload_n F.1 F.2.1 hd rfl (hl.2.2 _ _ hl0) (k H locs la hS hP hl)
theorem g_iload (F : Fx κ Γ d mc ms μ) {i : Nat} {z : Int32} (hd : AT 2 Γ.2.1 pc (.iload i) nx) (hl0 : ls[i]? = some (some (.int z))) (k : GC κ μ Z kc ks nx ls (.int z :: st) P) : GC κ μ Z kc ks pc ls (st) P := by
  obtain ⟨hd, rfl⟩ := hd
  intro H locs la hS hP hl
  exact lv_iload F.1 F.2.1 hd (hl.2.2 _ _ hl0) (k H locs la hS hP hl)
theorem g_lload_n (F : Fx κ Γ d mc ms μ) {n : Fin 4} {z : Int64} (hd : AT 1 Γ.2.1 pc (.lload_n n) nx) (hl0 : ls[(n : Nat)]? = some (some (.long z))) (k : GC κ μ Z kc ks nx ls (.long z :: st) P) : GC κ μ Z kc ks pc ls (st) P := by
  obtain ⟨hd, rfl⟩ := hd
  intro H locs la hS hP hl
  exact lv_lload_n F.1 F.2.1 hd rfl (hl.2.2 _ _ hl0) (k H locs la hS hP hl)
theorem g_lload (F : Fx κ Γ d mc ms μ) {i : Nat} {z : Int64} (hd : AT 2 Γ.2.1 pc (.lload i) nx) (hl0 : ls[i]? = some (some (.long z))) (k : GC κ μ Z kc ks nx ls (.long z :: st) P) : GC κ μ Z kc ks pc ls (st) P := by
  obtain ⟨hd, rfl⟩ := hd
  intro H locs la hS hP hl
  exact lv_lload F.1 F.2.1 hd (hl.2.2 _ _ hl0) (k H locs la hS hP hl)
theorem g_aload_n (F : Fx κ Γ d mc ms μ) {n : Fin 4} {z : Nat} (hd : AT 1 Γ.2.1 pc (.aload_n n) nx) (hl0 : ls[(n : Nat)]? = some (some (.ref z))) (k : GC κ μ Z kc ks nx ls (.ref z :: st) P) : GC κ μ Z kc ks pc ls (st) P := by
  obtain ⟨hd, rfl⟩ := hd
  intro H locs la hS hP hl
  exact lv_aload_n F.1 F.2.1 hd rfl (hl.2.2 _ _ hl0) (k H locs la hS hP hl)
theorem g_aload (F : Fx κ Γ d mc ms μ) {i : Nat} {z : Nat} (hd : AT 2 Γ.2.1 pc (.aload i) nx) (hl0 : ls[i]? = some (some (.ref z))) (k : GC κ μ Z kc ks nx ls (.ref z :: st) P) : GC κ μ Z kc ks pc ls (st) P := by
  obtain ⟨hd, rfl⟩ := hd
  intro H locs la hS hP hl
  exact lv_aload F.1 F.2.1 hd (hl.2.2 _ _ hl0) (k H locs la hS hP hl)
theorem g_istore_n (F : Fx κ Γ d mc ms μ) {n : Fin 4} {z : Int32} (hd : AT 1 Γ.2.1 pc (.istore_n n) nx) (hi : Nat.ble ((n : Nat) + 1) ls.length = true) (hp : pc1 ls n = true) (hs : ls.set n (some (.int z)) = ls') (k : GC κ μ Z kc ks nx ls' st P) : GC κ μ Z kc ks pc ls (.int z :: st) P := by
  obtain ⟨hd, rfl⟩ := hd
  intro H locs la hS hP hl
  exact lv_istore_n F.1 F.2.1 hd rfl hl.has (Nat.le_of_ble_eq_true hi) rfl (fun la' h' => k H locs la' hS hP (hs ▸ lok.set1 (Nat.le_of_ble_eq_true hi) hp h'))
theorem g_istore (F : Fx κ Γ d mc ms μ) {i : Nat} {z : Int32} (hd : AT 2 Γ.2.1 pc (.istore i) nx) (hi : Nat.ble (i + 1) ls.length = true) (hp : pc1 ls i = true) (hs : ls.set i (some (.int z)) = ls') (k : GC κ μ Z kc ks nx ls' st P) : GC κ μ Z kc ks pc ls (.int z :: st) P := by
  obtain ⟨hd, rfl⟩ := hd
  intro H locs la hS hP hl
  exact lv_istore F.1 F.2.1 hd hl.has (Nat.le_of_ble_eq_true hi) rfl (fun la' h' => k H locs la' hS hP (hs ▸ lok.set1 (Nat.le_of_ble_eq_true hi) hp h'))
theorem g_astore_n (F : Fx κ Γ d mc ms μ) {n : Fin 4} {z : Nat} (hd : AT 1 Γ.2.1 pc (.astore_n n) nx) (hi : Nat.ble ((n : Nat) + 1) ls.length = true) (hp : pc1 ls n = true) (hs : ls.set n (some (.ref z)) = ls') (k : GC κ μ Z kc ks nx ls' st P) : GC κ μ Z kc ks pc ls (.ref z :: st) P := by
  obtain ⟨hd, rfl⟩ := hd
  intro H locs la hS hP hl
  exact lv_astore_n F.1 F.2.1 hd rfl hl.has (Nat.le_of_ble_eq_true hi) rfl (fun la' h' => k H locs la' hS hP (hs ▸ lok.set1 (Nat.le_of_ble_eq_true hi) hp h'))
theorem g_astore (F : Fx κ Γ d mc ms μ) {i : Nat} {z : Nat} (hd : AT 2 Γ.2.1 pc (.astore i) nx) (hi : Nat.ble (i + 1) ls.length = true) (hp : pc1 ls i = true) (hs : ls.set i (some (.ref z)) = ls') (k : GC κ μ Z kc ks nx ls' st P) : GC κ μ Z kc ks pc ls (.ref z :: st) P := by
  obtain ⟨hd, rfl⟩ := hd
  intro H locs la hS hP hl
  exact lv_astore F.1 F.2.1 hd hl.has (Nat.le_of_ble_eq_true hi) rfl (fun la' h' => k H locs la' hS hP (hs ▸ lok.set1 (Nat.le_of_ble_eq_true hi) hp h'))
theorem g_lstore_n (F : Fx κ Γ d mc ms μ) {n : Fin 4} {z : Int64} (hd : AT 1 Γ.2.1 pc (.lstore_n n) nx) (hi : Nat.ble ((n : Nat) + 2) ls.length = true) (hp : pc1 ls n = true) (hs : (ls.set n (some (.long z))).set (n + 1) none = ls') (k : GC κ μ Z kc ks nx ls' st P) : GC κ μ Z kc ks pc ls (.long z :: st) P := by
  obtain ⟨hd, rfl⟩ := hd
  intro H locs la hS hP hl
  exact lv_lstore_n F.1 F.2.1 hd rfl hl.has (Nat.le_of_ble_eq_true hi) rfl (fun la' h' => k H locs la' hS hP (hs ▸ lok.set2 (Nat.le_of_ble_eq_true hi) hp h'))
theorem g_lstore (F : Fx κ Γ d mc ms μ) {i : Nat} {z : Int64} (hd : AT 2 Γ.2.1 pc (.lstore i) nx) (hi : Nat.ble (i + 2) ls.length = true) (hp : pc1 ls i = true) (hs : (ls.set i (some (.long z))).set (i + 1) none = ls') (k : GC κ μ Z kc ks nx ls' st P) : GC κ μ Z kc ks pc ls (.long z :: st) P := by
  obtain ⟨hd, rfl⟩ := hd
  intro H locs la hS hP hl
  exact lv_lstore F.1 F.2.1 hd hl.has (Nat.le_of_ble_eq_true hi) rfl (fun la' h' => k H locs la' hS hP (hs ▸ lok.set2 (Nat.le_of_ble_eq_true hi) hp h'))
theorem g_iinc (F : Fx κ Γ d mc ms μ) {i : Nat} {n : Int} (hd : AT 3 Γ.2.1 pc (.iinc i n) nx) (hl0 : ls[i]? = some (some (vi a))) (hp : pc1 ls i = true) (hs : ls.set i (some (vi (a + n))) = ls') (k : GC κ μ Z kc ks nx ls' st P) : GC κ μ Z kc ks pc ls st P := by
  obtain ⟨hd, rfl⟩ := hd
  intro H locs la hS hP hl
  have hi : i < ls.length := (List.getElem?_eq_some_iff.mp hl0).1
  obtain ⟨j, hj⟩ := List.getElem?_of_mem (prs_mem hl0)
  exact lv_iinc (v := Int32.ofInt (a + n)) F.1 F.2.1 hd hl.has (k := j) hj (by rw [Int32.ofInt_add]) hi rfl (fun la' h' => k H locs la' hS hP (hs ▸ lok.set1 hi hp h'))
theorem g_iadd (F : Fx κ Γ d mc ms μ) (hd : AT 1 Γ.2.1 pc .iadd nx) (k : GC κ μ Z kc ks nx ls (vi (a + b) :: st) P) : GC κ μ Z kc ks pc ls (vi b :: vi a :: st) P := by
  obtain ⟨hd, rfl⟩ := hd
  intro H locs la hS hP hl
  refine lv_iadd F.1 F.2.1 hd ?_
  rw [← Int32.ofInt_add]
  exact k H locs la hS hP hl
theorem g_isub (F : Fx κ Γ d mc ms μ) (hd : AT 1 Γ.2.1 pc .isub nx) (k : GC κ μ Z kc ks nx ls (vi (a - b) :: st) P) : GC κ μ Z kc ks pc ls (vi b :: vi a :: st) P := by
  obtain ⟨hd, rfl⟩ := hd
  intro H locs la hS hP hl
  refine lv_isub F.1 F.2.1 hd ?_
  rw [← Int32.ofInt_sub]
  exact k H locs la hS hP hl
theorem g_imul (F : Fx κ Γ d mc ms μ) (hd : AT 1 Γ.2.1 pc .imul nx) (k : GC κ μ Z kc ks nx ls (vi (a * b) :: st) P) : GC κ μ Z kc ks pc ls (vi b :: vi a :: st) P := by
  obtain ⟨hd, rfl⟩ := hd
  intro H locs la hS hP hl
  refine lv_imul F.1 F.2.1 hd ?_
  rw [← Int32.ofInt_mul]
  exact k H locs la hS hP hl
theorem g_ladd (F : Fx κ Γ d mc ms μ) (hd : AT 1 Γ.2.1 pc .ladd nx) (k : GC κ μ Z kc ks nx ls (vl (a + b) :: st) P) : GC κ μ Z kc ks pc ls (vl b :: vl a :: st) P := by
  obtain ⟨hd, rfl⟩ := hd
  intro H locs la hS hP hl
  refine lv_ladd F.1 F.2.1 hd ?_
  rw [← Int64.ofInt_add]
  exact k H locs la hS hP hl
theorem g_lsub (F : Fx κ Γ d mc ms μ) (hd : AT 1 Γ.2.1 pc .lsub nx) (k : GC κ μ Z kc ks nx ls (vl (a - b) :: st) P) : GC κ μ Z kc ks pc ls (vl b :: vl a :: st) P := by
  obtain ⟨hd, rfl⟩ := hd
  intro H locs la hS hP hl
  refine lv_lsub F.1 F.2.1 hd ?_
  rw [← Int64.ofInt_sub]
  exact k H locs la hS hP hl
theorem g_lmul (F : Fx κ Γ d mc ms μ) (hd : AT 1 Γ.2.1 pc .lmul nx) (k : GC κ μ Z kc ks nx ls (vl (a * b) :: st) P) : GC κ μ Z kc ks pc ls (vl b :: vl a :: st) P := by
  obtain ⟨hd, rfl⟩ := hd
  intro H locs la hS hP hl
  refine lv_lmul F.1 F.2.1 hd ?_
  rw [← Int64.ofInt_mul]
  exact k H locs la hS hP hl
theorem g_ineg (F : Fx κ Γ d mc ms μ) (hd : AT 1 Γ.2.1 pc .ineg nx) (k : GC κ μ Z kc ks nx ls (vi (-a) :: st) P) : GC κ μ Z kc ks pc ls (vi a :: st) P := by
  obtain ⟨hd, rfl⟩ := hd
  intro H locs la hS hP hl
  refine lv_ineg F.1 F.2.1 hd ?_
  rw [← Int32.ofInt_neg]
  exact k H locs la hS hP hl
theorem i2r {a : Int} (h : -2147483648 ≤ a ∧ a ≤ 2147483647) : (Int32.ofInt a).toInt = a := Int32.toInt_ofInt_of_le (by omega) (by omega)
theorem l2r {a : Int} (h : -9223372036854775808 ≤ a ∧ a ≤ 9223372036854775807) : (Int64.ofInt a).toInt = a := Int64.toInt_ofInt_of_le (by omega) (by omega)
theorem i_ne0 {b : Int} (h : -2147483648 ≤ b ∧ b ≤ 2147483647) (h0 : b ≠ 0) : ¬ Int32.ofInt b = 0 := by
  intro e
  have := congrArg Int32.toInt e
  rw [i2r h] at this
  exact h0 (by simpa using this)
theorem l_ne0 {b : Int} (h : -9223372036854775808 ≤ b ∧ b ≤ 9223372036854775807) (h0 : b ≠ 0) : ¬ Int64.ofInt b = 0 := by
  intro e
  have := congrArg Int64.toInt e
  rw [l2r h] at this
  exact h0 (by simpa using this)
theorem i_div {a b : Int} (ha : 0 ≤ a ∧ a ≤ 2147483647) (hb : 0 < b ∧ b ≤ 2147483647) : Int32.ofInt a / Int32.ofInt b = Int32.ofInt (a / b) := by
  rw [← Int32.ofInt_tdiv (by show (-2147483648 : Int) ≤ a; omega) (by show a ≤ (2147483647 : Int); omega) (by show (-2147483648 : Int) ≤ b; omega) (by show b ≤ (2147483647 : Int); omega), Int.tdiv_eq_ediv_of_nonneg ha.1]
theorem l_div {a b : Int} (ha : 0 ≤ a ∧ a ≤ 9223372036854775807) (hb : 0 < b ∧ b ≤ 9223372036854775807) : Int64.ofInt a / Int64.ofInt b = Int64.ofInt (a / b) := by
  rw [← Int64.ofInt_tdiv (by show (-9223372036854775808 : Int) ≤ a; omega) (by show a ≤ (9223372036854775807 : Int); omega) (by show (-9223372036854775808 : Int) ≤ b; omega) (by show b ≤ (9223372036854775807 : Int); omega), Int.tdiv_eq_ediv_of_nonneg ha.1]
theorem i_rem {a b : Int} (ha : -2147483648 ≤ a ∧ a ≤ 2147483647) (hb : 0 < b ∧ b ≤ 2147483647) : Int32.ofInt a - Int32.ofInt a / Int32.ofInt b * Int32.ofInt b = Int32.ofInt (a.tmod b) := by
  rw [← Int32.ofInt_tdiv (by show (-2147483648 : Int) ≤ a; omega) (by show a ≤ (2147483647 : Int); omega) (by show (-2147483648 : Int) ≤ b; omega) (by show b ≤ (2147483647 : Int); omega), ← Int32.ofInt_mul, ← Int32.ofInt_sub]
  congr 1
  have := Int.tmod_add_tdiv_mul a b
  omega
theorem l_rem {a b : Int} (ha : 0 ≤ a ∧ a ≤ 9223372036854775807) (hb : 0 < b ∧ b ≤ 9223372036854775807) : Int64.ofInt a - Int64.ofInt a / Int64.ofInt b * Int64.ofInt b = Int64.ofInt (a % b) := by
  rw [l_div ha hb, ← Int64.ofInt_mul, ← Int64.ofInt_sub]
  congr 1
  have := Int.emod_def a b
  rw [Int.mul_comm] at this
  omega
theorem g_idiv (F : Fx κ Γ d mc ms μ) (ha : 0 ≤ a ∧ a ≤ 2147483647) (hb : 0 < b ∧ b ≤ 2147483647) (hd : AT 1 Γ.2.1 pc .idiv nx) (k : GC κ μ Z kc ks nx ls (vi (a / b) :: st) P) : GC κ μ Z kc ks pc ls (vi b :: vi a :: st) P := by
  obtain ⟨hd, rfl⟩ := hd
  intro H locs la hS hP hl
  refine lv_idiv F.1 F.2.1 hd (i_ne0 (by omega) (by omega)) ?_
  rw [i_div ha hb]
  exact k H locs la hS hP hl
theorem g_irem (F : Fx κ Γ d mc ms μ) (ha : 0 ≤ a ∧ a ≤ 2147483647) (hb : 0 < b ∧ b ≤ 2147483647) (hd : AT 1 Γ.2.1 pc .irem nx) (k : GC κ μ Z kc ks nx ls (vi (a % b) :: st) P) : GC κ μ Z kc ks pc ls (vi b :: vi a :: st) P := by
  obtain ⟨hd, rfl⟩ := hd
  intro H locs la hS hP hl
  refine lv_irem F.1 F.2.1 hd (i_ne0 (by omega) (by omega)) ?_
  rw [i_rem (by omega) hb, Int.tmod_eq_emod_of_nonneg ha.1]
  exact k H locs la hS hP hl
theorem g_iremS (F : Fx κ Γ d mc ms μ) (ha : -2147483648 ≤ a ∧ a ≤ 2147483647) (hb : 0 < b ∧ b ≤ 2147483647) (hd : AT 1 Γ.2.1 pc .irem nx) (k : GC κ μ Z kc ks nx ls (vi (a.tmod b) :: st) P) : GC κ μ Z kc ks pc ls (vi b :: vi a :: st) P := by
  obtain ⟨hd, rfl⟩ := hd
  intro H locs la hS hP hl
  refine lv_irem F.1 F.2.1 hd (i_ne0 (by omega) (by omega)) ?_
  rw [i_rem ha hb]
  exact k H locs la hS hP hl
theorem g_ldiv (F : Fx κ Γ d mc ms μ) (ha : 0 ≤ a ∧ a ≤ 9223372036854775807) (hb : 0 < b ∧ b ≤ 9223372036854775807) (hd : AT 1 Γ.2.1 pc .ldiv nx) (k : GC κ μ Z kc ks nx ls (vl (a / b) :: st) P) : GC κ μ Z kc ks pc ls (vl b :: vl a :: st) P := by
  obtain ⟨hd, rfl⟩ := hd
  intro H locs la hS hP hl
  refine lv_ldiv F.1 F.2.1 hd (l_ne0 (by omega) (by omega)) ?_
  rw [l_div ha hb]
  exact k H locs la hS hP hl
theorem g_lrem (F : Fx κ Γ d mc ms μ) (ha : 0 ≤ a ∧ a ≤ 9223372036854775807) (hb : 0 < b ∧ b ≤ 9223372036854775807) (hd : AT 1 Γ.2.1 pc .lrem nx) (k : GC κ μ Z kc ks nx ls (vl (a % b) :: st) P) : GC κ μ Z kc ks pc ls (vl b :: vl a :: st) P := by
  obtain ⟨hd, rfl⟩ := hd
  intro H locs la hS hP hl
  refine lv_lrem F.1 F.2.1 hd (l_ne0 (by omega) (by omega)) ?_
  rw [l_rem ha hb]
  exact k H locs la hS hP hl
def bAnd (a b : Int) : Int := (Int32.ofInt a &&& Int32.ofInt b).toInt
def bOr (a b : Int) : Int := (Int32.ofInt a ||| Int32.ofInt b).toInt
def bXor (a b : Int) : Int := (Int32.ofInt a ^^^ Int32.ofInt b).toInt
def bShl (a b : Int) : Int := (Int32.ofInt a <<< (Int32.ofInt b &&& 31)).toInt
def bShr (a b : Int) : Int := (Int32.ofInt a >>> (Int32.ofInt b &&& 31)).toInt
def bUsh (a b : Int) : Int := (((Int32.ofInt a).toUInt32 >>> ((Int32.ofInt b).toUInt32 &&& Int32.toUInt32 31)).toInt32).toInt
theorem g_iand (F : Fx κ Γ d mc ms μ) (hd : AT 1 Γ.2.1 pc .iand nx) (k : GC κ μ Z kc ks nx ls (vi (bAnd a b) :: st) P) : GC κ μ Z kc ks pc ls (vi b :: vi a :: st) P := by
  obtain ⟨hd, rfl⟩ := hd
  intro H locs la hS hP hl
  refine lv_iand F.1 F.2.1 hd ?_
  have h := k H locs la hS hP hl
  unfold bAnd at h
  rw [vi, b2i] at h
  exact h
theorem g_ior (F : Fx κ Γ d mc ms μ) (hd : AT 1 Γ.2.1 pc .ior nx) (k : GC κ μ Z kc ks nx ls (vi (bOr a b) :: st) P) : GC κ μ Z kc ks pc ls (vi b :: vi a :: st) P := by
  obtain ⟨hd, rfl⟩ := hd
  intro H locs la hS hP hl
  refine lv_ior F.1 F.2.1 hd ?_
  have h := k H locs la hS hP hl
  unfold bOr at h
  rw [vi, b2i] at h
  exact h
theorem g_ixor (F : Fx κ Γ d mc ms μ) (hd : AT 1 Γ.2.1 pc .ixor nx) (k : GC κ μ Z kc ks nx ls (vi (bXor a b) :: st) P) : GC κ μ Z kc ks pc ls (vi b :: vi a :: st) P := by
  obtain ⟨hd, rfl⟩ := hd
  intro H locs la hS hP hl
  refine lv_ixor F.1 F.2.1 hd ?_
  have h := k H locs la hS hP hl
  unfold bXor at h
  rw [vi, b2i] at h
  exact h
theorem g_ishl (F : Fx κ Γ d mc ms μ) (hd : AT 1 Γ.2.1 pc .ishl nx) (k : GC κ μ Z kc ks nx ls (vi (bShl a b) :: st) P) : GC κ μ Z kc ks pc ls (vi b :: vi a :: st) P := by
  obtain ⟨hd, rfl⟩ := hd
  intro H locs la hS hP hl
  refine lv_ishl F.1 F.2.1 hd ?_
  have h := k H locs la hS hP hl
  unfold bShl at h
  rw [vi, b2i] at h
  exact h
theorem g_ishr (F : Fx κ Γ d mc ms μ) (hd : AT 1 Γ.2.1 pc .ishr nx) (k : GC κ μ Z kc ks nx ls (vi (bShr a b) :: st) P) : GC κ μ Z kc ks pc ls (vi b :: vi a :: st) P := by
  obtain ⟨hd, rfl⟩ := hd
  intro H locs la hS hP hl
  refine lv_ishr F.1 F.2.1 hd ?_
  have h := k H locs la hS hP hl
  unfold bShr at h
  rw [vi, b2i] at h
  exact h
theorem g_iushr (F : Fx κ Γ d mc ms μ) (hd : AT 1 Γ.2.1 pc .iushr nx) (k : GC κ μ Z kc ks nx ls (vi (bUsh a b) :: st) P) : GC κ μ Z kc ks pc ls (vi b :: vi a :: st) P := by
  obtain ⟨hd, rfl⟩ := hd
  intro H locs la hS hP hl
  exact lv_iushr F.1 F.2.1 hd (v := Int32.ofInt (bUsh a b)) (by unfold bUsh; rw [b2i]) (k H locs la hS hP hl)
theorem g_i2l (F : Fx κ Γ d mc ms μ) (ha : -2147483648 ≤ a ∧ a ≤ 2147483647) (hd : AT 1 Γ.2.1 pc .i2l nx) (k : GC κ μ Z kc ks nx ls (vl a :: st) P) : GC κ μ Z kc ks pc ls (vi a :: st) P := by
  obtain ⟨hd, rfl⟩ := hd
  intro H locs la hS hP hl
  exact lv_i2l F.1 F.2.1 hd (v := Int64.ofInt a) (by apply Int64.toInt_inj.mp; rw [Int32.toInt_toInt64, i2r ha, l2r (by omega)]) (k H locs la hS hP hl)
theorem g_l2i (F : Fx κ Γ d mc ms μ) (hd : AT 1 Γ.2.1 pc .l2i nx) (k : GC κ μ Z kc ks nx ls (vi a :: st) P) : GC κ μ Z kc ks pc ls (vl a :: st) P := by
  obtain ⟨hd, rfl⟩ := hd
  intro H locs la hS hP hl
  exact lv_l2i F.1 F.2.1 hd (v := Int32.ofInt a) Int64.toInt32_ofInt (k H locs la hS hP hl)
theorem i_eq {a b : Int} (ha : -2147483648 ≤ a ∧ a ≤ 2147483647) (hb : -2147483648 ≤ b ∧ b ≤ 2147483647) : Int32.ofInt a = Int32.ofInt b ↔ a = b := by
  rw [← Int32.toInt_inj, i2r ha, i2r hb]
theorem i_lt {a b : Int} (ha : -2147483648 ≤ a ∧ a ≤ 2147483647) (hb : -2147483648 ≤ b ∧ b ≤ 2147483647) : Int32.ofInt a < Int32.ofInt b ↔ a < b := by
  rw [Int32.lt_iff_toInt_lt, i2r ha, i2r hb]
theorem i_le {a b : Int} (ha : -2147483648 ≤ a ∧ a ≤ 2147483647) (hb : -2147483648 ≤ b ∧ b ≤ 2147483647) : Int32.ofInt a ≤ Int32.ofInt b ↔ a ≤ b := by
  rw [Int32.le_iff_toInt_le, i2r ha, i2r hb]
theorem i_zero : (0 : Int32) = Int32.ofInt 0 := rfl
theorem r_zero : -2147483648 ≤ (0 : Int) ∧ (0 : Int) ≤ 2147483647 := by omega
theorem g_icmp_eq (F : Fx κ Γ d mc ms μ) (ha : -2147483648 ≤ a ∧ a ≤ 2147483647) (hb : -2147483648 ≤ b ∧ b ≤ 2147483647) (hd : AJ Γ.2.1 pc (.if_icmp .eq) tg nx) (kt : a = b → GC κ μ Z kc ks tg ls st P) (kf : a ≠ b → GC κ μ Z kc ks nx ls st P) : GC κ μ Z kc ks pc ls (vi b :: vi a :: st) P := by
  obtain ⟨⟨o, hd, ho⟩, rfl⟩ := hd
  intro H locs la hS hP hl
  exact lv_icmp_eq F.1 F.2.1 hd ho (fun h => kt ((i_eq ha hb).mp h) H locs la hS hP hl) (fun h => kf (fun e => h ((i_eq ha hb).mpr e)) H locs la hS hP hl)
theorem g_icmp_ne (F : Fx κ Γ d mc ms μ) (ha : -2147483648 ≤ a ∧ a ≤ 2147483647) (hb : -2147483648 ≤ b ∧ b ≤ 2147483647) (hd : AJ Γ.2.1 pc (.if_icmp .ne) tg nx) (kt : a ≠ b → GC κ μ Z kc ks tg ls st P) (kf : a = b → GC κ μ Z kc ks nx ls st P) : GC κ μ Z kc ks pc ls (vi b :: vi a :: st) P := by
  obtain ⟨⟨o, hd, ho⟩, rfl⟩ := hd
  intro H locs la hS hP hl
  exact lv_icmp_ne F.1 F.2.1 hd ho (fun h => kt (fun e => h ((i_eq ha hb).mpr e)) H locs la hS hP hl) (fun h => kf ((i_eq ha hb).mp h) H locs la hS hP hl)
theorem g_icmp_lt (F : Fx κ Γ d mc ms μ) (ha : -2147483648 ≤ a ∧ a ≤ 2147483647) (hb : -2147483648 ≤ b ∧ b ≤ 2147483647) (hd : AJ Γ.2.1 pc (.if_icmp .lt) tg nx) (kt : a < b → GC κ μ Z kc ks tg ls st P) (kf : b ≤ a → GC κ μ Z kc ks nx ls st P) : GC κ μ Z kc ks pc ls (vi b :: vi a :: st) P := by
  obtain ⟨⟨o, hd, ho⟩, rfl⟩ := hd
  intro H locs la hS hP hl
  exact lv_icmp_lt F.1 F.2.1 hd ho (fun h => kt ((i_lt ha hb).mp h) H locs la hS hP hl) (fun h => kf (Int.not_lt.mp (fun e => h ((i_lt ha hb).mpr e))) H locs la hS hP hl)
theorem g_icmp_ge (F : Fx κ Γ d mc ms μ) (ha : -2147483648 ≤ a ∧ a ≤ 2147483647) (hb : -2147483648 ≤ b ∧ b ≤ 2147483647) (hd : AJ Γ.2.1 pc (.if_icmp .ge) tg nx) (kt : b ≤ a → GC κ μ Z kc ks tg ls st P) (kf : a < b → GC κ μ Z kc ks nx ls st P) : GC κ μ Z kc ks pc ls (vi b :: vi a :: st) P := by
  obtain ⟨⟨o, hd, ho⟩, rfl⟩ := hd
  intro H locs la hS hP hl
  exact lv_icmp_ge F.1 F.2.1 hd ho (fun h => kt ((i_le hb ha).mp h) H locs la hS hP hl) (fun h => kf (Int.not_le.mp (fun e => h ((i_le hb ha).mpr e))) H locs la hS hP hl)
theorem g_icmp_gt (F : Fx κ Γ d mc ms μ) (ha : -2147483648 ≤ a ∧ a ≤ 2147483647) (hb : -2147483648 ≤ b ∧ b ≤ 2147483647) (hd : AJ Γ.2.1 pc (.if_icmp .gt) tg nx) (kt : b < a → GC κ μ Z kc ks tg ls st P) (kf : a ≤ b → GC κ μ Z kc ks nx ls st P) : GC κ μ Z kc ks pc ls (vi b :: vi a :: st) P := by
  obtain ⟨⟨o, hd, ho⟩, rfl⟩ := hd
  intro H locs la hS hP hl
  exact lv_icmp_gt F.1 F.2.1 hd ho (fun h => kt ((i_lt hb ha).mp h) H locs la hS hP hl) (fun h => kf (Int.not_lt.mp (fun e => h ((i_lt hb ha).mpr e))) H locs la hS hP hl)
theorem g_icmp_le (F : Fx κ Γ d mc ms μ) (ha : -2147483648 ≤ a ∧ a ≤ 2147483647) (hb : -2147483648 ≤ b ∧ b ≤ 2147483647) (hd : AJ Γ.2.1 pc (.if_icmp .le) tg nx) (kt : a ≤ b → GC κ μ Z kc ks tg ls st P) (kf : b < a → GC κ μ Z kc ks nx ls st P) : GC κ μ Z kc ks pc ls (vi b :: vi a :: st) P := by
  obtain ⟨⟨o, hd, ho⟩, rfl⟩ := hd
  intro H locs la hS hP hl
  exact lv_icmp_le F.1 F.2.1 hd ho (fun h => kt ((i_le ha hb).mp h) H locs la hS hP hl) (fun h => kf (Int.not_le.mp (fun e => h ((i_le ha hb).mpr e))) H locs la hS hP hl)
theorem g_if_eq (F : Fx κ Γ d mc ms μ) (ha : -2147483648 ≤ a ∧ a ≤ 2147483647) (hd : AJ Γ.2.1 pc (.ifCond .eq) tg nx) (kt : a = 0 → GC κ μ Z kc ks tg ls st P) (kf : a ≠ 0 → GC κ μ Z kc ks nx ls st P) : GC κ μ Z kc ks pc ls (vi a :: st) P := by
  obtain ⟨⟨o, hd, ho⟩, rfl⟩ := hd
  intro H locs la hS hP hl
  exact lv_if_eq F.1 F.2.1 hd ho (fun h => kt ((i_eq ha r_zero).mp h) H locs la hS hP hl) (fun h => kf (fun e => h ((i_eq ha r_zero).mpr e)) H locs la hS hP hl)
theorem g_if_ne (F : Fx κ Γ d mc ms μ) (ha : -2147483648 ≤ a ∧ a ≤ 2147483647) (hd : AJ Γ.2.1 pc (.ifCond .ne) tg nx) (kt : a ≠ 0 → GC κ μ Z kc ks tg ls st P) (kf : a = 0 → GC κ μ Z kc ks nx ls st P) : GC κ μ Z kc ks pc ls (vi a :: st) P := by
  obtain ⟨⟨o, hd, ho⟩, rfl⟩ := hd
  intro H locs la hS hP hl
  exact lv_if_ne F.1 F.2.1 hd ho (fun h => kt (fun e => h ((i_eq ha r_zero).mpr e)) H locs la hS hP hl) (fun h => kf ((i_eq ha r_zero).mp h) H locs la hS hP hl)
theorem g_if_lt (F : Fx κ Γ d mc ms μ) (ha : -2147483648 ≤ a ∧ a ≤ 2147483647) (hd : AJ Γ.2.1 pc (.ifCond .lt) tg nx) (kt : a < 0 → GC κ μ Z kc ks tg ls st P) (kf : 0 ≤ a → GC κ μ Z kc ks nx ls st P) : GC κ μ Z kc ks pc ls (vi a :: st) P := by
  obtain ⟨⟨o, hd, ho⟩, rfl⟩ := hd
  intro H locs la hS hP hl
  exact lv_if_lt F.1 F.2.1 hd ho (fun h => kt ((i_lt ha r_zero).mp h) H locs la hS hP hl) (fun h => kf (Int.not_lt.mp (fun e => h ((i_lt ha r_zero).mpr e))) H locs la hS hP hl)
theorem g_if_ge (F : Fx κ Γ d mc ms μ) (ha : -2147483648 ≤ a ∧ a ≤ 2147483647) (hd : AJ Γ.2.1 pc (.ifCond .ge) tg nx) (kt : 0 ≤ a → GC κ μ Z kc ks tg ls st P) (kf : a < 0 → GC κ μ Z kc ks nx ls st P) : GC κ μ Z kc ks pc ls (vi a :: st) P := by
  obtain ⟨⟨o, hd, ho⟩, rfl⟩ := hd
  intro H locs la hS hP hl
  exact lv_if_ge F.1 F.2.1 hd ho (fun h => kt ((i_le r_zero ha).mp h) H locs la hS hP hl) (fun h => kf (Int.not_le.mp (fun e => h ((i_le r_zero ha).mpr e))) H locs la hS hP hl)
theorem g_if_gt (F : Fx κ Γ d mc ms μ) (ha : -2147483648 ≤ a ∧ a ≤ 2147483647) (hd : AJ Γ.2.1 pc (.ifCond .gt) tg nx) (kt : 0 < a → GC κ μ Z kc ks tg ls st P) (kf : a ≤ 0 → GC κ μ Z kc ks nx ls st P) : GC κ μ Z kc ks pc ls (vi a :: st) P := by
  obtain ⟨⟨o, hd, ho⟩, rfl⟩ := hd
  intro H locs la hS hP hl
  exact lv_if_gt F.1 F.2.1 hd ho (fun h => kt ((i_lt r_zero ha).mp h) H locs la hS hP hl) (fun h => kf (Int.not_lt.mp (fun e => h ((i_lt r_zero ha).mpr e))) H locs la hS hP hl)
theorem g_if_le (F : Fx κ Γ d mc ms μ) (ha : -2147483648 ≤ a ∧ a ≤ 2147483647) (hd : AJ Γ.2.1 pc (.ifCond .le) tg nx) (kt : a ≤ 0 → GC κ μ Z kc ks tg ls st P) (kf : 0 < a → GC κ μ Z kc ks nx ls st P) : GC κ μ Z kc ks pc ls (vi a :: st) P := by
  obtain ⟨⟨o, hd, ho⟩, rfl⟩ := hd
  intro H locs la hS hP hl
  exact lv_if_le F.1 F.2.1 hd ho (fun h => kt ((i_le ha r_zero).mp h) H locs la hS hP hl) (fun h => kf (Int.not_le.mp (fun e => h ((i_le ha r_zero).mpr e))) H locs la hS hP hl)
theorem g_ifeq0 (F : Fx κ Γ d mc ms μ) (hd : AJ Γ.2.1 pc (.ifCond .eq) tg nx) (k : GC κ μ Z kc ks tg ls st P) : GC κ μ Z kc ks pc ls (vi 0 :: st) P := g_if_eq F r_zero hd (fun _ => k) (fun h => absurd rfl h)
theorem g_ifeq1 (F : Fx κ Γ d mc ms μ) (hd : AJ Γ.2.1 pc (.ifCond .eq) tg nx) (k : GC κ μ Z kc ks nx ls st P) : GC κ μ Z kc ks pc ls (vi 1 :: st) P := g_if_eq F (by omega) hd (fun h => absurd h (by decide)) (fun _ => k)
theorem g_ifne0 (F : Fx κ Γ d mc ms μ) (hd : AJ Γ.2.1 pc (.ifCond .ne) tg nx) (k : GC κ μ Z kc ks nx ls st P) : GC κ μ Z kc ks pc ls (vi 0 :: st) P := g_if_ne F r_zero hd (fun h => absurd rfl h) (fun _ => k)
theorem g_ifne1 (F : Fx κ Γ d mc ms μ) (hd : AJ Γ.2.1 pc (.ifCond .ne) tg nx) (k : GC κ μ Z kc ks tg ls st P) : GC κ μ Z kc ks pc ls (vi 1 :: st) P := g_if_ne F (by omega) hd (fun _ => k) (fun h => absurd h (by decide))
theorem g_goto (F : Fx κ Γ d mc ms μ) (hd : AJ Γ.2.1 pc .goto tg nx) (k : GC κ μ Z kc ks tg ls st P) : GC κ μ Z kc ks pc ls st P := by
  obtain ⟨⟨o, hd, ho⟩, rfl⟩ := hd
  intro H locs la hS hP hl
  exact lv_goto F.1 F.2.1 hd ho (k H locs la hS hP hl)
theorem g_dup (F : Fx κ Γ d mc ms μ) (hd : AT 1 Γ.2.1 pc .dup nx) (hv : v.category = 1) (k : GC κ μ Z kc ks nx ls (v :: v :: st) P) : GC κ μ Z kc ks pc ls (v :: st) P := by
  obtain ⟨hd, rfl⟩ := hd
  intro H locs la hS hP hl
  exact lv_dup F.1 F.2.1 hd hv (k H locs la hS hP hl)
theorem g_pop (F : Fx κ Γ d mc ms μ) (hd : AT 1 Γ.2.1 pc .pop nx) (hv : v.category = 1) (k : GC κ μ Z kc ks nx ls st P) : GC κ μ Z kc ks pc ls (v :: st) P := by
  obtain ⟨hd, rfl⟩ := hd
  intro H locs la hS hP hl
  exact lv_pop F.1 F.2.1 hd hv (k H locs la hS hP hl)
theorem g_dup2 (F : Fx κ Γ d mc ms μ) (hd : AT 1 Γ.2.1 pc .dup2 nx) (hv : v.category = 1) (hu : u.category = 1) (k : GC κ μ Z kc ks nx ls (v :: u :: v :: u :: st) P) : GC κ μ Z kc ks pc ls (v :: u :: st) P := by
  obtain ⟨hd, rfl⟩ := hd
  intro H locs la hS hP hl
  exact lv_dup2_11 F.1 F.2.1 hd hv hu (k H locs la hS hP hl)
def sw_tab (pc : Nat) (lo : Int) (offs : Array Int) (tgs : List Nat) : Bool := (List.range tgs.length).all (fun j => match offs[j]?, tgs[j]? with | some o, some t => decide ((pc : Int) + o = (t : Int)) | _, _ => false)
theorem g_tsw (F : Fx κ Γ d mc ms μ) {dflt lo hi : Int} {offs : Array Int} {len j : Nat} {o : Int} (ha : -2147483648 ≤ a ∧ a ≤ 2147483647) (hd : decode Γ.2.1 pc = .ok (.tableswitch dflt lo hi offs, len)) (h1 : lo ≤ a) (h2 : a ≤ hi) (hj : (a - lo).toNat = j) (ho : offs[j]? = some o) (ht : (pc : Int) + o = (tg : Int)) (k : GC κ μ Z kc ks tg ls st P) : GC κ μ Z kc ks pc ls (vi a :: st) P := by
  intro H locs la hS hP hl
  exact lv_tableIn F.1 F.2.1 hd (by rw [i2r ha]; omega) (by rw [i2r ha]; omega) (by rw [i2r ha, hj]; exact ho) ht (k H locs la hS hP hl)
theorem g_tswD (F : Fx κ Γ d mc ms μ) {dflt lo hi : Int} {offs : Array Int} {len : Nat} (ha : -2147483648 ≤ a ∧ a ≤ 2147483647) (hd : decode Γ.2.1 pc = .ok (.tableswitch dflt lo hi offs, len)) (h1 : a < lo ∨ hi < a) (ht : (pc : Int) + dflt = (tg : Int)) (k : GC κ μ Z kc ks tg ls st P) : GC κ μ Z kc ks pc ls (vi a :: st) P := by
  intro H locs la hS hP hl
  exact lv_tableOut F.1 F.2.1 hd (by rw [i2r ha]; exact h1) ht (k H locs la hS hP hl)
theorem g_lsw (F : Fx κ Γ d mc ms μ) {dflt : Int} {ps : Array (Int × Int)} {len : Nat} {o : Int} (ha : -2147483648 ≤ a ∧ a ≤ 2147483647) (hd : decode Γ.2.1 pc = .ok (.lookupswitch dflt ps, len)) (hp : (ps.toList.zip (ps.toList.drop 1)).all (fun (a, next) => a.1 < next.1) = true) (ho : Op.lookupswitch.offset ps.toList dflt a = o) (ht : (pc : Int) + o = (tg : Int)) (k : GC κ μ Z kc ks tg ls st P) : GC κ μ Z kc ks pc ls (vi a :: st) P := by
  intro H locs la hS hP hl
  exact lv_lookup F.1 F.2.1 hd hp (by rw [i2r ha]; exact ho) ht (k H locs la hS hP hl)
/-- another place, other locals, told more weakly -/
theorem GC.weak {P' : Heap → Prop} (hp : ∀ H, P H → P' H) (k : GC κ μ Z kc ks pc ls st P') : GC κ μ Z kc ks pc ls st P := fun H locs la hS hP hl => k H locs la hS (hp H hP) hl
theorem GC.room {kc' ks' : Nat} (h1 : kc ≤ kc') (h2 : ks ≤ ks') (k : GC κ μ Z kc' ks' pc ls st P) : GC κ μ Z kc ks pc ls st P := fun H locs la hS hP hl => W.widen h1 h2 (k H locs la hS hP hl)
theorem lok.less {la : Array Slot} (h : lok la ls) (hn : ls.length = ls'.length) (hh : ∀ (i : Nat) (v : Value), ls'[i]? = some (some v) → ls[i]? = some (some v)) : lok la ls' := ⟨h.1.trans hn, h.2.1, fun i v hi => h.2.2 i v (hh i v hi)⟩
/-- fewer locals: those of ls' are among ls, in their places -/
def lsub : List (Option Value) → List (Option Value) → Prop
  | [], [] => True
  | _ :: t, none :: t' => lsub t t'
  | x :: t, some v :: t' => x = some v ∧ lsub t t'
  | _, _ => False
theorem lsub_spec : ∀ (l l' : List (Option Value)), lsub l l' → l.length = l'.length ∧ ∀ (i : Nat) (v : Value), l'[i]? = some (some v) → l[i]? = some (some v)
  | [], [], _ => ⟨rfl, fun _ _ h => h⟩
  | _ :: t, none :: t', h => by
    have q := lsub_spec t t' h
    refine ⟨by simp [q.1], fun i v hi => ?_⟩
    cases i with
    | zero => simp at hi
    | succ i => simp at hi ⊢; exact q.2 i v hi
  | x :: t, some w :: t', h => by
    have q := lsub_spec t t' h.2
    refine ⟨by simp [q.1], fun i v hi => ?_⟩
    cases i with
    | zero => simp at hi ⊢; rw [h.1, hi]
    | succ i => simp at hi ⊢; exact q.2 i v hi
  | [], _ :: _, h => h.elim
  | _ :: _, [], h => h.elim
theorem GC.loc (h : lsub ls ls') (k : GC κ μ Z kc ks pc ls' st P) : GC κ μ Z kc ks pc ls st P := fun H locs la hS hP hl => k H locs la hS hP (hl.less (lsub_spec ls ls' h).1 (lsub_spec ls ls' h).2)
theorem ZZ.ret {Q : Option Value → (Heap → Prop) → Prop} {r : Option Value} {H : Heap} {locs : List Loc} (hS : va_S (Ab κ) (mS μ).heap H locs) (hP : P H) (hQ : Q r P) : ∀ t : State, t.heap = H → (mS μ).WarmedH t.vm → QQ κ Q (mA μ) (mS μ) (.returned r) t := fun t ht _ => ⟨⟨r, P, rfl, by rw [ht]; exact hP, hQ⟩, hS.F ht⟩
theorem g_iret (F : Fx κ Γ d mc ms μ) {Q : Option Value → (Heap → Prop) → Prop} {z : Int32} {kc ks : Nat} (hd : AT 1 Γ.2.1 pc .ireturn nx) (hr : Γ.2.2.2.1 = some .int) (hk : kc ≤ mc ∧ ks ≤ ms) (hQ : Q (some (.int z)) P) : GC κ μ (ZZ κ μ mc ms Q) kc ks pc ls [.int z] P := by
  intro H locs la hS hP hl
  have hlocks := F.2.2.2.2.1
  exact W.widen hk.1 hk.2 (W.iret F.1 F.2.1 (F.2.2.2.1.trans hr) (ZZ.ret hS hP hQ) hS.2.2 hd.1 (hlocks := hlocks))
theorem g_zret (F : Fx κ Γ d mc ms μ) {Q : Option Value → (Heap → Prop) → Prop} {z : Int32} {ty : FieldType} {kc ks : Nat} (hd : AT 1 Γ.2.1 pc .ireturn nx) (hr : Γ.2.2.2.1 = some ty) (hn : narrow ty (.int z) = .int z) (hk : kc ≤ mc ∧ ks ≤ ms) (hQ : Q (some (.int z)) P) : GC κ μ (ZZ κ μ mc ms Q) kc ks pc ls [.int z] P := by
  intro H locs la hS hP hl
  have hlocks := F.2.2.2.2.1
  exact W.widen hk.1 hk.2 (W.zret F.1 F.2.1 (F.2.2.2.1.trans hr) hn (ZZ.ret hS hP hQ) hS.2.2 hd.1 (hlocks := hlocks))
theorem g_lret (F : Fx κ Γ d mc ms μ) {Q : Option Value → (Heap → Prop) → Prop} {z : Int64} {kc ks : Nat} (hd : AT 1 Γ.2.1 pc .lreturn nx) (hr : Γ.2.2.2.1 = some .long) (hk : kc ≤ mc ∧ ks ≤ ms) (hQ : Q (some (.long z)) P) : GC κ μ (ZZ κ μ mc ms Q) kc ks pc ls [.long z] P := by
  intro H locs la hS hP hl
  have hlocks := F.2.2.2.2.1
  exact W.widen hk.1 hk.2 (W.lret F.1 F.2.1 (F.2.2.2.1.trans hr) (ZZ.ret hS hP hQ) hS.2.2 hd.1 (hlocks := hlocks))
theorem g_ret (F : Fx κ Γ d mc ms μ) {Q : Option Value → (Heap → Prop) → Prop} {kc ks : Nat} (hd : AT 1 Γ.2.1 pc .return_ nx) (hr : Γ.2.2.2.1 = none) (hk : kc ≤ mc ∧ ks ≤ ms) (hQ : Q none P) : GC κ μ (ZZ κ μ mc ms Q) kc ks pc ls [] P := by
  intro H locs la hS hP hl
  have hlocks := F.2.2.2.2.1
  exact W.widen hk.1 hk.2 (W.vret F.1 F.2.1 (F.2.2.2.1.trans hr) (ZZ.ret hS hP hQ) hS.2.2 hd.1 (hlocks := hlocks))
end GR
