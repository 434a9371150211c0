/-! ===== names: the kinds of objects, methods, words by their places ===== -/
def RC0 : String := "ShameAngles"
def TC0 : u_T := fun k => match k with
  | 0 => ("ShameAngles", "state", "LShameAngles$State;", true)
  | 1 => ("ShameAngles", "images", "[LShameAngles$State;", true)
  | 2 => ("ShameAngles", "kept", "[Z", true)
  | 3 => ("ShameAngles", "trial", "LShameAngles$Ship;", true)
  | 4 => ("ShameAngles", "script", "LShameAngles$Script;", true)
  | 5 => ("ShameAngles", "route", "LShameAngles$Route;", true)
  | 6 => ("ShameAngles", "watches", "LShameAngles$Watches;", true)
  | 7 => ("ShameAngles", "guesses", "LShameAngles$Guesses;", true)
  | 8 => ("ShameAngles", "chance", "LShameAngles$Chance;", true)
  | 9 => ("ShameAngles", "bads", "I", false)
  | 10 => ("ShameAngles", "nos", "I", false)
  | _ => ("ShameAngles", "fulls", "I", false)
def yC0 : Nat → FieldType := fun k => match k with
  | 0 => .object "ShameAngles$State"
  | 1 => .array (.object "ShameAngles$State")
  | 2 => .array .boolean
  | 3 => .object "ShameAngles$Ship"
  | 4 => .object "ShameAngles$Script"
  | 5 => .object "ShameAngles$Route"
  | 6 => .object "ShameAngles$Watches"
  | 7 => .object "ShameAngles$Guesses"
  | 8 => .object "ShameAngles$Chance"
  | 9 => .int
  | 10 => .int
  | _ => .int
def RC1 : String := "ShameAngles$State"
def TC1 : u_T := fun k => match k with
  | 0 => ("ShameAngles$State", "ship", "LShameAngles$Ship;", true)
  | 1 => ("ShameAngles$State", "seen", "LShameAngles$Rows;", true)
  | 2 => ("ShameAngles$State", "notes", "LShameAngles$Rows;", true)
  | 3 => ("ShameAngles$State", "marks", "LShameAngles$Rows;", true)
  | _ => ("ShameAngles$State", "past", "LShameAngles$Past;", true)
def yC1 : Nat → FieldType := fun k => match k with
  | 0 => .object "ShameAngles$Ship"
  | 1 => .object "ShameAngles$Rows"
  | 2 => .object "ShameAngles$Rows"
  | 3 => .object "ShameAngles$Rows"
  | _ => .object "ShameAngles$Past"
def RC2 : String := "ShameAngles$Ship"
def TC2 : u_T := fun k => match k with
  | 0 => ("ShameAngles$Ship", "place", "I", false)
  | 1 => ("ShameAngles$Ship", "log", "I", false)
  | 2 => ("ShameAngles$Ship", "course", "I", false)
  | 3 => ("ShameAngles$Ship", "day", "I", false)
  | 4 => ("ShameAngles$Ship", "men", "I", false)
  | 5 => ("ShameAngles$Ship", "readers", "I", false)
  | 6 => ("ShameAngles$Ship", "fog", "[I", true)
  | 7 => ("ShameAngles$Ship", "kinds", "[I", true)
  | 8 => ("ShameAngles$Ship", "shames", "[I", true)
  | _ => ("ShameAngles$Ship", "glasses", "[I", true)
def yC2 : Nat → FieldType := fun k => match k with
  | 0 => .int
  | 1 => .int
  | 2 => .int
  | 3 => .int
  | 4 => .int
  | 5 => .int
  | 6 => .array .int
  | 7 => .array .int
  | 8 => .array .int
  | _ => .array .int
def RC3 : String := "ShameAngles$Rows"
def TC3 : u_T := fun k => match k with
  | 0 => ("ShameAngles$Rows", "size", "I", false)
  | 1 => ("ShameAngles$Rows", "width", "I", true)
  | _ => ("ShameAngles$Rows", "cells", "[I", true)
def yC3 : Nat → FieldType := fun k => match k with
  | 0 => .int
  | 1 => .int
  | _ => .array .int
def RC4 : String := "ShameAngles$Past"
def TC4 : u_T := fun k => match k with
  | 0 => ("ShameAngles$Past", "size", "I", false)
  | _ => ("ShameAngles$Past", "cells", "[I", true)
def yC4 : Nat → FieldType := fun k => match k with
  | 0 => .int
  | _ => .array .int
def RC5 : String := "ShameAngles$Script"
def TC5 : u_T := fun k => match k with
  | 0 => ("ShameAngles$Script", "size", "I", false)
  | 1 => ("ShameAngles$Script", "bytes", "[I", true)
  | 2 => ("ShameAngles$Script", "start", "I", false)
  | 3 => ("ShameAngles$Script", "behind", "I", false)
  | 4 => ("ShameAngles$Script", "token", "I", false)
  | _ => ("ShameAngles$Script", "value", "I", false)
def yC5 : Nat → FieldType := fun k => match k with
  | 0 => .int
  | 1 => .array .int
  | 2 => .int
  | 3 => .int
  | 4 => .int
  | _ => .int
def RC6 : String := "ShameAngles$Route"
def TC6 : u_T := fun k => match k with
  | 0 => ("ShameAngles$Route", "row", "[I", true)
  | _ => ("ShameAngles$Route", "legs", "[LShameAngles$Ship;", true)
def yC6 : Nat → FieldType := fun k => match k with
  | 0 => .array .int
  | _ => .array (.object "ShameAngles$Ship")
def RC7 : String := "ShameAngles$Watches"
def TC7 : u_T := fun k => match k with
  | 0 => ("ShameAngles$Watches", "first", "[I", true)
  | 1 => ("ShameAngles$Watches", "chosen", "[I", true)
  | 2 => ("ShameAngles$Watches", "sights", "[I", true)
  | _ => ("ShameAngles$Watches", "found", "I", false)
def yC7 : Nat → FieldType := fun k => match k with
  | 0 => .array .int
  | 1 => .array .int
  | 2 => .array .int
  | _ => .int
def RC8 : String := "ShameAngles$Guesses"
def TC8 : u_T := fun k => match k with
  | _ => ("ShameAngles$Guesses", "values", "[I", true)
def yC8 : Nat → FieldType := fun k => match k with
  | _ => .array .int
def RC9 : String := "ShameAngles$Chance"
def TC9 : u_T := fun k => match k with
  | 0 => ("ShameAngles$Chance", "above", "J", false)
  | _ => ("ShameAngles$Chance", "below", "J", false)
def yC9 : Nat → FieldType := fun k => match k with
  | 0 => .long
  | _ => .long
def RC10 : String := "ShameAnglesModel"
def TC10 : u_T := fun k => match k with
  | 0 => ("ShameAnglesModel", "refused", "[I", true)
  | 1 => ("ShameAnglesModel", "menMany", "I", false)
  | 2 => ("ShameAnglesModel", "readerMany", "I", false)
  | 3 => ("ShameAnglesModel", "course", "I", false)
  | 4 => ("ShameAnglesModel", "placeNow", "I", false)
  | 5 => ("ShameAnglesModel", "logNow", "I", false)
  | 6 => ("ShameAnglesModel", "day", "I", false)
  | 7 => ("ShameAnglesModel", "seenMany", "I", false)
  | 8 => ("ShameAnglesModel", "noteMany", "I", false)
  | 9 => ("ShameAnglesModel", "markMany", "I", false)
  | 10 => ("ShameAnglesModel", "kinds", "[I", true)
  | 11 => ("ShameAnglesModel", "shames", "[I", true)
  | 12 => ("ShameAnglesModel", "readers", "[I", true)
  | 13 => ("ShameAnglesModel", "fogs", "[I", true)
  | 14 => ("ShameAnglesModel", "seenOnes", "[I", true)
  | 15 => ("ShameAnglesModel", "noted", "[I", true)
  | 16 => ("ShameAnglesModel", "marked", "[I", true)
  | 17 => ("ShameAnglesModel", "text", "[I", true)
  | 18 => ("ShameAnglesModel", "typed", "I", false)
  | 19 => ("ShameAnglesModel", "readAt", "I", false)
  | 20 => ("ShameAnglesModel", "readNumber", "I", false)
  | 21 => ("ShameAnglesModel", "before", "[I", true)
  | 22 => ("ShameAnglesModel", "ahead", "[I", true)
  | 23 => ("ShameAnglesModel", "undoMany", "I", false)
  | 24 => ("ShameAnglesModel", "aside", "[I", true)
  | 25 => ("ShameAnglesModel", "above", "J", false)
  | 26 => ("ShameAnglesModel", "below", "J", false)
  | 27 => ("ShameAnglesModel", "images", "[I", true)
  | 28 => ("ShameAnglesModel", "isKept", "[I", true)
  | _ => ("ShameAnglesModel", "h0", "J", false)
def yC10 : Nat → FieldType := fun k => match k with
  | 0 => .array .int
  | 1 => .int
  | 2 => .int
  | 3 => .int
  | 4 => .int
  | 5 => .int
  | 6 => .int
  | 7 => .int
  | 8 => .int
  | 9 => .int
  | 10 => .array .int
  | 11 => .array .int
  | 12 => .array .int
  | 13 => .array .int
  | 14 => .array .int
  | 15 => .array .int
  | 16 => .array .int
  | 17 => .array .int
  | 18 => .int
  | 19 => .int
  | 20 => .int
  | 21 => .array .int
  | 22 => .array .int
  | 23 => .int
  | 24 => .array .int
  | 25 => .long
  | 26 => .long
  | 27 => .array .int
  | 28 => .array .int
  | _ => .long
def classes : List vw_C := [(RC0, TC0, 12), (RC1, TC1, 5), (RC2, TC2, 10), (RC3, TC3, 3), (RC4, TC4, 2), (RC5, TC5, 6), (RC6, TC6, 2), (RC7, TC7, 4), (RC8, TC8, 1), (RC9, TC9, 2), (RC10, TC10, 30)]
/-- a field by its place in the pool of a method's owner -/
def FL (own : String) (idx c k : Nat) : Prop := ∃ q : vw_C, classes[c]? = some q ∧ k < q.2.2 ∧ Cond.fieldLink own idx (q.2.1 k).1 (q.2.1 k).2.1 (q.2.1 k).2.2.1 ∈ bg
/-- what is known of a kind of objects -/
def CK (c : Nat) (q : vw_C) (ty : Nat → FieldType) : Prop := classes[c]? = some q ∧ (∀ w ∈ u_ws q.1 q.2.1 q.2.2, w ∈ bg) ∧ (∀ k, k < q.2.2 → parseFieldDescriptor (q.2.1 k).2.2.1 = some (ty k)) ∧ (∀ a, a < q.2.2 → ∀ b, b < q.2.2 → a ≠ b → (q.2.1 a).2.1 ≠ (q.2.1 b).2.1) ∧ Cond.instantiable q.1 q.2.2 ∈ bg ∧ Cond.initialized q.1 ∈ bg
/-- a method: name, bytes, locals, return, number of parameters -/
abbrev Gm : Type := MethodName × ByteArray × Nat × Option FieldType × Nat
def MK (Γ : Gm) : Prop := Cond.code Γ.1 Γ.2.1 Γ.2.2.1 Γ.2.2.2.1 ∈ bg ∧ Cond.initialized Γ.1.cls ∈ bg ∧ plainFor Γ.1 = true ∧ (Γ.1.cls ≠ "java/lang/invoke/MethodHandle" ∧ Γ.1.cls ≠ "java/lang/invoke/VarHandle") ∧ (parseMethodDescriptor Γ.1.desc).map (fun d => d.parameters.length) = some Γ.2.2.2.2 ∧ Γ.2.2.1 + 19 ≤ 64
def VC (own : String) (idx : Nat) (Γ : Gm) : Prop := Cond.methodLink own idx Γ.1 ∈ bg ∧ Cond.instanceMethod Γ.1 ∈ bg ∧ Cond.selects Γ.1.cls Γ.1 Γ.1 ∈ bg
def SC (own : String) (idx : Nat) (Γ : Gm) : Prop := Cond.methodLink own idx Γ.1 ∈ bg ∧ Cond.static Γ.1 ∈ bg
def IC (own : String) (idx : Nat) (Γ : Gm) : Prop := Cond.methodLink own idx Γ.1 ∈ bg ∧ Cond.instanceMethod Γ.1 ∈ bg ∧ Γ.1.name = "<init>" ∧ Γ.2.2.2.1 = none
def nest_w : List (String × Nat × MethodName) := [("ShameAngles$State", 9, ⟨"ShameAngles$Ship", "<init>", "()V"⟩), ("ShameAngles$State", 33, ⟨"ShameAngles$Past", "<init>", "()V"⟩), ("ShameAngles", 26, ⟨"ShameAngles$Ship", "<init>", "()V"⟩), ("ShameAngles", 33, ⟨"ShameAngles$Script", "<init>", "()V"⟩), ("ShameAngles$Route", 21, ⟨"ShameAngles$Ship", "<init>", "()V"⟩), ("ShameAngles", 47, ⟨"ShameAngles$Watches", "<init>", "()V"⟩), ("ShameAngles", 54, ⟨"ShameAngles$Guesses", "<init>", "()V"⟩), ("ShameAngles", 61, ⟨"ShameAngles$Chance", "<init>", "()V"⟩)]
def INC (own : String) (idx : Nat) (Γ : Gm) : Prop := (own, idx, Γ.1) ∈ nest_w ∧ Cond.instanceMethod Γ.1 ∈ bg ∧ Γ.1.name = "<init>" ∧ Γ.2.2.2.1 = none
theorem ckw_0 : ∀ w ∈ [u_lay RC0 TC0 0, u_lay RC0 TC0 1, u_lay RC0 TC0 2, u_lay RC0 TC0 3, u_lay RC0 TC0 4, u_lay RC0 TC0 5, u_lay RC0 TC0 6, u_lay RC0 TC0 7, u_lay RC0 TC0 8, u_lay RC0 TC0 9, u_lay RC0 TC0 10, u_lay RC0 TC0 11], w ∈ bg := List.forall_mem_cons.mpr ⟨bg_m2 (List.mem_of_getElem? (i := 19) (by decide +kernel)) (by decide +kernel), List.forall_mem_cons.mpr ⟨bg_m2 (List.mem_of_getElem? (i := 21) (by decide +kernel)) (by decide +kernel), List.forall_mem_cons.mpr ⟨bg_m2 (List.mem_of_getElem? (i := 23) (by decide +kernel)) (by decide +kernel), List.forall_mem_cons.mpr ⟨bg_m2 (List.mem_of_getElem? (i := 25) (by decide +kernel)) (by decide +kernel), List.forall_mem_cons.mpr ⟨bg_m2 (List.mem_of_getElem? (i := 27) (by decide +kernel)) (by decide +kernel), List.forall_mem_cons.mpr ⟨bg_m2 (List.mem_of_getElem? (i := 29) (by decide +kernel)) (by decide +kernel), List.forall_mem_cons.mpr ⟨bg_m2 (List.mem_of_getElem? (i := 31) (by decide +kernel)) (by decide +kernel), List.forall_mem_cons.mpr ⟨bg_m2 (List.mem_of_getElem? (i := 33) (by decide +kernel)) (by decide +kernel), List.forall_mem_cons.mpr ⟨bg_m2 (List.mem_of_getElem? (i := 35) (by decide +kernel)) (by decide +kernel), List.forall_mem_cons.mpr ⟨bg_m2 (List.mem_of_getElem? (i := 37) (by decide +kernel)) (by decide +kernel), List.forall_mem_cons.mpr ⟨bg_m2 (List.mem_of_getElem? (i := 39) (by decide +kernel)) (by decide +kernel), List.forall_mem_cons.mpr ⟨bg_m2 (List.mem_of_getElem? (i := 41) (by decide +kernel)) (by decide +kernel), fun _ h => absurd h List.not_mem_nil⟩⟩⟩⟩⟩⟩⟩⟩⟩⟩⟩⟩
theorem ck_0 : CK 0 (RC0, TC0, 12) yC0 := ⟨rfl, ckw_0, by decide +kernel, by decide +kernel, bg_m1 (List.mem_of_getElem? (i := 22) (by decide +kernel)) (by decide +kernel), bg_m1 (List.mem_of_getElem? (i := 1) (by decide +kernel)) (by decide +kernel)⟩
theorem ckw_1 : ∀ w ∈ [u_lay RC1 TC1 0, u_lay RC1 TC1 1, u_lay RC1 TC1 2, u_lay RC1 TC1 3, u_lay RC1 TC1 4], w ∈ bg := List.forall_mem_cons.mpr ⟨bg_m1 (List.mem_of_getElem? (i := 144) (by decide +kernel)) (by decide +kernel), List.forall_mem_cons.mpr ⟨bg_m1 (List.mem_of_getElem? (i := 146) (by decide +kernel)) (by decide +kernel), List.forall_mem_cons.mpr ⟨bg_m1 (List.mem_of_getElem? (i := 148) (by decide +kernel)) (by decide +kernel), List.forall_mem_cons.mpr ⟨bg_m1 (List.mem_of_getElem? (i := 150) (by decide +kernel)) (by decide +kernel), List.forall_mem_cons.mpr ⟨bg_m1 (List.mem_of_getElem? (i := 152) (by decide +kernel)) (by decide +kernel), fun _ h => absurd h List.not_mem_nil⟩⟩⟩⟩⟩
theorem ck_1 : CK 1 (RC1, TC1, 5) yC1 := ⟨rfl, ckw_1, by decide +kernel, by decide +kernel, bg_m1 (List.mem_of_getElem? (i := 30) (by decide +kernel)) (by decide +kernel), bg_m1 (List.mem_of_getElem? (i := 2) (by decide +kernel)) (by decide +kernel)⟩
theorem ckw_2 : ∀ w ∈ [u_lay RC2 TC2 0, u_lay RC2 TC2 1, u_lay RC2 TC2 2, u_lay RC2 TC2 3, u_lay RC2 TC2 4, u_lay RC2 TC2 5, u_lay RC2 TC2 6, u_lay RC2 TC2 7, u_lay RC2 TC2 8, u_lay RC2 TC2 9], w ∈ bg := List.forall_mem_cons.mpr ⟨bg_m1 (List.mem_of_getElem? (i := 76) (by decide +kernel)) (by decide +kernel), List.forall_mem_cons.mpr ⟨bg_m1 (List.mem_of_getElem? (i := 78) (by decide +kernel)) (by decide +kernel), List.forall_mem_cons.mpr ⟨bg_m1 (List.mem_of_getElem? (i := 80) (by decide +kernel)) (by decide +kernel), List.forall_mem_cons.mpr ⟨bg_m1 (List.mem_of_getElem? (i := 82) (by decide +kernel)) (by decide +kernel), List.forall_mem_cons.mpr ⟨bg_m1 (List.mem_of_getElem? (i := 84) (by decide +kernel)) (by decide +kernel), List.forall_mem_cons.mpr ⟨bg_m1 (List.mem_of_getElem? (i := 86) (by decide +kernel)) (by decide +kernel), List.forall_mem_cons.mpr ⟨bg_m1 (List.mem_of_getElem? (i := 88) (by decide +kernel)) (by decide +kernel), List.forall_mem_cons.mpr ⟨bg_m1 (List.mem_of_getElem? (i := 90) (by decide +kernel)) (by decide +kernel), List.forall_mem_cons.mpr ⟨bg_m1 (List.mem_of_getElem? (i := 92) (by decide +kernel)) (by decide +kernel), List.forall_mem_cons.mpr ⟨bg_m1 (List.mem_of_getElem? (i := 94) (by decide +kernel)) (by decide +kernel), fun _ h => absurd h List.not_mem_nil⟩⟩⟩⟩⟩⟩⟩⟩⟩⟩
theorem ck_2 : CK 2 (RC2, TC2, 10) yC2 := ⟨rfl, ckw_2, by decide +kernel, by decide +kernel, bg_m1 (List.mem_of_getElem? (i := 36) (by decide +kernel)) (by decide +kernel), bg_m1 (List.mem_of_getElem? (i := 3) (by decide +kernel)) (by decide +kernel)⟩
theorem ckw_3 : ∀ w ∈ [u_lay RC3 TC3 0, u_lay RC3 TC3 1, u_lay RC3 TC3 2], w ∈ bg := List.forall_mem_cons.mpr ⟨bg_m1 (List.mem_of_getElem? (i := 110) (by decide +kernel)) (by decide +kernel), List.forall_mem_cons.mpr ⟨bg_m1 (List.mem_of_getElem? (i := 112) (by decide +kernel)) (by decide +kernel), List.forall_mem_cons.mpr ⟨bg_m1 (List.mem_of_getElem? (i := 114) (by decide +kernel)) (by decide +kernel), fun _ h => absurd h List.not_mem_nil⟩⟩⟩
theorem ck_3 : CK 3 (RC3, TC3, 3) yC3 := ⟨rfl, ckw_3, by decide +kernel, by decide +kernel, bg_m1 (List.mem_of_getElem? (i := 99) (by decide +kernel)) (by decide +kernel), bg_m1 (List.mem_of_getElem? (i := 4) (by decide +kernel)) (by decide +kernel)⟩
theorem ckw_4 : ∀ w ∈ [u_lay RC4 TC4 0, u_lay RC4 TC4 1], w ∈ bg := List.forall_mem_cons.mpr ⟨bg_m1 (List.mem_of_getElem? (i := 127) (by decide +kernel)) (by decide +kernel), List.forall_mem_cons.mpr ⟨bg_m1 (List.mem_of_getElem? (i := 129) (by decide +kernel)) (by decide +kernel), fun _ h => absurd h List.not_mem_nil⟩⟩
theorem ck_4 : CK 4 (RC4, TC4, 2) yC4 := ⟨rfl, ckw_4, by decide +kernel, by decide +kernel, bg_m1 (List.mem_of_getElem? (i := 118) (by decide +kernel)) (by decide +kernel), bg_m1 (List.mem_of_getElem? (i := 5) (by decide +kernel)) (by decide +kernel)⟩
theorem ckw_5 : ∀ w ∈ [u_lay RC5 TC5 0, u_lay RC5 TC5 1, u_lay RC5 TC5 2, u_lay RC5 TC5 3, u_lay RC5 TC5 4, u_lay RC5 TC5 5], w ∈ bg := List.forall_mem_cons.mpr ⟨bg_m1 (List.mem_of_getElem? (i := 171) (by decide +kernel)) (by decide +kernel), List.forall_mem_cons.mpr ⟨bg_m1 (List.mem_of_getElem? (i := 173) (by decide +kernel)) (by decide +kernel), List.forall_mem_cons.mpr ⟨bg_m1 (List.mem_of_getElem? (i := 175) (by decide +kernel)) (by decide +kernel), List.forall_mem_cons.mpr ⟨bg_m1 (List.mem_of_getElem? (i := 177) (by decide +kernel)) (by decide +kernel), List.forall_mem_cons.mpr ⟨bg_m1 (List.mem_of_getElem? (i := 179) (by decide +kernel)) (by decide +kernel), List.forall_mem_cons.mpr ⟨bg_m1 (List.mem_of_getElem? (i := 181) (by decide +kernel)) (by decide +kernel), fun _ h => absurd h List.not_mem_nil⟩⟩⟩⟩⟩⟩
theorem ck_5 : CK 5 (RC5, TC5, 6) yC5 := ⟨rfl, ckw_5, by decide +kernel, by decide +kernel, bg_m1 (List.mem_of_getElem? (i := 159) (by decide +kernel)) (by decide +kernel), bg_m1 (List.mem_of_getElem? (i := 6) (by decide +kernel)) (by decide +kernel)⟩
theorem ckw_6 : ∀ w ∈ [u_lay RC6 TC6 0, u_lay RC6 TC6 1], w ∈ bg := List.forall_mem_cons.mpr ⟨bg_m1 (List.mem_of_getElem? (i := 197) (by decide +kernel)) (by decide +kernel), List.forall_mem_cons.mpr ⟨bg_m1 (List.mem_of_getElem? (i := 199) (by decide +kernel)) (by decide +kernel), fun _ h => absurd h List.not_mem_nil⟩⟩
theorem ck_6 : CK 6 (RC6, TC6, 2) yC6 := ⟨rfl, ckw_6, by decide +kernel, by decide +kernel, bg_m1 (List.mem_of_getElem? (i := 186) (by decide +kernel)) (by decide +kernel), bg_m1 (List.mem_of_getElem? (i := 7) (by decide +kernel)) (by decide +kernel)⟩
theorem ckw_7 : ∀ w ∈ [u_lay RC7 TC7 0, u_lay RC7 TC7 1, u_lay RC7 TC7 2, u_lay RC7 TC7 3], w ∈ bg := List.forall_mem_cons.mpr ⟨bg_m1 (List.mem_of_getElem? (i := 213) (by decide +kernel)) (by decide +kernel), List.forall_mem_cons.mpr ⟨bg_m1 (List.mem_of_getElem? (i := 215) (by decide +kernel)) (by decide +kernel), List.forall_mem_cons.mpr ⟨bg_m1 (List.mem_of_getElem? (i := 217) (by decide +kernel)) (by decide +kernel), List.forall_mem_cons.mpr ⟨bg_m1 (List.mem_of_getElem? (i := 219) (by decide +kernel)) (by decide +kernel), fun _ h => absurd h List.not_mem_nil⟩⟩⟩⟩
theorem ck_7 : CK 7 (RC7, TC7, 4) yC7 := ⟨rfl, ckw_7, by decide +kernel, by decide +kernel, bg_m1 (List.mem_of_getElem? (i := 203) (by decide +kernel)) (by decide +kernel), bg_m1 (List.mem_of_getElem? (i := 8) (by decide +kernel)) (by decide +kernel)⟩
theorem ckw_8 : ∀ w ∈ [u_lay RC8 TC8 0], w ∈ bg := List.forall_mem_cons.mpr ⟨bg_m1 (List.mem_of_getElem? (i := 229) (by decide +kernel)) (by decide +kernel), fun _ h => absurd h List.not_mem_nil⟩
theorem ck_8 : CK 8 (RC8, TC8, 1) yC8 := ⟨rfl, ckw_8, by decide +kernel, by decide +kernel, bg_m1 (List.mem_of_getElem? (i := 223) (by decide +kernel)) (by decide +kernel), bg_m1 (List.mem_of_getElem? (i := 9) (by decide +kernel)) (by decide +kernel)⟩
theorem ckw_9 : ∀ w ∈ [u_lay RC9 TC9 0, u_lay RC9 TC9 1], w ∈ bg := List.forall_mem_cons.mpr ⟨bg_m2 (List.mem_of_getElem? (i := 2) (by decide +kernel)) (by decide +kernel), List.forall_mem_cons.mpr ⟨bg_m2 (List.mem_of_getElem? (i := 4) (by decide +kernel)) (by decide +kernel), fun _ h => absurd h List.not_mem_nil⟩⟩
theorem ck_9 : CK 9 (RC9, TC9, 2) yC9 := ⟨rfl, ckw_9, by decide +kernel, by decide +kernel, bg_m1 (List.mem_of_getElem? (i := 233) (by decide +kernel)) (by decide +kernel), bg_m1 (List.mem_of_getElem? (i := 10) (by decide +kernel)) (by decide +kernel)⟩
theorem ckw_10 : ∀ w ∈ [u_lay RC10 TC10 0, u_lay RC10 TC10 1, u_lay RC10 TC10 2, u_lay RC10 TC10 3, u_lay RC10 TC10 4, u_lay RC10 TC10 5, u_lay RC10 TC10 6, u_lay RC10 TC10 7, u_lay RC10 TC10 8, u_lay RC10 TC10 9, u_lay RC10 TC10 10, u_lay RC10 TC10 11, u_lay RC10 TC10 12, u_lay RC10 TC10 13, u_lay RC10 TC10 14, u_lay RC10 TC10 15, u_lay RC10 TC10 16, u_lay RC10 TC10 17, u_lay RC10 TC10 18, u_lay RC10 TC10 19, u_lay RC10 TC10 20, u_lay RC10 TC10 21, u_lay RC10 TC10 22, u_lay RC10 TC10 23, u_lay RC10 TC10 24, u_lay RC10 TC10 25, u_lay RC10 TC10 26, u_lay RC10 TC10 27, u_lay RC10 TC10 28, u_lay RC10 TC10 29], w ∈ bg := List.forall_mem_cons.mpr ⟨bg_m4 (List.mem_of_getElem? (i := 189) (by decide +kernel)) (by decide +kernel), List.forall_mem_cons.mpr ⟨bg_m4 (List.mem_of_getElem? (i := 191) (by decide +kernel)) (by decide +kernel), List.forall_mem_cons.mpr ⟨bg_m4 (List.mem_of_getElem? (i := 193) (by decide +kernel)) (by decide +kernel), List.forall_mem_cons.mpr ⟨bg_m4 (List.mem_of_getElem? (i := 195) (by decide +kernel)) (by decide +kernel), List.forall_mem_cons.mpr ⟨bg_m4 (List.mem_of_getElem? (i := 197) (by decide +kernel)) (by decide +kernel), List.forall_mem_cons.mpr ⟨bg_m4 (List.mem_of_getElem? (i := 199) (by decide +kernel)) (by decide +kernel), List.forall_mem_cons.mpr ⟨bg_m4 (List.mem_of_getElem? (i := 201) (by decide +kernel)) (by decide +kernel), List.forall_mem_cons.mpr ⟨bg_m4 (List.mem_of_getElem? (i := 203) (by decide +kernel)) (by decide +kernel), List.forall_mem_cons.mpr ⟨bg_m4 (List.mem_of_getElem? (i := 205) (by decide +kernel)) (by decide +kernel), List.forall_mem_cons.mpr ⟨bg_m4 (List.mem_of_getElem? (i := 207) (by decide +kernel)) (by decide +kernel), List.forall_mem_cons.mpr ⟨bg_m4 (List.mem_of_getElem? (i := 209) (by decide +kernel)) (by decide +kernel), List.forall_mem_cons.mpr ⟨bg_m4 (List.mem_of_getElem? (i := 211) (by decide +kernel)) (by decide +kernel), List.forall_mem_cons.mpr ⟨bg_m4 (List.mem_of_getElem? (i := 213) (by decide +kernel)) (by decide +kernel), List.forall_mem_cons.mpr ⟨bg_m4 (List.mem_of_getElem? (i := 215) (by decide +kernel)) (by decide +kernel), List.forall_mem_cons.mpr ⟨bg_m4 (List.mem_of_getElem? (i := 217) (by decide +kernel)) (by decide +kernel), List.forall_mem_cons.mpr ⟨bg_m4 (List.mem_of_getElem? (i := 219) (by decide +kernel)) (by decide +kernel), List.forall_mem_cons.mpr ⟨bg_m4 (List.mem_of_getElem? (i := 221) (by decide +kernel)) (by decide +kernel), List.forall_mem_cons.mpr ⟨bg_m4 (List.mem_of_getElem? (i := 223) (by decide +kernel)) (by decide +kernel), List.forall_mem_cons.mpr ⟨bg_m4 (List.mem_of_getElem? (i := 225) (by decide +kernel)) (by decide +kernel), List.forall_mem_cons.mpr ⟨bg_m4 (List.mem_of_getElem? (i := 227) (by decide +kernel)) (by decide +kernel), List.forall_mem_cons.mpr ⟨bg_m4 (List.mem_of_getElem? (i := 229) (by decide +kernel)) (by decide +kernel), List.forall_mem_cons.mpr ⟨bg_m4 (List.mem_of_getElem? (i := 231) (by decide +kernel)) (by decide +kernel), List.forall_mem_cons.mpr ⟨bg_m4 (List.mem_of_getElem? (i := 233) (by decide +kernel)) (by decide +kernel), List.forall_mem_cons.mpr ⟨bg_m4 (List.mem_of_getElem? (i := 235) (by decide +kernel)) (by decide +kernel), List.forall_mem_cons.mpr ⟨bg_m4 (List.mem_of_getElem? (i := 237) (by decide +kernel)) (by decide +kernel), List.forall_mem_cons.mpr ⟨bg_m4 (List.mem_of_getElem? (i := 239) (by decide +kernel)) (by decide +kernel), List.forall_mem_cons.mpr ⟨bg_m5 (List.mem_of_getElem? (i := 1) (by decide +kernel)) (by decide +kernel), List.forall_mem_cons.mpr ⟨bg_m5 (List.mem_of_getElem? (i := 3) (by decide +kernel)) (by decide +kernel), List.forall_mem_cons.mpr ⟨bg_m5 (List.mem_of_getElem? (i := 5) (by decide +kernel)) (by decide +kernel), List.forall_mem_cons.mpr ⟨bg_m5 (List.mem_of_getElem? (i := 7) (by decide +kernel)) (by decide +kernel), fun _ h => absurd h List.not_mem_nil⟩⟩⟩⟩⟩⟩⟩⟩⟩⟩⟩⟩⟩⟩⟩⟩⟩⟩⟩⟩⟩⟩⟩⟩⟩⟩⟩⟩⟩⟩
theorem ck_10 : CK 10 (RC10, TC10, 30) yC10 := ⟨rfl, ckw_10, by decide +kernel, by decide +kernel, bg_m4 (List.mem_of_getElem? (i := 150) (by decide +kernel)) (by decide +kernel), bg_m1 (List.mem_of_getElem? (i := 11) (by decide +kernel)) (by decide +kernel)⟩
def G_A_init : Gm := (⟨"ShameAngles", "<init>", "()V"⟩, prog_1_method_1_code, 2, none, 0)
theorem mk_A_init : MK G_A_init := ⟨bg_m1 (List.mem_of_getElem? (i := 25) (by decide +kernel)) (by decide +kernel), bg_m1 (List.mem_of_getElem? (i := 1) (by decide +kernel)) (by decide +kernel), by decide +kernel, ⟨by decide +kernel, by decide +kernel⟩, by decide +kernel, by decide⟩
def G_S_init : Gm := (⟨"ShameAngles$State", "<init>", "()V"⟩, prog_11_method_1_code, 1, none, 0)
theorem mk_S_init : MK G_S_init := ⟨bg_m1 (List.mem_of_getElem? (i := 33) (by decide +kernel)) (by decide +kernel), bg_m1 (List.mem_of_getElem? (i := 2) (by decide +kernel)) (by decide +kernel), by decide +kernel, ⟨by decide +kernel, by decide +kernel⟩, by decide +kernel, by decide⟩
def G_H_init : Gm := (⟨"ShameAngles$Ship", "<init>", "()V"⟩, prog_10_method_1_code, 1, none, 0)
theorem mk_H_init : MK G_H_init := ⟨bg_m1 (List.mem_of_getElem? (i := 39) (by decide +kernel)) (by decide +kernel), bg_m1 (List.mem_of_getElem? (i := 3) (by decide +kernel)) (by decide +kernel), by decide +kernel, ⟨by decide +kernel, by decide +kernel⟩, by decide +kernel, by decide⟩
def G_R_init : Gm := (⟨"ShameAngles$Rows", "<init>", "(I)V"⟩, prog_8_method_1_code, 2, none, 1)
theorem mk_R_init : MK G_R_init := ⟨bg_m1 (List.mem_of_getElem? (i := 102) (by decide +kernel)) (by decide +kernel), bg_m1 (List.mem_of_getElem? (i := 4) (by decide +kernel)) (by decide +kernel), by decide +kernel, ⟨by decide +kernel, by decide +kernel⟩, by decide +kernel, by decide⟩
def G_P_init : Gm := (⟨"ShameAngles$Past", "<init>", "()V"⟩, prog_6_method_1_code, 1, none, 0)
theorem mk_P_init : MK G_P_init := ⟨bg_m1 (List.mem_of_getElem? (i := 121) (by decide +kernel)) (by decide +kernel), bg_m1 (List.mem_of_getElem? (i := 5) (by decide +kernel)) (by decide +kernel), by decide +kernel, ⟨by decide +kernel, by decide +kernel⟩, by decide +kernel, by decide⟩
def G_T_init : Gm := (⟨"ShameAngles$Script", "<init>", "()V"⟩, prog_9_method_1_code, 1, none, 0)
theorem mk_T_init : MK G_T_init := ⟨bg_m1 (List.mem_of_getElem? (i := 162) (by decide +kernel)) (by decide +kernel), bg_m1 (List.mem_of_getElem? (i := 6) (by decide +kernel)) (by decide +kernel), by decide +kernel, ⟨by decide +kernel, by decide +kernel⟩, by decide +kernel, by decide⟩
def G_O_init : Gm := (⟨"ShameAngles$Route", "<init>", "()V"⟩, prog_7_method_1_code, 2, none, 0)
theorem mk_O_init : MK G_O_init := ⟨bg_m1 (List.mem_of_getElem? (i := 189) (by decide +kernel)) (by decide +kernel), bg_m1 (List.mem_of_getElem? (i := 7) (by decide +kernel)) (by decide +kernel), by decide +kernel, ⟨by decide +kernel, by decide +kernel⟩, by decide +kernel, by decide⟩
def G_W_init : Gm := (⟨"ShameAngles$Watches", "<init>", "()V"⟩, prog_12_method_1_code, 1, none, 0)
theorem mk_W_init : MK G_W_init := ⟨bg_m1 (List.mem_of_getElem? (i := 206) (by decide +kernel)) (by decide +kernel), bg_m1 (List.mem_of_getElem? (i := 8) (by decide +kernel)) (by decide +kernel), by decide +kernel, ⟨by decide +kernel, by decide +kernel⟩, by decide +kernel, by decide⟩
def G_G_init : Gm := (⟨"ShameAngles$Guesses", "<init>", "()V"⟩, prog_4_method_1_code, 1, none, 0)
theorem mk_G_init : MK G_G_init := ⟨bg_m1 (List.mem_of_getElem? (i := 226) (by decide +kernel)) (by decide +kernel), bg_m1 (List.mem_of_getElem? (i := 9) (by decide +kernel)) (by decide +kernel), by decide +kernel, ⟨by decide +kernel, by decide +kernel⟩, by decide +kernel, by decide⟩
def G_C_init : Gm := (⟨"ShameAngles$Chance", "<init>", "()V"⟩, prog_2_method_1_code, 1, none, 0)
theorem mk_C_init : MK G_C_init := ⟨bg_m1 (List.mem_of_getElem? (i := 236) (by decide +kernel)) (by decide +kernel), bg_m1 (List.mem_of_getElem? (i := 10) (by decide +kernel)) (by decide +kernel), by decide +kernel, ⟨by decide +kernel, by decide +kernel⟩, by decide +kernel, by decide⟩
def G_A_ship : Gm := (⟨"ShameAngles", "ship", "(I)I"⟩, prog_1_method_2_code, 3, some .int, 1)
theorem mk_A_ship : MK G_A_ship := ⟨bg_m2 (List.mem_of_getElem? (i := 47) (by decide +kernel)) (by decide +kernel), bg_m1 (List.mem_of_getElem? (i := 1) (by decide +kernel)) (by decide +kernel), by decide +kernel, ⟨by decide +kernel, by decide +kernel⟩, by decide +kernel, by decide⟩
def G_A_within : Gm := (⟨"ShameAngles", "within", "(III)Z"⟩, prog_1_method_43_code, 3, some .boolean, 3)
theorem mk_A_within : MK G_A_within := ⟨bg_m2 (List.mem_of_getElem? (i := 50) (by decide +kernel)) (by decide +kernel), bg_m1 (List.mem_of_getElem? (i := 1) (by decide +kernel)) (by decide +kernel), by decide +kernel, ⟨by decide +kernel, by decide +kernel⟩, by decide +kernel, by decide⟩
def G_A_bad : Gm := (⟨"ShameAngles", "bad", "(I)I"⟩, prog_1_method_44_code, 2, some .int, 1)
theorem mk_A_bad : MK G_A_bad := ⟨bg_m2 (List.mem_of_getElem? (i := 54) (by decide +kernel)) (by decide +kernel), bg_m1 (List.mem_of_getElem? (i := 1) (by decide +kernel)) (by decide +kernel), by decide +kernel, ⟨by decide +kernel, by decide +kernel⟩, by decide +kernel, by decide⟩
def G_S_begin : Gm := (⟨"ShameAngles$State", "begin", "(I)V"⟩, prog_11_method_2_code, 2, none, 1)
theorem mk_S_begin : MK G_S_begin := ⟨bg_m2 (List.mem_of_getElem? (i := 58) (by decide +kernel)) (by decide +kernel), bg_m1 (List.mem_of_getElem? (i := 2) (by decide +kernel)) (by decide +kernel), by decide +kernel, ⟨by decide +kernel, by decide +kernel⟩, by decide +kernel, by decide⟩
def G_H_begin : Gm := (⟨"ShameAngles$Ship", "begin", "(I)V"⟩, prog_10_method_2_code, 3, none, 1)
theorem mk_H_begin : MK G_H_begin := ⟨bg_m2 (List.mem_of_getElem? (i := 62) (by decide +kernel)) (by decide +kernel), bg_m1 (List.mem_of_getElem? (i := 3) (by decide +kernel)) (by decide +kernel), by decide +kernel, ⟨by decide +kernel, by decide +kernel⟩, by decide +kernel, by decide⟩
def G_A_fog : Gm := (⟨"ShameAngles", "fog", "(II)I"⟩, prog_1_method_3_code, 4, some .int, 2)
theorem mk_A_fog : MK G_A_fog := ⟨bg_m2 (List.mem_of_getElem? (i := 66) (by decide +kernel)) (by decide +kernel), bg_m1 (List.mem_of_getElem? (i := 1) (by decide +kernel)) (by decide +kernel), by decide +kernel, ⟨by decide +kernel, by decide +kernel⟩, by decide +kernel, by decide⟩
def G_A_man : Gm := (⟨"ShameAngles", "man", "(II)I"⟩, prog_1_method_4_code, 3, some .int, 2)
theorem mk_A_man : MK G_A_man := ⟨bg_m2 (List.mem_of_getElem? (i := 70) (by decide +kernel)) (by decide +kernel), bg_m1 (List.mem_of_getElem? (i := 1) (by decide +kernel)) (by decide +kernel), by decide +kernel, ⟨by decide +kernel, by decide +kernel⟩, by decide +kernel, by decide⟩
def G_A_full : Gm := (⟨"ShameAngles", "full", "()I"⟩, prog_1_method_46_code, 1, some .int, 0)
theorem mk_A_full : MK G_A_full := ⟨bg_m2 (List.mem_of_getElem? (i := 74) (by decide +kernel)) (by decide +kernel), bg_m1 (List.mem_of_getElem? (i := 1) (by decide +kernel)) (by decide +kernel), by decide +kernel, ⟨by decide +kernel, by decide +kernel⟩, by decide +kernel, by decide⟩
def G_H_addMan : Gm := (⟨"ShameAngles$Ship", "addMan", "(II)I"⟩, prog_10_method_7_code, 3, some .int, 2)
theorem mk_H_addMan : MK G_H_addMan := ⟨bg_m2 (List.mem_of_getElem? (i := 78) (by decide +kernel)) (by decide +kernel), bg_m1 (List.mem_of_getElem? (i := 3) (by decide +kernel)) (by decide +kernel), by decide +kernel, ⟨by decide +kernel, by decide +kernel⟩, by decide +kernel, by decide⟩
def G_A_reader : Gm := (⟨"ShameAngles", "reader", "(I)I"⟩, prog_1_method_5_code, 2, some .int, 1)
theorem mk_A_reader : MK G_A_reader := ⟨bg_m2 (List.mem_of_getElem? (i := 82) (by decide +kernel)) (by decide +kernel), bg_m1 (List.mem_of_getElem? (i := 1) (by decide +kernel)) (by decide +kernel), by decide +kernel, ⟨by decide +kernel, by decide +kernel⟩, by decide +kernel, by decide⟩
def G_H_addReader : Gm := (⟨"ShameAngles$Ship", "addReader", "(I)I"⟩, prog_10_method_8_code, 2, some .int, 1)
theorem mk_H_addReader : MK G_H_addReader := ⟨bg_m2 (List.mem_of_getElem? (i := 86) (by decide +kernel)) (by decide +kernel), bg_m1 (List.mem_of_getElem? (i := 3) (by decide +kernel)) (by decide +kernel), by decide +kernel, ⟨by decide +kernel, by decide +kernel⟩, by decide +kernel, by decide⟩
def G_A_type : Gm := (⟨"ShameAngles", "type", "(I)I"⟩, prog_1_method_6_code, 2, some .int, 1)
theorem mk_A_type : MK G_A_type := ⟨bg_m2 (List.mem_of_getElem? (i := 90) (by decide +kernel)) (by decide +kernel), bg_m1 (List.mem_of_getElem? (i := 1) (by decide +kernel)) (by decide +kernel), by decide +kernel, ⟨by decide +kernel, by decide +kernel⟩, by decide +kernel, by decide⟩
def G_T_add : Gm := (⟨"ShameAngles$Script", "add", "(I)I"⟩, prog_9_method_2_code, 2, some .int, 1)
theorem mk_T_add : MK G_T_add := ⟨bg_m2 (List.mem_of_getElem? (i := 94) (by decide +kernel)) (by decide +kernel), bg_m1 (List.mem_of_getElem? (i := 6) (by decide +kernel)) (by decide +kernel), by decide +kernel, ⟨by decide +kernel, by decide +kernel⟩, by decide +kernel, by decide⟩
def G_A_clear : Gm := (⟨"ShameAngles", "clear", "()I"⟩, prog_1_method_7_code, 2, some .int, 0)
theorem mk_A_clear : MK G_A_clear := ⟨bg_m2 (List.mem_of_getElem? (i := 98) (by decide +kernel)) (by decide +kernel), bg_m1 (List.mem_of_getElem? (i := 1) (by decide +kernel)) (by decide +kernel), by decide +kernel, ⟨by decide +kernel, by decide +kernel⟩, by decide +kernel, by decide⟩
def G_A_read : Gm := (⟨"ShameAngles", "read", "()I"⟩, prog_1_method_8_code, 2, some .int, 0)
theorem mk_A_read : MK G_A_read := ⟨bg_m2 (List.mem_of_getElem? (i := 102) (by decide +kernel)) (by decide +kernel), bg_m1 (List.mem_of_getElem? (i := 1) (by decide +kernel)) (by decide +kernel), by decide +kernel, ⟨by decide +kernel, by decide +kernel⟩, by decide +kernel, by decide⟩
def G_T_tell : Gm := (⟨"ShameAngles$Script", "tell", "(LShameAngles$Ship;)I"⟩, prog_9_method_3_code, 3, some .int, 1)
theorem mk_T_tell : MK G_T_tell := ⟨bg_m2 (List.mem_of_getElem? (i := 106) (by decide +kernel)) (by decide +kernel), bg_m1 (List.mem_of_getElem? (i := 6) (by decide +kernel)) (by decide +kernel), by decide +kernel, ⟨by decide +kernel, by decide +kernel⟩, by decide +kernel, by decide⟩
def G_T_advance : Gm := (⟨"ShameAngles$Script", "advance", "()V"⟩, prog_9_method_14_code, 1, none, 0)
theorem mk_T_advance : MK G_T_advance := ⟨bg_m2 (List.mem_of_getElem? (i := 110) (by decide +kernel)) (by decide +kernel), bg_m1 (List.mem_of_getElem? (i := 6) (by decide +kernel)) (by decide +kernel), by decide +kernel, ⟨by decide +kernel, by decide +kernel⟩, by decide +kernel, by decide⟩
def G_T_isLetter : Gm := (⟨"ShameAngles$Script", "isLetter", "(I)Z"⟩, prog_9_method_17_code, 1, some .boolean, 1)
theorem mk_T_isLetter : MK G_T_isLetter := ⟨bg_m2 (List.mem_of_getElem? (i := 113) (by decide +kernel)) (by decide +kernel), bg_m1 (List.mem_of_getElem? (i := 6) (by decide +kernel)) (by decide +kernel), by decide +kernel, ⟨by decide +kernel, by decide +kernel⟩, by decide +kernel, by decide⟩
def G_T_advanceWord : Gm := (⟨"ShameAngles$Script", "advanceWord", "()V"⟩, prog_9_method_15_code, 1, none, 0)
theorem mk_T_advanceWord : MK G_T_advanceWord := ⟨bg_m2 (List.mem_of_getElem? (i := 117) (by decide +kernel)) (by decide +kernel), bg_m1 (List.mem_of_getElem? (i := 6) (by decide +kernel)) (by decide +kernel), by decide +kernel, ⟨by decide +kernel, by decide +kernel⟩, by decide +kernel, by decide⟩
def G_T_isFigure : Gm := (⟨"ShameAngles$Script", "isFigure", "(I)Z"⟩, prog_9_method_18_code, 1, some .boolean, 1)
theorem mk_T_isFigure : MK G_T_isFigure := ⟨bg_m2 (List.mem_of_getElem? (i := 120) (by decide +kernel)) (by decide +kernel), bg_m1 (List.mem_of_getElem? (i := 6) (by decide +kernel)) (by decide +kernel), by decide +kernel, ⟨by decide +kernel, by decide +kernel⟩, by decide +kernel, by decide⟩
def G_T_advanceNumber : Gm := (⟨"ShameAngles$Script", "advanceNumber", "()V"⟩, prog_9_method_16_code, 1, none, 0)
theorem mk_T_advanceNumber : MK G_T_advanceNumber := ⟨bg_m2 (List.mem_of_getElem? (i := 124) (by decide +kernel)) (by decide +kernel), bg_m1 (List.mem_of_getElem? (i := 6) (by decide +kernel)) (by decide +kernel), by decide +kernel, ⟨by decide +kernel, by decide +kernel⟩, by decide +kernel, by decide⟩
def G_T_item : Gm := (⟨"ShameAngles$Script", "item", "(LShameAngles$Ship;Z)Z"⟩, prog_9_method_4_code, 4, some .boolean, 2)
theorem mk_T_item : MK G_T_item := ⟨bg_m2 (List.mem_of_getElem? (i := 128) (by decide +kernel)) (by decide +kernel), bg_m1 (List.mem_of_getElem? (i := 6) (by decide +kernel)) (by decide +kernel), by decide +kernel, ⟨by decide +kernel, by decide +kernel⟩, by decide +kernel, by decide⟩
def G_T_wordIs : Gm := (⟨"ShameAngles$Script", "wordIs", "(Ljava/lang/String;)Z"⟩, prog_9_method_13_code, 3, some .boolean, 1)
theorem mk_T_wordIs : MK G_T_wordIs := ⟨bg_m2 (List.mem_of_getElem? (i := 133) (by decide +kernel)) (by decide +kernel), bg_m1 (List.mem_of_getElem? (i := 6) (by decide +kernel)) (by decide +kernel), by decide +kernel, ⟨by decide +kernel, by decide +kernel⟩, by decide +kernel, by decide⟩
def G_J_length : Gm := (⟨"java/lang/String", "length", "()I"⟩, prog_17_method_54_code, 1, some .int, 0)
theorem mk_J_length : MK G_J_length := ⟨bg_m2 (List.mem_of_getElem? (i := 137) (by decide +kernel)) (by decide +kernel), bg_m1 (List.mem_of_getElem? (i := 12) (by decide +kernel)) (by decide +kernel), by decide +kernel, ⟨by decide +kernel, by decide +kernel⟩, by decide +kernel, by decide⟩
def G_J_coder : Gm := (⟨"java/lang/String", "coder", "()B"⟩, prog_17_method_152_code, 1, some .byte, 0)
theorem mk_J_coder : MK G_J_coder := ⟨bg_m2 (List.mem_of_getElem? (i := 141) (by decide +kernel)) (by decide +kernel), bg_m1 (List.mem_of_getElem? (i := 12) (by decide +kernel)) (by decide +kernel), by decide +kernel, ⟨by decide +kernel, by decide +kernel⟩, by decide +kernel, by decide⟩
def G_J_charAt : Gm := (⟨"java/lang/String", "charAt", "(I)C"⟩, prog_17_method_56_code, 2, some .char, 1)
theorem mk_J_charAt : MK G_J_charAt := ⟨bg_m2 (List.mem_of_getElem? (i := 147) (by decide +kernel)) (by decide +kernel), bg_m1 (List.mem_of_getElem? (i := 12) (by decide +kernel)) (by decide +kernel), by decide +kernel, ⟨by decide +kernel, by decide +kernel⟩, by decide +kernel, by decide⟩
def G_J_isLatin1 : Gm := (⟨"java/lang/String", "isLatin1", "()Z"⟩, prog_17_method_154_code, 1, some .boolean, 0)
theorem mk_J_isLatin1 : MK G_J_isLatin1 := ⟨bg_m2 (List.mem_of_getElem? (i := 151) (by decide +kernel)) (by decide +kernel), bg_m1 (List.mem_of_getElem? (i := 12) (by decide +kernel)) (by decide +kernel), by decide +kernel, ⟨by decide +kernel, by decide +kernel⟩, by decide +kernel, by decide⟩
def G_JL_charAt : Gm := (⟨"java/lang/StringLatin1", "charAt", "([BI)C"⟩, prog_18_method_2_code, 2, some .char, 2)
theorem mk_JL_charAt : MK G_JL_charAt := ⟨bg_m2 (List.mem_of_getElem? (i := 154) (by decide +kernel)) (by decide +kernel), bg_m1 (List.mem_of_getElem? (i := 13) (by decide +kernel)) (by decide +kernel), by decide +kernel, ⟨by decide +kernel, by decide +kernel⟩, by decide +kernel, by decide⟩
def G_J_checkIndex : Gm := (⟨"java/lang/String", "checkIndex", "(II)V"⟩, prog_17_method_155_code, 2, none, 2)
theorem mk_J_checkIndex : MK G_J_checkIndex := ⟨bg_m2 (List.mem_of_getElem? (i := 157) (by decide +kernel)) (by decide +kernel), bg_m1 (List.mem_of_getElem? (i := 12) (by decide +kernel)) (by decide +kernel), by decide +kernel, ⟨by decide +kernel, by decide +kernel⟩, by decide +kernel, by decide⟩
def G_JP_checkIndex : Gm := (⟨"jdk/internal/util/Preconditions", "checkIndex", "(IILjava/util/function/BiFunction;)I"⟩, prog_21_method_11_code, 3, some .int, 3)
theorem mk_JP_checkIndex : MK G_JP_checkIndex := ⟨bg_m2 (List.mem_of_getElem? (i := 162) (by decide +kernel)) (by decide +kernel), bg_m1 (List.mem_of_getElem? (i := 14) (by decide +kernel)) (by decide +kernel), by decide +kernel, ⟨by decide +kernel, by decide +kernel⟩, by decide +kernel, by decide⟩
def G_T_shipItem : Gm := (⟨"ShameAngles$Script", "shipItem", "(LShameAngles$Ship;)Z"⟩, prog_9_method_5_code, 3, some .boolean, 1)
theorem mk_T_shipItem : MK G_T_shipItem := ⟨bg_m2 (List.mem_of_getElem? (i := 185) (by decide +kernel)) (by decide +kernel), bg_m1 (List.mem_of_getElem? (i := 6) (by decide +kernel)) (by decide +kernel), by decide +kernel, ⟨by decide +kernel, by decide +kernel⟩, by decide +kernel, by decide⟩
def G_T_number : Gm := (⟨"ShameAngles$Script", "number", "(II)I"⟩, prog_9_method_12_code, 4, some .int, 2)
theorem mk_T_number : MK G_T_number := ⟨bg_m2 (List.mem_of_getElem? (i := 189) (by decide +kernel)) (by decide +kernel), bg_m1 (List.mem_of_getElem? (i := 6) (by decide +kernel)) (by decide +kernel), by decide +kernel, ⟨by decide +kernel, by decide +kernel⟩, by decide +kernel, by decide⟩
def G_T_ended : Gm := (⟨"ShameAngles$Script", "ended", "()Z"⟩, prog_9_method_11_code, 1, some .boolean, 0)
theorem mk_T_ended : MK G_T_ended := ⟨bg_m2 (List.mem_of_getElem? (i := 193) (by decide +kernel)) (by decide +kernel), bg_m1 (List.mem_of_getElem? (i := 6) (by decide +kernel)) (by decide +kernel), by decide +kernel, ⟨by decide +kernel, by decide +kernel⟩, by decide +kernel, by decide⟩
def G_T_fogItem : Gm := (⟨"ShameAngles$Script", "fogItem", "(LShameAngles$Ship;)Z"⟩, prog_9_method_6_code, 4, some .boolean, 1)
theorem mk_T_fogItem : MK G_T_fogItem := ⟨bg_m2 (List.mem_of_getElem? (i := 199) (by decide +kernel)) (by decide +kernel), bg_m1 (List.mem_of_getElem? (i := 6) (by decide +kernel)) (by decide +kernel), by decide +kernel, ⟨by decide +kernel, by decide +kernel⟩, by decide +kernel, by decide⟩
def G_T_manItem : Gm := (⟨"ShameAngles$Script", "manItem", "(LShameAngles$Ship;)Z"⟩, prog_9_method_7_code, 4, some .boolean, 1)
theorem mk_T_manItem : MK G_T_manItem := ⟨bg_m2 (List.mem_of_getElem? (i := 204) (by decide +kernel)) (by decide +kernel), bg_m1 (List.mem_of_getElem? (i := 6) (by decide +kernel)) (by decide +kernel), by decide +kernel, ⟨by decide +kernel, by decide +kernel⟩, by decide +kernel, by decide⟩
def G_T_readerItem : Gm := (⟨"ShameAngles$Script", "readerItem", "(LShameAngles$Ship;)Z"⟩, prog_9_method_8_code, 3, some .boolean, 1)
theorem mk_T_readerItem : MK G_T_readerItem := ⟨bg_m2 (List.mem_of_getElem? (i := 210) (by decide +kernel)) (by decide +kernel), bg_m1 (List.mem_of_getElem? (i := 6) (by decide +kernel)) (by decide +kernel), by decide +kernel, ⟨by decide +kernel, by decide +kernel⟩, by decide +kernel, by decide⟩
def G_T_deedItem : Gm := (⟨"ShameAngles$Script", "deedItem", "(LShameAngles$Ship;)Z"⟩, prog_9_method_9_code, 4, some .boolean, 1)
theorem mk_T_deedItem : MK G_T_deedItem := ⟨bg_m2 (List.mem_of_getElem? (i := 216) (by decide +kernel)) (by decide +kernel), bg_m1 (List.mem_of_getElem? (i := 6) (by decide +kernel)) (by decide +kernel), by decide +kernel, ⟨by decide +kernel, by decide +kernel⟩, by decide +kernel, by decide⟩
def G_H_addShame : Gm := (⟨"ShameAngles$Ship", "addShame", "(II)V"⟩, prog_10_method_9_code, 3, none, 2)
theorem mk_H_addShame : MK G_H_addShame := ⟨bg_m2 (List.mem_of_getElem? (i := 220) (by decide +kernel)) (by decide +kernel), bg_m1 (List.mem_of_getElem? (i := 3) (by decide +kernel)) (by decide +kernel), by decide +kernel, ⟨by decide +kernel, by decide +kernel⟩, by decide +kernel, by decide⟩
def G_H_hasMan : Gm := (⟨"ShameAngles$Ship", "hasMan", "(I)Z"⟩, prog_10_method_4_code, 2, some .boolean, 1)
theorem mk_H_hasMan : MK G_H_hasMan := ⟨bg_m2 (List.mem_of_getElem? (i := 224) (by decide +kernel)) (by decide +kernel), bg_m1 (List.mem_of_getElem? (i := 3) (by decide +kernel)) (by decide +kernel), by decide +kernel, ⟨by decide +kernel, by decide +kernel⟩, by decide +kernel, by decide⟩
def G_J_min : Gm := (⟨"java/lang/Math", "min", "(II)I"⟩, prog_16_method_69_code, 2, some .int, 2)
theorem mk_J_min : MK G_J_min := ⟨bg_m2 (List.mem_of_getElem? (i := 227) (by decide +kernel)) (by decide +kernel), bg_m1 (List.mem_of_getElem? (i := 16) (by decide +kernel)) (by decide +kernel), by decide +kernel, ⟨by decide +kernel, by decide +kernel⟩, by decide +kernel, by decide⟩
def G_T_noonItem : Gm := (⟨"ShameAngles$Script", "noonItem", "(LShameAngles$Ship;)Z"⟩, prog_9_method_10_code, 6, some .boolean, 1)
theorem mk_T_noonItem : MK G_T_noonItem := ⟨bg_m2 (List.mem_of_getElem? (i := 232) (by decide +kernel)) (by decide +kernel), bg_m1 (List.mem_of_getElem? (i := 6) (by decide +kernel)) (by decide +kernel), by decide +kernel, ⟨by decide +kernel, by decide +kernel⟩, by decide +kernel, by decide⟩
def G_H_sail : Gm := (⟨"ShameAngles$Ship", "sail", "(II)V"⟩, prog_10_method_15_code, 5, none, 2)
theorem mk_H_sail : MK G_H_sail := ⟨bg_m2 (List.mem_of_getElem? (i := 236) (by decide +kernel)) (by decide +kernel), bg_m1 (List.mem_of_getElem? (i := 3) (by decide +kernel)) (by decide +kernel), by decide +kernel, ⟨by decide +kernel, by decide +kernel⟩, by decide +kernel, by decide⟩
def G_H_errorOf : Gm := (⟨"ShameAngles$Ship", "errorOf", "(II)I"⟩, prog_10_method_13_code, 6, some .int, 2)
theorem mk_H_errorOf : MK G_H_errorOf := ⟨bg_m3 (List.mem_of_getElem? (i := 0) (by decide +kernel)) (by decide +kernel), bg_m1 (List.mem_of_getElem? (i := 3) (by decide +kernel)) (by decide +kernel), by decide +kernel, ⟨by decide +kernel, by decide +kernel⟩, by decide +kernel, by decide⟩
def G_H_hasReader : Gm := (⟨"ShameAngles$Ship", "hasReader", "(I)Z"⟩, prog_10_method_5_code, 2, some .boolean, 1)
theorem mk_H_hasReader : MK G_H_hasReader := ⟨bg_m3 (List.mem_of_getElem? (i := 4) (by decide +kernel)) (by decide +kernel), bg_m1 (List.mem_of_getElem? (i := 3) (by decide +kernel)) (by decide +kernel), by decide +kernel, ⟨by decide +kernel, by decide +kernel⟩, by decide +kernel, by decide⟩
def G_H_foggy : Gm := (⟨"ShameAngles$Ship", "foggy", "()Z"⟩, prog_10_method_10_code, 1, some .boolean, 0)
theorem mk_H_foggy : MK G_H_foggy := ⟨bg_m3 (List.mem_of_getElem? (i := 8) (by decide +kernel)) (by decide +kernel), bg_m1 (List.mem_of_getElem? (i := 3) (by decide +kernel)) (by decide +kernel), by decide +kernel, ⟨by decide +kernel, by decide +kernel⟩, by decide +kernel, by decide⟩
def G_K_stands : Gm := (⟨"ShameAngles$Kinds", "stands", "(III)I"⟩, prog_5_method_2_code, 6, some .int, 3)
theorem mk_K_stands : MK G_K_stands := ⟨bg_m3 (List.mem_of_getElem? (i := 11) (by decide +kernel)) (by decide +kernel), bg_m1 (List.mem_of_getElem? (i := 17) (by decide +kernel)) (by decide +kernel), by decide +kernel, ⟨by decide +kernel, by decide +kernel⟩, by decide +kernel, by decide⟩
def G_K_sees : Gm := (⟨"ShameAngles$Kinds", "sees", "(III)I"⟩, prog_5_method_3_code, 6, some .int, 3)
theorem mk_K_sees : MK G_K_sees := ⟨bg_m3 (List.mem_of_getElem? (i := 14) (by decide +kernel)) (by decide +kernel), bg_m1 (List.mem_of_getElem? (i := 17) (by decide +kernel)) (by decide +kernel), by decide +kernel, ⟨by decide +kernel, by decide +kernel⟩, by decide +kernel, by decide⟩
def G_H_placeBehind : Gm := (⟨"ShameAngles$Ship", "placeBehind", "(I)I"⟩, prog_10_method_14_code, 2, some .int, 1)
theorem mk_H_placeBehind : MK G_H_placeBehind := ⟨bg_m3 (List.mem_of_getElem? (i := 18) (by decide +kernel)) (by decide +kernel), bg_m1 (List.mem_of_getElem? (i := 3) (by decide +kernel)) (by decide +kernel), by decide +kernel, ⟨by decide +kernel, by decide +kernel⟩, by decide +kernel, by decide⟩
def G_J_floorMod : Gm := (⟨"java/lang/Math", "floorMod", "(II)I"⟩, prog_16_method_50_code, 3, some .int, 2)
theorem mk_J_floorMod : MK G_J_floorMod := ⟨bg_m3 (List.mem_of_getElem? (i := 21) (by decide +kernel)) (by decide +kernel), bg_m1 (List.mem_of_getElem? (i := 16) (by decide +kernel)) (by decide +kernel), by decide +kernel, ⟨by decide +kernel, by decide +kernel⟩, by decide +kernel, by decide⟩
def G_J_max : Gm := (⟨"java/lang/Math", "max", "(II)I"⟩, prog_16_method_65_code, 2, some .int, 2)
theorem mk_J_max : MK G_J_max := ⟨bg_m3 (List.mem_of_getElem? (i := 24) (by decide +kernel)) (by decide +kernel), bg_m1 (List.mem_of_getElem? (i := 16) (by decide +kernel)) (by decide +kernel), by decide +kernel, ⟨by decide +kernel, by decide +kernel⟩, by decide +kernel, by decide⟩
def G_H_copy : Gm := (⟨"ShameAngles$Ship", "copy", "(LShameAngles$Ship;)V"⟩, prog_10_method_3_code, 2, none, 1)
theorem mk_H_copy : MK G_H_copy := ⟨bg_m3 (List.mem_of_getElem? (i := 28) (by decide +kernel)) (by decide +kernel), bg_m1 (List.mem_of_getElem? (i := 3) (by decide +kernel)) (by decide +kernel), by decide +kernel, ⟨by decide +kernel, by decide +kernel⟩, by decide +kernel, by decide⟩
def G_A_noon : Gm := (⟨"ShameAngles", "noon", "(II)I"⟩, prog_1_method_9_code, 4, some .int, 2)
theorem mk_A_noon : MK G_A_noon := ⟨bg_m3 (List.mem_of_getElem? (i := 36) (by decide +kernel)) (by decide +kernel), bg_m1 (List.mem_of_getElem? (i := 1) (by decide +kernel)) (by decide +kernel), by decide +kernel, ⟨by decide +kernel, by decide +kernel⟩, by decide +kernel, by decide⟩
def G_H_hasSet : Gm := (⟨"ShameAngles$Ship", "hasSet", "(I)Z"⟩, prog_10_method_6_code, 2, some .boolean, 1)
theorem mk_H_hasSet : MK G_H_hasSet := ⟨bg_m3 (List.mem_of_getElem? (i := 40) (by decide +kernel)) (by decide +kernel), bg_m1 (List.mem_of_getElem? (i := 3) (by decide +kernel)) (by decide +kernel), by decide +kernel, ⟨by decide +kernel, by decide +kernel⟩, by decide +kernel, by decide⟩
def G_A_no : Gm := (⟨"ShameAngles", "no", "()I"⟩, prog_1_method_45_code, 1, some .int, 0)
theorem mk_A_no : MK G_A_no := ⟨bg_m3 (List.mem_of_getElem? (i := 45) (by decide +kernel)) (by decide +kernel), bg_m1 (List.mem_of_getElem? (i := 1) (by decide +kernel)) (by decide +kernel), by decide +kernel, ⟨by decide +kernel, by decide +kernel⟩, by decide +kernel, by decide⟩
def G_P_push : Gm := (⟨"ShameAngles$Past", "push", "(LShameAngles$Ship;)V"⟩, prog_6_method_2_code, 3, none, 1)
theorem mk_P_push : MK G_P_push := ⟨bg_m3 (List.mem_of_getElem? (i := 49) (by decide +kernel)) (by decide +kernel), bg_m1 (List.mem_of_getElem? (i := 5) (by decide +kernel)) (by decide +kernel), by decide +kernel, ⟨by decide +kernel, by decide +kernel⟩, by decide +kernel, by decide⟩
def G_A_deed : Gm := (⟨"ShameAngles", "deed", "(II)I"⟩, prog_1_method_10_code, 4, some .int, 2)
theorem mk_A_deed : MK G_A_deed := ⟨bg_m3 (List.mem_of_getElem? (i := 55) (by decide +kernel)) (by decide +kernel), bg_m1 (List.mem_of_getElem? (i := 1) (by decide +kernel)) (by decide +kernel), by decide +kernel, ⟨by decide +kernel, by decide +kernel⟩, by decide +kernel, by decide⟩
def G_A_undo : Gm := (⟨"ShameAngles", "undo", "()I"⟩, prog_1_method_11_code, 1, some .int, 0)
theorem mk_A_undo : MK G_A_undo := ⟨bg_m3 (List.mem_of_getElem? (i := 61) (by decide +kernel)) (by decide +kernel), bg_m1 (List.mem_of_getElem? (i := 1) (by decide +kernel)) (by decide +kernel), by decide +kernel, ⟨by decide +kernel, by decide +kernel⟩, by decide +kernel, by decide⟩
def G_P_pop : Gm := (⟨"ShameAngles$Past", "pop", "(LShameAngles$Ship;)V"⟩, prog_6_method_3_code, 3, none, 1)
theorem mk_P_pop : MK G_P_pop := ⟨bg_m3 (List.mem_of_getElem? (i := 65) (by decide +kernel)) (by decide +kernel), bg_m1 (List.mem_of_getElem? (i := 5) (by decide +kernel)) (by decide +kernel), by decide +kernel, ⟨by decide +kernel, by decide +kernel⟩, by decide +kernel, by decide⟩
def G_A_now : Gm := (⟨"ShameAngles", "now", "(I)I"⟩, prog_1_method_12_code, 3, some .int, 1)
theorem mk_A_now : MK G_A_now := ⟨bg_m3 (List.mem_of_getElem? (i := 69) (by decide +kernel)) (by decide +kernel), bg_m1 (List.mem_of_getElem? (i := 1) (by decide +kernel)) (by decide +kernel), by decide +kernel, ⟨by decide +kernel, by decide +kernel⟩, by decide +kernel, by decide⟩
def G_A_of : Gm := (⟨"ShameAngles", "of", "(II)I"⟩, prog_1_method_13_code, 3, some .int, 2)
theorem mk_A_of : MK G_A_of := ⟨bg_m3 (List.mem_of_getElem? (i := 74) (by decide +kernel)) (by decide +kernel), bg_m1 (List.mem_of_getElem? (i := 1) (by decide +kernel)) (by decide +kernel), by decide +kernel, ⟨by decide +kernel, by decide +kernel⟩, by decide +kernel, by decide⟩
def G_A_angle : Gm := (⟨"ShameAngles", "angle", "(I)I"⟩, prog_1_method_14_code, 2, some .int, 1)
theorem mk_A_angle : MK G_A_angle := ⟨bg_m3 (List.mem_of_getElem? (i := 78) (by decide +kernel)) (by decide +kernel), bg_m1 (List.mem_of_getElem? (i := 1) (by decide +kernel)) (by decide +kernel), by decide +kernel, ⟨by decide +kernel, by decide +kernel⟩, by decide +kernel, by decide⟩
def G_H_angleOf : Gm := (⟨"ShameAngles$Ship", "angleOf", "(I)I"⟩, prog_10_method_11_code, 2, some .int, 1)
theorem mk_H_angleOf : MK G_H_angleOf := ⟨bg_m3 (List.mem_of_getElem? (i := 82) (by decide +kernel)) (by decide +kernel), bg_m1 (List.mem_of_getElem? (i := 3) (by decide +kernel)) (by decide +kernel), by decide +kernel, ⟨by decide +kernel, by decide +kernel⟩, by decide +kernel, by decide⟩
def G_A_reads : Gm := (⟨"ShameAngles", "reads", "(II)I"⟩, prog_1_method_15_code, 3, some .int, 2)
theorem mk_A_reads : MK G_A_reads := ⟨bg_m3 (List.mem_of_getElem? (i := 86) (by decide +kernel)) (by decide +kernel), bg_m1 (List.mem_of_getElem? (i := 1) (by decide +kernel)) (by decide +kernel), by decide +kernel, ⟨by decide +kernel, by decide +kernel⟩, by decide +kernel, by decide⟩
def G_H_sightOf : Gm := (⟨"ShameAngles$Ship", "sightOf", "(II)I"⟩, prog_10_method_12_code, 3, some .int, 2)
theorem mk_H_sightOf : MK G_H_sightOf := ⟨bg_m3 (List.mem_of_getElem? (i := 90) (by decide +kernel)) (by decide +kernel), bg_m1 (List.mem_of_getElem? (i := 3) (by decide +kernel)) (by decide +kernel), by decide +kernel, ⟨by decide +kernel, by decide +kernel⟩, by decide +kernel, by decide⟩
def G_A_error : Gm := (⟨"ShameAngles", "error", "(II)I"⟩, prog_1_method_16_code, 3, some .int, 2)
theorem mk_A_error : MK G_A_error := ⟨bg_m3 (List.mem_of_getElem? (i := 95) (by decide +kernel)) (by decide +kernel), bg_m1 (List.mem_of_getElem? (i := 1) (by decide +kernel)) (by decide +kernel), by decide +kernel, ⟨by decide +kernel, by decide +kernel⟩, by decide +kernel, by decide⟩
def G_A_off : Gm := (⟨"ShameAngles", "off", "()I"⟩, prog_1_method_17_code, 1, some .int, 0)
theorem mk_A_off : MK G_A_off := ⟨bg_m3 (List.mem_of_getElem? (i := 100) (by decide +kernel)) (by decide +kernel), bg_m1 (List.mem_of_getElem? (i := 1) (by decide +kernel)) (by decide +kernel), by decide +kernel, ⟨by decide +kernel, by decide +kernel⟩, by decide +kernel, by decide⟩
def G_H_drift : Gm := (⟨"ShameAngles$Ship", "drift", "()I"⟩, prog_10_method_16_code, 1, some .int, 0)
theorem mk_H_drift : MK G_H_drift := ⟨bg_m3 (List.mem_of_getElem? (i := 104) (by decide +kernel)) (by decide +kernel), bg_m1 (List.mem_of_getElem? (i := 3) (by decide +kernel)) (by decide +kernel), by decide +kernel, ⟨by decide +kernel, by decide +kernel⟩, by decide +kernel, by decide⟩
def G_A_then : Gm := (⟨"ShameAngles", "then", "(III)I"⟩, prog_1_method_18_code, 5, some .int, 3)
theorem mk_A_then : MK G_A_then := ⟨bg_m3 (List.mem_of_getElem? (i := 108) (by decide +kernel)) (by decide +kernel), bg_m1 (List.mem_of_getElem? (i := 1) (by decide +kernel)) (by decide +kernel), by decide +kernel, ⟨by decide +kernel, by decide +kernel⟩, by decide +kernel, by decide⟩
def G_A_when : Gm := (⟨"ShameAngles", "when", "(II)I"⟩, prog_1_method_19_code, 4, some .int, 2)
theorem mk_A_when : MK G_A_when := ⟨bg_m3 (List.mem_of_getElem? (i := 112) (by decide +kernel)) (by decide +kernel), bg_m1 (List.mem_of_getElem? (i := 1) (by decide +kernel)) (by decide +kernel), by decide +kernel, ⟨by decide +kernel, by decide +kernel⟩, by decide +kernel, by decide⟩
def G_A_best : Gm := (⟨"ShameAngles", "best", "(III)I"⟩, prog_1_method_20_code, 6, some .int, 3)
theorem mk_A_best : MK G_A_best := ⟨bg_m3 (List.mem_of_getElem? (i := 116) (by decide +kernel)) (by decide +kernel), bg_m1 (List.mem_of_getElem? (i := 1) (by decide +kernel)) (by decide +kernel), by decide +kernel, ⟨by decide +kernel, by decide +kernel⟩, by decide +kernel, by decide⟩
def G_X_leastOff : Gm := (⟨"ShameAngles$Choices", "leastOff", "(LShameAngles$Ship;II)I"⟩, prog_3_method_2_code, 7, some .int, 3)
theorem mk_X_leastOff : MK G_X_leastOff := ⟨bg_m3 (List.mem_of_getElem? (i := 119) (by decide +kernel)) (by decide +kernel), bg_m1 (List.mem_of_getElem? (i := 19) (by decide +kernel)) (by decide +kernel), by decide +kernel, ⟨by decide +kernel, by decide +kernel⟩, by decide +kernel, by decide⟩
def G_J_bitCount : Gm := (⟨"java/lang/Integer", "bitCount", "(I)I"⟩, prog_15_method_49_code, 1, some .int, 1)
theorem mk_J_bitCount : MK G_J_bitCount := ⟨bg_m3 (List.mem_of_getElem? (i := 122) (by decide +kernel)) (by decide +kernel), bg_m1 (List.mem_of_getElem? (i := 20) (by decide +kernel)) (by decide +kernel), by decide +kernel, ⟨by decide +kernel, by decide +kernel⟩, by decide +kernel, by decide⟩
def G_J_abs : Gm := (⟨"java/lang/Math", "abs", "(I)I"⟩, prog_16_method_59_code, 1, some .int, 1)
theorem mk_J_abs : MK G_J_abs := ⟨bg_m3 (List.mem_of_getElem? (i := 129) (by decide +kernel)) (by decide +kernel), bg_m1 (List.mem_of_getElem? (i := 16) (by decide +kernel)) (by decide +kernel), by decide +kernel, ⟨by decide +kernel, by decide +kernel⟩, by decide +kernel, by decide⟩
def G_A_fewest : Gm := (⟨"ShameAngles", "fewest", "(II)I"⟩, prog_1_method_21_code, 3, some .int, 2)
theorem mk_A_fewest : MK G_A_fewest := ⟨bg_m3 (List.mem_of_getElem? (i := 134) (by decide +kernel)) (by decide +kernel), bg_m1 (List.mem_of_getElem? (i := 1) (by decide +kernel)) (by decide +kernel), by decide +kernel, ⟨by decide +kernel, by decide +kernel⟩, by decide +kernel, by decide⟩
def G_X_fewestOff : Gm := (⟨"ShameAngles$Choices", "fewestOff", "(LShameAngles$Ship;II)I"⟩, prog_3_method_3_code, 6, some .int, 3)
theorem mk_X_fewestOff : MK G_X_fewestOff := ⟨bg_m3 (List.mem_of_getElem? (i := 137) (by decide +kernel)) (by decide +kernel), bg_m1 (List.mem_of_getElem? (i := 19) (by decide +kernel)) (by decide +kernel), by decide +kernel, ⟨by decide +kernel, by decide +kernel⟩, by decide +kernel, by decide⟩
def G_A_cape : Gm := (⟨"ShameAngles", "cape", "(III)I"⟩, prog_1_method_22_code, 5, some .int, 3)
theorem mk_A_cape : MK G_A_cape := ⟨bg_m3 (List.mem_of_getElem? (i := 141) (by decide +kernel)) (by decide +kernel), bg_m1 (List.mem_of_getElem? (i := 1) (by decide +kernel)) (by decide +kernel), by decide +kernel, ⟨by decide +kernel, by decide +kernel⟩, by decide +kernel, by decide⟩
def G_O_fewestNoons : Gm := (⟨"ShameAngles$Route", "fewestNoons", "(LShameAngles$Ship;II)I"⟩, prog_7_method_2_code, 5, some .int, 3)
theorem mk_O_fewestNoons : MK G_O_fewestNoons := ⟨bg_m3 (List.mem_of_getElem? (i := 145) (by decide +kernel)) (by decide +kernel), bg_m1 (List.mem_of_getElem? (i := 7) (by decide +kernel)) (by decide +kernel), by decide +kernel, ⟨by decide +kernel, by decide +kernel⟩, by decide +kernel, by decide⟩
def G_O_arrives : Gm := (⟨"ShameAngles$Route", "arrives", "(LShameAngles$Route;IIII)Z"⟩, prog_7_method_3_code, 9, some .boolean, 5)
theorem mk_O_arrives : MK G_O_arrives := ⟨bg_m3 (List.mem_of_getElem? (i := 149) (by decide +kernel)) (by decide +kernel), bg_m1 (List.mem_of_getElem? (i := 7) (by decide +kernel)) (by decide +kernel), by decide +kernel, ⟨by decide +kernel, by decide +kernel⟩, by decide +kernel, by decide⟩
def G_O_mayArrive : Gm := (⟨"ShameAngles$Route", "mayArrive", "(LShameAngles$Ship;III)Z"⟩, prog_7_method_4_code, 7, some .boolean, 4)
theorem mk_O_mayArrive : MK G_O_mayArrive := ⟨bg_m3 (List.mem_of_getElem? (i := 152) (by decide +kernel)) (by decide +kernel), bg_m1 (List.mem_of_getElem? (i := 7) (by decide +kernel)) (by decide +kernel), by decide +kernel, ⟨by decide +kernel, by decide +kernel⟩, by decide +kernel, by decide⟩
def G_A_watch : Gm := (⟨"ShameAngles", "watch", "(I)I"⟩, prog_1_method_23_code, 3, some .int, 1)
theorem mk_A_watch : MK G_A_watch := ⟨bg_m3 (List.mem_of_getElem? (i := 165) (by decide +kernel)) (by decide +kernel), bg_m1 (List.mem_of_getElem? (i := 1) (by decide +kernel)) (by decide +kernel), by decide +kernel, ⟨by decide +kernel, by decide +kernel⟩, by decide +kernel, by decide⟩
def G_W_ways : Gm := (⟨"ShameAngles$Watches", "ways", "(LShameAngles$Ship;)I"⟩, prog_12_method_2_code, 2, some .int, 1)
theorem mk_W_ways : MK G_W_ways := ⟨bg_m3 (List.mem_of_getElem? (i := 169) (by decide +kernel)) (by decide +kernel), bg_m1 (List.mem_of_getElem? (i := 8) (by decide +kernel)) (by decide +kernel), by decide +kernel, ⟨by decide +kernel, by decide +kernel⟩, by decide +kernel, by decide⟩
def G_W_assign : Gm := (⟨"ShameAngles$Watches", "assign", "(LShameAngles$Watches;LShameAngles$Ship;I)V"⟩, prog_12_method_3_code, 5, none, 3)
theorem mk_W_assign : MK G_W_assign := ⟨bg_m3 (List.mem_of_getElem? (i := 172) (by decide +kernel)) (by decide +kernel), bg_m1 (List.mem_of_getElem? (i := 8) (by decide +kernel)) (by decide +kernel), by decide +kernel, ⟨by decide +kernel, by decide +kernel⟩, by decide +kernel, by decide⟩
def G_W_keep : Gm := (⟨"ShameAngles$Watches", "keep", "()V"⟩, prog_12_method_5_code, 1, none, 0)
theorem mk_W_keep : MK G_W_keep := ⟨bg_m3 (List.mem_of_getElem? (i := 176) (by decide +kernel)) (by decide +kernel), bg_m1 (List.mem_of_getElem? (i := 8) (by decide +kernel)) (by decide +kernel), by decide +kernel, ⟨by decide +kernel, by decide +kernel⟩, by decide +kernel, by decide⟩
def G_W_isTaken : Gm := (⟨"ShameAngles$Watches", "isTaken", "(II)Z"⟩, prog_12_method_4_code, 4, some .boolean, 2)
theorem mk_W_isTaken : MK G_W_isTaken := ⟨bg_m3 (List.mem_of_getElem? (i := 182) (by decide +kernel)) (by decide +kernel), bg_m1 (List.mem_of_getElem? (i := 8) (by decide +kernel)) (by decide +kernel), by decide +kernel, ⟨by decide +kernel, by decide +kernel⟩, by decide +kernel, by decide⟩
def G_A_mutiny : Gm := (⟨"ShameAngles", "mutiny", "(I)I"⟩, prog_1_method_24_code, 2, some .int, 1)
theorem mk_A_mutiny : MK G_A_mutiny := ⟨bg_m3 (List.mem_of_getElem? (i := 186) (by decide +kernel)) (by decide +kernel), bg_m1 (List.mem_of_getElem? (i := 1) (by decide +kernel)) (by decide +kernel), by decide +kernel, ⟨by decide +kernel, by decide +kernel⟩, by decide +kernel, by decide⟩
def G_X_mostAlike : Gm := (⟨"ShameAngles$Choices", "mostAlike", "(LShameAngles$Ship;I)I"⟩, prog_3_method_4_code, 6, some .int, 2)
theorem mk_X_mostAlike : MK G_X_mostAlike := ⟨bg_m3 (List.mem_of_getElem? (i := 189) (by decide +kernel)) (by decide +kernel), bg_m1 (List.mem_of_getElem? (i := 19) (by decide +kernel)) (by decide +kernel), by decide +kernel, ⟨by decide +kernel, by decide +kernel⟩, by decide +kernel, by decide⟩
def G_A_seen : Gm := (⟨"ShameAngles", "seen", "(III)I"⟩, prog_1_method_25_code, 4, some .int, 3)
theorem mk_A_seen : MK G_A_seen := ⟨bg_m3 (List.mem_of_getElem? (i := 194) (by decide +kernel)) (by decide +kernel), bg_m1 (List.mem_of_getElem? (i := 1) (by decide +kernel)) (by decide +kernel), by decide +kernel, ⟨by decide +kernel, by decide +kernel⟩, by decide +kernel, by decide⟩
def G_R_isFull : Gm := (⟨"ShameAngles$Rows", "isFull", "()Z"⟩, prog_8_method_2_code, 1, some .boolean, 0)
theorem mk_R_isFull : MK G_R_isFull := ⟨bg_m3 (List.mem_of_getElem? (i := 198) (by decide +kernel)) (by decide +kernel), bg_m1 (List.mem_of_getElem? (i := 4) (by decide +kernel)) (by decide +kernel), by decide +kernel, ⟨by decide +kernel, by decide +kernel⟩, by decide +kernel, by decide⟩
def G_R_add : Gm := (⟨"ShameAngles$Rows", "add", "(IIII)I"⟩, prog_8_method_3_code, 6, some .int, 4)
theorem mk_R_add : MK G_R_add := ⟨bg_m3 (List.mem_of_getElem? (i := 202) (by decide +kernel)) (by decide +kernel), bg_m1 (List.mem_of_getElem? (i := 4) (by decide +kernel)) (by decide +kernel), by decide +kernel, ⟨by decide +kernel, by decide +kernel⟩, by decide +kernel, by decide⟩
def G_A_began : Gm := (⟨"ShameAngles", "began", "(II)I"⟩, prog_1_method_26_code, 3, some .int, 2)
theorem mk_A_began : MK G_A_began := ⟨bg_m3 (List.mem_of_getElem? (i := 207) (by decide +kernel)) (by decide +kernel), bg_m1 (List.mem_of_getElem? (i := 1) (by decide +kernel)) (by decide +kernel), by decide +kernel, ⟨by decide +kernel, by decide +kernel⟩, by decide +kernel, by decide⟩
def G_G_howManyBegan : Gm := (⟨"ShameAngles$Guesses", "howManyBegan", "(LShameAngles$State;I)I"⟩, prog_4_method_2_code, 4, some .int, 2)
theorem mk_G_howManyBegan : MK G_G_howManyBegan := ⟨bg_m3 (List.mem_of_getElem? (i := 210) (by decide +kernel)) (by decide +kernel), bg_m1 (List.mem_of_getElem? (i := 9) (by decide +kernel)) (by decide +kernel), by decide +kernel, ⟨by decide +kernel, by decide +kernel⟩, by decide +kernel, by decide⟩
def G_G_mayHaveBegun : Gm := (⟨"ShameAngles$Guesses", "mayHaveBegun", "(LShameAngles$State;II)Z"⟩, prog_4_method_5_code, 7, some .boolean, 3)
theorem mk_G_mayHaveBegun : MK G_G_mayHaveBegun := ⟨bg_m3 (List.mem_of_getElem? (i := 213) (by decide +kernel)) (by decide +kernel), bg_m1 (List.mem_of_getElem? (i := 9) (by decide +kernel)) (by decide +kernel), by decide +kernel, ⟨by decide +kernel, by decide +kernel⟩, by decide +kernel, by decide⟩
def G_R_cell : Gm := (⟨"ShameAngles$Rows", "cell", "(II)I"⟩, prog_8_method_4_code, 4, some .int, 2)
theorem mk_R_cell : MK G_R_cell := ⟨bg_m3 (List.mem_of_getElem? (i := 218) (by decide +kernel)) (by decide +kernel), bg_m1 (List.mem_of_getElem? (i := 4) (by decide +kernel)) (by decide +kernel), by decide +kernel, ⟨by decide +kernel, by decide +kernel⟩, by decide +kernel, by decide⟩
def G_H_shameBy : Gm := (⟨"ShameAngles$Ship", "shameBy", "(II)I"⟩, prog_10_method_18_code, 5, some .int, 2)
theorem mk_H_shameBy : MK G_H_shameBy := ⟨bg_m3 (List.mem_of_getElem? (i := 222) (by decide +kernel)) (by decide +kernel), bg_m1 (List.mem_of_getElem? (i := 3) (by decide +kernel)) (by decide +kernel), by decide +kernel, ⟨by decide +kernel, by decide +kernel⟩, by decide +kernel, by decide⟩
def G_G_leastBegan : Gm := (⟨"ShameAngles$Guesses", "leastBegan", "(LShameAngles$State;I)I"⟩, prog_4_method_3_code, 3, some .int, 2)
theorem mk_G_leastBegan : MK G_G_leastBegan := ⟨bg_m3 (List.mem_of_getElem? (i := 226) (by decide +kernel)) (by decide +kernel), bg_m1 (List.mem_of_getElem? (i := 9) (by decide +kernel)) (by decide +kernel), by decide +kernel, ⟨by decide +kernel, by decide +kernel⟩, by decide +kernel, by decide⟩
def G_G_greatestBegan : Gm := (⟨"ShameAngles$Guesses", "greatestBegan", "(LShameAngles$State;I)I"⟩, prog_4_method_4_code, 3, some .int, 2)
theorem mk_G_greatestBegan : MK G_G_greatestBegan := ⟨bg_m3 (List.mem_of_getElem? (i := 229) (by decide +kernel)) (by decide +kernel), bg_m1 (List.mem_of_getElem? (i := 9) (by decide +kernel)) (by decide +kernel), by decide +kernel, ⟨by decide +kernel, by decide +kernel⟩, by decide +kernel, by decide⟩
def G_A_note : Gm := (⟨"ShameAngles", "note", "(IIII)I"⟩, prog_1_method_27_code, 5, some .int, 4)
theorem mk_A_note : MK G_A_note := ⟨bg_m3 (List.mem_of_getElem? (i := 233) (by decide +kernel)) (by decide +kernel), bg_m1 (List.mem_of_getElem? (i := 1) (by decide +kernel)) (by decide +kernel), by decide +kernel, ⟨by decide +kernel, by decide +kernel⟩, by decide +kernel, by decide⟩
def G_A_mark : Gm := (⟨"ShameAngles", "mark", "(IIII)I"⟩, prog_1_method_28_code, 5, some .int, 4)
theorem mk_A_mark : MK G_A_mark := ⟨bg_m3 (List.mem_of_getElem? (i := 237) (by decide +kernel)) (by decide +kernel), bg_m1 (List.mem_of_getElem? (i := 1) (by decide +kernel)) (by decide +kernel), by decide +kernel, ⟨by decide +kernel, by decide +kernel⟩, by decide +kernel, by decide⟩
def G_A_forget : Gm := (⟨"ShameAngles", "forget", "(I)I"⟩, prog_1_method_29_code, 2, some .int, 1)
theorem mk_A_forget : MK G_A_forget := ⟨bg_m4 (List.mem_of_getElem? (i := 1) (by decide +kernel)) (by decide +kernel), bg_m1 (List.mem_of_getElem? (i := 1) (by decide +kernel)) (by decide +kernel), by decide +kernel, ⟨by decide +kernel, by decide +kernel⟩, by decide +kernel, by decide⟩
def G_R_empty : Gm := (⟨"ShameAngles$Rows", "empty", "()I"⟩, prog_8_method_5_code, 2, some .int, 0)
theorem mk_R_empty : MK G_R_empty := ⟨bg_m4 (List.mem_of_getElem? (i := 5) (by decide +kernel)) (by decide +kernel), bg_m1 (List.mem_of_getElem? (i := 4) (by decide +kernel)) (by decide +kernel), by decide +kernel, ⟨by decide +kernel, by decide +kernel⟩, by decide +kernel, by decide⟩
def G_A_is : Gm := (⟨"ShameAngles", "is", "(I)I"⟩, prog_1_method_30_code, 2, some .int, 1)
theorem mk_A_is : MK G_A_is := ⟨bg_m4 (List.mem_of_getElem? (i := 9) (by decide +kernel)) (by decide +kernel), bg_m1 (List.mem_of_getElem? (i := 1) (by decide +kernel)) (by decide +kernel), by decide +kernel, ⟨by decide +kernel, by decide +kernel⟩, by decide +kernel, by decide⟩
def G_G_kindsThatFit : Gm := (⟨"ShameAngles$Guesses", "kindsThatFit", "(LShameAngles$Rows;IZ)I"⟩, prog_4_method_6_code, 5, some .int, 3)
theorem mk_G_kindsThatFit : MK G_G_kindsThatFit := ⟨bg_m4 (List.mem_of_getElem? (i := 12) (by decide +kernel)) (by decide +kernel), bg_m1 (List.mem_of_getElem? (i := 9) (by decide +kernel)) (by decide +kernel), by decide +kernel, ⟨by decide +kernel, by decide +kernel⟩, by decide +kernel, by decide⟩
def G_G_fits : Gm := (⟨"ShameAngles$Guesses", "fits", "(LShameAngles$Rows;IZI)Z"⟩, prog_4_method_7_code, 6, some .boolean, 4)
theorem mk_G_fits : MK G_G_fits := ⟨bg_m4 (List.mem_of_getElem? (i := 15) (by decide +kernel)) (by decide +kernel), bg_m1 (List.mem_of_getElem? (i := 9) (by decide +kernel)) (by decide +kernel), by decide +kernel, ⟨by decide +kernel, by decide +kernel⟩, by decide +kernel, by decide⟩
def G_K_makes : Gm := (⟨"ShameAngles$Kinds", "makes", "(ZIII)I"⟩, prog_5_method_4_code, 4, some .int, 4)
theorem mk_K_makes : MK G_K_makes := ⟨bg_m4 (List.mem_of_getElem? (i := 18) (by decide +kernel)) (by decide +kernel), bg_m1 (List.mem_of_getElem? (i := 17) (by decide +kernel)) (by decide +kernel), by decide +kernel, ⟨by decide +kernel, by decide +kernel⟩, by decide +kernel, by decide⟩
def G_A_look : Gm := (⟨"ShameAngles", "look", "(I)I"⟩, prog_1_method_31_code, 2, some .int, 1)
theorem mk_A_look : MK G_A_look := ⟨bg_m4 (List.mem_of_getElem? (i := 24) (by decide +kernel)) (by decide +kernel), bg_m1 (List.mem_of_getElem? (i := 1) (by decide +kernel)) (by decide +kernel), by decide +kernel, ⟨by decide +kernel, by decide +kernel⟩, by decide +kernel, by decide⟩
def G_G_nextLook : Gm := (⟨"ShameAngles$Guesses", "nextLook", "(I)I"⟩, prog_4_method_8_code, 7, some .int, 1)
theorem mk_G_nextLook : MK G_G_nextLook := ⟨bg_m4 (List.mem_of_getElem? (i := 28) (by decide +kernel)) (by decide +kernel), bg_m1 (List.mem_of_getElem? (i := 9) (by decide +kernel)) (by decide +kernel), by decide +kernel, ⟨by decide +kernel, by decide +kernel⟩, by decide +kernel, by decide⟩
def G_G_mostAlike : Gm := (⟨"ShameAngles$Guesses", "mostAlike", "(IZII)I"⟩, prog_4_method_10_code, 9, some .int, 4)
theorem mk_G_mostAlike : MK G_G_mostAlike := ⟨bg_m4 (List.mem_of_getElem? (i := 32) (by decide +kernel)) (by decide +kernel), bg_m1 (List.mem_of_getElem? (i := 9) (by decide +kernel)) (by decide +kernel), by decide +kernel, ⟨by decide +kernel, by decide +kernel⟩, by decide +kernel, by decide⟩
def G_A_kinds : Gm := (⟨"ShameAngles", "kinds", "(I)I"⟩, prog_1_method_32_code, 2, some .int, 1)
theorem mk_A_kinds : MK G_A_kinds := ⟨bg_m4 (List.mem_of_getElem? (i := 37) (by decide +kernel)) (by decide +kernel), bg_m1 (List.mem_of_getElem? (i := 1) (by decide +kernel)) (by decide +kernel), by decide +kernel, ⟨by decide +kernel, by decide +kernel⟩, by decide +kernel, by decide⟩
def G_A_ask : Gm := (⟨"ShameAngles", "ask", "(I)I"⟩, prog_1_method_33_code, 2, some .int, 1)
theorem mk_A_ask : MK G_A_ask := ⟨bg_m4 (List.mem_of_getElem? (i := 41) (by decide +kernel)) (by decide +kernel), bg_m1 (List.mem_of_getElem? (i := 1) (by decide +kernel)) (by decide +kernel), by decide +kernel, ⟨by decide +kernel, by decide +kernel⟩, by decide +kernel, by decide⟩
def G_G_nextAsk : Gm := (⟨"ShameAngles$Guesses", "nextAsk", "(I)I"⟩, prog_4_method_9_code, 7, some .int, 1)
theorem mk_G_nextAsk : MK G_G_nextAsk := ⟨bg_m4 (List.mem_of_getElem? (i := 45) (by decide +kernel)) (by decide +kernel), bg_m1 (List.mem_of_getElem? (i := 9) (by decide +kernel)) (by decide +kernel), by decide +kernel, ⟨by decide +kernel, by decide +kernel⟩, by decide +kernel, by decide⟩
def G_A_officers : Gm := (⟨"ShameAngles", "officers", "(II)I"⟩, prog_1_method_34_code, 4, some .int, 2)
theorem mk_A_officers : MK G_A_officers := ⟨bg_m4 (List.mem_of_getElem? (i := 49) (by decide +kernel)) (by decide +kernel), bg_m1 (List.mem_of_getElem? (i := 1) (by decide +kernel)) (by decide +kernel), by decide +kernel, ⟨by decide +kernel, by decide +kernel⟩, by decide +kernel, by decide⟩
def G_X_restingPairs : Gm := (⟨"ShameAngles$Choices", "restingPairs", "(LShameAngles$Ship;II)I"⟩, prog_3_method_5_code, 6, some .int, 3)
theorem mk_X_restingPairs : MK G_X_restingPairs := ⟨bg_m4 (List.mem_of_getElem? (i := 52) (by decide +kernel)) (by decide +kernel), bg_m1 (List.mem_of_getElem? (i := 19) (by decide +kernel)) (by decide +kernel), by decide +kernel, ⟨by decide +kernel, by decide +kernel⟩, by decide +kernel, by decide⟩
def G_X_rests : Gm := (⟨"ShameAngles$Choices", "rests", "(LShameAngles$Ship;III)Z"⟩, prog_3_method_6_code, 7, some .boolean, 4)
theorem mk_X_rests : MK G_X_rests := ⟨bg_m4 (List.mem_of_getElem? (i := 55) (by decide +kernel)) (by decide +kernel), bg_m1 (List.mem_of_getElem? (i := 19) (by decide +kernel)) (by decide +kernel), by decide +kernel, ⟨by decide +kernel, by decide +kernel⟩, by decide +kernel, by decide⟩
def G_X_farOff : Gm := (⟨"ShameAngles$Choices", "farOff", "(LShameAngles$Ship;III)I"⟩, prog_3_method_7_code, 4, some .int, 4)
theorem mk_X_farOff : MK G_X_farOff := ⟨bg_m4 (List.mem_of_getElem? (i := 58) (by decide +kernel)) (by decide +kernel), bg_m1 (List.mem_of_getElem? (i := 19) (by decide +kernel)) (by decide +kernel), by decide +kernel, ⟨by decide +kernel, by decide +kernel⟩, by decide +kernel, by decide⟩
def G_A_slips : Gm := (⟨"ShameAngles", "slips", "(III)I"⟩, prog_1_method_35_code, 5, some .int, 3)
theorem mk_A_slips : MK G_A_slips := ⟨bg_m4 (List.mem_of_getElem? (i := 63) (by decide +kernel)) (by decide +kernel), bg_m1 (List.mem_of_getElem? (i := 1) (by decide +kernel)) (by decide +kernel), by decide +kernel, ⟨by decide +kernel, by decide +kernel⟩, by decide +kernel, by decide⟩
def G_C_setSure : Gm := (⟨"ShameAngles$Chance", "setSure", "()V"⟩, prog_2_method_2_code, 1, none, 0)
theorem mk_C_setSure : MK G_C_setSure := ⟨bg_m4 (List.mem_of_getElem? (i := 67) (by decide +kernel)) (by decide +kernel), bg_m1 (List.mem_of_getElem? (i := 10) (by decide +kernel)) (by decide +kernel), by decide +kernel, ⟨by decide +kernel, by decide +kernel⟩, by decide +kernel, by decide⟩
def G_C_setSlips : Gm := (⟨"ShameAngles$Chance", "setSlips", "(III)V"⟩, prog_2_method_3_code, 7, none, 3)
theorem mk_C_setSlips : MK G_C_setSlips := ⟨bg_m4 (List.mem_of_getElem? (i := 72) (by decide +kernel)) (by decide +kernel), bg_m1 (List.mem_of_getElem? (i := 10) (by decide +kernel)) (by decide +kernel), by decide +kernel, ⟨by decide +kernel, by decide +kernel⟩, by decide +kernel, by decide⟩
def G_C_reduce : Gm := (⟨"ShameAngles$Chance", "reduce", "(I)V"⟩, prog_2_method_4_code, 3, none, 1)
theorem mk_C_reduce : MK G_C_reduce := ⟨bg_m4 (List.mem_of_getElem? (i := 77) (by decide +kernel)) (by decide +kernel), bg_m1 (List.mem_of_getElem? (i := 10) (by decide +kernel)) (by decide +kernel), by decide +kernel, ⟨by decide +kernel, by decide +kernel⟩, by decide +kernel, by decide⟩
def G_A_voyages : Gm := (⟨"ShameAngles", "voyages", "(II)I"⟩, prog_1_method_36_code, 10, some .int, 2)
theorem mk_A_voyages : MK G_A_voyages := ⟨bg_m4 (List.mem_of_getElem? (i := 83) (by decide +kernel)) (by decide +kernel), bg_m1 (List.mem_of_getElem? (i := 1) (by decide +kernel)) (by decide +kernel), by decide +kernel, ⟨by decide +kernel, by decide +kernel⟩, by decide +kernel, by decide⟩
def G_A_part : Gm := (⟨"ShameAngles", "part", "(I)J"⟩, prog_1_method_37_code, 2, some .long, 1)
theorem mk_A_part : MK G_A_part := ⟨bg_m4 (List.mem_of_getElem? (i := 95) (by decide +kernel)) (by decide +kernel), bg_m1 (List.mem_of_getElem? (i := 1) (by decide +kernel)) (by decide +kernel), by decide +kernel, ⟨by decide +kernel, by decide +kernel⟩, by decide +kernel, by decide⟩
def G_A_image : Gm := (⟨"ShameAngles", "image", "(I)I"⟩, prog_1_method_38_code, 2, some .int, 1)
theorem mk_A_image : MK G_A_image := ⟨bg_m4 (List.mem_of_getElem? (i := 99) (by decide +kernel)) (by decide +kernel), bg_m1 (List.mem_of_getElem? (i := 1) (by decide +kernel)) (by decide +kernel), by decide +kernel, ⟨by decide +kernel, by decide +kernel⟩, by decide +kernel, by decide⟩
def G_S_copy : Gm := (⟨"ShameAngles$State", "copy", "(LShameAngles$State;)V"⟩, prog_11_method_3_code, 2, none, 1)
theorem mk_S_copy : MK G_S_copy := ⟨bg_m4 (List.mem_of_getElem? (i := 103) (by decide +kernel)) (by decide +kernel), bg_m1 (List.mem_of_getElem? (i := 2) (by decide +kernel)) (by decide +kernel), by decide +kernel, ⟨by decide +kernel, by decide +kernel⟩, by decide +kernel, by decide⟩
def G_R_copy : Gm := (⟨"ShameAngles$Rows", "copy", "(LShameAngles$Rows;)V"⟩, prog_8_method_6_code, 2, none, 1)
theorem mk_R_copy : MK G_R_copy := ⟨bg_m4 (List.mem_of_getElem? (i := 108) (by decide +kernel)) (by decide +kernel), bg_m1 (List.mem_of_getElem? (i := 4) (by decide +kernel)) (by decide +kernel), by decide +kernel, ⟨by decide +kernel, by decide +kernel⟩, by decide +kernel, by decide⟩
def G_P_copy : Gm := (⟨"ShameAngles$Past", "copy", "(LShameAngles$Past;)V"⟩, prog_6_method_4_code, 2, none, 1)
theorem mk_P_copy : MK G_P_copy := ⟨bg_m4 (List.mem_of_getElem? (i := 113) (by decide +kernel)) (by decide +kernel), bg_m1 (List.mem_of_getElem? (i := 5) (by decide +kernel)) (by decide +kernel), by decide +kernel, ⟨by decide +kernel, by decide +kernel⟩, by decide +kernel, by decide⟩
def G_A_from : Gm := (⟨"ShameAngles", "from", "(I)I"⟩, prog_1_method_39_code, 2, some .int, 1)
theorem mk_A_from : MK G_A_from := ⟨bg_m4 (List.mem_of_getElem? (i := 117) (by decide +kernel)) (by decide +kernel), bg_m1 (List.mem_of_getElem? (i := 1) (by decide +kernel)) (by decide +kernel), by decide +kernel, ⟨by decide +kernel, by decide +kernel⟩, by decide +kernel, by decide⟩
def G_A_status : Gm := (⟨"ShameAngles", "status", "(I)I"⟩, prog_1_method_40_code, 2, some .int, 1)
theorem mk_A_status : MK G_A_status := ⟨bg_m4 (List.mem_of_getElem? (i := 121) (by decide +kernel)) (by decide +kernel), bg_m1 (List.mem_of_getElem? (i := 1) (by decide +kernel)) (by decide +kernel), by decide +kernel, ⟨by decide +kernel, by decide +kernel⟩, by decide +kernel, by decide⟩
def G_A_count : Gm := (⟨"ShameAngles", "count", "(I)I"⟩, prog_1_method_41_code, 2, some .int, 1)
theorem mk_A_count : MK G_A_count := ⟨bg_m4 (List.mem_of_getElem? (i := 125) (by decide +kernel)) (by decide +kernel), bg_m1 (List.mem_of_getElem? (i := 1) (by decide +kernel)) (by decide +kernel), by decide +kernel, ⟨by decide +kernel, by decide +kernel⟩, by decide +kernel, by decide⟩
def G_H_shameOfAll : Gm := (⟨"ShameAngles$Ship", "shameOfAll", "()I"⟩, prog_10_method_17_code, 3, some .int, 0)
theorem mk_H_shameOfAll : MK G_H_shameOfAll := ⟨bg_m4 (List.mem_of_getElem? (i := 129) (by decide +kernel)) (by decide +kernel), bg_m1 (List.mem_of_getElem? (i := 3) (by decide +kernel)) (by decide +kernel), by decide +kernel, ⟨by decide +kernel, by decide +kernel⟩, by decide +kernel, by decide⟩
def G_A_digest : Gm := (⟨"ShameAngles", "digest", "()J"⟩, prog_1_method_42_code, 4, some .long, 0)
theorem mk_A_digest : MK G_A_digest := ⟨bg_m4 (List.mem_of_getElem? (i := 133) (by decide +kernel)) (by decide +kernel), bg_m1 (List.mem_of_getElem? (i := 1) (by decide +kernel)) (by decide +kernel), by decide +kernel, ⟨by decide +kernel, by decide +kernel⟩, by decide +kernel, by decide⟩
def G_H_digestOn : Gm := (⟨"ShameAngles$Ship", "digestOn", "(J)J"⟩, prog_10_method_19_code, 6, some .long, 1)
theorem mk_H_digestOn : MK G_H_digestOn := ⟨bg_m4 (List.mem_of_getElem? (i := 141) (by decide +kernel)) (by decide +kernel), bg_m1 (List.mem_of_getElem? (i := 3) (by decide +kernel)) (by decide +kernel), by decide +kernel, ⟨by decide +kernel, by decide +kernel⟩, by decide +kernel, by decide⟩
def G_R_digestOn : Gm := (⟨"ShameAngles$Rows", "digestOn", "(J)J"⟩, prog_8_method_7_code, 7, some .long, 1)
theorem mk_R_digestOn : MK G_R_digestOn := ⟨bg_m4 (List.mem_of_getElem? (i := 146) (by decide +kernel)) (by decide +kernel), bg_m1 (List.mem_of_getElem? (i := 4) (by decide +kernel)) (by decide +kernel), by decide +kernel, ⟨by decide +kernel, by decide +kernel⟩, by decide +kernel, by decide⟩
def G_M_init : Gm := (⟨"ShameAnglesModel", "<init>", "()V"⟩, prog_14_method_12_code, 1, none, 0)
theorem mk_M_init : MK G_M_init := ⟨bg_m4 (List.mem_of_getElem? (i := 153) (by decide +kernel)) (by decide +kernel), bg_m1 (List.mem_of_getElem? (i := 11) (by decide +kernel)) (by decide +kernel), by decide +kernel, ⟨by decide +kernel, by decide +kernel⟩, by decide +kernel, by decide⟩
def G_M_begin : Gm := (⟨"ShameAnglesModel", "begin", "(I)V"⟩, prog_14_method_13_code, 3, none, 1)
theorem mk_M_begin : MK G_M_begin := ⟨bg_m4 (List.mem_of_getElem? (i := 158) (by decide +kernel)) (by decide +kernel), bg_m1 (List.mem_of_getElem? (i := 11) (by decide +kernel)) (by decide +kernel), by decide +kernel, ⟨by decide +kernel, by decide +kernel⟩, by decide +kernel, by decide⟩
def G_M_ship : Gm := (⟨"ShameAnglesModel", "ship", "(I)I"⟩, prog_14_method_17_code, 3, some .int, 1)
theorem mk_M_ship : MK G_M_ship := ⟨bg_m5 (List.mem_of_getElem? (i := 13) (by decide +kernel)) (by decide +kernel), bg_m1 (List.mem_of_getElem? (i := 11) (by decide +kernel)) (by decide +kernel), by decide +kernel, ⟨by decide +kernel, by decide +kernel⟩, by decide +kernel, by decide⟩
def G_M_in : Gm := (⟨"ShameAnglesModel", "in", "(III)Z"⟩, prog_14_method_5_code, 3, some .boolean, 3)
theorem mk_M_in : MK G_M_in := ⟨bg_m5 (List.mem_of_getElem? (i := 16) (by decide +kernel)) (by decide +kernel), bg_m1 (List.mem_of_getElem? (i := 11) (by decide +kernel)) (by decide +kernel), by decide +kernel, ⟨by decide +kernel, by decide +kernel⟩, by decide +kernel, by decide⟩
def G_M_bad : Gm := (⟨"ShameAnglesModel", "bad", "()I"⟩, prog_14_method_1_code, 1, some .int, 0)
theorem mk_M_bad : MK G_M_bad := ⟨bg_m5 (List.mem_of_getElem? (i := 20) (by decide +kernel)) (by decide +kernel), bg_m1 (List.mem_of_getElem? (i := 11) (by decide +kernel)) (by decide +kernel), by decide +kernel, ⟨by decide +kernel, by decide +kernel⟩, by decide +kernel, by decide⟩
def G_M_fog : Gm := (⟨"ShameAnglesModel", "fog", "(II)I"⟩, prog_14_method_18_code, 4, some .int, 2)
theorem mk_M_fog : MK G_M_fog := ⟨bg_m5 (List.mem_of_getElem? (i := 24) (by decide +kernel)) (by decide +kernel), bg_m1 (List.mem_of_getElem? (i := 11) (by decide +kernel)) (by decide +kernel), by decide +kernel, ⟨by decide +kernel, by decide +kernel⟩, by decide +kernel, by decide⟩
def G_M_man : Gm := (⟨"ShameAnglesModel", "man", "(II)I"⟩, prog_14_method_20_code, 3, some .int, 2)
theorem mk_M_man : MK G_M_man := ⟨bg_m5 (List.mem_of_getElem? (i := 28) (by decide +kernel)) (by decide +kernel), bg_m1 (List.mem_of_getElem? (i := 11) (by decide +kernel)) (by decide +kernel), by decide +kernel, ⟨by decide +kernel, by decide +kernel⟩, by decide +kernel, by decide⟩
def G_M_full : Gm := (⟨"ShameAnglesModel", "full", "()I"⟩, prog_14_method_4_code, 1, some .int, 0)
theorem mk_M_full : MK G_M_full := ⟨bg_m5 (List.mem_of_getElem? (i := 32) (by decide +kernel)) (by decide +kernel), bg_m1 (List.mem_of_getElem? (i := 11) (by decide +kernel)) (by decide +kernel), by decide +kernel, ⟨by decide +kernel, by decide +kernel⟩, by decide +kernel, by decide⟩
def G_M_addMan : Gm := (⟨"ShameAnglesModel", "addMan", "(II)I"⟩, prog_14_method_19_code, 3, some .int, 2)
theorem mk_M_addMan : MK G_M_addMan := ⟨bg_m5 (List.mem_of_getElem? (i := 36) (by decide +kernel)) (by decide +kernel), bg_m1 (List.mem_of_getElem? (i := 11) (by decide +kernel)) (by decide +kernel), by decide +kernel, ⟨by decide +kernel, by decide +kernel⟩, by decide +kernel, by decide⟩
def G_M_reader : Gm := (⟨"ShameAnglesModel", "reader", "(I)I"⟩, prog_14_method_22_code, 2, some .int, 1)
theorem mk_M_reader : MK G_M_reader := ⟨bg_m5 (List.mem_of_getElem? (i := 40) (by decide +kernel)) (by decide +kernel), bg_m1 (List.mem_of_getElem? (i := 11) (by decide +kernel)) (by decide +kernel), by decide +kernel, ⟨by decide +kernel, by decide +kernel⟩, by decide +kernel, by decide⟩
def G_M_addReader : Gm := (⟨"ShameAnglesModel", "addReader", "(I)I"⟩, prog_14_method_21_code, 2, some .int, 1)
theorem mk_M_addReader : MK G_M_addReader := ⟨bg_m5 (List.mem_of_getElem? (i := 44) (by decide +kernel)) (by decide +kernel), bg_m1 (List.mem_of_getElem? (i := 11) (by decide +kernel)) (by decide +kernel), by decide +kernel, ⟨by decide +kernel, by decide +kernel⟩, by decide +kernel, by decide⟩
def G_M_type : Gm := (⟨"ShameAnglesModel", "type", "(I)I"⟩, prog_14_method_23_code, 2, some .int, 1)
theorem mk_M_type : MK G_M_type := ⟨bg_m5 (List.mem_of_getElem? (i := 48) (by decide +kernel)) (by decide +kernel), bg_m1 (List.mem_of_getElem? (i := 11) (by decide +kernel)) (by decide +kernel), by decide +kernel, ⟨by decide +kernel, by decide +kernel⟩, by decide +kernel, by decide⟩
def G_M_clear : Gm := (⟨"ShameAnglesModel", "clear", "()I"⟩, prog_14_method_24_code, 2, some .int, 0)
theorem mk_M_clear : MK G_M_clear := ⟨bg_m5 (List.mem_of_getElem? (i := 52) (by decide +kernel)) (by decide +kernel), bg_m1 (List.mem_of_getElem? (i := 11) (by decide +kernel)) (by decide +kernel), by decide +kernel, ⟨by decide +kernel, by decide +kernel⟩, by decide +kernel, by decide⟩
def G_M_read : Gm := (⟨"ShameAnglesModel", "read", "()I"⟩, prog_14_method_42_code, 2, some .int, 0)
theorem mk_M_read : MK G_M_read := ⟨bg_m5 (List.mem_of_getElem? (i := 56) (by decide +kernel)) (by decide +kernel), bg_m1 (List.mem_of_getElem? (i := 11) (by decide +kernel)) (by decide +kernel), by decide +kernel, ⟨by decide +kernel, by decide +kernel⟩, by decide +kernel, by decide⟩
def G_M_layAll : Gm := (⟨"ShameAnglesModel", "layAll", "([II)V"⟩, prog_14_method_97_code, 4, none, 2)
theorem mk_M_layAll : MK G_M_layAll := ⟨bg_m5 (List.mem_of_getElem? (i := 60) (by decide +kernel)) (by decide +kernel), bg_m1 (List.mem_of_getElem? (i := 11) (by decide +kernel)) (by decide +kernel), by decide +kernel, ⟨by decide +kernel, by decide +kernel⟩, by decide +kernel, by decide⟩
def G_M_lays : Gm := (⟨"ShameAnglesModel", "lays", "([II)V"⟩, prog_14_method_52_code, 4, none, 2)
theorem mk_M_lays : MK G_M_lays := ⟨bg_m5 (List.mem_of_getElem? (i := 64) (by decide +kernel)) (by decide +kernel), bg_m1 (List.mem_of_getElem? (i := 11) (by decide +kernel)) (by decide +kernel), by decide +kernel, ⟨by decide +kernel, by decide +kernel⟩, by decide +kernel, by decide⟩
def G_M_readsShip : Gm := (⟨"ShameAnglesModel", "readsShip", "()I"⟩, prog_14_method_41_code, 2, some .int, 0)
theorem mk_M_readsShip : MK G_M_readsShip := ⟨bg_m5 (List.mem_of_getElem? (i := 68) (by decide +kernel)) (by decide +kernel), bg_m1 (List.mem_of_getElem? (i := 11) (by decide +kernel)) (by decide +kernel), by decide +kernel, ⟨by decide +kernel, by decide +kernel⟩, by decide +kernel, by decide⟩
def G_M_readsFirst : Gm := (⟨"ShameAnglesModel", "readsFirst", "()Z"⟩, prog_14_method_40_code, 1, some .boolean, 0)
theorem mk_M_readsFirst : MK G_M_readsFirst := ⟨bg_m5 (List.mem_of_getElem? (i := 72) (by decide +kernel)) (by decide +kernel), bg_m1 (List.mem_of_getElem? (i := 11) (by decide +kernel)) (by decide +kernel), by decide +kernel, ⟨by decide +kernel, by decide +kernel⟩, by decide +kernel, by decide⟩
def G_M_skip : Gm := (⟨"ShameAnglesModel", "skip", "()V"⟩, prog_14_method_26_code, 1, none, 0)
theorem mk_M_skip : MK G_M_skip := ⟨bg_m5 (List.mem_of_getElem? (i := 76) (by decide +kernel)) (by decide +kernel), bg_m1 (List.mem_of_getElem? (i := 11) (by decide +kernel)) (by decide +kernel), by decide +kernel, ⟨by decide +kernel, by decide +kernel⟩, by decide +kernel, by decide⟩
def G_M_here : Gm := (⟨"ShameAnglesModel", "here", "()I"⟩, prog_14_method_25_code, 1, some .int, 0)
theorem mk_M_here : MK G_M_here := ⟨bg_m5 (List.mem_of_getElem? (i := 80) (by decide +kernel)) (by decide +kernel), bg_m1 (List.mem_of_getElem? (i := 11) (by decide +kernel)) (by decide +kernel), by decide +kernel, ⟨by decide +kernel, by decide +kernel⟩, by decide +kernel, by decide⟩
def G_M_wordHere : Gm := (⟨"ShameAnglesModel", "wordHere", "()I"⟩, prog_14_method_31_code, 2, some .int, 0)
theorem mk_M_wordHere : MK G_M_wordHere := ⟨bg_m5 (List.mem_of_getElem? (i := 84) (by decide +kernel)) (by decide +kernel), bg_m1 (List.mem_of_getElem? (i := 11) (by decide +kernel)) (by decide +kernel), by decide +kernel, ⟨by decide +kernel, by decide +kernel⟩, by decide +kernel, by decide⟩
def G_M_wordSize : Gm := (⟨"ShameAnglesModel", "wordSize", "()I"⟩, prog_14_method_29_code, 2, some .int, 0)
theorem mk_M_wordSize : MK G_M_wordSize := ⟨bg_m5 (List.mem_of_getElem? (i := 88) (by decide +kernel)) (by decide +kernel), bg_m1 (List.mem_of_getElem? (i := 11) (by decide +kernel)) (by decide +kernel), by decide +kernel, ⟨by decide +kernel, by decide +kernel⟩, by decide +kernel, by decide⟩
def G_M_isLetter : Gm := (⟨"ShameAnglesModel", "isLetter", "(I)Z"⟩, prog_14_method_27_code, 1, some .boolean, 1)
theorem mk_M_isLetter : MK G_M_isLetter := ⟨bg_m5 (List.mem_of_getElem? (i := 91) (by decide +kernel)) (by decide +kernel), bg_m1 (List.mem_of_getElem? (i := 11) (by decide +kernel)) (by decide +kernel), by decide +kernel, ⟨by decide +kernel, by decide +kernel⟩, by decide +kernel, by decide⟩
def G_M_letter : Gm := (⟨"ShameAnglesModel", "letter", "(I)I"⟩, prog_14_method_30_code, 2, some .int, 1)
theorem mk_M_letter : MK G_M_letter := ⟨bg_m5 (List.mem_of_getElem? (i := 95) (by decide +kernel)) (by decide +kernel), bg_m1 (List.mem_of_getElem? (i := 11) (by decide +kernel)) (by decide +kernel), by decide +kernel, ⟨by decide +kernel, by decide +kernel⟩, by decide +kernel, by decide⟩
def G_M_number : Gm := (⟨"ShameAnglesModel", "number", "(II)Z"⟩, prog_14_method_32_code, 5, some .boolean, 2)
theorem mk_M_number : MK G_M_number := ⟨bg_m5 (List.mem_of_getElem? (i := 99) (by decide +kernel)) (by decide +kernel), bg_m1 (List.mem_of_getElem? (i := 11) (by decide +kernel)) (by decide +kernel), by decide +kernel, ⟨by decide +kernel, by decide +kernel⟩, by decide +kernel, by decide⟩
def G_M_isFigure : Gm := (⟨"ShameAnglesModel", "isFigure", "(I)Z"⟩, prog_14_method_28_code, 1, some .boolean, 1)
theorem mk_M_isFigure : MK G_M_isFigure := ⟨bg_m5 (List.mem_of_getElem? (i := 102) (by decide +kernel)) (by decide +kernel), bg_m1 (List.mem_of_getElem? (i := 11) (by decide +kernel)) (by decide +kernel), by decide +kernel, ⟨by decide +kernel, by decide +kernel⟩, by decide +kernel, by decide⟩
def G_M_ends : Gm := (⟨"ShameAnglesModel", "ends", "()Z"⟩, prog_14_method_33_code, 1, some .boolean, 0)
theorem mk_M_ends : MK G_M_ends := ⟨bg_m5 (List.mem_of_getElem? (i := 106) (by decide +kernel)) (by decide +kernel), bg_m1 (List.mem_of_getElem? (i := 11) (by decide +kernel)) (by decide +kernel), by decide +kernel, ⟨by decide +kernel, by decide +kernel⟩, by decide +kernel, by decide⟩
def G_M_readsItem : Gm := (⟨"ShameAnglesModel", "readsItem", "()Z"⟩, prog_14_method_39_code, 2, some .boolean, 0)
theorem mk_M_readsItem : MK G_M_readsItem := ⟨bg_m5 (List.mem_of_getElem? (i := 110) (by decide +kernel)) (by decide +kernel), bg_m1 (List.mem_of_getElem? (i := 11) (by decide +kernel)) (by decide +kernel), by decide +kernel, ⟨by decide +kernel, by decide +kernel⟩, by decide +kernel, by decide⟩
def G_M_readsFog : Gm := (⟨"ShameAnglesModel", "readsFog", "()Z"⟩, prog_14_method_34_code, 2, some .boolean, 0)
theorem mk_M_readsFog : MK G_M_readsFog := ⟨bg_m5 (List.mem_of_getElem? (i := 114) (by decide +kernel)) (by decide +kernel), bg_m1 (List.mem_of_getElem? (i := 11) (by decide +kernel)) (by decide +kernel), by decide +kernel, ⟨by decide +kernel, by decide +kernel⟩, by decide +kernel, by decide⟩
def G_M_readsMan : Gm := (⟨"ShameAnglesModel", "readsMan", "()Z"⟩, prog_14_method_35_code, 3, some .boolean, 0)
theorem mk_M_readsMan : MK G_M_readsMan := ⟨bg_m5 (List.mem_of_getElem? (i := 118) (by decide +kernel)) (by decide +kernel), bg_m1 (List.mem_of_getElem? (i := 11) (by decide +kernel)) (by decide +kernel), by decide +kernel, ⟨by decide +kernel, by decide +kernel⟩, by decide +kernel, by decide⟩
def G_M_readsReader : Gm := (⟨"ShameAnglesModel", "readsReader", "()Z"⟩, prog_14_method_36_code, 2, some .boolean, 0)
theorem mk_M_readsReader : MK G_M_readsReader := ⟨bg_m5 (List.mem_of_getElem? (i := 122) (by decide +kernel)) (by decide +kernel), bg_m1 (List.mem_of_getElem? (i := 11) (by decide +kernel)) (by decide +kernel), by decide +kernel, ⟨by decide +kernel, by decide +kernel⟩, by decide +kernel, by decide⟩
def G_M_readsDeed : Gm := (⟨"ShameAnglesModel", "readsDeed", "()Z"⟩, prog_14_method_37_code, 2, some .boolean, 0)
theorem mk_M_readsDeed : MK G_M_readsDeed := ⟨bg_m5 (List.mem_of_getElem? (i := 126) (by decide +kernel)) (by decide +kernel), bg_m1 (List.mem_of_getElem? (i := 11) (by decide +kernel)) (by decide +kernel), by decide +kernel, ⟨by decide +kernel, by decide +kernel⟩, by decide +kernel, by decide⟩
def G_M_lesser : Gm := (⟨"ShameAnglesModel", "lesser", "(II)I"⟩, prog_14_method_7_code, 2, some .int, 2)
theorem mk_M_lesser : MK G_M_lesser := ⟨bg_m5 (List.mem_of_getElem? (i := 129) (by decide +kernel)) (by decide +kernel), bg_m1 (List.mem_of_getElem? (i := 11) (by decide +kernel)) (by decide +kernel), by decide +kernel, ⟨by decide +kernel, by decide +kernel⟩, by decide +kernel, by decide⟩
def G_M_readsNoon : Gm := (⟨"ShameAnglesModel", "readsNoon", "()Z"⟩, prog_14_method_38_code, 4, some .boolean, 0)
theorem mk_M_readsNoon : MK G_M_readsNoon := ⟨bg_m5 (List.mem_of_getElem? (i := 133) (by decide +kernel)) (by decide +kernel), bg_m1 (List.mem_of_getElem? (i := 11) (by decide +kernel)) (by decide +kernel), by decide +kernel, ⟨by decide +kernel, by decide +kernel⟩, by decide +kernel, by decide⟩
def G_M_bits : Gm := (⟨"ShameAnglesModel", "bits", "(I)I"⟩, prog_14_method_9_code, 3, some .int, 1)
theorem mk_M_bits : MK G_M_bits := ⟨bg_m5 (List.mem_of_getElem? (i := 136) (by decide +kernel)) (by decide +kernel), bg_m1 (List.mem_of_getElem? (i := 11) (by decide +kernel)) (by decide +kernel), by decide +kernel, ⟨by decide +kernel, by decide +kernel⟩, by decide +kernel, by decide⟩
def G_M_has : Gm := (⟨"ShameAnglesModel", "has", "(II)Z"⟩, prog_14_method_6_code, 2, some .boolean, 2)
theorem mk_M_has : MK G_M_has := ⟨bg_m5 (List.mem_of_getElem? (i := 139) (by decide +kernel)) (by decide +kernel), bg_m1 (List.mem_of_getElem? (i := 11) (by decide +kernel)) (by decide +kernel), by decide +kernel, ⟨by decide +kernel, by decide +kernel⟩, by decide +kernel, by decide⟩
def G_M_measures : Gm := (⟨"ShameAnglesModel", "measures", "(II)V"⟩, prog_14_method_51_code, 3, none, 2)
theorem mk_M_measures : MK G_M_measures := ⟨bg_m5 (List.mem_of_getElem? (i := 143) (by decide +kernel)) (by decide +kernel), bg_m1 (List.mem_of_getElem? (i := 11) (by decide +kernel)) (by decide +kernel), by decide +kernel, ⟨by decide +kernel, by decide +kernel⟩, by decide +kernel, by decide⟩
def G_M_errorOf : Gm := (⟨"ShameAnglesModel", "errorOf", "(II)I"⟩, prog_14_method_48_code, 5, some .int, 2)
theorem mk_M_errorOf : MK G_M_errorOf := ⟨bg_m5 (List.mem_of_getElem? (i := 147) (by decide +kernel)) (by decide +kernel), bg_m1 (List.mem_of_getElem? (i := 11) (by decide +kernel)) (by decide +kernel), by decide +kernel, ⟨by decide +kernel, by decide +kernel⟩, by decide +kernel, by decide⟩
def G_M_isFog : Gm := (⟨"ShameAnglesModel", "isFog", "()Z"⟩, prog_14_method_45_code, 1, some .boolean, 0)
theorem mk_M_isFog : MK G_M_isFog := ⟨bg_m5 (List.mem_of_getElem? (i := 151) (by decide +kernel)) (by decide +kernel), bg_m1 (List.mem_of_getElem? (i := 11) (by decide +kernel)) (by decide +kernel), by decide +kernel, ⟨by decide +kernel, by decide +kernel⟩, by decide +kernel, by decide⟩
def G_M_readOf : Gm := (⟨"ShameAnglesModel", "readOf", "(II)I"⟩, prog_14_method_47_code, 3, some .int, 2)
theorem mk_M_readOf : MK G_M_readOf := ⟨bg_m5 (List.mem_of_getElem? (i := 155) (by decide +kernel)) (by decide +kernel), bg_m1 (List.mem_of_getElem? (i := 11) (by decide +kernel)) (by decide +kernel), by decide +kernel, ⟨by decide +kernel, by decide +kernel⟩, by decide +kernel, by decide⟩
def G_M_angleOf : Gm := (⟨"ShameAnglesModel", "angleOf", "(I)I"⟩, prog_14_method_46_code, 2, some .int, 1)
theorem mk_M_angleOf : MK G_M_angleOf := ⟨bg_m5 (List.mem_of_getElem? (i := 159) (by decide +kernel)) (by decide +kernel), bg_m1 (List.mem_of_getElem? (i := 11) (by decide +kernel)) (by decide +kernel), by decide +kernel, ⟨by decide +kernel, by decide +kernel⟩, by decide +kernel, by decide⟩
def G_M_angleBy : Gm := (⟨"ShameAnglesModel", "angleBy", "(III)I"⟩, prog_14_method_43_code, 4, some .int, 3)
theorem mk_M_angleBy : MK G_M_angleBy := ⟨bg_m5 (List.mem_of_getElem? (i := 162) (by decide +kernel)) (by decide +kernel), bg_m1 (List.mem_of_getElem? (i := 11) (by decide +kernel)) (by decide +kernel), by decide +kernel, ⟨by decide +kernel, by decide +kernel⟩, by decide +kernel, by decide⟩
def G_M_greater : Gm := (⟨"ShameAnglesModel", "greater", "(II)I"⟩, prog_14_method_8_code, 2, some .int, 2)
theorem mk_M_greater : MK G_M_greater := ⟨bg_m5 (List.mem_of_getElem? (i := 165) (by decide +kernel)) (by decide +kernel), bg_m1 (List.mem_of_getElem? (i := 11) (by decide +kernel)) (by decide +kernel), by decide +kernel, ⟨by decide +kernel, by decide +kernel⟩, by decide +kernel, by decide⟩
def G_M_readBy : Gm := (⟨"ShameAnglesModel", "readBy", "(III)I"⟩, prog_14_method_44_code, 4, some .int, 3)
theorem mk_M_readBy : MK G_M_readBy := ⟨bg_m5 (List.mem_of_getElem? (i := 168) (by decide +kernel)) (by decide +kernel), bg_m1 (List.mem_of_getElem? (i := 11) (by decide +kernel)) (by decide +kernel), by decide +kernel, ⟨by decide +kernel, by decide +kernel⟩, by decide +kernel, by decide⟩
def G_M_goesOn : Gm := (⟨"ShameAnglesModel", "goesOn", "(II)V"⟩, prog_14_method_50_code, 4, none, 2)
theorem mk_M_goesOn : MK G_M_goesOn := ⟨bg_m5 (List.mem_of_getElem? (i := 172) (by decide +kernel)) (by decide +kernel), bg_m1 (List.mem_of_getElem? (i := 11) (by decide +kernel)) (by decide +kernel), by decide +kernel, ⟨by decide +kernel, by decide +kernel⟩, by decide +kernel, by decide⟩
def G_M_round : Gm := (⟨"ShameAnglesModel", "round", "(I)I"⟩, prog_14_method_11_code, 2, some .int, 1)
theorem mk_M_round : MK G_M_round := ⟨bg_m5 (List.mem_of_getElem? (i := 175) (by decide +kernel)) (by decide +kernel), bg_m1 (List.mem_of_getElem? (i := 11) (by decide +kernel)) (by decide +kernel), by decide +kernel, ⟨by decide +kernel, by decide +kernel⟩, by decide +kernel, by decide⟩
def G_M_takeAll : Gm := (⟨"ShameAnglesModel", "takeAll", "([II)V"⟩, prog_14_method_98_code, 4, none, 2)
theorem mk_M_takeAll : MK G_M_takeAll := ⟨bg_m5 (List.mem_of_getElem? (i := 179) (by decide +kernel)) (by decide +kernel), bg_m1 (List.mem_of_getElem? (i := 11) (by decide +kernel)) (by decide +kernel), by decide +kernel, ⟨by decide +kernel, by decide +kernel⟩, by decide +kernel, by decide⟩
def G_M_takes : Gm := (⟨"ShameAnglesModel", "takes", "([II)V"⟩, prog_14_method_53_code, 4, none, 2)
theorem mk_M_takes : MK G_M_takes := ⟨bg_m5 (List.mem_of_getElem? (i := 183) (by decide +kernel)) (by decide +kernel), bg_m1 (List.mem_of_getElem? (i := 11) (by decide +kernel)) (by decide +kernel), by decide +kernel, ⟨by decide +kernel, by decide +kernel⟩, by decide +kernel, by decide⟩
def G_M_noon : Gm := (⟨"ShameAnglesModel", "noon", "(II)I"⟩, prog_14_method_55_code, 3, some .int, 2)
theorem mk_M_noon : MK G_M_noon := ⟨bg_m5 (List.mem_of_getElem? (i := 187) (by decide +kernel)) (by decide +kernel), bg_m1 (List.mem_of_getElem? (i := 11) (by decide +kernel)) (by decide +kernel), by decide +kernel, ⟨by decide +kernel, by decide +kernel⟩, by decide +kernel, by decide⟩
def G_M_areMen : Gm := (⟨"ShameAnglesModel", "areMen", "(I)Z"⟩, prog_14_method_16_code, 2, some .boolean, 1)
theorem mk_M_areMen : MK G_M_areMen := ⟨bg_m5 (List.mem_of_getElem? (i := 191) (by decide +kernel)) (by decide +kernel), bg_m1 (List.mem_of_getElem? (i := 11) (by decide +kernel)) (by decide +kernel), by decide +kernel, ⟨by decide +kernel, by decide +kernel⟩, by decide +kernel, by decide⟩
def G_M_isReader : Gm := (⟨"ShameAnglesModel", "isReader", "(I)Z"⟩, prog_14_method_15_code, 2, some .boolean, 1)
theorem mk_M_isReader : MK G_M_isReader := ⟨bg_m5 (List.mem_of_getElem? (i := 195) (by decide +kernel)) (by decide +kernel), bg_m1 (List.mem_of_getElem? (i := 11) (by decide +kernel)) (by decide +kernel), by decide +kernel, ⟨by decide +kernel, by decide +kernel⟩, by decide +kernel, by decide⟩
def G_M_no : Gm := (⟨"ShameAnglesModel", "no", "()I"⟩, prog_14_method_3_code, 1, some .int, 0)
theorem mk_M_no : MK G_M_no := ⟨bg_m5 (List.mem_of_getElem? (i := 199) (by decide +kernel)) (by decide +kernel), bg_m1 (List.mem_of_getElem? (i := 11) (by decide +kernel)) (by decide +kernel), by decide +kernel, ⟨by decide +kernel, by decide +kernel⟩, by decide +kernel, by decide⟩
def G_M_notes : Gm := (⟨"ShameAnglesModel", "notes", "()V"⟩, prog_14_method_54_code, 2, none, 0)
theorem mk_M_notes : MK G_M_notes := ⟨bg_m5 (List.mem_of_getElem? (i := 203) (by decide +kernel)) (by decide +kernel), bg_m1 (List.mem_of_getElem? (i := 11) (by decide +kernel)) (by decide +kernel), by decide +kernel, ⟨by decide +kernel, by decide +kernel⟩, by decide +kernel, by decide⟩
def G_M_deed : Gm := (⟨"ShameAnglesModel", "deed", "(II)I"⟩, prog_14_method_56_code, 3, some .int, 2)
theorem mk_M_deed : MK G_M_deed := ⟨bg_m5 (List.mem_of_getElem? (i := 207) (by decide +kernel)) (by decide +kernel), bg_m1 (List.mem_of_getElem? (i := 11) (by decide +kernel)) (by decide +kernel), by decide +kernel, ⟨by decide +kernel, by decide +kernel⟩, by decide +kernel, by decide⟩
def G_M_isMan : Gm := (⟨"ShameAnglesModel", "isMan", "(I)Z"⟩, prog_14_method_14_code, 2, some .boolean, 1)
theorem mk_M_isMan : MK G_M_isMan := ⟨bg_m5 (List.mem_of_getElem? (i := 211) (by decide +kernel)) (by decide +kernel), bg_m1 (List.mem_of_getElem? (i := 11) (by decide +kernel)) (by decide +kernel), by decide +kernel, ⟨by decide +kernel, by decide +kernel⟩, by decide +kernel, by decide⟩
def G_M_undo : Gm := (⟨"ShameAnglesModel", "undo", "()I"⟩, prog_14_method_57_code, 1, some .int, 0)
theorem mk_M_undo : MK G_M_undo := ⟨bg_m5 (List.mem_of_getElem? (i := 215) (by decide +kernel)) (by decide +kernel), bg_m1 (List.mem_of_getElem? (i := 11) (by decide +kernel)) (by decide +kernel), by decide +kernel, ⟨by decide +kernel, by decide +kernel⟩, by decide +kernel, by decide⟩
def G_M_now : Gm := (⟨"ShameAnglesModel", "now", "(I)I"⟩, prog_14_method_59_code, 2, some .int, 1)
theorem mk_M_now : MK G_M_now := ⟨bg_m5 (List.mem_of_getElem? (i := 219) (by decide +kernel)) (by decide +kernel), bg_m1 (List.mem_of_getElem? (i := 11) (by decide +kernel)) (by decide +kernel), by decide +kernel, ⟨by decide +kernel, by decide +kernel⟩, by decide +kernel, by decide⟩
def G_M_nowOf : Gm := (⟨"ShameAnglesModel", "nowOf", "(I)I"⟩, prog_14_method_58_code, 2, some .int, 1)
theorem mk_M_nowOf : MK G_M_nowOf := ⟨bg_m5 (List.mem_of_getElem? (i := 223) (by decide +kernel)) (by decide +kernel), bg_m1 (List.mem_of_getElem? (i := 11) (by decide +kernel)) (by decide +kernel), by decide +kernel, ⟨by decide +kernel, by decide +kernel⟩, by decide +kernel, by decide⟩
def G_M_of : Gm := (⟨"ShameAnglesModel", "of", "(II)I"⟩, prog_14_method_60_code, 3, some .int, 2)
theorem mk_M_of : MK G_M_of := ⟨bg_m5 (List.mem_of_getElem? (i := 227) (by decide +kernel)) (by decide +kernel), bg_m1 (List.mem_of_getElem? (i := 11) (by decide +kernel)) (by decide +kernel), by decide +kernel, ⟨by decide +kernel, by decide +kernel⟩, by decide +kernel, by decide⟩
def G_M_angle : Gm := (⟨"ShameAnglesModel", "angle", "(I)I"⟩, prog_14_method_61_code, 2, some .int, 1)
theorem mk_M_angle : MK G_M_angle := ⟨bg_m5 (List.mem_of_getElem? (i := 231) (by decide +kernel)) (by decide +kernel), bg_m1 (List.mem_of_getElem? (i := 11) (by decide +kernel)) (by decide +kernel), by decide +kernel, ⟨by decide +kernel, by decide +kernel⟩, by decide +kernel, by decide⟩
def G_M_reads : Gm := (⟨"ShameAnglesModel", "reads", "(II)I"⟩, prog_14_method_62_code, 3, some .int, 2)
theorem mk_M_reads : MK G_M_reads := ⟨bg_m5 (List.mem_of_getElem? (i := 235) (by decide +kernel)) (by decide +kernel), bg_m1 (List.mem_of_getElem? (i := 11) (by decide +kernel)) (by decide +kernel), by decide +kernel, ⟨by decide +kernel, by decide +kernel⟩, by decide +kernel, by decide⟩
def G_M_error : Gm := (⟨"ShameAnglesModel", "error", "(II)I"⟩, prog_14_method_64_code, 3, some .int, 2)
theorem mk_M_error : MK G_M_error := ⟨bg_m5 (List.mem_of_getElem? (i := 239) (by decide +kernel)) (by decide +kernel), bg_m1 (List.mem_of_getElem? (i := 11) (by decide +kernel)) (by decide +kernel), by decide +kernel, ⟨by decide +kernel, by decide +kernel⟩, by decide +kernel, by decide⟩
def G_M_thousand : Gm := (⟨"ShameAnglesModel", "thousand", "()I"⟩, prog_14_method_63_code, 1, some .int, 0)
theorem mk_M_thousand : MK G_M_thousand := ⟨bg_m6 (List.mem_of_getElem? (i := 3) (by decide +kernel)) (by decide +kernel), bg_m1 (List.mem_of_getElem? (i := 11) (by decide +kernel)) (by decide +kernel), by decide +kernel, ⟨by decide +kernel, by decide +kernel⟩, by decide +kernel, by decide⟩
def G_M_off : Gm := (⟨"ShameAnglesModel", "off", "()I"⟩, prog_14_method_65_code, 1, some .int, 0)
theorem mk_M_off : MK G_M_off := ⟨bg_m6 (List.mem_of_getElem? (i := 7) (by decide +kernel)) (by decide +kernel), bg_m1 (List.mem_of_getElem? (i := 11) (by decide +kernel)) (by decide +kernel), by decide +kernel, ⟨by decide +kernel, by decide +kernel⟩, by decide +kernel, by decide⟩
def G_M_offNow : Gm := (⟨"ShameAnglesModel", "offNow", "()I"⟩, prog_14_method_49_code, 2, some .int, 0)
theorem mk_M_offNow : MK G_M_offNow := ⟨bg_m6 (List.mem_of_getElem? (i := 11) (by decide +kernel)) (by decide +kernel), bg_m1 (List.mem_of_getElem? (i := 11) (by decide +kernel)) (by decide +kernel), by decide +kernel, ⟨by decide +kernel, by decide +kernel⟩, by decide +kernel, by decide⟩
def G_M_then : Gm := (⟨"ShameAnglesModel", "then", "(III)I"⟩, prog_14_method_66_code, 5, some .int, 3)
theorem mk_M_then : MK G_M_then := ⟨bg_m6 (List.mem_of_getElem? (i := 15) (by decide +kernel)) (by decide +kernel), bg_m1 (List.mem_of_getElem? (i := 11) (by decide +kernel)) (by decide +kernel), by decide +kernel, ⟨by decide +kernel, by decide +kernel⟩, by decide +kernel, by decide⟩
def G_M_when : Gm := (⟨"ShameAnglesModel", "when", "(II)I"⟩, prog_14_method_67_code, 4, some .int, 2)
theorem mk_M_when : MK G_M_when := ⟨bg_m6 (List.mem_of_getElem? (i := 19) (by decide +kernel)) (by decide +kernel), bg_m1 (List.mem_of_getElem? (i := 11) (by decide +kernel)) (by decide +kernel), by decide +kernel, ⟨by decide +kernel, by decide +kernel⟩, by decide +kernel, by decide⟩
def G_M_best : Gm := (⟨"ShameAnglesModel", "best", "(III)I"⟩, prog_14_method_68_code, 8, some .int, 3)
theorem mk_M_best : MK G_M_best := ⟨bg_m6 (List.mem_of_getElem? (i := 23) (by decide +kernel)) (by decide +kernel), bg_m1 (List.mem_of_getElem? (i := 11) (by decide +kernel)) (by decide +kernel), by decide +kernel, ⟨by decide +kernel, by decide +kernel⟩, by decide +kernel, by decide⟩
def G_M_far : Gm := (⟨"ShameAnglesModel", "far", "(I)I"⟩, prog_14_method_10_code, 1, some .int, 1)
theorem mk_M_far : MK G_M_far := ⟨bg_m6 (List.mem_of_getElem? (i := 27) (by decide +kernel)) (by decide +kernel), bg_m1 (List.mem_of_getElem? (i := 11) (by decide +kernel)) (by decide +kernel), by decide +kernel, ⟨by decide +kernel, by decide +kernel⟩, by decide +kernel, by decide⟩
def G_M_fewest : Gm := (⟨"ShameAnglesModel", "fewest", "(II)I"⟩, prog_14_method_69_code, 7, some .int, 2)
theorem mk_M_fewest : MK G_M_fewest := ⟨bg_m6 (List.mem_of_getElem? (i := 31) (by decide +kernel)) (by decide +kernel), bg_m1 (List.mem_of_getElem? (i := 11) (by decide +kernel)) (by decide +kernel), by decide +kernel, ⟨by decide +kernel, by decide +kernel⟩, by decide +kernel, by decide⟩
def G_M_cape : Gm := (⟨"ShameAnglesModel", "cape", "(III)I"⟩, prog_14_method_72_code, 7, some .int, 3)
theorem mk_M_cape : MK G_M_cape := ⟨bg_m6 (List.mem_of_getElem? (i := 35) (by decide +kernel)) (by decide +kernel), bg_m1 (List.mem_of_getElem? (i := 11) (by decide +kernel)) (by decide +kernel), by decide +kernel, ⟨by decide +kernel, by decide +kernel⟩, by decide +kernel, by decide⟩
def G_M_ten : Gm := (⟨"ShameAnglesModel", "ten", "()I"⟩, prog_14_method_2_code, 1, some .int, 0)
theorem mk_M_ten : MK G_M_ten := ⟨bg_m6 (List.mem_of_getElem? (i := 39) (by decide +kernel)) (by decide +kernel), bg_m1 (List.mem_of_getElem? (i := 11) (by decide +kernel)) (by decide +kernel), by decide +kernel, ⟨by decide +kernel, by decide +kernel⟩, by decide +kernel, by decide⟩
def G_M_power : Gm := (⟨"ShameAnglesModel", "power", "(II)I"⟩, prog_14_method_70_code, 5, some .int, 2)
theorem mk_M_power : MK G_M_power := ⟨bg_m6 (List.mem_of_getElem? (i := 43) (by decide +kernel)) (by decide +kernel), bg_m1 (List.mem_of_getElem? (i := 11) (by decide +kernel)) (by decide +kernel), by decide +kernel, ⟨by decide +kernel, by decide +kernel⟩, by decide +kernel, by decide⟩
def G_M_placeBy : Gm := (⟨"ShameAnglesModel", "placeBy", "(III)I"⟩, prog_14_method_71_code, 7, some .int, 3)
theorem mk_M_placeBy : MK G_M_placeBy := ⟨bg_m6 (List.mem_of_getElem? (i := 47) (by decide +kernel)) (by decide +kernel), bg_m1 (List.mem_of_getElem? (i := 11) (by decide +kernel)) (by decide +kernel), by decide +kernel, ⟨by decide +kernel, by decide +kernel⟩, by decide +kernel, by decide⟩
def G_M_watch : Gm := (⟨"ShameAnglesModel", "watch", "(I)I"⟩, prog_14_method_74_code, 7, some .int, 1)
theorem mk_M_watch : MK G_M_watch := ⟨bg_m6 (List.mem_of_getElem? (i := 51) (by decide +kernel)) (by decide +kernel), bg_m1 (List.mem_of_getElem? (i := 11) (by decide +kernel)) (by decide +kernel), by decide +kernel, ⟨by decide +kernel, by decide +kernel⟩, by decide +kernel, by decide⟩
def G_M_isWatch : Gm := (⟨"ShameAnglesModel", "isWatch", "(I)Z"⟩, prog_14_method_73_code, 6, some .boolean, 1)
theorem mk_M_isWatch : MK G_M_isWatch := ⟨bg_m6 (List.mem_of_getElem? (i := 55) (by decide +kernel)) (by decide +kernel), bg_m1 (List.mem_of_getElem? (i := 11) (by decide +kernel)) (by decide +kernel), by decide +kernel, ⟨by decide +kernel, by decide +kernel⟩, by decide +kernel, by decide⟩
def G_M_mutiny : Gm := (⟨"ShameAnglesModel", "mutiny", "(I)I"⟩, prog_14_method_75_code, 6, some .int, 1)
theorem mk_M_mutiny : MK G_M_mutiny := ⟨bg_m6 (List.mem_of_getElem? (i := 59) (by decide +kernel)) (by decide +kernel), bg_m1 (List.mem_of_getElem? (i := 11) (by decide +kernel)) (by decide +kernel), by decide +kernel, ⟨by decide +kernel, by decide +kernel⟩, by decide +kernel, by decide⟩
def G_M_seen : Gm := (⟨"ShameAnglesModel", "seen", "(III)I"⟩, prog_14_method_76_code, 4, some .int, 3)
theorem mk_M_seen : MK G_M_seen := ⟨bg_m6 (List.mem_of_getElem? (i := 63) (by decide +kernel)) (by decide +kernel), bg_m1 (List.mem_of_getElem? (i := 11) (by decide +kernel)) (by decide +kernel), by decide +kernel, ⟨by decide +kernel, by decide +kernel⟩, by decide +kernel, by decide⟩
def G_M_began : Gm := (⟨"ShameAnglesModel", "began", "(II)I"⟩, prog_14_method_79_code, 8, some .int, 2)
theorem mk_M_began : MK G_M_began := ⟨bg_m6 (List.mem_of_getElem? (i := 67) (by decide +kernel)) (by decide +kernel), bg_m1 (List.mem_of_getElem? (i := 11) (by decide +kernel)) (by decide +kernel), by decide +kernel, ⟨by decide +kernel, by decide +kernel⟩, by decide +kernel, by decide⟩
def G_M_mayBegin : Gm := (⟨"ShameAnglesModel", "mayBegin", "(II)Z"⟩, prog_14_method_78_code, 6, some .boolean, 2)
theorem mk_M_mayBegin : MK G_M_mayBegin := ⟨bg_m6 (List.mem_of_getElem? (i := 71) (by decide +kernel)) (by decide +kernel), bg_m1 (List.mem_of_getElem? (i := 11) (by decide +kernel)) (by decide +kernel), by decide +kernel, ⟨by decide +kernel, by decide +kernel⟩, by decide +kernel, by decide⟩
def G_M_shameOn : Gm := (⟨"ShameAnglesModel", "shameOn", "(II)I"⟩, prog_14_method_77_code, 5, some .int, 2)
theorem mk_M_shameOn : MK G_M_shameOn := ⟨bg_m6 (List.mem_of_getElem? (i := 75) (by decide +kernel)) (by decide +kernel), bg_m1 (List.mem_of_getElem? (i := 11) (by decide +kernel)) (by decide +kernel), by decide +kernel, ⟨by decide +kernel, by decide +kernel⟩, by decide +kernel, by decide⟩
def G_M_note : Gm := (⟨"ShameAnglesModel", "note", "(IIII)I"⟩, prog_14_method_80_code, 5, some .int, 4)
theorem mk_M_note : MK G_M_note := ⟨bg_m6 (List.mem_of_getElem? (i := 79) (by decide +kernel)) (by decide +kernel), bg_m1 (List.mem_of_getElem? (i := 11) (by decide +kernel)) (by decide +kernel), by decide +kernel, ⟨by decide +kernel, by decide +kernel⟩, by decide +kernel, by decide⟩
def G_M_mark : Gm := (⟨"ShameAnglesModel", "mark", "(IIII)I"⟩, prog_14_method_81_code, 5, some .int, 4)
theorem mk_M_mark : MK G_M_mark := ⟨bg_m6 (List.mem_of_getElem? (i := 83) (by decide +kernel)) (by decide +kernel), bg_m1 (List.mem_of_getElem? (i := 11) (by decide +kernel)) (by decide +kernel), by decide +kernel, ⟨by decide +kernel, by decide +kernel⟩, by decide +kernel, by decide⟩
def G_M_forget : Gm := (⟨"ShameAnglesModel", "forget", "(I)I"⟩, prog_14_method_82_code, 3, some .int, 1)
theorem mk_M_forget : MK G_M_forget := ⟨bg_m6 (List.mem_of_getElem? (i := 87) (by decide +kernel)) (by decide +kernel), bg_m1 (List.mem_of_getElem? (i := 11) (by decide +kernel)) (by decide +kernel), by decide +kernel, ⟨by decide +kernel, by decide +kernel⟩, by decide +kernel, by decide⟩
def G_M_is : Gm := (⟨"ShameAnglesModel", "is", "(I)I"⟩, prog_14_method_85_code, 2, some .int, 1)
theorem mk_M_is : MK G_M_is := ⟨bg_m6 (List.mem_of_getElem? (i := 91) (by decide +kernel)) (by decide +kernel), bg_m1 (List.mem_of_getElem? (i := 11) (by decide +kernel)) (by decide +kernel), by decide +kernel, ⟨by decide +kernel, by decide +kernel⟩, by decide +kernel, by decide⟩
def G_M_kindsOf : Gm := (⟨"ShameAnglesModel", "kindsOf", "(I)I"⟩, prog_14_method_83_code, 7, some .int, 1)
theorem mk_M_kindsOf : MK G_M_kindsOf := ⟨bg_m6 (List.mem_of_getElem? (i := 95) (by decide +kernel)) (by decide +kernel), bg_m1 (List.mem_of_getElem? (i := 11) (by decide +kernel)) (by decide +kernel), by decide +kernel, ⟨by decide +kernel, by decide +kernel⟩, by decide +kernel, by decide⟩
def G_M_kinds : Gm := (⟨"ShameAnglesModel", "kinds", "(I)I"⟩, prog_14_method_86_code, 2, some .int, 1)
theorem mk_M_kinds : MK G_M_kinds := ⟨bg_m6 (List.mem_of_getElem? (i := 99) (by decide +kernel)) (by decide +kernel), bg_m1 (List.mem_of_getElem? (i := 11) (by decide +kernel)) (by decide +kernel), by decide +kernel, ⟨by decide +kernel, by decide +kernel⟩, by decide +kernel, by decide⟩
def G_M_kindsBy : Gm := (⟨"ShameAnglesModel", "kindsBy", "(I)I"⟩, prog_14_method_84_code, 7, some .int, 1)
theorem mk_M_kindsBy : MK G_M_kindsBy := ⟨bg_m6 (List.mem_of_getElem? (i := 103) (by decide +kernel)) (by decide +kernel), bg_m1 (List.mem_of_getElem? (i := 11) (by decide +kernel)) (by decide +kernel), by decide +kernel, ⟨by decide +kernel, by decide +kernel⟩, by decide +kernel, by decide⟩
def G_M_look : Gm := (⟨"ShameAnglesModel", "look", "(I)I"⟩, prog_14_method_88_code, 7, some .int, 1)
theorem mk_M_look : MK G_M_look := ⟨bg_m6 (List.mem_of_getElem? (i := 107) (by decide +kernel)) (by decide +kernel), bg_m1 (List.mem_of_getElem? (i := 11) (by decide +kernel)) (by decide +kernel), by decide +kernel, ⟨by decide +kernel, by decide +kernel⟩, by decide +kernel, by decide⟩
def G_M_alike : Gm := (⟨"ShameAnglesModel", "alike", "(IZII)I"⟩, prog_14_method_87_code, 10, some .int, 4)
theorem mk_M_alike : MK G_M_alike := ⟨bg_m6 (List.mem_of_getElem? (i := 110) (by decide +kernel)) (by decide +kernel), bg_m1 (List.mem_of_getElem? (i := 11) (by decide +kernel)) (by decide +kernel), by decide +kernel, ⟨by decide +kernel, by decide +kernel⟩, by decide +kernel, by decide⟩
def G_M_ask : Gm := (⟨"ShameAnglesModel", "ask", "(I)I"⟩, prog_14_method_89_code, 8, some .int, 1)
theorem mk_M_ask : MK G_M_ask := ⟨bg_m6 (List.mem_of_getElem? (i := 114) (by decide +kernel)) (by decide +kernel), bg_m1 (List.mem_of_getElem? (i := 11) (by decide +kernel)) (by decide +kernel), by decide +kernel, ⟨by decide +kernel, by decide +kernel⟩, by decide +kernel, by decide⟩
def G_M_officers : Gm := (⟨"ShameAnglesModel", "officers", "(II)I"⟩, prog_14_method_92_code, 7, some .int, 2)
theorem mk_M_officers : MK G_M_officers := ⟨bg_m6 (List.mem_of_getElem? (i := 118) (by decide +kernel)) (by decide +kernel), bg_m1 (List.mem_of_getElem? (i := 11) (by decide +kernel)) (by decide +kernel), by decide +kernel, ⟨by decide +kernel, by decide +kernel⟩, by decide +kernel, by decide⟩
def G_M_rests : Gm := (⟨"ShameAnglesModel", "rests", "(III)Z"⟩, prog_14_method_91_code, 6, some .boolean, 3)
theorem mk_M_rests : MK G_M_rests := ⟨bg_m6 (List.mem_of_getElem? (i := 122) (by decide +kernel)) (by decide +kernel), bg_m1 (List.mem_of_getElem? (i := 11) (by decide +kernel)) (by decide +kernel), by decide +kernel, ⟨by decide +kernel, by decide +kernel⟩, by decide +kernel, by decide⟩
def G_M_firstGets : Gm := (⟨"ShameAnglesModel", "firstGets", "(III)I"⟩, prog_14_method_90_code, 4, some .int, 3)
theorem mk_M_firstGets : MK G_M_firstGets := ⟨bg_m6 (List.mem_of_getElem? (i := 126) (by decide +kernel)) (by decide +kernel), bg_m1 (List.mem_of_getElem? (i := 11) (by decide +kernel)) (by decide +kernel), by decide +kernel, ⟨by decide +kernel, by decide +kernel⟩, by decide +kernel, by decide⟩
def G_M_slips : Gm := (⟨"ShameAnglesModel", "slips", "(III)I"⟩, prog_14_method_94_code, 14, some .int, 3)
theorem mk_M_slips : MK G_M_slips := ⟨bg_m6 (List.mem_of_getElem? (i := 130) (by decide +kernel)) (by decide +kernel), bg_m1 (List.mem_of_getElem? (i := 11) (by decide +kernel)) (by decide +kernel), by decide +kernel, ⟨by decide +kernel, by decide +kernel⟩, by decide +kernel, by decide⟩
def G_M_lay : Gm := (⟨"ShameAnglesModel", "lay", "(JJ)V"⟩, prog_14_method_93_code, 11, none, 2)
theorem mk_M_lay : MK G_M_lay := ⟨bg_m6 (List.mem_of_getElem? (i := 135) (by decide +kernel)) (by decide +kernel), bg_m1 (List.mem_of_getElem? (i := 11) (by decide +kernel)) (by decide +kernel), by decide +kernel, ⟨by decide +kernel, by decide +kernel⟩, by decide +kernel, by decide⟩
def G_M_voyages : Gm := (⟨"ShameAnglesModel", "voyages", "(II)I"⟩, prog_14_method_95_code, 9, some .int, 2)
theorem mk_M_voyages : MK G_M_voyages := ⟨bg_m6 (List.mem_of_getElem? (i := 139) (by decide +kernel)) (by decide +kernel), bg_m1 (List.mem_of_getElem? (i := 11) (by decide +kernel)) (by decide +kernel), by decide +kernel, ⟨by decide +kernel, by decide +kernel⟩, by decide +kernel, by decide⟩
def G_M_part : Gm := (⟨"ShameAnglesModel", "part", "(I)J"⟩, prog_14_method_96_code, 2, some .long, 1)
theorem mk_M_part : MK G_M_part := ⟨bg_m6 (List.mem_of_getElem? (i := 151) (by decide +kernel)) (by decide +kernel), bg_m1 (List.mem_of_getElem? (i := 11) (by decide +kernel)) (by decide +kernel), by decide +kernel, ⟨by decide +kernel, by decide +kernel⟩, by decide +kernel, by decide⟩
def G_M_image : Gm := (⟨"ShameAnglesModel", "image", "(I)I"⟩, prog_14_method_99_code, 2, some .int, 1)
theorem mk_M_image : MK G_M_image := ⟨bg_m6 (List.mem_of_getElem? (i := 155) (by decide +kernel)) (by decide +kernel), bg_m1 (List.mem_of_getElem? (i := 11) (by decide +kernel)) (by decide +kernel), by decide +kernel, ⟨by decide +kernel, by decide +kernel⟩, by decide +kernel, by decide⟩
def G_M_from : Gm := (⟨"ShameAnglesModel", "from", "(I)I"⟩, prog_14_method_100_code, 2, some .int, 1)
theorem mk_M_from : MK G_M_from := ⟨bg_m6 (List.mem_of_getElem? (i := 159) (by decide +kernel)) (by decide +kernel), bg_m1 (List.mem_of_getElem? (i := 11) (by decide +kernel)) (by decide +kernel), by decide +kernel, ⟨by decide +kernel, by decide +kernel⟩, by decide +kernel, by decide⟩
def G_M_status : Gm := (⟨"ShameAnglesModel", "status", "(I)I"⟩, prog_14_method_101_code, 2, some .int, 1)
theorem mk_M_status : MK G_M_status := ⟨bg_m6 (List.mem_of_getElem? (i := 163) (by decide +kernel)) (by decide +kernel), bg_m1 (List.mem_of_getElem? (i := 11) (by decide +kernel)) (by decide +kernel), by decide +kernel, ⟨by decide +kernel, by decide +kernel⟩, by decide +kernel, by decide⟩
def G_M_count : Gm := (⟨"ShameAnglesModel", "count", "(I)I"⟩, prog_14_method_104_code, 2, some .int, 1)
theorem mk_M_count : MK G_M_count := ⟨bg_m6 (List.mem_of_getElem? (i := 167) (by decide +kernel)) (by decide +kernel), bg_m1 (List.mem_of_getElem? (i := 11) (by decide +kernel)) (by decide +kernel), by decide +kernel, ⟨by decide +kernel, by decide +kernel⟩, by decide +kernel, by decide⟩
def G_M_countOf : Gm := (⟨"ShameAnglesModel", "countOf", "(I)I"⟩, prog_14_method_103_code, 2, some .int, 1)
theorem mk_M_countOf : MK G_M_countOf := ⟨bg_m6 (List.mem_of_getElem? (i := 171) (by decide +kernel)) (by decide +kernel), bg_m1 (List.mem_of_getElem? (i := 11) (by decide +kernel)) (by decide +kernel), by decide +kernel, ⟨by decide +kernel, by decide +kernel⟩, by decide +kernel, by decide⟩
def G_M_shameAll : Gm := (⟨"ShameAnglesModel", "shameAll", "()I"⟩, prog_14_method_102_code, 3, some .int, 0)
theorem mk_M_shameAll : MK G_M_shameAll := ⟨bg_m6 (List.mem_of_getElem? (i := 175) (by decide +kernel)) (by decide +kernel), bg_m1 (List.mem_of_getElem? (i := 11) (by decide +kernel)) (by decide +kernel), by decide +kernel, ⟨by decide +kernel, by decide +kernel⟩, by decide +kernel, by decide⟩
def G_M_digest : Gm := (⟨"ShameAnglesModel", "digest", "()J"⟩, prog_14_method_106_code, 2, some .long, 0)
theorem mk_M_digest : MK G_M_digest := ⟨bg_m6 (List.mem_of_getElem? (i := 179) (by decide +kernel)) (by decide +kernel), bg_m1 (List.mem_of_getElem? (i := 11) (by decide +kernel)) (by decide +kernel), by decide +kernel, ⟨by decide +kernel, by decide +kernel⟩, by decide +kernel, by decide⟩
def G_M_mix : Gm := (⟨"ShameAnglesModel", "mix", "(J)V"⟩, prog_14_method_105_code, 3, none, 1)
theorem mk_M_mix : MK G_M_mix := ⟨bg_m6 (List.mem_of_getElem? (i := 184) (by decide +kernel)) (by decide +kernel), bg_m1 (List.mem_of_getElem? (i := 11) (by decide +kernel)) (by decide +kernel), by decide +kernel, ⟨by decide +kernel, by decide +kernel⟩, by decide +kernel, by decide⟩
theorem ic_L_9 : IC "ShameAnglesLaw" 9 G_A_init := ⟨bg_m1 (List.mem_of_getElem? (i := 23) (by decide +kernel)) (by decide +kernel), bg_m1 (List.mem_of_getElem? (i := 24) (by decide +kernel)) (by decide +kernel), rfl, rfl⟩
theorem ic_A_9 : IC "ShameAngles" 9 G_S_init := ⟨bg_m1 (List.mem_of_getElem? (i := 31) (by decide +kernel)) (by decide +kernel), bg_m1 (List.mem_of_getElem? (i := 32) (by decide +kernel)) (by decide +kernel), rfl, rfl⟩
theorem ic_S_18 : IC "ShameAngles$State" 18 G_R_init := ⟨bg_m1 (List.mem_of_getElem? (i := 100) (by decide +kernel)) (by decide +kernel), bg_m1 (List.mem_of_getElem? (i := 101) (by decide +kernel)) (by decide +kernel), rfl, rfl⟩
theorem ic_A_40 : IC "ShameAngles" 40 G_O_init := ⟨bg_m1 (List.mem_of_getElem? (i := 187) (by decide +kernel)) (by decide +kernel), bg_m1 (List.mem_of_getElem? (i := 188) (by decide +kernel)) (by decide +kernel), rfl, rfl⟩
theorem vc_L_13 : VC "ShameAnglesLaw" 13 G_A_ship := ⟨bg_m2 (List.mem_of_getElem? (i := 44) (by decide +kernel)) (by decide +kernel), bg_m2 (List.mem_of_getElem? (i := 45) (by decide +kernel)) (by decide +kernel), bg_m2 (List.mem_of_getElem? (i := 46) (by decide +kernel)) (by decide +kernel)⟩
theorem sc_A_66 : SC "ShameAngles" 66 G_A_within := ⟨bg_m2 (List.mem_of_getElem? (i := 48) (by decide +kernel)) (by decide +kernel), bg_m2 (List.mem_of_getElem? (i := 49) (by decide +kernel)) (by decide +kernel)⟩
theorem vc_A_70 : VC "ShameAngles" 70 G_A_bad := ⟨bg_m2 (List.mem_of_getElem? (i := 51) (by decide +kernel)) (by decide +kernel), bg_m2 (List.mem_of_getElem? (i := 53) (by decide +kernel)) (by decide +kernel), bg_m0 (List.mem_of_getElem? (i := 0) (by decide +kernel)) (by decide +kernel)⟩
theorem vc_A_81 : VC "ShameAngles" 81 G_S_begin := ⟨bg_m2 (List.mem_of_getElem? (i := 55) (by decide +kernel)) (by decide +kernel), bg_m2 (List.mem_of_getElem? (i := 56) (by decide +kernel)) (by decide +kernel), bg_m2 (List.mem_of_getElem? (i := 57) (by decide +kernel)) (by decide +kernel)⟩
theorem vc_S_42 : VC "ShameAngles$State" 42 G_H_begin := ⟨bg_m2 (List.mem_of_getElem? (i := 59) (by decide +kernel)) (by decide +kernel), bg_m2 (List.mem_of_getElem? (i := 60) (by decide +kernel)) (by decide +kernel), bg_m2 (List.mem_of_getElem? (i := 61) (by decide +kernel)) (by decide +kernel)⟩
theorem vc_L_18 : VC "ShameAnglesLaw" 18 G_A_fog := ⟨bg_m2 (List.mem_of_getElem? (i := 63) (by decide +kernel)) (by decide +kernel), bg_m2 (List.mem_of_getElem? (i := 64) (by decide +kernel)) (by decide +kernel), bg_m2 (List.mem_of_getElem? (i := 65) (by decide +kernel)) (by decide +kernel)⟩
theorem vc_L_23 : VC "ShameAnglesLaw" 23 G_A_man := ⟨bg_m2 (List.mem_of_getElem? (i := 67) (by decide +kernel)) (by decide +kernel), bg_m2 (List.mem_of_getElem? (i := 68) (by decide +kernel)) (by decide +kernel), bg_m2 (List.mem_of_getElem? (i := 69) (by decide +kernel)) (by decide +kernel)⟩
theorem vc_A_98 : VC "ShameAngles" 98 G_A_full := ⟨bg_m2 (List.mem_of_getElem? (i := 71) (by decide +kernel)) (by decide +kernel), bg_m2 (List.mem_of_getElem? (i := 73) (by decide +kernel)) (by decide +kernel), bg_m0 (List.mem_of_getElem? (i := 1) (by decide +kernel)) (by decide +kernel)⟩
theorem vc_A_102 : VC "ShameAngles" 102 G_H_addMan := ⟨bg_m2 (List.mem_of_getElem? (i := 75) (by decide +kernel)) (by decide +kernel), bg_m2 (List.mem_of_getElem? (i := 76) (by decide +kernel)) (by decide +kernel), bg_m2 (List.mem_of_getElem? (i := 77) (by decide +kernel)) (by decide +kernel)⟩
theorem vc_L_27 : VC "ShameAnglesLaw" 27 G_A_reader := ⟨bg_m2 (List.mem_of_getElem? (i := 79) (by decide +kernel)) (by decide +kernel), bg_m2 (List.mem_of_getElem? (i := 80) (by decide +kernel)) (by decide +kernel), bg_m2 (List.mem_of_getElem? (i := 81) (by decide +kernel)) (by decide +kernel)⟩
theorem vc_A_109 : VC "ShameAngles" 109 G_H_addReader := ⟨bg_m2 (List.mem_of_getElem? (i := 83) (by decide +kernel)) (by decide +kernel), bg_m2 (List.mem_of_getElem? (i := 84) (by decide +kernel)) (by decide +kernel), bg_m2 (List.mem_of_getElem? (i := 85) (by decide +kernel)) (by decide +kernel)⟩
theorem vc_L_31 : VC "ShameAnglesLaw" 31 G_A_type := ⟨bg_m2 (List.mem_of_getElem? (i := 87) (by decide +kernel)) (by decide +kernel), bg_m2 (List.mem_of_getElem? (i := 88) (by decide +kernel)) (by decide +kernel), bg_m2 (List.mem_of_getElem? (i := 89) (by decide +kernel)) (by decide +kernel)⟩
theorem vc_A_113 : VC "ShameAngles" 113 G_T_add := ⟨bg_m2 (List.mem_of_getElem? (i := 91) (by decide +kernel)) (by decide +kernel), bg_m2 (List.mem_of_getElem? (i := 92) (by decide +kernel)) (by decide +kernel), bg_m2 (List.mem_of_getElem? (i := 93) (by decide +kernel)) (by decide +kernel)⟩
theorem vc_L_35 : VC "ShameAnglesLaw" 35 G_A_clear := ⟨bg_m2 (List.mem_of_getElem? (i := 95) (by decide +kernel)) (by decide +kernel), bg_m2 (List.mem_of_getElem? (i := 96) (by decide +kernel)) (by decide +kernel), bg_m2 (List.mem_of_getElem? (i := 97) (by decide +kernel)) (by decide +kernel)⟩
theorem vc_L_40 : VC "ShameAnglesLaw" 40 G_A_read := ⟨bg_m2 (List.mem_of_getElem? (i := 99) (by decide +kernel)) (by decide +kernel), bg_m2 (List.mem_of_getElem? (i := 100) (by decide +kernel)) (by decide +kernel), bg_m2 (List.mem_of_getElem? (i := 101) (by decide +kernel)) (by decide +kernel)⟩
theorem vc_A_116 : VC "ShameAngles" 116 G_T_tell := ⟨bg_m2 (List.mem_of_getElem? (i := 103) (by decide +kernel)) (by decide +kernel), bg_m2 (List.mem_of_getElem? (i := 104) (by decide +kernel)) (by decide +kernel), bg_m2 (List.mem_of_getElem? (i := 105) (by decide +kernel)) (by decide +kernel)⟩
theorem vc_T_22 : VC "ShameAngles$Script" 22 G_T_advance := ⟨bg_m2 (List.mem_of_getElem? (i := 107) (by decide +kernel)) (by decide +kernel), bg_m2 (List.mem_of_getElem? (i := 109) (by decide +kernel)) (by decide +kernel), bg_m0 (List.mem_of_getElem? (i := 2) (by decide +kernel)) (by decide +kernel)⟩
theorem sc_T_119 : SC "ShameAngles$Script" 119 G_T_isLetter := ⟨bg_m2 (List.mem_of_getElem? (i := 111) (by decide +kernel)) (by decide +kernel), bg_m2 (List.mem_of_getElem? (i := 112) (by decide +kernel)) (by decide +kernel)⟩
theorem vc_T_123 : VC "ShameAngles$Script" 123 G_T_advanceWord := ⟨bg_m2 (List.mem_of_getElem? (i := 114) (by decide +kernel)) (by decide +kernel), bg_m2 (List.mem_of_getElem? (i := 116) (by decide +kernel)) (by decide +kernel), bg_m0 (List.mem_of_getElem? (i := 3) (by decide +kernel)) (by decide +kernel)⟩
theorem sc_T_126 : SC "ShameAngles$Script" 126 G_T_isFigure := ⟨bg_m2 (List.mem_of_getElem? (i := 118) (by decide +kernel)) (by decide +kernel), bg_m2 (List.mem_of_getElem? (i := 119) (by decide +kernel)) (by decide +kernel)⟩
theorem vc_T_129 : VC "ShameAngles$Script" 129 G_T_advanceNumber := ⟨bg_m2 (List.mem_of_getElem? (i := 121) (by decide +kernel)) (by decide +kernel), bg_m2 (List.mem_of_getElem? (i := 123) (by decide +kernel)) (by decide +kernel), bg_m0 (List.mem_of_getElem? (i := 4) (by decide +kernel)) (by decide +kernel)⟩
theorem vc_T_28 : VC "ShameAngles$Script" 28 G_T_item := ⟨bg_m2 (List.mem_of_getElem? (i := 125) (by decide +kernel)) (by decide +kernel), bg_m2 (List.mem_of_getElem? (i := 127) (by decide +kernel)) (by decide +kernel), bg_m0 (List.mem_of_getElem? (i := 5) (by decide +kernel)) (by decide +kernel)⟩
theorem vc_T_37 : VC "ShameAngles$Script" 37 G_T_wordIs := ⟨bg_m2 (List.mem_of_getElem? (i := 130) (by decide +kernel)) (by decide +kernel), bg_m2 (List.mem_of_getElem? (i := 132) (by decide +kernel)) (by decide +kernel), bg_m0 (List.mem_of_getElem? (i := 6) (by decide +kernel)) (by decide +kernel)⟩
theorem vc_T_109 : VC "ShameAngles$Script" 109 G_J_length := ⟨bg_m2 (List.mem_of_getElem? (i := 134) (by decide +kernel)) (by decide +kernel), bg_m2 (List.mem_of_getElem? (i := 135) (by decide +kernel)) (by decide +kernel), bg_m2 (List.mem_of_getElem? (i := 136) (by decide +kernel)) (by decide +kernel)⟩
theorem vc_J_335 : VC "java/lang/String" 335 G_J_coder := ⟨bg_m2 (List.mem_of_getElem? (i := 138) (by decide +kernel)) (by decide +kernel), bg_m2 (List.mem_of_getElem? (i := 139) (by decide +kernel)) (by decide +kernel), bg_m2 (List.mem_of_getElem? (i := 140) (by decide +kernel)) (by decide +kernel)⟩
theorem vc_T_115 : VC "ShameAngles$Script" 115 G_J_charAt := ⟨bg_m2 (List.mem_of_getElem? (i := 144) (by decide +kernel)) (by decide +kernel), bg_m2 (List.mem_of_getElem? (i := 145) (by decide +kernel)) (by decide +kernel), bg_m2 (List.mem_of_getElem? (i := 146) (by decide +kernel)) (by decide +kernel)⟩
theorem vc_J_492 : VC "java/lang/String" 492 G_J_isLatin1 := ⟨bg_m2 (List.mem_of_getElem? (i := 148) (by decide +kernel)) (by decide +kernel), bg_m2 (List.mem_of_getElem? (i := 149) (by decide +kernel)) (by decide +kernel), bg_m2 (List.mem_of_getElem? (i := 150) (by decide +kernel)) (by decide +kernel)⟩
theorem sc_J_495 : SC "java/lang/String" 495 G_JL_charAt := ⟨bg_m2 (List.mem_of_getElem? (i := 152) (by decide +kernel)) (by decide +kernel), bg_m2 (List.mem_of_getElem? (i := 153) (by decide +kernel)) (by decide +kernel)⟩
theorem sc_JL_9 : SC "java/lang/StringLatin1" 9 G_J_checkIndex := ⟨bg_m2 (List.mem_of_getElem? (i := 155) (by decide +kernel)) (by decide +kernel), bg_m2 (List.mem_of_getElem? (i := 156) (by decide +kernel)) (by decide +kernel)⟩
theorem sc_J_1059 : SC "java/lang/String" 1059 G_JP_checkIndex := ⟨bg_m2 (List.mem_of_getElem? (i := 160) (by decide +kernel)) (by decide +kernel), bg_m2 (List.mem_of_getElem? (i := 161) (by decide +kernel)) (by decide +kernel)⟩
theorem sc_JU_414 : SC "java/lang/StringUTF16" 414 G_J_checkIndex := ⟨bg_m2 (List.mem_of_getElem? (i := 172) (by decide +kernel)) (by decide +kernel), bg_m2 (List.mem_of_getElem? (i := 156) (by decide +kernel)) (by decide +kernel)⟩
theorem vc_T_41 : VC "ShameAngles$Script" 41 G_T_shipItem := ⟨bg_m2 (List.mem_of_getElem? (i := 182) (by decide +kernel)) (by decide +kernel), bg_m2 (List.mem_of_getElem? (i := 184) (by decide +kernel)) (by decide +kernel), bg_m0 (List.mem_of_getElem? (i := 7) (by decide +kernel)) (by decide +kernel)⟩
theorem vc_T_78 : VC "ShameAngles$Script" 78 G_T_number := ⟨bg_m2 (List.mem_of_getElem? (i := 186) (by decide +kernel)) (by decide +kernel), bg_m2 (List.mem_of_getElem? (i := 188) (by decide +kernel)) (by decide +kernel), bg_m0 (List.mem_of_getElem? (i := 8) (by decide +kernel)) (by decide +kernel)⟩
theorem vc_T_82 : VC "ShameAngles$Script" 82 G_T_ended := ⟨bg_m2 (List.mem_of_getElem? (i := 190) (by decide +kernel)) (by decide +kernel), bg_m2 (List.mem_of_getElem? (i := 192) (by decide +kernel)) (by decide +kernel), bg_m0 (List.mem_of_getElem? (i := 9) (by decide +kernel)) (by decide +kernel)⟩
theorem vc_T_86 : VC "ShameAngles$Script" 86 G_H_begin := ⟨bg_m2 (List.mem_of_getElem? (i := 194) (by decide +kernel)) (by decide +kernel), bg_m2 (List.mem_of_getElem? (i := 60) (by decide +kernel)) (by decide +kernel), bg_m2 (List.mem_of_getElem? (i := 61) (by decide +kernel)) (by decide +kernel)⟩
theorem vc_T_47 : VC "ShameAngles$Script" 47 G_T_fogItem := ⟨bg_m2 (List.mem_of_getElem? (i := 196) (by decide +kernel)) (by decide +kernel), bg_m2 (List.mem_of_getElem? (i := 198) (by decide +kernel)) (by decide +kernel), bg_m0 (List.mem_of_getElem? (i := 10) (by decide +kernel)) (by decide +kernel)⟩
theorem vc_T_57 : VC "ShameAngles$Script" 57 G_T_manItem := ⟨bg_m2 (List.mem_of_getElem? (i := 201) (by decide +kernel)) (by decide +kernel), bg_m2 (List.mem_of_getElem? (i := 203) (by decide +kernel)) (by decide +kernel), bg_m0 (List.mem_of_getElem? (i := 11) (by decide +kernel)) (by decide +kernel)⟩
theorem vc_T_92 : VC "ShameAngles$Script" 92 G_H_addMan := ⟨bg_m2 (List.mem_of_getElem? (i := 205) (by decide +kernel)) (by decide +kernel), bg_m2 (List.mem_of_getElem? (i := 76) (by decide +kernel)) (by decide +kernel), bg_m2 (List.mem_of_getElem? (i := 77) (by decide +kernel)) (by decide +kernel)⟩
theorem vc_T_65 : VC "ShameAngles$Script" 65 G_T_readerItem := ⟨bg_m2 (List.mem_of_getElem? (i := 207) (by decide +kernel)) (by decide +kernel), bg_m2 (List.mem_of_getElem? (i := 209) (by decide +kernel)) (by decide +kernel), bg_m0 (List.mem_of_getElem? (i := 12) (by decide +kernel)) (by decide +kernel)⟩
theorem vc_T_95 : VC "ShameAngles$Script" 95 G_H_addReader := ⟨bg_m2 (List.mem_of_getElem? (i := 211) (by decide +kernel)) (by decide +kernel), bg_m2 (List.mem_of_getElem? (i := 84) (by decide +kernel)) (by decide +kernel), bg_m2 (List.mem_of_getElem? (i := 85) (by decide +kernel)) (by decide +kernel)⟩
theorem vc_T_70 : VC "ShameAngles$Script" 70 G_T_deedItem := ⟨bg_m2 (List.mem_of_getElem? (i := 213) (by decide +kernel)) (by decide +kernel), bg_m2 (List.mem_of_getElem? (i := 215) (by decide +kernel)) (by decide +kernel), bg_m0 (List.mem_of_getElem? (i := 13) (by decide +kernel)) (by decide +kernel)⟩
theorem vc_T_99 : VC "ShameAngles$Script" 99 G_H_addShame := ⟨bg_m2 (List.mem_of_getElem? (i := 217) (by decide +kernel)) (by decide +kernel), bg_m2 (List.mem_of_getElem? (i := 218) (by decide +kernel)) (by decide +kernel), bg_m2 (List.mem_of_getElem? (i := 219) (by decide +kernel)) (by decide +kernel)⟩
theorem vc_H_49 : VC "ShameAngles$Ship" 49 G_H_hasMan := ⟨bg_m2 (List.mem_of_getElem? (i := 221) (by decide +kernel)) (by decide +kernel), bg_m2 (List.mem_of_getElem? (i := 222) (by decide +kernel)) (by decide +kernel), bg_m2 (List.mem_of_getElem? (i := 223) (by decide +kernel)) (by decide +kernel)⟩
theorem sc_H_53 : SC "ShameAngles$Ship" 53 G_J_min := ⟨bg_m2 (List.mem_of_getElem? (i := 225) (by decide +kernel)) (by decide +kernel), bg_m2 (List.mem_of_getElem? (i := 226) (by decide +kernel)) (by decide +kernel)⟩
theorem vc_T_75 : VC "ShameAngles$Script" 75 G_T_noonItem := ⟨bg_m2 (List.mem_of_getElem? (i := 229) (by decide +kernel)) (by decide +kernel), bg_m2 (List.mem_of_getElem? (i := 231) (by decide +kernel)) (by decide +kernel), bg_m0 (List.mem_of_getElem? (i := 14) (by decide +kernel)) (by decide +kernel)⟩
theorem vc_T_106 : VC "ShameAngles$Script" 106 G_H_sail := ⟨bg_m2 (List.mem_of_getElem? (i := 233) (by decide +kernel)) (by decide +kernel), bg_m2 (List.mem_of_getElem? (i := 234) (by decide +kernel)) (by decide +kernel), bg_m2 (List.mem_of_getElem? (i := 235) (by decide +kernel)) (by decide +kernel)⟩
theorem vc_H_82 : VC "ShameAngles$Ship" 82 G_H_errorOf := ⟨bg_m2 (List.mem_of_getElem? (i := 237) (by decide +kernel)) (by decide +kernel), bg_m2 (List.mem_of_getElem? (i := 238) (by decide +kernel)) (by decide +kernel), bg_m2 (List.mem_of_getElem? (i := 239) (by decide +kernel)) (by decide +kernel)⟩
theorem vc_H_65 : VC "ShameAngles$Ship" 65 G_H_hasReader := ⟨bg_m3 (List.mem_of_getElem? (i := 1) (by decide +kernel)) (by decide +kernel), bg_m3 (List.mem_of_getElem? (i := 2) (by decide +kernel)) (by decide +kernel), bg_m3 (List.mem_of_getElem? (i := 3) (by decide +kernel)) (by decide +kernel)⟩
theorem vc_H_75 : VC "ShameAngles$Ship" 75 G_H_foggy := ⟨bg_m3 (List.mem_of_getElem? (i := 5) (by decide +kernel)) (by decide +kernel), bg_m3 (List.mem_of_getElem? (i := 6) (by decide +kernel)) (by decide +kernel), bg_m3 (List.mem_of_getElem? (i := 7) (by decide +kernel)) (by decide +kernel)⟩
theorem sc_H_59 : SC "ShameAngles$Ship" 59 G_K_stands := ⟨bg_m3 (List.mem_of_getElem? (i := 9) (by decide +kernel)) (by decide +kernel), bg_m3 (List.mem_of_getElem? (i := 10) (by decide +kernel)) (by decide +kernel)⟩
theorem sc_H_72 : SC "ShameAngles$Ship" 72 G_K_sees := ⟨bg_m3 (List.mem_of_getElem? (i := 12) (by decide +kernel)) (by decide +kernel), bg_m3 (List.mem_of_getElem? (i := 13) (by decide +kernel)) (by decide +kernel)⟩
theorem vc_H_85 : VC "ShameAngles$Ship" 85 G_H_placeBehind := ⟨bg_m3 (List.mem_of_getElem? (i := 15) (by decide +kernel)) (by decide +kernel), bg_m3 (List.mem_of_getElem? (i := 16) (by decide +kernel)) (by decide +kernel), bg_m3 (List.mem_of_getElem? (i := 17) (by decide +kernel)) (by decide +kernel)⟩
theorem sc_H_79 : SC "ShameAngles$Ship" 79 G_J_floorMod := ⟨bg_m3 (List.mem_of_getElem? (i := 19) (by decide +kernel)) (by decide +kernel), bg_m3 (List.mem_of_getElem? (i := 20) (by decide +kernel)) (by decide +kernel)⟩
theorem sc_H_88 : SC "ShameAngles$Ship" 88 G_J_max := ⟨bg_m3 (List.mem_of_getElem? (i := 22) (by decide +kernel)) (by decide +kernel), bg_m3 (List.mem_of_getElem? (i := 23) (by decide +kernel)) (by decide +kernel)⟩
theorem vc_A_123 : VC "ShameAngles" 123 G_H_copy := ⟨bg_m3 (List.mem_of_getElem? (i := 25) (by decide +kernel)) (by decide +kernel), bg_m3 (List.mem_of_getElem? (i := 26) (by decide +kernel)) (by decide +kernel), bg_m3 (List.mem_of_getElem? (i := 27) (by decide +kernel)) (by decide +kernel)⟩
theorem vc_L_44 : VC "ShameAnglesLaw" 44 G_A_noon := ⟨bg_m3 (List.mem_of_getElem? (i := 33) (by decide +kernel)) (by decide +kernel), bg_m3 (List.mem_of_getElem? (i := 34) (by decide +kernel)) (by decide +kernel), bg_m3 (List.mem_of_getElem? (i := 35) (by decide +kernel)) (by decide +kernel)⟩
theorem vc_A_127 : VC "ShameAngles" 127 G_H_hasSet := ⟨bg_m3 (List.mem_of_getElem? (i := 37) (by decide +kernel)) (by decide +kernel), bg_m3 (List.mem_of_getElem? (i := 38) (by decide +kernel)) (by decide +kernel), bg_m3 (List.mem_of_getElem? (i := 39) (by decide +kernel)) (by decide +kernel)⟩
theorem vc_A_131 : VC "ShameAngles" 131 G_H_hasReader := ⟨bg_m3 (List.mem_of_getElem? (i := 41) (by decide +kernel)) (by decide +kernel), bg_m3 (List.mem_of_getElem? (i := 2) (by decide +kernel)) (by decide +kernel), bg_m3 (List.mem_of_getElem? (i := 3) (by decide +kernel)) (by decide +kernel)⟩
theorem vc_A_137 : VC "ShameAngles" 137 G_A_no := ⟨bg_m3 (List.mem_of_getElem? (i := 42) (by decide +kernel)) (by decide +kernel), bg_m3 (List.mem_of_getElem? (i := 44) (by decide +kernel)) (by decide +kernel), bg_m0 (List.mem_of_getElem? (i := 15) (by decide +kernel)) (by decide +kernel)⟩
theorem vc_A_140 : VC "ShameAngles" 140 G_P_push := ⟨bg_m3 (List.mem_of_getElem? (i := 46) (by decide +kernel)) (by decide +kernel), bg_m3 (List.mem_of_getElem? (i := 47) (by decide +kernel)) (by decide +kernel), bg_m3 (List.mem_of_getElem? (i := 48) (by decide +kernel)) (by decide +kernel)⟩
theorem vc_A_143 : VC "ShameAngles" 143 G_H_sail := ⟨bg_m3 (List.mem_of_getElem? (i := 51) (by decide +kernel)) (by decide +kernel), bg_m2 (List.mem_of_getElem? (i := 234) (by decide +kernel)) (by decide +kernel), bg_m2 (List.mem_of_getElem? (i := 235) (by decide +kernel)) (by decide +kernel)⟩
theorem vc_L_48 : VC "ShameAnglesLaw" 48 G_A_deed := ⟨bg_m3 (List.mem_of_getElem? (i := 52) (by decide +kernel)) (by decide +kernel), bg_m3 (List.mem_of_getElem? (i := 53) (by decide +kernel)) (by decide +kernel), bg_m3 (List.mem_of_getElem? (i := 54) (by decide +kernel)) (by decide +kernel)⟩
theorem vc_A_150 : VC "ShameAngles" 150 G_H_hasMan := ⟨bg_m3 (List.mem_of_getElem? (i := 56) (by decide +kernel)) (by decide +kernel), bg_m2 (List.mem_of_getElem? (i := 222) (by decide +kernel)) (by decide +kernel), bg_m2 (List.mem_of_getElem? (i := 223) (by decide +kernel)) (by decide +kernel)⟩
theorem vc_A_153 : VC "ShameAngles" 153 G_H_addShame := ⟨bg_m3 (List.mem_of_getElem? (i := 57) (by decide +kernel)) (by decide +kernel), bg_m2 (List.mem_of_getElem? (i := 218) (by decide +kernel)) (by decide +kernel), bg_m2 (List.mem_of_getElem? (i := 219) (by decide +kernel)) (by decide +kernel)⟩
theorem vc_L_52 : VC "ShameAnglesLaw" 52 G_A_undo := ⟨bg_m3 (List.mem_of_getElem? (i := 58) (by decide +kernel)) (by decide +kernel), bg_m3 (List.mem_of_getElem? (i := 59) (by decide +kernel)) (by decide +kernel), bg_m3 (List.mem_of_getElem? (i := 60) (by decide +kernel)) (by decide +kernel)⟩
theorem vc_A_159 : VC "ShameAngles" 159 G_P_pop := ⟨bg_m3 (List.mem_of_getElem? (i := 62) (by decide +kernel)) (by decide +kernel), bg_m3 (List.mem_of_getElem? (i := 63) (by decide +kernel)) (by decide +kernel), bg_m3 (List.mem_of_getElem? (i := 64) (by decide +kernel)) (by decide +kernel)⟩
theorem vc_L_56 : VC "ShameAnglesLaw" 56 G_A_now := ⟨bg_m3 (List.mem_of_getElem? (i := 66) (by decide +kernel)) (by decide +kernel), bg_m3 (List.mem_of_getElem? (i := 67) (by decide +kernel)) (by decide +kernel), bg_m3 (List.mem_of_getElem? (i := 68) (by decide +kernel)) (by decide +kernel)⟩
theorem vc_A_165 : VC "ShameAngles" 165 G_H_foggy := ⟨bg_m3 (List.mem_of_getElem? (i := 70) (by decide +kernel)) (by decide +kernel), bg_m3 (List.mem_of_getElem? (i := 6) (by decide +kernel)) (by decide +kernel), bg_m3 (List.mem_of_getElem? (i := 7) (by decide +kernel)) (by decide +kernel)⟩
theorem vc_L_60 : VC "ShameAnglesLaw" 60 G_A_of := ⟨bg_m3 (List.mem_of_getElem? (i := 71) (by decide +kernel)) (by decide +kernel), bg_m3 (List.mem_of_getElem? (i := 72) (by decide +kernel)) (by decide +kernel), bg_m3 (List.mem_of_getElem? (i := 73) (by decide +kernel)) (by decide +kernel)⟩
theorem vc_L_64 : VC "ShameAnglesLaw" 64 G_A_angle := ⟨bg_m3 (List.mem_of_getElem? (i := 75) (by decide +kernel)) (by decide +kernel), bg_m3 (List.mem_of_getElem? (i := 76) (by decide +kernel)) (by decide +kernel), bg_m3 (List.mem_of_getElem? (i := 77) (by decide +kernel)) (by decide +kernel)⟩
theorem vc_A_172 : VC "ShameAngles" 172 G_H_angleOf := ⟨bg_m3 (List.mem_of_getElem? (i := 79) (by decide +kernel)) (by decide +kernel), bg_m3 (List.mem_of_getElem? (i := 80) (by decide +kernel)) (by decide +kernel), bg_m3 (List.mem_of_getElem? (i := 81) (by decide +kernel)) (by decide +kernel)⟩
theorem vc_L_68 : VC "ShameAnglesLaw" 68 G_A_reads := ⟨bg_m3 (List.mem_of_getElem? (i := 83) (by decide +kernel)) (by decide +kernel), bg_m3 (List.mem_of_getElem? (i := 84) (by decide +kernel)) (by decide +kernel), bg_m3 (List.mem_of_getElem? (i := 85) (by decide +kernel)) (by decide +kernel)⟩
theorem vc_A_175 : VC "ShameAngles" 175 G_H_sightOf := ⟨bg_m3 (List.mem_of_getElem? (i := 87) (by decide +kernel)) (by decide +kernel), bg_m3 (List.mem_of_getElem? (i := 88) (by decide +kernel)) (by decide +kernel), bg_m3 (List.mem_of_getElem? (i := 89) (by decide +kernel)) (by decide +kernel)⟩
theorem vc_H_68 : VC "ShameAngles$Ship" 68 G_H_angleOf := ⟨bg_m3 (List.mem_of_getElem? (i := 91) (by decide +kernel)) (by decide +kernel), bg_m3 (List.mem_of_getElem? (i := 80) (by decide +kernel)) (by decide +kernel), bg_m3 (List.mem_of_getElem? (i := 81) (by decide +kernel)) (by decide +kernel)⟩
theorem vc_L_72 : VC "ShameAnglesLaw" 72 G_A_error := ⟨bg_m3 (List.mem_of_getElem? (i := 92) (by decide +kernel)) (by decide +kernel), bg_m3 (List.mem_of_getElem? (i := 93) (by decide +kernel)) (by decide +kernel), bg_m3 (List.mem_of_getElem? (i := 94) (by decide +kernel)) (by decide +kernel)⟩
theorem vc_A_178 : VC "ShameAngles" 178 G_H_errorOf := ⟨bg_m3 (List.mem_of_getElem? (i := 96) (by decide +kernel)) (by decide +kernel), bg_m2 (List.mem_of_getElem? (i := 238) (by decide +kernel)) (by decide +kernel), bg_m2 (List.mem_of_getElem? (i := 239) (by decide +kernel)) (by decide +kernel)⟩
theorem vc_L_76 : VC "ShameAnglesLaw" 76 G_A_off := ⟨bg_m3 (List.mem_of_getElem? (i := 97) (by decide +kernel)) (by decide +kernel), bg_m3 (List.mem_of_getElem? (i := 98) (by decide +kernel)) (by decide +kernel), bg_m3 (List.mem_of_getElem? (i := 99) (by decide +kernel)) (by decide +kernel)⟩
theorem vc_A_181 : VC "ShameAngles" 181 G_H_drift := ⟨bg_m3 (List.mem_of_getElem? (i := 101) (by decide +kernel)) (by decide +kernel), bg_m3 (List.mem_of_getElem? (i := 102) (by decide +kernel)) (by decide +kernel), bg_m3 (List.mem_of_getElem? (i := 103) (by decide +kernel)) (by decide +kernel)⟩
theorem vc_L_80 : VC "ShameAnglesLaw" 80 G_A_then := ⟨bg_m3 (List.mem_of_getElem? (i := 105) (by decide +kernel)) (by decide +kernel), bg_m3 (List.mem_of_getElem? (i := 106) (by decide +kernel)) (by decide +kernel), bg_m3 (List.mem_of_getElem? (i := 107) (by decide +kernel)) (by decide +kernel)⟩
theorem vc_L_85 : VC "ShameAnglesLaw" 85 G_A_when := ⟨bg_m3 (List.mem_of_getElem? (i := 109) (by decide +kernel)) (by decide +kernel), bg_m3 (List.mem_of_getElem? (i := 110) (by decide +kernel)) (by decide +kernel), bg_m3 (List.mem_of_getElem? (i := 111) (by decide +kernel)) (by decide +kernel)⟩
theorem vc_L_89 : VC "ShameAnglesLaw" 89 G_A_best := ⟨bg_m3 (List.mem_of_getElem? (i := 113) (by decide +kernel)) (by decide +kernel), bg_m3 (List.mem_of_getElem? (i := 114) (by decide +kernel)) (by decide +kernel), bg_m3 (List.mem_of_getElem? (i := 115) (by decide +kernel)) (by decide +kernel)⟩
theorem sc_A_184 : SC "ShameAngles" 184 G_X_leastOff := ⟨bg_m3 (List.mem_of_getElem? (i := 117) (by decide +kernel)) (by decide +kernel), bg_m3 (List.mem_of_getElem? (i := 118) (by decide +kernel)) (by decide +kernel)⟩
theorem sc_X_15 : SC "ShameAngles$Choices" 15 G_J_bitCount := ⟨bg_m3 (List.mem_of_getElem? (i := 120) (by decide +kernel)) (by decide +kernel), bg_m3 (List.mem_of_getElem? (i := 121) (by decide +kernel)) (by decide +kernel)⟩
theorem vc_X_21 : VC "ShameAngles$Choices" 21 G_H_errorOf := ⟨bg_m3 (List.mem_of_getElem? (i := 126) (by decide +kernel)) (by decide +kernel), bg_m2 (List.mem_of_getElem? (i := 238) (by decide +kernel)) (by decide +kernel), bg_m2 (List.mem_of_getElem? (i := 239) (by decide +kernel)) (by decide +kernel)⟩
theorem sc_X_25 : SC "ShameAngles$Choices" 25 G_J_abs := ⟨bg_m3 (List.mem_of_getElem? (i := 127) (by decide +kernel)) (by decide +kernel), bg_m3 (List.mem_of_getElem? (i := 128) (by decide +kernel)) (by decide +kernel)⟩
theorem sc_A_190 : SC "ShameAngles" 190 G_J_abs := ⟨bg_m3 (List.mem_of_getElem? (i := 130) (by decide +kernel)) (by decide +kernel), bg_m3 (List.mem_of_getElem? (i := 128) (by decide +kernel)) (by decide +kernel)⟩
theorem vc_L_93 : VC "ShameAnglesLaw" 93 G_A_fewest := ⟨bg_m3 (List.mem_of_getElem? (i := 131) (by decide +kernel)) (by decide +kernel), bg_m3 (List.mem_of_getElem? (i := 132) (by decide +kernel)) (by decide +kernel), bg_m3 (List.mem_of_getElem? (i := 133) (by decide +kernel)) (by decide +kernel)⟩
theorem sc_A_195 : SC "ShameAngles" 195 G_X_fewestOff := ⟨bg_m3 (List.mem_of_getElem? (i := 135) (by decide +kernel)) (by decide +kernel), bg_m3 (List.mem_of_getElem? (i := 136) (by decide +kernel)) (by decide +kernel)⟩
theorem vc_L_97 : VC "ShameAnglesLaw" 97 G_A_cape := ⟨bg_m3 (List.mem_of_getElem? (i := 138) (by decide +kernel)) (by decide +kernel), bg_m3 (List.mem_of_getElem? (i := 139) (by decide +kernel)) (by decide +kernel), bg_m3 (List.mem_of_getElem? (i := 140) (by decide +kernel)) (by decide +kernel)⟩
theorem vc_A_198 : VC "ShameAngles" 198 G_O_fewestNoons := ⟨bg_m3 (List.mem_of_getElem? (i := 142) (by decide +kernel)) (by decide +kernel), bg_m3 (List.mem_of_getElem? (i := 143) (by decide +kernel)) (by decide +kernel), bg_m3 (List.mem_of_getElem? (i := 144) (by decide +kernel)) (by decide +kernel)⟩
theorem vc_O_26 : VC "ShameAngles$Route" 26 G_H_copy := ⟨bg_m3 (List.mem_of_getElem? (i := 146) (by decide +kernel)) (by decide +kernel), bg_m3 (List.mem_of_getElem? (i := 26) (by decide +kernel)) (by decide +kernel), bg_m3 (List.mem_of_getElem? (i := 27) (by decide +kernel)) (by decide +kernel)⟩
theorem sc_O_30 : SC "ShameAngles$Route" 30 G_O_arrives := ⟨bg_m3 (List.mem_of_getElem? (i := 147) (by decide +kernel)) (by decide +kernel), bg_m3 (List.mem_of_getElem? (i := 148) (by decide +kernel)) (by decide +kernel)⟩
theorem sc_O_34 : SC "ShameAngles$Route" 34 G_O_mayArrive := ⟨bg_m3 (List.mem_of_getElem? (i := 150) (by decide +kernel)) (by decide +kernel), bg_m3 (List.mem_of_getElem? (i := 151) (by decide +kernel)) (by decide +kernel)⟩
theorem vc_O_53 : VC "ShameAngles$Route" 53 G_H_hasReader := ⟨bg_m3 (List.mem_of_getElem? (i := 153) (by decide +kernel)) (by decide +kernel), bg_m3 (List.mem_of_getElem? (i := 2) (by decide +kernel)) (by decide +kernel), bg_m3 (List.mem_of_getElem? (i := 3) (by decide +kernel)) (by decide +kernel)⟩
theorem sc_O_66 : SC "ShameAngles$Route" 66 G_J_floorMod := ⟨bg_m3 (List.mem_of_getElem? (i := 156) (by decide +kernel)) (by decide +kernel), bg_m3 (List.mem_of_getElem? (i := 20) (by decide +kernel)) (by decide +kernel)⟩
theorem vc_O_41 : VC "ShameAngles$Route" 41 G_H_errorOf := ⟨bg_m3 (List.mem_of_getElem? (i := 159) (by decide +kernel)) (by decide +kernel), bg_m2 (List.mem_of_getElem? (i := 238) (by decide +kernel)) (by decide +kernel), bg_m2 (List.mem_of_getElem? (i := 239) (by decide +kernel)) (by decide +kernel)⟩
theorem vc_O_45 : VC "ShameAngles$Route" 45 G_H_placeBehind := ⟨bg_m3 (List.mem_of_getElem? (i := 160) (by decide +kernel)) (by decide +kernel), bg_m3 (List.mem_of_getElem? (i := 16) (by decide +kernel)) (by decide +kernel), bg_m3 (List.mem_of_getElem? (i := 17) (by decide +kernel)) (by decide +kernel)⟩
theorem vc_O_49 : VC "ShameAngles$Route" 49 G_H_sail := ⟨bg_m3 (List.mem_of_getElem? (i := 161) (by decide +kernel)) (by decide +kernel), bg_m2 (List.mem_of_getElem? (i := 234) (by decide +kernel)) (by decide +kernel), bg_m2 (List.mem_of_getElem? (i := 235) (by decide +kernel)) (by decide +kernel)⟩
theorem vc_L_101 : VC "ShameAnglesLaw" 101 G_A_watch := ⟨bg_m3 (List.mem_of_getElem? (i := 162) (by decide +kernel)) (by decide +kernel), bg_m3 (List.mem_of_getElem? (i := 163) (by decide +kernel)) (by decide +kernel), bg_m3 (List.mem_of_getElem? (i := 164) (by decide +kernel)) (by decide +kernel)⟩
theorem vc_A_204 : VC "ShameAngles" 204 G_W_ways := ⟨bg_m3 (List.mem_of_getElem? (i := 166) (by decide +kernel)) (by decide +kernel), bg_m3 (List.mem_of_getElem? (i := 167) (by decide +kernel)) (by decide +kernel), bg_m3 (List.mem_of_getElem? (i := 168) (by decide +kernel)) (by decide +kernel)⟩
theorem sc_W_25 : SC "ShameAngles$Watches" 25 G_W_assign := ⟨bg_m3 (List.mem_of_getElem? (i := 170) (by decide +kernel)) (by decide +kernel), bg_m3 (List.mem_of_getElem? (i := 171) (by decide +kernel)) (by decide +kernel)⟩
theorem vc_W_34 : VC "ShameAngles$Watches" 34 G_W_keep := ⟨bg_m3 (List.mem_of_getElem? (i := 173) (by decide +kernel)) (by decide +kernel), bg_m3 (List.mem_of_getElem? (i := 175) (by decide +kernel)) (by decide +kernel), bg_m0 (List.mem_of_getElem? (i := 16) (by decide +kernel)) (by decide +kernel)⟩
theorem vc_W_40 : VC "ShameAngles$Watches" 40 G_H_sightOf := ⟨bg_m3 (List.mem_of_getElem? (i := 178) (by decide +kernel)) (by decide +kernel), bg_m3 (List.mem_of_getElem? (i := 88) (by decide +kernel)) (by decide +kernel), bg_m3 (List.mem_of_getElem? (i := 89) (by decide +kernel)) (by decide +kernel)⟩
theorem vc_W_44 : VC "ShameAngles$Watches" 44 G_W_isTaken := ⟨bg_m3 (List.mem_of_getElem? (i := 179) (by decide +kernel)) (by decide +kernel), bg_m3 (List.mem_of_getElem? (i := 181) (by decide +kernel)) (by decide +kernel), bg_m0 (List.mem_of_getElem? (i := 17) (by decide +kernel)) (by decide +kernel)⟩
theorem vc_L_105 : VC "ShameAnglesLaw" 105 G_A_mutiny := ⟨bg_m3 (List.mem_of_getElem? (i := 183) (by decide +kernel)) (by decide +kernel), bg_m3 (List.mem_of_getElem? (i := 184) (by decide +kernel)) (by decide +kernel), bg_m3 (List.mem_of_getElem? (i := 185) (by decide +kernel)) (by decide +kernel)⟩
theorem sc_A_210 : SC "ShameAngles" 210 G_X_mostAlike := ⟨bg_m3 (List.mem_of_getElem? (i := 187) (by decide +kernel)) (by decide +kernel), bg_m3 (List.mem_of_getElem? (i := 188) (by decide +kernel)) (by decide +kernel)⟩
theorem vc_X_30 : VC "ShameAngles$Choices" 30 G_H_sightOf := ⟨bg_m3 (List.mem_of_getElem? (i := 190) (by decide +kernel)) (by decide +kernel), bg_m3 (List.mem_of_getElem? (i := 88) (by decide +kernel)) (by decide +kernel), bg_m3 (List.mem_of_getElem? (i := 89) (by decide +kernel)) (by decide +kernel)⟩
theorem vc_L_109 : VC "ShameAnglesLaw" 109 G_A_seen := ⟨bg_m3 (List.mem_of_getElem? (i := 191) (by decide +kernel)) (by decide +kernel), bg_m3 (List.mem_of_getElem? (i := 192) (by decide +kernel)) (by decide +kernel), bg_m3 (List.mem_of_getElem? (i := 193) (by decide +kernel)) (by decide +kernel)⟩
theorem vc_A_218 : VC "ShameAngles" 218 G_R_isFull := ⟨bg_m3 (List.mem_of_getElem? (i := 195) (by decide +kernel)) (by decide +kernel), bg_m3 (List.mem_of_getElem? (i := 196) (by decide +kernel)) (by decide +kernel), bg_m3 (List.mem_of_getElem? (i := 197) (by decide +kernel)) (by decide +kernel)⟩
theorem vc_A_223 : VC "ShameAngles" 223 G_R_add := ⟨bg_m3 (List.mem_of_getElem? (i := 199) (by decide +kernel)) (by decide +kernel), bg_m3 (List.mem_of_getElem? (i := 200) (by decide +kernel)) (by decide +kernel), bg_m3 (List.mem_of_getElem? (i := 201) (by decide +kernel)) (by decide +kernel)⟩
theorem vc_R_22 : VC "ShameAngles$Rows" 22 G_R_isFull := ⟨bg_m3 (List.mem_of_getElem? (i := 203) (by decide +kernel)) (by decide +kernel), bg_m3 (List.mem_of_getElem? (i := 196) (by decide +kernel)) (by decide +kernel), bg_m3 (List.mem_of_getElem? (i := 197) (by decide +kernel)) (by decide +kernel)⟩
theorem vc_L_113 : VC "ShameAnglesLaw" 113 G_A_began := ⟨bg_m3 (List.mem_of_getElem? (i := 204) (by decide +kernel)) (by decide +kernel), bg_m3 (List.mem_of_getElem? (i := 205) (by decide +kernel)) (by decide +kernel), bg_m3 (List.mem_of_getElem? (i := 206) (by decide +kernel)) (by decide +kernel)⟩
theorem sc_A_226 : SC "ShameAngles" 226 G_G_howManyBegan := ⟨bg_m3 (List.mem_of_getElem? (i := 208) (by decide +kernel)) (by decide +kernel), bg_m3 (List.mem_of_getElem? (i := 209) (by decide +kernel)) (by decide +kernel)⟩
theorem sc_G_15 : SC "ShameAngles$Guesses" 15 G_G_mayHaveBegun := ⟨bg_m3 (List.mem_of_getElem? (i := 211) (by decide +kernel)) (by decide +kernel), bg_m3 (List.mem_of_getElem? (i := 212) (by decide +kernel)) (by decide +kernel)⟩
theorem vc_G_25 : VC "ShameAngles$Guesses" 25 G_H_hasMan := ⟨bg_m3 (List.mem_of_getElem? (i := 214) (by decide +kernel)) (by decide +kernel), bg_m2 (List.mem_of_getElem? (i := 222) (by decide +kernel)) (by decide +kernel), bg_m2 (List.mem_of_getElem? (i := 223) (by decide +kernel)) (by decide +kernel)⟩
theorem vc_G_41 : VC "ShameAngles$Guesses" 41 G_R_cell := ⟨bg_m3 (List.mem_of_getElem? (i := 215) (by decide +kernel)) (by decide +kernel), bg_m3 (List.mem_of_getElem? (i := 216) (by decide +kernel)) (by decide +kernel), bg_m3 (List.mem_of_getElem? (i := 217) (by decide +kernel)) (by decide +kernel)⟩
theorem vc_G_48 : VC "ShameAngles$Guesses" 48 G_H_shameBy := ⟨bg_m3 (List.mem_of_getElem? (i := 219) (by decide +kernel)) (by decide +kernel), bg_m3 (List.mem_of_getElem? (i := 220) (by decide +kernel)) (by decide +kernel), bg_m3 (List.mem_of_getElem? (i := 221) (by decide +kernel)) (by decide +kernel)⟩
theorem sc_G_51 : SC "ShameAngles$Guesses" 51 G_K_stands := ⟨bg_m3 (List.mem_of_getElem? (i := 223) (by decide +kernel)) (by decide +kernel), bg_m3 (List.mem_of_getElem? (i := 10) (by decide +kernel)) (by decide +kernel)⟩
theorem sc_A_230 : SC "ShameAngles" 230 G_G_leastBegan := ⟨bg_m3 (List.mem_of_getElem? (i := 224) (by decide +kernel)) (by decide +kernel), bg_m3 (List.mem_of_getElem? (i := 225) (by decide +kernel)) (by decide +kernel)⟩
theorem sc_A_233 : SC "ShameAngles" 233 G_G_greatestBegan := ⟨bg_m3 (List.mem_of_getElem? (i := 227) (by decide +kernel)) (by decide +kernel), bg_m3 (List.mem_of_getElem? (i := 228) (by decide +kernel)) (by decide +kernel)⟩
theorem vc_L_117 : VC "ShameAnglesLaw" 117 G_A_note := ⟨bg_m3 (List.mem_of_getElem? (i := 230) (by decide +kernel)) (by decide +kernel), bg_m3 (List.mem_of_getElem? (i := 231) (by decide +kernel)) (by decide +kernel), bg_m3 (List.mem_of_getElem? (i := 232) (by decide +kernel)) (by decide +kernel)⟩
theorem vc_L_122 : VC "ShameAnglesLaw" 122 G_A_mark := ⟨bg_m3 (List.mem_of_getElem? (i := 234) (by decide +kernel)) (by decide +kernel), bg_m3 (List.mem_of_getElem? (i := 235) (by decide +kernel)) (by decide +kernel), bg_m3 (List.mem_of_getElem? (i := 236) (by decide +kernel)) (by decide +kernel)⟩
theorem vc_L_126 : VC "ShameAnglesLaw" 126 G_A_forget := ⟨bg_m3 (List.mem_of_getElem? (i := 238) (by decide +kernel)) (by decide +kernel), bg_m3 (List.mem_of_getElem? (i := 239) (by decide +kernel)) (by decide +kernel), bg_m4 (List.mem_of_getElem? (i := 0) (by decide +kernel)) (by decide +kernel)⟩
theorem vc_A_242 : VC "ShameAngles" 242 G_R_empty := ⟨bg_m4 (List.mem_of_getElem? (i := 2) (by decide +kernel)) (by decide +kernel), bg_m4 (List.mem_of_getElem? (i := 3) (by decide +kernel)) (by decide +kernel), bg_m4 (List.mem_of_getElem? (i := 4) (by decide +kernel)) (by decide +kernel)⟩
theorem vc_L_130 : VC "ShameAnglesLaw" 130 G_A_is := ⟨bg_m4 (List.mem_of_getElem? (i := 6) (by decide +kernel)) (by decide +kernel), bg_m4 (List.mem_of_getElem? (i := 7) (by decide +kernel)) (by decide +kernel), bg_m4 (List.mem_of_getElem? (i := 8) (by decide +kernel)) (by decide +kernel)⟩
theorem sc_A_245 : SC "ShameAngles" 245 G_G_kindsThatFit := ⟨bg_m4 (List.mem_of_getElem? (i := 10) (by decide +kernel)) (by decide +kernel), bg_m4 (List.mem_of_getElem? (i := 11) (by decide +kernel)) (by decide +kernel)⟩
theorem sc_G_57 : SC "ShameAngles$Guesses" 57 G_G_fits := ⟨bg_m4 (List.mem_of_getElem? (i := 13) (by decide +kernel)) (by decide +kernel), bg_m4 (List.mem_of_getElem? (i := 14) (by decide +kernel)) (by decide +kernel)⟩
theorem sc_G_61 : SC "ShameAngles$Guesses" 61 G_K_makes := ⟨bg_m4 (List.mem_of_getElem? (i := 16) (by decide +kernel)) (by decide +kernel), bg_m4 (List.mem_of_getElem? (i := 17) (by decide +kernel)) (by decide +kernel)⟩
theorem sc_K_9 : SC "ShameAngles$Kinds" 9 G_K_stands := ⟨bg_m4 (List.mem_of_getElem? (i := 19) (by decide +kernel)) (by decide +kernel), bg_m3 (List.mem_of_getElem? (i := 10) (by decide +kernel)) (by decide +kernel)⟩
theorem sc_K_15 : SC "ShameAngles$Kinds" 15 G_K_sees := ⟨bg_m4 (List.mem_of_getElem? (i := 20) (by decide +kernel)) (by decide +kernel), bg_m3 (List.mem_of_getElem? (i := 13) (by decide +kernel)) (by decide +kernel)⟩
theorem vc_L_134 : VC "ShameAnglesLaw" 134 G_A_look := ⟨bg_m4 (List.mem_of_getElem? (i := 21) (by decide +kernel)) (by decide +kernel), bg_m4 (List.mem_of_getElem? (i := 22) (by decide +kernel)) (by decide +kernel), bg_m4 (List.mem_of_getElem? (i := 23) (by decide +kernel)) (by decide +kernel)⟩
theorem vc_A_249 : VC "ShameAngles" 249 G_G_nextLook := ⟨bg_m4 (List.mem_of_getElem? (i := 25) (by decide +kernel)) (by decide +kernel), bg_m4 (List.mem_of_getElem? (i := 26) (by decide +kernel)) (by decide +kernel), bg_m4 (List.mem_of_getElem? (i := 27) (by decide +kernel)) (by decide +kernel)⟩
theorem vc_G_65 : VC "ShameAngles$Guesses" 65 G_G_mostAlike := ⟨bg_m4 (List.mem_of_getElem? (i := 29) (by decide +kernel)) (by decide +kernel), bg_m4 (List.mem_of_getElem? (i := 31) (by decide +kernel)) (by decide +kernel), bg_m0 (List.mem_of_getElem? (i := 18) (by decide +kernel)) (by decide +kernel)⟩
theorem sc_G_69 : SC "ShameAngles$Guesses" 69 G_J_max := ⟨bg_m4 (List.mem_of_getElem? (i := 33) (by decide +kernel)) (by decide +kernel), bg_m3 (List.mem_of_getElem? (i := 23) (by decide +kernel)) (by decide +kernel)⟩
theorem vc_L_138 : VC "ShameAnglesLaw" 138 G_A_kinds := ⟨bg_m4 (List.mem_of_getElem? (i := 34) (by decide +kernel)) (by decide +kernel), bg_m4 (List.mem_of_getElem? (i := 35) (by decide +kernel)) (by decide +kernel), bg_m4 (List.mem_of_getElem? (i := 36) (by decide +kernel)) (by decide +kernel)⟩
theorem vc_L_142 : VC "ShameAnglesLaw" 142 G_A_ask := ⟨bg_m4 (List.mem_of_getElem? (i := 38) (by decide +kernel)) (by decide +kernel), bg_m4 (List.mem_of_getElem? (i := 39) (by decide +kernel)) (by decide +kernel), bg_m4 (List.mem_of_getElem? (i := 40) (by decide +kernel)) (by decide +kernel)⟩
theorem vc_A_252 : VC "ShameAngles" 252 G_G_nextAsk := ⟨bg_m4 (List.mem_of_getElem? (i := 42) (by decide +kernel)) (by decide +kernel), bg_m4 (List.mem_of_getElem? (i := 43) (by decide +kernel)) (by decide +kernel), bg_m4 (List.mem_of_getElem? (i := 44) (by decide +kernel)) (by decide +kernel)⟩
theorem vc_L_146 : VC "ShameAnglesLaw" 146 G_A_officers := ⟨bg_m4 (List.mem_of_getElem? (i := 46) (by decide +kernel)) (by decide +kernel), bg_m4 (List.mem_of_getElem? (i := 47) (by decide +kernel)) (by decide +kernel), bg_m4 (List.mem_of_getElem? (i := 48) (by decide +kernel)) (by decide +kernel)⟩
theorem sc_A_255 : SC "ShameAngles" 255 G_X_restingPairs := ⟨bg_m4 (List.mem_of_getElem? (i := 50) (by decide +kernel)) (by decide +kernel), bg_m4 (List.mem_of_getElem? (i := 51) (by decide +kernel)) (by decide +kernel)⟩
theorem sc_X_33 : SC "ShameAngles$Choices" 33 G_X_rests := ⟨bg_m4 (List.mem_of_getElem? (i := 53) (by decide +kernel)) (by decide +kernel), bg_m4 (List.mem_of_getElem? (i := 54) (by decide +kernel)) (by decide +kernel)⟩
theorem sc_X_39 : SC "ShameAngles$Choices" 39 G_X_farOff := ⟨bg_m4 (List.mem_of_getElem? (i := 56) (by decide +kernel)) (by decide +kernel), bg_m4 (List.mem_of_getElem? (i := 57) (by decide +kernel)) (by decide +kernel)⟩
theorem vc_X_43 : VC "ShameAngles$Choices" 43 G_H_angleOf := ⟨bg_m4 (List.mem_of_getElem? (i := 59) (by decide +kernel)) (by decide +kernel), bg_m3 (List.mem_of_getElem? (i := 80) (by decide +kernel)) (by decide +kernel), bg_m3 (List.mem_of_getElem? (i := 81) (by decide +kernel)) (by decide +kernel)⟩
theorem vc_L_150 : VC "ShameAnglesLaw" 150 G_A_slips := ⟨bg_m4 (List.mem_of_getElem? (i := 60) (by decide +kernel)) (by decide +kernel), bg_m4 (List.mem_of_getElem? (i := 61) (by decide +kernel)) (by decide +kernel), bg_m4 (List.mem_of_getElem? (i := 62) (by decide +kernel)) (by decide +kernel)⟩
theorem vc_A_258 : VC "ShameAngles" 258 G_C_setSure := ⟨bg_m4 (List.mem_of_getElem? (i := 64) (by decide +kernel)) (by decide +kernel), bg_m4 (List.mem_of_getElem? (i := 65) (by decide +kernel)) (by decide +kernel), bg_m4 (List.mem_of_getElem? (i := 66) (by decide +kernel)) (by decide +kernel)⟩
theorem sc_A_261 : SC "ShameAngles" 261 G_J_bitCount := ⟨bg_m4 (List.mem_of_getElem? (i := 68) (by decide +kernel)) (by decide +kernel), bg_m3 (List.mem_of_getElem? (i := 121) (by decide +kernel)) (by decide +kernel)⟩
theorem vc_A_266 : VC "ShameAngles" 266 G_C_setSlips := ⟨bg_m4 (List.mem_of_getElem? (i := 69) (by decide +kernel)) (by decide +kernel), bg_m4 (List.mem_of_getElem? (i := 70) (by decide +kernel)) (by decide +kernel), bg_m4 (List.mem_of_getElem? (i := 71) (by decide +kernel)) (by decide +kernel)⟩
theorem vc_C_18 : VC "ShameAngles$Chance" 18 G_C_reduce := ⟨bg_m4 (List.mem_of_getElem? (i := 74) (by decide +kernel)) (by decide +kernel), bg_m4 (List.mem_of_getElem? (i := 76) (by decide +kernel)) (by decide +kernel), bg_m0 (List.mem_of_getElem? (i := 19) (by decide +kernel)) (by decide +kernel)⟩
theorem vc_L_154 : VC "ShameAnglesLaw" 154 G_A_voyages := ⟨bg_m4 (List.mem_of_getElem? (i := 80) (by decide +kernel)) (by decide +kernel), bg_m4 (List.mem_of_getElem? (i := 81) (by decide +kernel)) (by decide +kernel), bg_m4 (List.mem_of_getElem? (i := 82) (by decide +kernel)) (by decide +kernel)⟩
theorem vc_L_158 : VC "ShameAnglesLaw" 158 G_A_part := ⟨bg_m4 (List.mem_of_getElem? (i := 92) (by decide +kernel)) (by decide +kernel), bg_m4 (List.mem_of_getElem? (i := 93) (by decide +kernel)) (by decide +kernel), bg_m4 (List.mem_of_getElem? (i := 94) (by decide +kernel)) (by decide +kernel)⟩
theorem vc_L_163 : VC "ShameAnglesLaw" 163 G_A_image := ⟨bg_m4 (List.mem_of_getElem? (i := 96) (by decide +kernel)) (by decide +kernel), bg_m4 (List.mem_of_getElem? (i := 97) (by decide +kernel)) (by decide +kernel), bg_m4 (List.mem_of_getElem? (i := 98) (by decide +kernel)) (by decide +kernel)⟩
theorem vc_A_292 : VC "ShameAngles" 292 G_S_copy := ⟨bg_m4 (List.mem_of_getElem? (i := 100) (by decide +kernel)) (by decide +kernel), bg_m4 (List.mem_of_getElem? (i := 101) (by decide +kernel)) (by decide +kernel), bg_m4 (List.mem_of_getElem? (i := 102) (by decide +kernel)) (by decide +kernel)⟩
theorem vc_S_49 : VC "ShameAngles$State" 49 G_H_copy := ⟨bg_m4 (List.mem_of_getElem? (i := 104) (by decide +kernel)) (by decide +kernel), bg_m3 (List.mem_of_getElem? (i := 26) (by decide +kernel)) (by decide +kernel), bg_m3 (List.mem_of_getElem? (i := 27) (by decide +kernel)) (by decide +kernel)⟩
theorem vc_S_53 : VC "ShameAngles$State" 53 G_R_copy := ⟨bg_m4 (List.mem_of_getElem? (i := 105) (by decide +kernel)) (by decide +kernel), bg_m4 (List.mem_of_getElem? (i := 106) (by decide +kernel)) (by decide +kernel), bg_m4 (List.mem_of_getElem? (i := 107) (by decide +kernel)) (by decide +kernel)⟩
theorem vc_S_56 : VC "ShameAngles$State" 56 G_P_copy := ⟨bg_m4 (List.mem_of_getElem? (i := 110) (by decide +kernel)) (by decide +kernel), bg_m4 (List.mem_of_getElem? (i := 111) (by decide +kernel)) (by decide +kernel), bg_m4 (List.mem_of_getElem? (i := 112) (by decide +kernel)) (by decide +kernel)⟩
theorem vc_L_167 : VC "ShameAnglesLaw" 167 G_A_from := ⟨bg_m4 (List.mem_of_getElem? (i := 114) (by decide +kernel)) (by decide +kernel), bg_m4 (List.mem_of_getElem? (i := 115) (by decide +kernel)) (by decide +kernel), bg_m4 (List.mem_of_getElem? (i := 116) (by decide +kernel)) (by decide +kernel)⟩
theorem vc_L_171 : VC "ShameAnglesLaw" 171 G_A_status := ⟨bg_m4 (List.mem_of_getElem? (i := 118) (by decide +kernel)) (by decide +kernel), bg_m4 (List.mem_of_getElem? (i := 119) (by decide +kernel)) (by decide +kernel), bg_m4 (List.mem_of_getElem? (i := 120) (by decide +kernel)) (by decide +kernel)⟩
theorem vc_L_175 : VC "ShameAnglesLaw" 175 G_A_count := ⟨bg_m4 (List.mem_of_getElem? (i := 122) (by decide +kernel)) (by decide +kernel), bg_m4 (List.mem_of_getElem? (i := 123) (by decide +kernel)) (by decide +kernel), bg_m4 (List.mem_of_getElem? (i := 124) (by decide +kernel)) (by decide +kernel)⟩
theorem vc_A_304 : VC "ShameAngles" 304 G_H_shameOfAll := ⟨bg_m4 (List.mem_of_getElem? (i := 126) (by decide +kernel)) (by decide +kernel), bg_m4 (List.mem_of_getElem? (i := 127) (by decide +kernel)) (by decide +kernel), bg_m4 (List.mem_of_getElem? (i := 128) (by decide +kernel)) (by decide +kernel)⟩
theorem vc_L_179 : VC "ShameAnglesLaw" 179 G_A_digest := ⟨bg_m4 (List.mem_of_getElem? (i := 130) (by decide +kernel)) (by decide +kernel), bg_m4 (List.mem_of_getElem? (i := 131) (by decide +kernel)) (by decide +kernel), bg_m4 (List.mem_of_getElem? (i := 132) (by decide +kernel)) (by decide +kernel)⟩
theorem vc_A_312 : VC "ShameAngles" 312 G_A_count := ⟨bg_m4 (List.mem_of_getElem? (i := 136) (by decide +kernel)) (by decide +kernel), bg_m4 (List.mem_of_getElem? (i := 123) (by decide +kernel)) (by decide +kernel), bg_m4 (List.mem_of_getElem? (i := 124) (by decide +kernel)) (by decide +kernel)⟩
theorem vc_A_315 : VC "ShameAngles" 315 G_A_now := ⟨bg_m4 (List.mem_of_getElem? (i := 137) (by decide +kernel)) (by decide +kernel), bg_m3 (List.mem_of_getElem? (i := 67) (by decide +kernel)) (by decide +kernel), bg_m3 (List.mem_of_getElem? (i := 68) (by decide +kernel)) (by decide +kernel)⟩
theorem vc_A_318 : VC "ShameAngles" 318 G_H_digestOn := ⟨bg_m4 (List.mem_of_getElem? (i := 138) (by decide +kernel)) (by decide +kernel), bg_m4 (List.mem_of_getElem? (i := 139) (by decide +kernel)) (by decide +kernel), bg_m4 (List.mem_of_getElem? (i := 140) (by decide +kernel)) (by decide +kernel)⟩
theorem vc_A_322 : VC "ShameAngles" 322 G_R_digestOn := ⟨bg_m4 (List.mem_of_getElem? (i := 143) (by decide +kernel)) (by decide +kernel), bg_m4 (List.mem_of_getElem? (i := 144) (by decide +kernel)) (by decide +kernel), bg_m4 (List.mem_of_getElem? (i := 145) (by decide +kernel)) (by decide +kernel)⟩
theorem vc_R_34 : VC "ShameAngles$Rows" 34 G_R_cell := ⟨bg_m4 (List.mem_of_getElem? (i := 148) (by decide +kernel)) (by decide +kernel), bg_m3 (List.mem_of_getElem? (i := 216) (by decide +kernel)) (by decide +kernel), bg_m3 (List.mem_of_getElem? (i := 217) (by decide +kernel)) (by decide +kernel)⟩
theorem ic_L_12 : IC "ShameAnglesLaw" 12 G_M_init := ⟨bg_m4 (List.mem_of_getElem? (i := 151) (by decide +kernel)) (by decide +kernel), bg_m4 (List.mem_of_getElem? (i := 152) (by decide +kernel)) (by decide +kernel), rfl, rfl⟩
theorem vc_M_56 : VC "ShameAnglesModel" 56 G_M_begin := ⟨bg_m4 (List.mem_of_getElem? (i := 155) (by decide +kernel)) (by decide +kernel), bg_m4 (List.mem_of_getElem? (i := 157) (by decide +kernel)) (by decide +kernel), bg_m0 (List.mem_of_getElem? (i := 20) (by decide +kernel)) (by decide +kernel)⟩
theorem vc_L_17 : VC "ShameAnglesLaw" 17 G_M_ship := ⟨bg_m5 (List.mem_of_getElem? (i := 10) (by decide +kernel)) (by decide +kernel), bg_m5 (List.mem_of_getElem? (i := 11) (by decide +kernel)) (by decide +kernel), bg_m5 (List.mem_of_getElem? (i := 12) (by decide +kernel)) (by decide +kernel)⟩
theorem sc_M_91 : SC "ShameAnglesModel" 91 G_M_in := ⟨bg_m5 (List.mem_of_getElem? (i := 14) (by decide +kernel)) (by decide +kernel), bg_m5 (List.mem_of_getElem? (i := 15) (by decide +kernel)) (by decide +kernel)⟩
theorem vc_M_95 : VC "ShameAnglesModel" 95 G_M_bad := ⟨bg_m5 (List.mem_of_getElem? (i := 17) (by decide +kernel)) (by decide +kernel), bg_m5 (List.mem_of_getElem? (i := 19) (by decide +kernel)) (by decide +kernel), bg_m0 (List.mem_of_getElem? (i := 21) (by decide +kernel)) (by decide +kernel)⟩
theorem vc_L_22 : VC "ShameAnglesLaw" 22 G_M_fog := ⟨bg_m5 (List.mem_of_getElem? (i := 21) (by decide +kernel)) (by decide +kernel), bg_m5 (List.mem_of_getElem? (i := 22) (by decide +kernel)) (by decide +kernel), bg_m5 (List.mem_of_getElem? (i := 23) (by decide +kernel)) (by decide +kernel)⟩
theorem vc_L_26 : VC "ShameAnglesLaw" 26 G_M_man := ⟨bg_m5 (List.mem_of_getElem? (i := 25) (by decide +kernel)) (by decide +kernel), bg_m5 (List.mem_of_getElem? (i := 26) (by decide +kernel)) (by decide +kernel), bg_m5 (List.mem_of_getElem? (i := 27) (by decide +kernel)) (by decide +kernel)⟩
theorem vc_M_99 : VC "ShameAnglesModel" 99 G_M_full := ⟨bg_m5 (List.mem_of_getElem? (i := 29) (by decide +kernel)) (by decide +kernel), bg_m5 (List.mem_of_getElem? (i := 31) (by decide +kernel)) (by decide +kernel), bg_m0 (List.mem_of_getElem? (i := 22) (by decide +kernel)) (by decide +kernel)⟩
theorem vc_M_102 : VC "ShameAnglesModel" 102 G_M_addMan := ⟨bg_m5 (List.mem_of_getElem? (i := 33) (by decide +kernel)) (by decide +kernel), bg_m5 (List.mem_of_getElem? (i := 35) (by decide +kernel)) (by decide +kernel), bg_m0 (List.mem_of_getElem? (i := 23) (by decide +kernel)) (by decide +kernel)⟩
theorem vc_L_30 : VC "ShameAnglesLaw" 30 G_M_reader := ⟨bg_m5 (List.mem_of_getElem? (i := 37) (by decide +kernel)) (by decide +kernel), bg_m5 (List.mem_of_getElem? (i := 38) (by decide +kernel)) (by decide +kernel), bg_m5 (List.mem_of_getElem? (i := 39) (by decide +kernel)) (by decide +kernel)⟩
theorem vc_M_106 : VC "ShameAnglesModel" 106 G_M_addReader := ⟨bg_m5 (List.mem_of_getElem? (i := 41) (by decide +kernel)) (by decide +kernel), bg_m5 (List.mem_of_getElem? (i := 43) (by decide +kernel)) (by decide +kernel), bg_m0 (List.mem_of_getElem? (i := 24) (by decide +kernel)) (by decide +kernel)⟩
theorem vc_L_34 : VC "ShameAnglesLaw" 34 G_M_type := ⟨bg_m5 (List.mem_of_getElem? (i := 45) (by decide +kernel)) (by decide +kernel), bg_m5 (List.mem_of_getElem? (i := 46) (by decide +kernel)) (by decide +kernel), bg_m5 (List.mem_of_getElem? (i := 47) (by decide +kernel)) (by decide +kernel)⟩
theorem vc_L_39 : VC "ShameAnglesLaw" 39 G_M_clear := ⟨bg_m5 (List.mem_of_getElem? (i := 49) (by decide +kernel)) (by decide +kernel), bg_m5 (List.mem_of_getElem? (i := 50) (by decide +kernel)) (by decide +kernel), bg_m5 (List.mem_of_getElem? (i := 51) (by decide +kernel)) (by decide +kernel)⟩
theorem vc_L_43 : VC "ShameAnglesLaw" 43 G_M_read := ⟨bg_m5 (List.mem_of_getElem? (i := 53) (by decide +kernel)) (by decide +kernel), bg_m5 (List.mem_of_getElem? (i := 54) (by decide +kernel)) (by decide +kernel), bg_m5 (List.mem_of_getElem? (i := 55) (by decide +kernel)) (by decide +kernel)⟩
theorem vc_M_183 : VC "ShameAnglesModel" 183 G_M_layAll := ⟨bg_m5 (List.mem_of_getElem? (i := 57) (by decide +kernel)) (by decide +kernel), bg_m5 (List.mem_of_getElem? (i := 59) (by decide +kernel)) (by decide +kernel), bg_m0 (List.mem_of_getElem? (i := 25) (by decide +kernel)) (by decide +kernel)⟩
theorem vc_M_221 : VC "ShameAnglesModel" 221 G_M_lays := ⟨bg_m5 (List.mem_of_getElem? (i := 61) (by decide +kernel)) (by decide +kernel), bg_m5 (List.mem_of_getElem? (i := 63) (by decide +kernel)) (by decide +kernel), bg_m0 (List.mem_of_getElem? (i := 26) (by decide +kernel)) (by decide +kernel)⟩
theorem vc_M_187 : VC "ShameAnglesModel" 187 G_M_readsShip := ⟨bg_m5 (List.mem_of_getElem? (i := 65) (by decide +kernel)) (by decide +kernel), bg_m5 (List.mem_of_getElem? (i := 67) (by decide +kernel)) (by decide +kernel), bg_m0 (List.mem_of_getElem? (i := 27) (by decide +kernel)) (by decide +kernel)⟩
theorem vc_M_177 : VC "ShameAnglesModel" 177 G_M_readsFirst := ⟨bg_m5 (List.mem_of_getElem? (i := 69) (by decide +kernel)) (by decide +kernel), bg_m5 (List.mem_of_getElem? (i := 71) (by decide +kernel)) (by decide +kernel), bg_m0 (List.mem_of_getElem? (i := 28) (by decide +kernel)) (by decide +kernel)⟩
theorem vc_M_129 : VC "ShameAnglesModel" 129 G_M_skip := ⟨bg_m5 (List.mem_of_getElem? (i := 73) (by decide +kernel)) (by decide +kernel), bg_m5 (List.mem_of_getElem? (i := 75) (by decide +kernel)) (by decide +kernel), bg_m0 (List.mem_of_getElem? (i := 29) (by decide +kernel)) (by decide +kernel)⟩
theorem vc_M_116 : VC "ShameAnglesModel" 116 G_M_here := ⟨bg_m5 (List.mem_of_getElem? (i := 77) (by decide +kernel)) (by decide +kernel), bg_m5 (List.mem_of_getElem? (i := 79) (by decide +kernel)) (by decide +kernel), bg_m0 (List.mem_of_getElem? (i := 30) (by decide +kernel)) (by decide +kernel)⟩
theorem vc_M_159 : VC "ShameAnglesModel" 159 G_M_wordHere := ⟨bg_m5 (List.mem_of_getElem? (i := 81) (by decide +kernel)) (by decide +kernel), bg_m5 (List.mem_of_getElem? (i := 83) (by decide +kernel)) (by decide +kernel), bg_m0 (List.mem_of_getElem? (i := 31) (by decide +kernel)) (by decide +kernel)⟩
theorem vc_M_123 : VC "ShameAnglesModel" 123 G_M_wordSize := ⟨bg_m5 (List.mem_of_getElem? (i := 85) (by decide +kernel)) (by decide +kernel), bg_m5 (List.mem_of_getElem? (i := 87) (by decide +kernel)) (by decide +kernel), bg_m0 (List.mem_of_getElem? (i := 32) (by decide +kernel)) (by decide +kernel)⟩
theorem sc_M_119 : SC "ShameAnglesModel" 119 G_M_isLetter := ⟨bg_m5 (List.mem_of_getElem? (i := 89) (by decide +kernel)) (by decide +kernel), bg_m5 (List.mem_of_getElem? (i := 90) (by decide +kernel)) (by decide +kernel)⟩
theorem vc_M_126 : VC "ShameAnglesModel" 126 G_M_letter := ⟨bg_m5 (List.mem_of_getElem? (i := 92) (by decide +kernel)) (by decide +kernel), bg_m5 (List.mem_of_getElem? (i := 94) (by decide +kernel)) (by decide +kernel), bg_m0 (List.mem_of_getElem? (i := 33) (by decide +kernel)) (by decide +kernel)⟩
theorem vc_M_138 : VC "ShameAnglesModel" 138 G_M_number := ⟨bg_m5 (List.mem_of_getElem? (i := 96) (by decide +kernel)) (by decide +kernel), bg_m5 (List.mem_of_getElem? (i := 98) (by decide +kernel)) (by decide +kernel), bg_m0 (List.mem_of_getElem? (i := 34) (by decide +kernel)) (by decide +kernel)⟩
theorem sc_M_132 : SC "ShameAnglesModel" 132 G_M_isFigure := ⟨bg_m5 (List.mem_of_getElem? (i := 100) (by decide +kernel)) (by decide +kernel), bg_m5 (List.mem_of_getElem? (i := 101) (by decide +kernel)) (by decide +kernel)⟩
theorem vc_M_142 : VC "ShameAnglesModel" 142 G_M_ends := ⟨bg_m5 (List.mem_of_getElem? (i := 103) (by decide +kernel)) (by decide +kernel), bg_m5 (List.mem_of_getElem? (i := 105) (by decide +kernel)) (by decide +kernel), bg_m0 (List.mem_of_getElem? (i := 35) (by decide +kernel)) (by decide +kernel)⟩
theorem vc_M_180 : VC "ShameAnglesModel" 180 G_M_readsItem := ⟨bg_m5 (List.mem_of_getElem? (i := 107) (by decide +kernel)) (by decide +kernel), bg_m5 (List.mem_of_getElem? (i := 109) (by decide +kernel)) (by decide +kernel), bg_m0 (List.mem_of_getElem? (i := 36) (by decide +kernel)) (by decide +kernel)⟩
theorem vc_M_162 : VC "ShameAnglesModel" 162 G_M_readsFog := ⟨bg_m5 (List.mem_of_getElem? (i := 111) (by decide +kernel)) (by decide +kernel), bg_m5 (List.mem_of_getElem? (i := 113) (by decide +kernel)) (by decide +kernel), bg_m0 (List.mem_of_getElem? (i := 37) (by decide +kernel)) (by decide +kernel)⟩
theorem vc_M_165 : VC "ShameAnglesModel" 165 G_M_readsMan := ⟨bg_m5 (List.mem_of_getElem? (i := 115) (by decide +kernel)) (by decide +kernel), bg_m5 (List.mem_of_getElem? (i := 117) (by decide +kernel)) (by decide +kernel), bg_m0 (List.mem_of_getElem? (i := 38) (by decide +kernel)) (by decide +kernel)⟩
theorem vc_M_168 : VC "ShameAnglesModel" 168 G_M_readsReader := ⟨bg_m5 (List.mem_of_getElem? (i := 119) (by decide +kernel)) (by decide +kernel), bg_m5 (List.mem_of_getElem? (i := 121) (by decide +kernel)) (by decide +kernel), bg_m0 (List.mem_of_getElem? (i := 39) (by decide +kernel)) (by decide +kernel)⟩
theorem vc_M_171 : VC "ShameAnglesModel" 171 G_M_readsDeed := ⟨bg_m5 (List.mem_of_getElem? (i := 123) (by decide +kernel)) (by decide +kernel), bg_m5 (List.mem_of_getElem? (i := 125) (by decide +kernel)) (by decide +kernel), bg_m0 (List.mem_of_getElem? (i := 40) (by decide +kernel)) (by decide +kernel)⟩
theorem sc_M_146 : SC "ShameAnglesModel" 146 G_M_lesser := ⟨bg_m5 (List.mem_of_getElem? (i := 127) (by decide +kernel)) (by decide +kernel), bg_m5 (List.mem_of_getElem? (i := 128) (by decide +kernel)) (by decide +kernel)⟩
theorem vc_M_174 : VC "ShameAnglesModel" 174 G_M_readsNoon := ⟨bg_m5 (List.mem_of_getElem? (i := 130) (by decide +kernel)) (by decide +kernel), bg_m5 (List.mem_of_getElem? (i := 132) (by decide +kernel)) (by decide +kernel), bg_m0 (List.mem_of_getElem? (i := 41) (by decide +kernel)) (by decide +kernel)⟩
theorem sc_M_149 : SC "ShameAnglesModel" 149 G_M_bits := ⟨bg_m5 (List.mem_of_getElem? (i := 134) (by decide +kernel)) (by decide +kernel), bg_m5 (List.mem_of_getElem? (i := 135) (by decide +kernel)) (by decide +kernel)⟩
theorem sc_M_152 : SC "ShameAnglesModel" 152 G_M_has := ⟨bg_m5 (List.mem_of_getElem? (i := 137) (by decide +kernel)) (by decide +kernel), bg_m5 (List.mem_of_getElem? (i := 138) (by decide +kernel)) (by decide +kernel)⟩
theorem vc_M_155 : VC "ShameAnglesModel" 155 G_M_measures := ⟨bg_m5 (List.mem_of_getElem? (i := 140) (by decide +kernel)) (by decide +kernel), bg_m5 (List.mem_of_getElem? (i := 142) (by decide +kernel)) (by decide +kernel), bg_m0 (List.mem_of_getElem? (i := 42) (by decide +kernel)) (by decide +kernel)⟩
theorem vc_M_215 : VC "ShameAnglesModel" 215 G_M_errorOf := ⟨bg_m5 (List.mem_of_getElem? (i := 144) (by decide +kernel)) (by decide +kernel), bg_m5 (List.mem_of_getElem? (i := 146) (by decide +kernel)) (by decide +kernel), bg_m0 (List.mem_of_getElem? (i := 43) (by decide +kernel)) (by decide +kernel)⟩
theorem vc_M_206 : VC "ShameAnglesModel" 206 G_M_isFog := ⟨bg_m5 (List.mem_of_getElem? (i := 148) (by decide +kernel)) (by decide +kernel), bg_m5 (List.mem_of_getElem? (i := 150) (by decide +kernel)) (by decide +kernel), bg_m0 (List.mem_of_getElem? (i := 44) (by decide +kernel)) (by decide +kernel)⟩
theorem vc_M_209 : VC "ShameAnglesModel" 209 G_M_readOf := ⟨bg_m5 (List.mem_of_getElem? (i := 152) (by decide +kernel)) (by decide +kernel), bg_m5 (List.mem_of_getElem? (i := 154) (by decide +kernel)) (by decide +kernel), bg_m0 (List.mem_of_getElem? (i := 45) (by decide +kernel)) (by decide +kernel)⟩
theorem vc_M_200 : VC "ShameAnglesModel" 200 G_M_angleOf := ⟨bg_m5 (List.mem_of_getElem? (i := 156) (by decide +kernel)) (by decide +kernel), bg_m5 (List.mem_of_getElem? (i := 158) (by decide +kernel)) (by decide +kernel), bg_m0 (List.mem_of_getElem? (i := 46) (by decide +kernel)) (by decide +kernel)⟩
theorem sc_M_196 : SC "ShameAnglesModel" 196 G_M_angleBy := ⟨bg_m5 (List.mem_of_getElem? (i := 160) (by decide +kernel)) (by decide +kernel), bg_m5 (List.mem_of_getElem? (i := 161) (by decide +kernel)) (by decide +kernel)⟩
theorem sc_M_193 : SC "ShameAnglesModel" 193 G_M_greater := ⟨bg_m5 (List.mem_of_getElem? (i := 163) (by decide +kernel)) (by decide +kernel), bg_m5 (List.mem_of_getElem? (i := 164) (by decide +kernel)) (by decide +kernel)⟩
theorem sc_M_203 : SC "ShameAnglesModel" 203 G_M_readBy := ⟨bg_m5 (List.mem_of_getElem? (i := 166) (by decide +kernel)) (by decide +kernel), bg_m5 (List.mem_of_getElem? (i := 167) (by decide +kernel)) (by decide +kernel)⟩
theorem vc_M_218 : VC "ShameAnglesModel" 218 G_M_goesOn := ⟨bg_m5 (List.mem_of_getElem? (i := 169) (by decide +kernel)) (by decide +kernel), bg_m5 (List.mem_of_getElem? (i := 171) (by decide +kernel)) (by decide +kernel), bg_m0 (List.mem_of_getElem? (i := 47) (by decide +kernel)) (by decide +kernel)⟩
theorem sc_M_212 : SC "ShameAnglesModel" 212 G_M_round := ⟨bg_m5 (List.mem_of_getElem? (i := 173) (by decide +kernel)) (by decide +kernel), bg_m5 (List.mem_of_getElem? (i := 174) (by decide +kernel)) (by decide +kernel)⟩
theorem vc_M_190 : VC "ShameAnglesModel" 190 G_M_takeAll := ⟨bg_m5 (List.mem_of_getElem? (i := 176) (by decide +kernel)) (by decide +kernel), bg_m5 (List.mem_of_getElem? (i := 178) (by decide +kernel)) (by decide +kernel), bg_m0 (List.mem_of_getElem? (i := 48) (by decide +kernel)) (by decide +kernel)⟩
theorem vc_M_239 : VC "ShameAnglesModel" 239 G_M_takes := ⟨bg_m5 (List.mem_of_getElem? (i := 180) (by decide +kernel)) (by decide +kernel), bg_m5 (List.mem_of_getElem? (i := 182) (by decide +kernel)) (by decide +kernel), bg_m0 (List.mem_of_getElem? (i := 49) (by decide +kernel)) (by decide +kernel)⟩
theorem vc_L_47 : VC "ShameAnglesLaw" 47 G_M_noon := ⟨bg_m5 (List.mem_of_getElem? (i := 184) (by decide +kernel)) (by decide +kernel), bg_m5 (List.mem_of_getElem? (i := 185) (by decide +kernel)) (by decide +kernel), bg_m5 (List.mem_of_getElem? (i := 186) (by decide +kernel)) (by decide +kernel)⟩
theorem vc_M_224 : VC "ShameAnglesModel" 224 G_M_areMen := ⟨bg_m5 (List.mem_of_getElem? (i := 188) (by decide +kernel)) (by decide +kernel), bg_m5 (List.mem_of_getElem? (i := 190) (by decide +kernel)) (by decide +kernel), bg_m0 (List.mem_of_getElem? (i := 50) (by decide +kernel)) (by decide +kernel)⟩
theorem vc_M_227 : VC "ShameAnglesModel" 227 G_M_isReader := ⟨bg_m5 (List.mem_of_getElem? (i := 192) (by decide +kernel)) (by decide +kernel), bg_m5 (List.mem_of_getElem? (i := 194) (by decide +kernel)) (by decide +kernel), bg_m0 (List.mem_of_getElem? (i := 51) (by decide +kernel)) (by decide +kernel)⟩
theorem vc_M_230 : VC "ShameAnglesModel" 230 G_M_no := ⟨bg_m5 (List.mem_of_getElem? (i := 196) (by decide +kernel)) (by decide +kernel), bg_m5 (List.mem_of_getElem? (i := 198) (by decide +kernel)) (by decide +kernel), bg_m0 (List.mem_of_getElem? (i := 52) (by decide +kernel)) (by decide +kernel)⟩
theorem vc_M_233 : VC "ShameAnglesModel" 233 G_M_notes := ⟨bg_m5 (List.mem_of_getElem? (i := 200) (by decide +kernel)) (by decide +kernel), bg_m5 (List.mem_of_getElem? (i := 202) (by decide +kernel)) (by decide +kernel), bg_m0 (List.mem_of_getElem? (i := 53) (by decide +kernel)) (by decide +kernel)⟩
theorem vc_L_51 : VC "ShameAnglesLaw" 51 G_M_deed := ⟨bg_m5 (List.mem_of_getElem? (i := 204) (by decide +kernel)) (by decide +kernel), bg_m5 (List.mem_of_getElem? (i := 205) (by decide +kernel)) (by decide +kernel), bg_m5 (List.mem_of_getElem? (i := 206) (by decide +kernel)) (by decide +kernel)⟩
theorem vc_M_236 : VC "ShameAnglesModel" 236 G_M_isMan := ⟨bg_m5 (List.mem_of_getElem? (i := 208) (by decide +kernel)) (by decide +kernel), bg_m5 (List.mem_of_getElem? (i := 210) (by decide +kernel)) (by decide +kernel), bg_m0 (List.mem_of_getElem? (i := 54) (by decide +kernel)) (by decide +kernel)⟩
theorem vc_L_55 : VC "ShameAnglesLaw" 55 G_M_undo := ⟨bg_m5 (List.mem_of_getElem? (i := 212) (by decide +kernel)) (by decide +kernel), bg_m5 (List.mem_of_getElem? (i := 213) (by decide +kernel)) (by decide +kernel), bg_m5 (List.mem_of_getElem? (i := 214) (by decide +kernel)) (by decide +kernel)⟩
theorem vc_L_59 : VC "ShameAnglesLaw" 59 G_M_now := ⟨bg_m5 (List.mem_of_getElem? (i := 216) (by decide +kernel)) (by decide +kernel), bg_m5 (List.mem_of_getElem? (i := 217) (by decide +kernel)) (by decide +kernel), bg_m5 (List.mem_of_getElem? (i := 218) (by decide +kernel)) (by decide +kernel)⟩
theorem vc_M_242 : VC "ShameAnglesModel" 242 G_M_nowOf := ⟨bg_m5 (List.mem_of_getElem? (i := 220) (by decide +kernel)) (by decide +kernel), bg_m5 (List.mem_of_getElem? (i := 222) (by decide +kernel)) (by decide +kernel), bg_m0 (List.mem_of_getElem? (i := 55) (by decide +kernel)) (by decide +kernel)⟩
theorem vc_L_63 : VC "ShameAnglesLaw" 63 G_M_of := ⟨bg_m5 (List.mem_of_getElem? (i := 224) (by decide +kernel)) (by decide +kernel), bg_m5 (List.mem_of_getElem? (i := 225) (by decide +kernel)) (by decide +kernel), bg_m5 (List.mem_of_getElem? (i := 226) (by decide +kernel)) (by decide +kernel)⟩
theorem vc_L_67 : VC "ShameAnglesLaw" 67 G_M_angle := ⟨bg_m5 (List.mem_of_getElem? (i := 228) (by decide +kernel)) (by decide +kernel), bg_m5 (List.mem_of_getElem? (i := 229) (by decide +kernel)) (by decide +kernel), bg_m5 (List.mem_of_getElem? (i := 230) (by decide +kernel)) (by decide +kernel)⟩
theorem vc_L_71 : VC "ShameAnglesLaw" 71 G_M_reads := ⟨bg_m5 (List.mem_of_getElem? (i := 232) (by decide +kernel)) (by decide +kernel), bg_m5 (List.mem_of_getElem? (i := 233) (by decide +kernel)) (by decide +kernel), bg_m5 (List.mem_of_getElem? (i := 234) (by decide +kernel)) (by decide +kernel)⟩
theorem vc_L_75 : VC "ShameAnglesLaw" 75 G_M_error := ⟨bg_m5 (List.mem_of_getElem? (i := 236) (by decide +kernel)) (by decide +kernel), bg_m5 (List.mem_of_getElem? (i := 237) (by decide +kernel)) (by decide +kernel), bg_m5 (List.mem_of_getElem? (i := 238) (by decide +kernel)) (by decide +kernel)⟩
theorem vc_M_245 : VC "ShameAnglesModel" 245 G_M_thousand := ⟨bg_m6 (List.mem_of_getElem? (i := 0) (by decide +kernel)) (by decide +kernel), bg_m6 (List.mem_of_getElem? (i := 2) (by decide +kernel)) (by decide +kernel), bg_m0 (List.mem_of_getElem? (i := 56) (by decide +kernel)) (by decide +kernel)⟩
theorem vc_L_79 : VC "ShameAnglesLaw" 79 G_M_off := ⟨bg_m6 (List.mem_of_getElem? (i := 4) (by decide +kernel)) (by decide +kernel), bg_m6 (List.mem_of_getElem? (i := 5) (by decide +kernel)) (by decide +kernel), bg_m6 (List.mem_of_getElem? (i := 6) (by decide +kernel)) (by decide +kernel)⟩
theorem vc_M_248 : VC "ShameAnglesModel" 248 G_M_offNow := ⟨bg_m6 (List.mem_of_getElem? (i := 8) (by decide +kernel)) (by decide +kernel), bg_m6 (List.mem_of_getElem? (i := 10) (by decide +kernel)) (by decide +kernel), bg_m0 (List.mem_of_getElem? (i := 57) (by decide +kernel)) (by decide +kernel)⟩
theorem vc_L_84 : VC "ShameAnglesLaw" 84 G_M_then := ⟨bg_m6 (List.mem_of_getElem? (i := 12) (by decide +kernel)) (by decide +kernel), bg_m6 (List.mem_of_getElem? (i := 13) (by decide +kernel)) (by decide +kernel), bg_m6 (List.mem_of_getElem? (i := 14) (by decide +kernel)) (by decide +kernel)⟩
theorem vc_L_88 : VC "ShameAnglesLaw" 88 G_M_when := ⟨bg_m6 (List.mem_of_getElem? (i := 16) (by decide +kernel)) (by decide +kernel), bg_m6 (List.mem_of_getElem? (i := 17) (by decide +kernel)) (by decide +kernel), bg_m6 (List.mem_of_getElem? (i := 18) (by decide +kernel)) (by decide +kernel)⟩
theorem vc_L_92 : VC "ShameAnglesLaw" 92 G_M_best := ⟨bg_m6 (List.mem_of_getElem? (i := 20) (by decide +kernel)) (by decide +kernel), bg_m6 (List.mem_of_getElem? (i := 21) (by decide +kernel)) (by decide +kernel), bg_m6 (List.mem_of_getElem? (i := 22) (by decide +kernel)) (by decide +kernel)⟩
theorem sc_M_252 : SC "ShameAnglesModel" 252 G_M_far := ⟨bg_m6 (List.mem_of_getElem? (i := 25) (by decide +kernel)) (by decide +kernel), bg_m6 (List.mem_of_getElem? (i := 26) (by decide +kernel)) (by decide +kernel)⟩
theorem vc_L_96 : VC "ShameAnglesLaw" 96 G_M_fewest := ⟨bg_m6 (List.mem_of_getElem? (i := 28) (by decide +kernel)) (by decide +kernel), bg_m6 (List.mem_of_getElem? (i := 29) (by decide +kernel)) (by decide +kernel), bg_m6 (List.mem_of_getElem? (i := 30) (by decide +kernel)) (by decide +kernel)⟩
theorem vc_L_100 : VC "ShameAnglesLaw" 100 G_M_cape := ⟨bg_m6 (List.mem_of_getElem? (i := 32) (by decide +kernel)) (by decide +kernel), bg_m6 (List.mem_of_getElem? (i := 33) (by decide +kernel)) (by decide +kernel), bg_m6 (List.mem_of_getElem? (i := 34) (by decide +kernel)) (by decide +kernel)⟩
theorem vc_M_258 : VC "ShameAnglesModel" 258 G_M_ten := ⟨bg_m6 (List.mem_of_getElem? (i := 36) (by decide +kernel)) (by decide +kernel), bg_m6 (List.mem_of_getElem? (i := 38) (by decide +kernel)) (by decide +kernel), bg_m0 (List.mem_of_getElem? (i := 58) (by decide +kernel)) (by decide +kernel)⟩
theorem vc_M_255 : VC "ShameAnglesModel" 255 G_M_power := ⟨bg_m6 (List.mem_of_getElem? (i := 40) (by decide +kernel)) (by decide +kernel), bg_m6 (List.mem_of_getElem? (i := 42) (by decide +kernel)) (by decide +kernel), bg_m0 (List.mem_of_getElem? (i := 59) (by decide +kernel)) (by decide +kernel)⟩
theorem vc_M_261 : VC "ShameAnglesModel" 261 G_M_placeBy := ⟨bg_m6 (List.mem_of_getElem? (i := 44) (by decide +kernel)) (by decide +kernel), bg_m6 (List.mem_of_getElem? (i := 46) (by decide +kernel)) (by decide +kernel), bg_m0 (List.mem_of_getElem? (i := 60) (by decide +kernel)) (by decide +kernel)⟩
theorem vc_L_104 : VC "ShameAnglesLaw" 104 G_M_watch := ⟨bg_m6 (List.mem_of_getElem? (i := 48) (by decide +kernel)) (by decide +kernel), bg_m6 (List.mem_of_getElem? (i := 49) (by decide +kernel)) (by decide +kernel), bg_m6 (List.mem_of_getElem? (i := 50) (by decide +kernel)) (by decide +kernel)⟩
theorem vc_M_264 : VC "ShameAnglesModel" 264 G_M_isWatch := ⟨bg_m6 (List.mem_of_getElem? (i := 52) (by decide +kernel)) (by decide +kernel), bg_m6 (List.mem_of_getElem? (i := 54) (by decide +kernel)) (by decide +kernel), bg_m0 (List.mem_of_getElem? (i := 61) (by decide +kernel)) (by decide +kernel)⟩
theorem vc_L_108 : VC "ShameAnglesLaw" 108 G_M_mutiny := ⟨bg_m6 (List.mem_of_getElem? (i := 56) (by decide +kernel)) (by decide +kernel), bg_m6 (List.mem_of_getElem? (i := 57) (by decide +kernel)) (by decide +kernel), bg_m6 (List.mem_of_getElem? (i := 58) (by decide +kernel)) (by decide +kernel)⟩
theorem vc_L_112 : VC "ShameAnglesLaw" 112 G_M_seen := ⟨bg_m6 (List.mem_of_getElem? (i := 60) (by decide +kernel)) (by decide +kernel), bg_m6 (List.mem_of_getElem? (i := 61) (by decide +kernel)) (by decide +kernel), bg_m6 (List.mem_of_getElem? (i := 62) (by decide +kernel)) (by decide +kernel)⟩
theorem vc_L_116 : VC "ShameAnglesLaw" 116 G_M_began := ⟨bg_m6 (List.mem_of_getElem? (i := 64) (by decide +kernel)) (by decide +kernel), bg_m6 (List.mem_of_getElem? (i := 65) (by decide +kernel)) (by decide +kernel), bg_m6 (List.mem_of_getElem? (i := 66) (by decide +kernel)) (by decide +kernel)⟩
theorem vc_M_270 : VC "ShameAnglesModel" 270 G_M_mayBegin := ⟨bg_m6 (List.mem_of_getElem? (i := 68) (by decide +kernel)) (by decide +kernel), bg_m6 (List.mem_of_getElem? (i := 70) (by decide +kernel)) (by decide +kernel), bg_m0 (List.mem_of_getElem? (i := 62) (by decide +kernel)) (by decide +kernel)⟩
theorem vc_M_267 : VC "ShameAnglesModel" 267 G_M_shameOn := ⟨bg_m6 (List.mem_of_getElem? (i := 72) (by decide +kernel)) (by decide +kernel), bg_m6 (List.mem_of_getElem? (i := 74) (by decide +kernel)) (by decide +kernel), bg_m0 (List.mem_of_getElem? (i := 63) (by decide +kernel)) (by decide +kernel)⟩
theorem vc_L_121 : VC "ShameAnglesLaw" 121 G_M_note := ⟨bg_m6 (List.mem_of_getElem? (i := 76) (by decide +kernel)) (by decide +kernel), bg_m6 (List.mem_of_getElem? (i := 77) (by decide +kernel)) (by decide +kernel), bg_m6 (List.mem_of_getElem? (i := 78) (by decide +kernel)) (by decide +kernel)⟩
theorem vc_L_125 : VC "ShameAnglesLaw" 125 G_M_mark := ⟨bg_m6 (List.mem_of_getElem? (i := 80) (by decide +kernel)) (by decide +kernel), bg_m6 (List.mem_of_getElem? (i := 81) (by decide +kernel)) (by decide +kernel), bg_m6 (List.mem_of_getElem? (i := 82) (by decide +kernel)) (by decide +kernel)⟩
theorem vc_L_129 : VC "ShameAnglesLaw" 129 G_M_forget := ⟨bg_m6 (List.mem_of_getElem? (i := 84) (by decide +kernel)) (by decide +kernel), bg_m6 (List.mem_of_getElem? (i := 85) (by decide +kernel)) (by decide +kernel), bg_m6 (List.mem_of_getElem? (i := 86) (by decide +kernel)) (by decide +kernel)⟩
theorem vc_L_133 : VC "ShameAnglesLaw" 133 G_M_is := ⟨bg_m6 (List.mem_of_getElem? (i := 88) (by decide +kernel)) (by decide +kernel), bg_m6 (List.mem_of_getElem? (i := 89) (by decide +kernel)) (by decide +kernel), bg_m6 (List.mem_of_getElem? (i := 90) (by decide +kernel)) (by decide +kernel)⟩
theorem vc_M_273 : VC "ShameAnglesModel" 273 G_M_kindsOf := ⟨bg_m6 (List.mem_of_getElem? (i := 92) (by decide +kernel)) (by decide +kernel), bg_m6 (List.mem_of_getElem? (i := 94) (by decide +kernel)) (by decide +kernel), bg_m0 (List.mem_of_getElem? (i := 64) (by decide +kernel)) (by decide +kernel)⟩
theorem vc_L_141 : VC "ShameAnglesLaw" 141 G_M_kinds := ⟨bg_m6 (List.mem_of_getElem? (i := 96) (by decide +kernel)) (by decide +kernel), bg_m6 (List.mem_of_getElem? (i := 97) (by decide +kernel)) (by decide +kernel), bg_m6 (List.mem_of_getElem? (i := 98) (by decide +kernel)) (by decide +kernel)⟩
theorem vc_M_276 : VC "ShameAnglesModel" 276 G_M_kindsBy := ⟨bg_m6 (List.mem_of_getElem? (i := 100) (by decide +kernel)) (by decide +kernel), bg_m6 (List.mem_of_getElem? (i := 102) (by decide +kernel)) (by decide +kernel), bg_m0 (List.mem_of_getElem? (i := 65) (by decide +kernel)) (by decide +kernel)⟩
theorem vc_L_137 : VC "ShameAnglesLaw" 137 G_M_look := ⟨bg_m6 (List.mem_of_getElem? (i := 104) (by decide +kernel)) (by decide +kernel), bg_m6 (List.mem_of_getElem? (i := 105) (by decide +kernel)) (by decide +kernel), bg_m6 (List.mem_of_getElem? (i := 106) (by decide +kernel)) (by decide +kernel)⟩
theorem sc_M_279 : SC "ShameAnglesModel" 279 G_M_alike := ⟨bg_m6 (List.mem_of_getElem? (i := 108) (by decide +kernel)) (by decide +kernel), bg_m6 (List.mem_of_getElem? (i := 109) (by decide +kernel)) (by decide +kernel)⟩
theorem vc_L_145 : VC "ShameAnglesLaw" 145 G_M_ask := ⟨bg_m6 (List.mem_of_getElem? (i := 111) (by decide +kernel)) (by decide +kernel), bg_m6 (List.mem_of_getElem? (i := 112) (by decide +kernel)) (by decide +kernel), bg_m6 (List.mem_of_getElem? (i := 113) (by decide +kernel)) (by decide +kernel)⟩
theorem vc_L_149 : VC "ShameAnglesLaw" 149 G_M_officers := ⟨bg_m6 (List.mem_of_getElem? (i := 115) (by decide +kernel)) (by decide +kernel), bg_m6 (List.mem_of_getElem? (i := 116) (by decide +kernel)) (by decide +kernel), bg_m6 (List.mem_of_getElem? (i := 117) (by decide +kernel)) (by decide +kernel)⟩
theorem vc_M_286 : VC "ShameAnglesModel" 286 G_M_rests := ⟨bg_m6 (List.mem_of_getElem? (i := 119) (by decide +kernel)) (by decide +kernel), bg_m6 (List.mem_of_getElem? (i := 121) (by decide +kernel)) (by decide +kernel), bg_m0 (List.mem_of_getElem? (i := 66) (by decide +kernel)) (by decide +kernel)⟩
theorem vc_M_283 : VC "ShameAnglesModel" 283 G_M_firstGets := ⟨bg_m6 (List.mem_of_getElem? (i := 123) (by decide +kernel)) (by decide +kernel), bg_m6 (List.mem_of_getElem? (i := 125) (by decide +kernel)) (by decide +kernel), bg_m0 (List.mem_of_getElem? (i := 67) (by decide +kernel)) (by decide +kernel)⟩
theorem vc_L_153 : VC "ShameAnglesLaw" 153 G_M_slips := ⟨bg_m6 (List.mem_of_getElem? (i := 127) (by decide +kernel)) (by decide +kernel), bg_m6 (List.mem_of_getElem? (i := 128) (by decide +kernel)) (by decide +kernel), bg_m6 (List.mem_of_getElem? (i := 129) (by decide +kernel)) (by decide +kernel)⟩
theorem vc_M_294 : VC "ShameAnglesModel" 294 G_M_lay := ⟨bg_m6 (List.mem_of_getElem? (i := 132) (by decide +kernel)) (by decide +kernel), bg_m6 (List.mem_of_getElem? (i := 134) (by decide +kernel)) (by decide +kernel), bg_m0 (List.mem_of_getElem? (i := 68) (by decide +kernel)) (by decide +kernel)⟩
theorem vc_L_157 : VC "ShameAnglesLaw" 157 G_M_voyages := ⟨bg_m6 (List.mem_of_getElem? (i := 136) (by decide +kernel)) (by decide +kernel), bg_m6 (List.mem_of_getElem? (i := 137) (by decide +kernel)) (by decide +kernel), bg_m6 (List.mem_of_getElem? (i := 138) (by decide +kernel)) (by decide +kernel)⟩
theorem vc_L_162 : VC "ShameAnglesLaw" 162 G_M_part := ⟨bg_m6 (List.mem_of_getElem? (i := 148) (by decide +kernel)) (by decide +kernel), bg_m6 (List.mem_of_getElem? (i := 149) (by decide +kernel)) (by decide +kernel), bg_m6 (List.mem_of_getElem? (i := 150) (by decide +kernel)) (by decide +kernel)⟩
theorem vc_L_166 : VC "ShameAnglesLaw" 166 G_M_image := ⟨bg_m6 (List.mem_of_getElem? (i := 152) (by decide +kernel)) (by decide +kernel), bg_m6 (List.mem_of_getElem? (i := 153) (by decide +kernel)) (by decide +kernel), bg_m6 (List.mem_of_getElem? (i := 154) (by decide +kernel)) (by decide +kernel)⟩
theorem vc_L_170 : VC "ShameAnglesLaw" 170 G_M_from := ⟨bg_m6 (List.mem_of_getElem? (i := 156) (by decide +kernel)) (by decide +kernel), bg_m6 (List.mem_of_getElem? (i := 157) (by decide +kernel)) (by decide +kernel), bg_m6 (List.mem_of_getElem? (i := 158) (by decide +kernel)) (by decide +kernel)⟩
theorem vc_L_174 : VC "ShameAnglesLaw" 174 G_M_status := ⟨bg_m6 (List.mem_of_getElem? (i := 160) (by decide +kernel)) (by decide +kernel), bg_m6 (List.mem_of_getElem? (i := 161) (by decide +kernel)) (by decide +kernel), bg_m6 (List.mem_of_getElem? (i := 162) (by decide +kernel)) (by decide +kernel)⟩
theorem vc_L_178 : VC "ShameAnglesLaw" 178 G_M_count := ⟨bg_m6 (List.mem_of_getElem? (i := 164) (by decide +kernel)) (by decide +kernel), bg_m6 (List.mem_of_getElem? (i := 165) (by decide +kernel)) (by decide +kernel), bg_m6 (List.mem_of_getElem? (i := 166) (by decide +kernel)) (by decide +kernel)⟩
theorem vc_M_316 : VC "ShameAnglesModel" 316 G_M_countOf := ⟨bg_m6 (List.mem_of_getElem? (i := 168) (by decide +kernel)) (by decide +kernel), bg_m6 (List.mem_of_getElem? (i := 170) (by decide +kernel)) (by decide +kernel), bg_m0 (List.mem_of_getElem? (i := 69) (by decide +kernel)) (by decide +kernel)⟩
theorem vc_M_313 : VC "ShameAnglesModel" 313 G_M_shameAll := ⟨bg_m6 (List.mem_of_getElem? (i := 172) (by decide +kernel)) (by decide +kernel), bg_m6 (List.mem_of_getElem? (i := 174) (by decide +kernel)) (by decide +kernel), bg_m0 (List.mem_of_getElem? (i := 70) (by decide +kernel)) (by decide +kernel)⟩
theorem vc_L_183 : VC "ShameAnglesLaw" 183 G_M_digest := ⟨bg_m6 (List.mem_of_getElem? (i := 176) (by decide +kernel)) (by decide +kernel), bg_m6 (List.mem_of_getElem? (i := 177) (by decide +kernel)) (by decide +kernel), bg_m6 (List.mem_of_getElem? (i := 178) (by decide +kernel)) (by decide +kernel)⟩
theorem vc_M_326 : VC "ShameAnglesModel" 326 G_M_mix := ⟨bg_m6 (List.mem_of_getElem? (i := 181) (by decide +kernel)) (by decide +kernel), bg_m6 (List.mem_of_getElem? (i := 183) (by decide +kernel)) (by decide +kernel), bg_m0 (List.mem_of_getElem? (i := 71) (by decide +kernel)) (by decide +kernel)⟩
theorem inc_S_9 : INC "ShameAngles$State" 9 G_H_init := ⟨by decide +kernel, bg_m1 (List.mem_of_getElem? (i := 38) (by decide +kernel)) (by decide +kernel), rfl, rfl⟩
theorem inc_S_33 : INC "ShameAngles$State" 33 G_P_init := ⟨by decide +kernel, bg_m1 (List.mem_of_getElem? (i := 120) (by decide +kernel)) (by decide +kernel), rfl, rfl⟩
theorem inc_A_26 : INC "ShameAngles" 26 G_H_init := ⟨by decide +kernel, bg_m1 (List.mem_of_getElem? (i := 38) (by decide +kernel)) (by decide +kernel), rfl, rfl⟩
theorem inc_A_33 : INC "ShameAngles" 33 G_T_init := ⟨by decide +kernel, bg_m1 (List.mem_of_getElem? (i := 161) (by decide +kernel)) (by decide +kernel), rfl, rfl⟩
theorem inc_O_21 : INC "ShameAngles$Route" 21 G_H_init := ⟨by decide +kernel, bg_m1 (List.mem_of_getElem? (i := 38) (by decide +kernel)) (by decide +kernel), rfl, rfl⟩
theorem inc_A_47 : INC "ShameAngles" 47 G_W_init := ⟨by decide +kernel, bg_m1 (List.mem_of_getElem? (i := 205) (by decide +kernel)) (by decide +kernel), rfl, rfl⟩
theorem inc_A_54 : INC "ShameAngles" 54 G_G_init := ⟨by decide +kernel, bg_m1 (List.mem_of_getElem? (i := 225) (by decide +kernel)) (by decide +kernel), rfl, rfl⟩
theorem inc_A_61 : INC "ShameAngles" 61 G_C_init := ⟨by decide +kernel, bg_m1 (List.mem_of_getElem? (i := 235) (by decide +kernel)) (by decide +kernel), rfl, rfl⟩
theorem fl_O_22 : FL "ShameAngles$Route" 22 2 0 := ⟨_, rfl, by decide, bg_m1 (List.mem_of_getElem? (i := 41) (by decide +kernel)) (by decide +kernel)⟩
theorem fl_H_24 : FL "ShameAngles$Ship" 24 2 0 := ⟨_, rfl, by decide, bg_m1 (List.mem_of_getElem? (i := 42) (by decide +kernel)) (by decide +kernel)⟩
theorem fl_P_30 : FL "ShameAngles$Past" 30 2 0 := ⟨_, rfl, by decide, bg_m1 (List.mem_of_getElem? (i := 43) (by decide +kernel)) (by decide +kernel)⟩
theorem fl_A_147 : FL "ShameAngles" 147 2 0 := ⟨_, rfl, by decide, bg_m1 (List.mem_of_getElem? (i := 44) (by decide +kernel)) (by decide +kernel)⟩
theorem fl_H_28 : FL "ShameAngles$Ship" 28 2 1 := ⟨_, rfl, by decide, bg_m1 (List.mem_of_getElem? (i := 45) (by decide +kernel)) (by decide +kernel)⟩
theorem fl_P_33 : FL "ShameAngles$Past" 33 2 1 := ⟨_, rfl, by decide, bg_m1 (List.mem_of_getElem? (i := 46) (by decide +kernel)) (by decide +kernel)⟩
theorem fl_A_162 : FL "ShameAngles" 162 2 1 := ⟨_, rfl, by decide, bg_m1 (List.mem_of_getElem? (i := 47) (by decide +kernel)) (by decide +kernel)⟩
theorem fl_S_38 : FL "ShameAngles$State" 38 2 2 := ⟨_, rfl, by decide, bg_m1 (List.mem_of_getElem? (i := 48) (by decide +kernel)) (by decide +kernel)⟩
theorem fl_H_31 : FL "ShameAngles$Ship" 31 2 2 := ⟨_, rfl, by decide, bg_m1 (List.mem_of_getElem? (i := 49) (by decide +kernel)) (by decide +kernel)⟩
theorem fl_O_60 : FL "ShameAngles$Route" 60 2 2 := ⟨_, rfl, by decide, bg_m1 (List.mem_of_getElem? (i := 50) (by decide +kernel)) (by decide +kernel)⟩
theorem fl_A_120 : FL "ShameAngles" 120 2 2 := ⟨_, rfl, by decide, bg_m1 (List.mem_of_getElem? (i := 51) (by decide +kernel)) (by decide +kernel)⟩
theorem fl_H_34 : FL "ShameAngles$Ship" 34 2 3 := ⟨_, rfl, by decide, bg_m1 (List.mem_of_getElem? (i := 52) (by decide +kernel)) (by decide +kernel)⟩
theorem fl_P_36 : FL "ShameAngles$Past" 36 2 3 := ⟨_, rfl, by decide, bg_m1 (List.mem_of_getElem? (i := 53) (by decide +kernel)) (by decide +kernel)⟩
theorem fl_A_134 : FL "ShameAngles" 134 2 3 := ⟨_, rfl, by decide, bg_m1 (List.mem_of_getElem? (i := 54) (by decide +kernel)) (by decide +kernel)⟩
theorem fl_X_9 : FL "ShameAngles$Choices" 9 2 4 := ⟨_, rfl, by decide, bg_m1 (List.mem_of_getElem? (i := 55) (by decide +kernel)) (by decide +kernel)⟩
theorem fl_H_37 : FL "ShameAngles$Ship" 37 2 4 := ⟨_, rfl, by decide, bg_m1 (List.mem_of_getElem? (i := 56) (by decide +kernel)) (by decide +kernel)⟩
theorem fl_A_77 : FL "ShameAngles" 77 2 4 := ⟨_, rfl, by decide, bg_m1 (List.mem_of_getElem? (i := 57) (by decide +kernel)) (by decide +kernel)⟩
theorem fl_W_29 : FL "ShameAngles$Watches" 29 2 4 := ⟨_, rfl, by decide, bg_m1 (List.mem_of_getElem? (i := 58) (by decide +kernel)) (by decide +kernel)⟩
theorem fl_O_38 : FL "ShameAngles$Route" 38 2 4 := ⟨_, rfl, by decide, bg_m1 (List.mem_of_getElem? (i := 59) (by decide +kernel)) (by decide +kernel)⟩
theorem fl_T_52 : FL "ShameAngles$Script" 52 2 4 := ⟨_, rfl, by decide, bg_m1 (List.mem_of_getElem? (i := 60) (by decide +kernel)) (by decide +kernel)⟩
theorem fl_H_40 : FL "ShameAngles$Ship" 40 2 5 := ⟨_, rfl, by decide, bg_m1 (List.mem_of_getElem? (i := 61) (by decide +kernel)) (by decide +kernel)⟩
theorem fl_W_37 : FL "ShameAngles$Watches" 37 2 5 := ⟨_, rfl, by decide, bg_m1 (List.mem_of_getElem? (i := 62) (by decide +kernel)) (by decide +kernel)⟩
theorem fl_T_62 : FL "ShameAngles$Script" 62 2 5 := ⟨_, rfl, by decide, bg_m1 (List.mem_of_getElem? (i := 63) (by decide +kernel)) (by decide +kernel)⟩
theorem fl_A_106 : FL "ShameAngles" 106 2 5 := ⟨_, rfl, by decide, bg_m1 (List.mem_of_getElem? (i := 64) (by decide +kernel)) (by decide +kernel)⟩
theorem fl_H_9 : FL "ShameAngles$Ship" 9 2 6 := ⟨_, rfl, by decide, bg_m1 (List.mem_of_getElem? (i := 65) (by decide +kernel)) (by decide +kernel)⟩
theorem fl_A_85 : FL "ShameAngles" 85 2 6 := ⟨_, rfl, by decide, bg_m1 (List.mem_of_getElem? (i := 66) (by decide +kernel)) (by decide +kernel)⟩
theorem fl_T_90 : FL "ShameAngles$Script" 90 2 6 := ⟨_, rfl, by decide, bg_m1 (List.mem_of_getElem? (i := 67) (by decide +kernel)) (by decide +kernel)⟩
theorem fl_H_15 : FL "ShameAngles$Ship" 15 2 7 := ⟨_, rfl, by decide, bg_m1 (List.mem_of_getElem? (i := 68) (by decide +kernel)) (by decide +kernel)⟩
theorem fl_G_45 : FL "ShameAngles$Guesses" 45 2 7 := ⟨_, rfl, by decide, bg_m1 (List.mem_of_getElem? (i := 69) (by decide +kernel)) (by decide +kernel)⟩
theorem fl_A_169 : FL "ShameAngles" 169 2 7 := ⟨_, rfl, by decide, bg_m1 (List.mem_of_getElem? (i := 70) (by decide +kernel)) (by decide +kernel)⟩
theorem fl_H_18 : FL "ShameAngles$Ship" 18 2 8 := ⟨_, rfl, by decide, bg_m1 (List.mem_of_getElem? (i := 71) (by decide +kernel)) (by decide +kernel)⟩
theorem fl_P_25 : FL "ShameAngles$Past" 25 2 8 := ⟨_, rfl, by decide, bg_m1 (List.mem_of_getElem? (i := 72) (by decide +kernel)) (by decide +kernel)⟩
theorem fl_A_156 : FL "ShameAngles" 156 2 8 := ⟨_, rfl, by decide, bg_m1 (List.mem_of_getElem? (i := 73) (by decide +kernel)) (by decide +kernel)⟩
theorem fl_H_21 : FL "ShameAngles$Ship" 21 2 9 := ⟨_, rfl, by decide, bg_m1 (List.mem_of_getElem? (i := 74) (by decide +kernel)) (by decide +kernel)⟩
theorem fl_O_57 : FL "ShameAngles$Route" 57 2 9 := ⟨_, rfl, by decide, bg_m1 (List.mem_of_getElem? (i := 75) (by decide +kernel)) (by decide +kernel)⟩
theorem fl_R_19 : FL "ShameAngles$Rows" 19 3 0 := ⟨_, rfl, by decide, bg_m1 (List.mem_of_getElem? (i := 104) (by decide +kernel)) (by decide +kernel)⟩
theorem fl_S_45 : FL "ShameAngles$State" 45 3 0 := ⟨_, rfl, by decide, bg_m1 (List.mem_of_getElem? (i := 105) (by decide +kernel)) (by decide +kernel)⟩
theorem fl_G_35 : FL "ShameAngles$Guesses" 35 3 0 := ⟨_, rfl, by decide, bg_m1 (List.mem_of_getElem? (i := 106) (by decide +kernel)) (by decide +kernel)⟩
theorem fl_A_307 : FL "ShameAngles" 307 3 0 := ⟨_, rfl, by decide, bg_m1 (List.mem_of_getElem? (i := 107) (by decide +kernel)) (by decide +kernel)⟩
theorem fl_R_15 : FL "ShameAngles$Rows" 15 3 1 := ⟨_, rfl, by decide, bg_m1 (List.mem_of_getElem? (i := 108) (by decide +kernel)) (by decide +kernel)⟩
theorem fl_R_11 : FL "ShameAngles$Rows" 11 3 2 := ⟨_, rfl, by decide, bg_m1 (List.mem_of_getElem? (i := 109) (by decide +kernel)) (by decide +kernel)⟩
theorem fl_P_15 : FL "ShameAngles$Past" 15 4 0 := ⟨_, rfl, by decide, bg_m1 (List.mem_of_getElem? (i := 123) (by decide +kernel)) (by decide +kernel)⟩
theorem fl_S_48 : FL "ShameAngles$State" 48 4 0 := ⟨_, rfl, by decide, bg_m1 (List.mem_of_getElem? (i := 124) (by decide +kernel)) (by decide +kernel)⟩
theorem fl_A_93 : FL "ShameAngles" 93 4 0 := ⟨_, rfl, by decide, bg_m1 (List.mem_of_getElem? (i := 125) (by decide +kernel)) (by decide +kernel)⟩
theorem fl_P_11 : FL "ShameAngles$Past" 11 4 1 := ⟨_, rfl, by decide, bg_m1 (List.mem_of_getElem? (i := 126) (by decide +kernel)) (by decide +kernel)⟩
theorem fl_S_10 : FL "ShameAngles$State" 10 1 0 := ⟨_, rfl, by decide, bg_m1 (List.mem_of_getElem? (i := 132) (by decide +kernel)) (by decide +kernel)⟩
theorem fl_A_74 : FL "ShameAngles" 74 1 0 := ⟨_, rfl, by decide, bg_m1 (List.mem_of_getElem? (i := 133) (by decide +kernel)) (by decide +kernel)⟩
theorem fl_G_19 : FL "ShameAngles$Guesses" 19 1 0 := ⟨_, rfl, by decide, bg_m1 (List.mem_of_getElem? (i := 134) (by decide +kernel)) (by decide +kernel)⟩
theorem fl_S_21 : FL "ShameAngles$State" 21 1 1 := ⟨_, rfl, by decide, bg_m1 (List.mem_of_getElem? (i := 135) (by decide +kernel)) (by decide +kernel)⟩
theorem fl_G_31 : FL "ShameAngles$Guesses" 31 1 1 := ⟨_, rfl, by decide, bg_m1 (List.mem_of_getElem? (i := 136) (by decide +kernel)) (by decide +kernel)⟩
theorem fl_A_214 : FL "ShameAngles" 214 1 1 := ⟨_, rfl, by decide, bg_m1 (List.mem_of_getElem? (i := 137) (by decide +kernel)) (by decide +kernel)⟩
theorem fl_S_25 : FL "ShameAngles$State" 25 1 2 := ⟨_, rfl, by decide, bg_m1 (List.mem_of_getElem? (i := 138) (by decide +kernel)) (by decide +kernel)⟩
theorem fl_A_236 : FL "ShameAngles" 236 1 2 := ⟨_, rfl, by decide, bg_m1 (List.mem_of_getElem? (i := 139) (by decide +kernel)) (by decide +kernel)⟩
theorem fl_S_28 : FL "ShameAngles$State" 28 1 3 := ⟨_, rfl, by decide, bg_m1 (List.mem_of_getElem? (i := 140) (by decide +kernel)) (by decide +kernel)⟩
theorem fl_A_239 : FL "ShameAngles" 239 1 3 := ⟨_, rfl, by decide, bg_m1 (List.mem_of_getElem? (i := 141) (by decide +kernel)) (by decide +kernel)⟩
theorem fl_S_34 : FL "ShameAngles$State" 34 1 4 := ⟨_, rfl, by decide, bg_m1 (List.mem_of_getElem? (i := 142) (by decide +kernel)) (by decide +kernel)⟩
theorem fl_A_89 : FL "ShameAngles" 89 1 4 := ⟨_, rfl, by decide, bg_m1 (List.mem_of_getElem? (i := 143) (by decide +kernel)) (by decide +kernel)⟩
theorem fl_T_15 : FL "ShameAngles$Script" 15 5 0 := ⟨_, rfl, by decide, bg_m1 (List.mem_of_getElem? (i := 164) (by decide +kernel)) (by decide +kernel)⟩
theorem fl_A_112 : FL "ShameAngles" 112 5 0 := ⟨_, rfl, by decide, bg_m1 (List.mem_of_getElem? (i := 165) (by decide +kernel)) (by decide +kernel)⟩
theorem fl_T_11 : FL "ShameAngles$Script" 11 5 1 := ⟨_, rfl, by decide, bg_m1 (List.mem_of_getElem? (i := 166) (by decide +kernel)) (by decide +kernel)⟩
theorem fl_T_32 : FL "ShameAngles$Script" 32 5 2 := ⟨_, rfl, by decide, bg_m1 (List.mem_of_getElem? (i := 167) (by decide +kernel)) (by decide +kernel)⟩
theorem fl_T_19 : FL "ShameAngles$Script" 19 5 3 := ⟨_, rfl, by decide, bg_m1 (List.mem_of_getElem? (i := 168) (by decide +kernel)) (by decide +kernel)⟩
theorem fl_T_25 : FL "ShameAngles$Script" 25 5 4 := ⟨_, rfl, by decide, bg_m1 (List.mem_of_getElem? (i := 169) (by decide +kernel)) (by decide +kernel)⟩
theorem fl_T_103 : FL "ShameAngles$Script" 103 5 5 := ⟨_, rfl, by decide, bg_m1 (List.mem_of_getElem? (i := 170) (by decide +kernel)) (by decide +kernel)⟩
theorem fl_O_11 : FL "ShameAngles$Route" 11 6 0 := ⟨_, rfl, by decide, bg_m1 (List.mem_of_getElem? (i := 194) (by decide +kernel)) (by decide +kernel)⟩
theorem fl_A_201 : FL "ShameAngles" 201 6 0 := ⟨_, rfl, by decide, bg_m1 (List.mem_of_getElem? (i := 195) (by decide +kernel)) (by decide +kernel)⟩
theorem fl_O_17 : FL "ShameAngles$Route" 17 6 1 := ⟨_, rfl, by decide, bg_m1 (List.mem_of_getElem? (i := 196) (by decide +kernel)) (by decide +kernel)⟩
theorem fl_W_9 : FL "ShameAngles$Watches" 9 7 0 := ⟨_, rfl, by decide, bg_m1 (List.mem_of_getElem? (i := 208) (by decide +kernel)) (by decide +kernel)⟩
theorem fl_A_207 : FL "ShameAngles" 207 7 0 := ⟨_, rfl, by decide, bg_m1 (List.mem_of_getElem? (i := 209) (by decide +kernel)) (by decide +kernel)⟩
theorem fl_W_15 : FL "ShameAngles$Watches" 15 7 1 := ⟨_, rfl, by decide, bg_m1 (List.mem_of_getElem? (i := 210) (by decide +kernel)) (by decide +kernel)⟩
theorem fl_W_18 : FL "ShameAngles$Watches" 18 7 2 := ⟨_, rfl, by decide, bg_m1 (List.mem_of_getElem? (i := 211) (by decide +kernel)) (by decide +kernel)⟩
theorem fl_W_21 : FL "ShameAngles$Watches" 21 7 3 := ⟨_, rfl, by decide, bg_m1 (List.mem_of_getElem? (i := 212) (by decide +kernel)) (by decide +kernel)⟩
theorem fl_G_9 : FL "ShameAngles$Guesses" 9 8 0 := ⟨_, rfl, by decide, bg_m1 (List.mem_of_getElem? (i := 228) (by decide +kernel)) (by decide +kernel)⟩
theorem fl_C_7 : FL "ShameAngles$Chance" 7 9 0 := ⟨_, rfl, by decide, bg_m1 (List.mem_of_getElem? (i := 238) (by decide +kernel)) (by decide +kernel)⟩
theorem fl_A_285 : FL "ShameAngles" 285 9 0 := ⟨_, rfl, by decide, bg_m1 (List.mem_of_getElem? (i := 239) (by decide +kernel)) (by decide +kernel)⟩
theorem fl_C_13 : FL "ShameAngles$Chance" 13 9 1 := ⟨_, rfl, by decide, bg_m2 (List.mem_of_getElem? (i := 0) (by decide +kernel)) (by decide +kernel)⟩
theorem fl_A_289 : FL "ShameAngles" 289 9 1 := ⟨_, rfl, by decide, bg_m2 (List.mem_of_getElem? (i := 1) (by decide +kernel)) (by decide +kernel)⟩
theorem fl_A_10 : FL "ShameAngles" 10 0 0 := ⟨_, rfl, by decide, bg_m2 (List.mem_of_getElem? (i := 7) (by decide +kernel)) (by decide +kernel)⟩
theorem fl_A_16 : FL "ShameAngles" 16 0 1 := ⟨_, rfl, by decide, bg_m2 (List.mem_of_getElem? (i := 8) (by decide +kernel)) (by decide +kernel)⟩
theorem fl_A_20 : FL "ShameAngles" 20 0 2 := ⟨_, rfl, by decide, bg_m2 (List.mem_of_getElem? (i := 9) (by decide +kernel)) (by decide +kernel)⟩
theorem fl_A_27 : FL "ShameAngles" 27 0 3 := ⟨_, rfl, by decide, bg_m2 (List.mem_of_getElem? (i := 10) (by decide +kernel)) (by decide +kernel)⟩
theorem fl_A_34 : FL "ShameAngles" 34 0 4 := ⟨_, rfl, by decide, bg_m2 (List.mem_of_getElem? (i := 11) (by decide +kernel)) (by decide +kernel)⟩
theorem fl_A_41 : FL "ShameAngles" 41 0 5 := ⟨_, rfl, by decide, bg_m2 (List.mem_of_getElem? (i := 12) (by decide +kernel)) (by decide +kernel)⟩
theorem fl_A_48 : FL "ShameAngles" 48 0 6 := ⟨_, rfl, by decide, bg_m2 (List.mem_of_getElem? (i := 13) (by decide +kernel)) (by decide +kernel)⟩
theorem fl_A_55 : FL "ShameAngles" 55 0 7 := ⟨_, rfl, by decide, bg_m2 (List.mem_of_getElem? (i := 14) (by decide +kernel)) (by decide +kernel)⟩
theorem fl_A_62 : FL "ShameAngles" 62 0 8 := ⟨_, rfl, by decide, bg_m2 (List.mem_of_getElem? (i := 15) (by decide +kernel)) (by decide +kernel)⟩
theorem fl_A_295 : FL "ShameAngles" 295 0 9 := ⟨_, rfl, by decide, bg_m2 (List.mem_of_getElem? (i := 16) (by decide +kernel)) (by decide +kernel)⟩
theorem fl_A_298 : FL "ShameAngles" 298 0 10 := ⟨_, rfl, by decide, bg_m2 (List.mem_of_getElem? (i := 17) (by decide +kernel)) (by decide +kernel)⟩
theorem fl_A_301 : FL "ShameAngles" 301 0 11 := ⟨_, rfl, by decide, bg_m2 (List.mem_of_getElem? (i := 18) (by decide +kernel)) (by decide +kernel)⟩
theorem fl_M_1 : FL "ShameAnglesModel" 1 10 0 := ⟨_, rfl, by decide, bg_m4 (List.mem_of_getElem? (i := 159) (by decide +kernel)) (by decide +kernel)⟩
theorem fl_M_60 : FL "ShameAnglesModel" 60 10 1 := ⟨_, rfl, by decide, bg_m4 (List.mem_of_getElem? (i := 160) (by decide +kernel)) (by decide +kernel)⟩
theorem fl_M_64 : FL "ShameAnglesModel" 64 10 2 := ⟨_, rfl, by decide, bg_m4 (List.mem_of_getElem? (i := 161) (by decide +kernel)) (by decide +kernel)⟩
theorem fl_M_67 : FL "ShameAnglesModel" 67 10 3 := ⟨_, rfl, by decide, bg_m4 (List.mem_of_getElem? (i := 162) (by decide +kernel)) (by decide +kernel)⟩
theorem fl_M_70 : FL "ShameAnglesModel" 70 10 4 := ⟨_, rfl, by decide, bg_m4 (List.mem_of_getElem? (i := 163) (by decide +kernel)) (by decide +kernel)⟩
theorem fl_M_73 : FL "ShameAnglesModel" 73 10 5 := ⟨_, rfl, by decide, bg_m4 (List.mem_of_getElem? (i := 164) (by decide +kernel)) (by decide +kernel)⟩
theorem fl_M_76 : FL "ShameAnglesModel" 76 10 6 := ⟨_, rfl, by decide, bg_m4 (List.mem_of_getElem? (i := 165) (by decide +kernel)) (by decide +kernel)⟩
theorem fl_M_79 : FL "ShameAnglesModel" 79 10 7 := ⟨_, rfl, by decide, bg_m4 (List.mem_of_getElem? (i := 166) (by decide +kernel)) (by decide +kernel)⟩
theorem fl_M_82 : FL "ShameAnglesModel" 82 10 8 := ⟨_, rfl, by decide, bg_m4 (List.mem_of_getElem? (i := 167) (by decide +kernel)) (by decide +kernel)⟩
theorem fl_M_85 : FL "ShameAnglesModel" 85 10 9 := ⟨_, rfl, by decide, bg_m4 (List.mem_of_getElem? (i := 168) (by decide +kernel)) (by decide +kernel)⟩
theorem fl_M_13 : FL "ShameAnglesModel" 13 10 10 := ⟨_, rfl, by decide, bg_m4 (List.mem_of_getElem? (i := 169) (by decide +kernel)) (by decide +kernel)⟩
theorem fl_M_16 : FL "ShameAnglesModel" 16 10 11 := ⟨_, rfl, by decide, bg_m4 (List.mem_of_getElem? (i := 170) (by decide +kernel)) (by decide +kernel)⟩
theorem fl_M_19 : FL "ShameAnglesModel" 19 10 12 := ⟨_, rfl, by decide, bg_m4 (List.mem_of_getElem? (i := 171) (by decide +kernel)) (by decide +kernel)⟩
theorem fl_M_22 : FL "ShameAnglesModel" 22 10 13 := ⟨_, rfl, by decide, bg_m4 (List.mem_of_getElem? (i := 172) (by decide +kernel)) (by decide +kernel)⟩
theorem fl_M_25 : FL "ShameAnglesModel" 25 10 14 := ⟨_, rfl, by decide, bg_m4 (List.mem_of_getElem? (i := 173) (by decide +kernel)) (by decide +kernel)⟩
theorem fl_M_28 : FL "ShameAnglesModel" 28 10 15 := ⟨_, rfl, by decide, bg_m4 (List.mem_of_getElem? (i := 174) (by decide +kernel)) (by decide +kernel)⟩
theorem fl_M_31 : FL "ShameAnglesModel" 31 10 16 := ⟨_, rfl, by decide, bg_m4 (List.mem_of_getElem? (i := 175) (by decide +kernel)) (by decide +kernel)⟩
theorem fl_M_34 : FL "ShameAnglesModel" 34 10 17 := ⟨_, rfl, by decide, bg_m4 (List.mem_of_getElem? (i := 176) (by decide +kernel)) (by decide +kernel)⟩
theorem fl_M_110 : FL "ShameAnglesModel" 110 10 18 := ⟨_, rfl, by decide, bg_m4 (List.mem_of_getElem? (i := 177) (by decide +kernel)) (by decide +kernel)⟩
theorem fl_M_113 : FL "ShameAnglesModel" 113 10 19 := ⟨_, rfl, by decide, bg_m4 (List.mem_of_getElem? (i := 178) (by decide +kernel)) (by decide +kernel)⟩
theorem fl_M_135 : FL "ShameAnglesModel" 135 10 20 := ⟨_, rfl, by decide, bg_m4 (List.mem_of_getElem? (i := 179) (by decide +kernel)) (by decide +kernel)⟩
theorem fl_M_37 : FL "ShameAnglesModel" 37 10 21 := ⟨_, rfl, by decide, bg_m4 (List.mem_of_getElem? (i := 180) (by decide +kernel)) (by decide +kernel)⟩
theorem fl_M_40 : FL "ShameAnglesModel" 40 10 22 := ⟨_, rfl, by decide, bg_m4 (List.mem_of_getElem? (i := 181) (by decide +kernel)) (by decide +kernel)⟩
theorem fl_M_88 : FL "ShameAnglesModel" 88 10 23 := ⟨_, rfl, by decide, bg_m4 (List.mem_of_getElem? (i := 182) (by decide +kernel)) (by decide +kernel)⟩
theorem fl_M_43 : FL "ShameAnglesModel" 43 10 24 := ⟨_, rfl, by decide, bg_m4 (List.mem_of_getElem? (i := 183) (by decide +kernel)) (by decide +kernel)⟩
theorem fl_M_289 : FL "ShameAnglesModel" 289 10 25 := ⟨_, rfl, by decide, bg_m4 (List.mem_of_getElem? (i := 184) (by decide +kernel)) (by decide +kernel)⟩
theorem fl_M_46 : FL "ShameAnglesModel" 46 10 26 := ⟨_, rfl, by decide, bg_m4 (List.mem_of_getElem? (i := 185) (by decide +kernel)) (by decide +kernel)⟩
theorem fl_M_50 : FL "ShameAnglesModel" 50 10 27 := ⟨_, rfl, by decide, bg_m4 (List.mem_of_getElem? (i := 186) (by decide +kernel)) (by decide +kernel)⟩
theorem fl_M_53 : FL "ShameAnglesModel" 53 10 28 := ⟨_, rfl, by decide, bg_m4 (List.mem_of_getElem? (i := 187) (by decide +kernel)) (by decide +kernel)⟩
theorem fl_M_321 : FL "ShameAnglesModel" 321 10 29 := ⟨_, rfl, by decide, bg_m4 (List.mem_of_getElem? (i := 188) (by decide +kernel)) (by decide +kernel)⟩
theorem kc_J_265 : Cond.constant "java/lang/Integer" 265 (Int32.ofInt 1431655765) ∈ bg := bg_m3 (List.mem_of_getElem? (i := 123) (by decide +kernel)) (by decide +kernel)
theorem kc_J_266 : Cond.constant "java/lang/Integer" 266 (Int32.ofInt 858993459) ∈ bg := bg_m3 (List.mem_of_getElem? (i := 124) (by decide +kernel)) (by decide +kernel)
theorem kc_J_267 : Cond.constant "java/lang/Integer" 267 (Int32.ofInt 252645135) ∈ bg := bg_m3 (List.mem_of_getElem? (i := 125) (by decide +kernel)) (by decide +kernel)
theorem kc_A_270 : Cond.constant "ShameAngles" 270 (Int32.ofInt 999999) ∈ bg := bg_m4 (List.mem_of_getElem? (i := 84) (by decide +kernel)) (by decide +kernel)
theorem kc_M_251 : Cond.constant "ShameAnglesModel" 251 (Int32.ofInt 1048576) ∈ bg := bg_m6 (List.mem_of_getElem? (i := 24) (by decide +kernel)) (by decide +kernel)
theorem kc_M_298 : Cond.constant "ShameAnglesModel" 298 (Int32.ofInt 999999) ∈ bg := bg_m6 (List.mem_of_getElem? (i := 140) (by decide +kernel)) (by decide +kernel)
theorem kl_C_16 : Cond.constantLong "ShameAngles$Chance" 16 (Int64.ofInt 10) ∈ bg := bg_m4 (List.mem_of_getElem? (i := 73) (by decide +kernel)) (by decide +kernel)
theorem kl_C_22 : Cond.constantLong "ShameAngles$Chance" 22 (Int64.ofInt 2) ∈ bg := bg_m4 (List.mem_of_getElem? (i := 78) (by decide +kernel)) (by decide +kernel)
theorem kl_C_24 : Cond.constantLong "ShameAngles$Chance" 24 (Int64.ofInt 5) ∈ bg := bg_m4 (List.mem_of_getElem? (i := 79) (by decide +kernel)) (by decide +kernel)
theorem kl_A_271 : Cond.constantLong "ShameAngles" 271 (Int64.ofInt 1103515245) ∈ bg := bg_m4 (List.mem_of_getElem? (i := 85) (by decide +kernel)) (by decide +kernel)
theorem kl_A_273 : Cond.constantLong "ShameAngles" 273 (Int64.ofInt 12345) ∈ bg := bg_m4 (List.mem_of_getElem? (i := 86) (by decide +kernel)) (by decide +kernel)
theorem kl_A_275 : Cond.constantLong "ShameAngles" 275 (Int64.ofInt 2147483648) ∈ bg := bg_m4 (List.mem_of_getElem? (i := 87) (by decide +kernel)) (by decide +kernel)
theorem kl_A_277 : Cond.constantLong "ShameAngles" 277 (Int64.ofInt 65536) ∈ bg := bg_m4 (List.mem_of_getElem? (i := 88) (by decide +kernel)) (by decide +kernel)
theorem kl_A_279 : Cond.constantLong "ShameAngles" 279 (Int64.ofInt 6) ∈ bg := bg_m4 (List.mem_of_getElem? (i := 89) (by decide +kernel)) (by decide +kernel)
theorem kl_A_281 : Cond.constantLong "ShameAngles" 281 (Int64.ofInt 1048576) ∈ bg := bg_m4 (List.mem_of_getElem? (i := 90) (by decide +kernel)) (by decide +kernel)
theorem kl_A_283 : Cond.constantLong "ShameAngles" 283 (Int64.ofInt 3) ∈ bg := bg_m4 (List.mem_of_getElem? (i := 91) (by decide +kernel)) (by decide +kernel)
theorem kl_A_308 : Cond.constantLong "ShameAngles" 308 (Int64.ofInt 1543) ∈ bg := bg_m4 (List.mem_of_getElem? (i := 134) (by decide +kernel)) (by decide +kernel)
theorem kl_A_310 : Cond.constantLong "ShameAngles" 310 (Int64.ofInt 31) ∈ bg := bg_m4 (List.mem_of_getElem? (i := 135) (by decide +kernel)) (by decide +kernel)
theorem kl_H_91 : Cond.constantLong "ShameAngles$Ship" 91 (Int64.ofInt 31) ∈ bg := bg_m4 (List.mem_of_getElem? (i := 142) (by decide +kernel)) (by decide +kernel)
theorem kl_R_32 : Cond.constantLong "ShameAngles$Rows" 32 (Int64.ofInt 31) ∈ bg := bg_m4 (List.mem_of_getElem? (i := 147) (by decide +kernel)) (by decide +kernel)
theorem kl_M_292 : Cond.constantLong "ShameAnglesModel" 292 (Int64.ofInt 10) ∈ bg := bg_m6 (List.mem_of_getElem? (i := 131) (by decide +kernel)) (by decide +kernel)
theorem kl_M_299 : Cond.constantLong "ShameAnglesModel" 299 (Int64.ofInt 1103515245) ∈ bg := bg_m6 (List.mem_of_getElem? (i := 141) (by decide +kernel)) (by decide +kernel)
theorem kl_M_301 : Cond.constantLong "ShameAnglesModel" 301 (Int64.ofInt 12345) ∈ bg := bg_m6 (List.mem_of_getElem? (i := 142) (by decide +kernel)) (by decide +kernel)
theorem kl_M_303 : Cond.constantLong "ShameAnglesModel" 303 (Int64.ofInt 2147483648) ∈ bg := bg_m6 (List.mem_of_getElem? (i := 143) (by decide +kernel)) (by decide +kernel)
theorem kl_M_305 : Cond.constantLong "ShameAnglesModel" 305 (Int64.ofInt 65536) ∈ bg := bg_m6 (List.mem_of_getElem? (i := 144) (by decide +kernel)) (by decide +kernel)
theorem kl_M_307 : Cond.constantLong "ShameAnglesModel" 307 (Int64.ofInt 6) ∈ bg := bg_m6 (List.mem_of_getElem? (i := 145) (by decide +kernel)) (by decide +kernel)
theorem kl_M_309 : Cond.constantLong "ShameAnglesModel" 309 (Int64.ofInt 1048576) ∈ bg := bg_m6 (List.mem_of_getElem? (i := 146) (by decide +kernel)) (by decide +kernel)
theorem kl_M_311 : Cond.constantLong "ShameAnglesModel" 311 (Int64.ofInt 3) ∈ bg := bg_m6 (List.mem_of_getElem? (i := 147) (by decide +kernel)) (by decide +kernel)
theorem kl_M_324 : Cond.constantLong "ShameAnglesModel" 324 (Int64.ofInt 1543) ∈ bg := bg_m6 (List.mem_of_getElem? (i := 180) (by decide +kernel)) (by decide +kernel)
theorem kl_M_319 : Cond.constantLong "ShameAnglesModel" 319 (Int64.ofInt 31) ∈ bg := bg_m6 (List.mem_of_getElem? (i := 185) (by decide +kernel)) (by decide +kernel)
theorem cl_L_7 : Cond.classLink "ShameAnglesLaw" 7 "ShameAngles" ∈ bg := bg_m1 (List.mem_of_getElem? (i := 21) (by decide +kernel)) (by decide +kernel)
theorem cl_A_7 : Cond.classLink "ShameAngles" 7 "ShameAngles$State" ∈ bg := bg_m1 (List.mem_of_getElem? (i := 29) (by decide +kernel)) (by decide +kernel)
theorem cl_S_7 : Cond.classLink "ShameAngles$State" 7 "ShameAngles$Ship" ∈ bg := bg_m1 (List.mem_of_getElem? (i := 35) (by decide +kernel)) (by decide +kernel)
theorem cl_S_16 : Cond.classLink "ShameAngles$State" 16 "ShameAngles$Rows" ∈ bg := bg_m1 (List.mem_of_getElem? (i := 98) (by decide +kernel)) (by decide +kernel)
theorem cl_S_31 : Cond.classLink "ShameAngles$State" 31 "ShameAngles$Past" ∈ bg := bg_m1 (List.mem_of_getElem? (i := 117) (by decide +kernel)) (by decide +kernel)
theorem cl_A_24 : Cond.classLink "ShameAngles" 24 "ShameAngles$Ship" ∈ bg := bg_m1 (List.mem_of_getElem? (i := 156) (by decide +kernel)) (by decide +kernel)
theorem cl_A_31 : Cond.classLink "ShameAngles" 31 "ShameAngles$Script" ∈ bg := bg_m1 (List.mem_of_getElem? (i := 158) (by decide +kernel)) (by decide +kernel)
theorem cl_A_38 : Cond.classLink "ShameAngles" 38 "ShameAngles$Route" ∈ bg := bg_m1 (List.mem_of_getElem? (i := 185) (by decide +kernel)) (by decide +kernel)
theorem cl_O_15 : Cond.classLink "ShameAngles$Route" 15 "ShameAngles$Ship" ∈ bg := bg_m1 (List.mem_of_getElem? (i := 191) (by decide +kernel)) (by decide +kernel)
theorem cl_A_45 : Cond.classLink "ShameAngles" 45 "ShameAngles$Watches" ∈ bg := bg_m1 (List.mem_of_getElem? (i := 202) (by decide +kernel)) (by decide +kernel)
theorem cl_A_52 : Cond.classLink "ShameAngles" 52 "ShameAngles$Guesses" ∈ bg := bg_m1 (List.mem_of_getElem? (i := 222) (by decide +kernel)) (by decide +kernel)
theorem cl_A_59 : Cond.classLink "ShameAngles" 59 "ShameAngles$Chance" ∈ bg := bg_m1 (List.mem_of_getElem? (i := 232) (by decide +kernel)) (by decide +kernel)
theorem cl_L_10 : Cond.classLink "ShameAnglesLaw" 10 "ShameAnglesModel" ∈ bg := bg_m4 (List.mem_of_getElem? (i := 149) (by decide +kernel)) (by decide +kernel)
theorem ac_int : Cond.arrayClass .int ∈ bg := bg_m1 (List.mem_of_getElem? (i := 97) (by decide +kernel)) (by decide +kernel)
theorem ac_bool : Cond.arrayClass .boolean ∈ bg := bg_m1 (List.mem_of_getElem? (i := 184) (by decide +kernel)) (by decide +kernel)
theorem oi_code : Cond.code Lib.objectInit ⟨#[0xb1]⟩ 1 none ∈ bg := bg_m1 (List.mem_of_getElem? (i := 28) (by decide +kernel)) (by decide +kernel)
theorem oi_inst : Cond.instanceMethod Lib.objectInit ∈ bg := bg_m1 (List.mem_of_getElem? (i := 27) (by decide +kernel)) (by decide +kernel)
theorem oi_A : Cond.methodLink "ShameAngles" 1 Lib.objectInit ∈ bg := bg_m1 (List.mem_of_getElem? (i := 26) (by decide +kernel)) (by decide +kernel)
theorem oi_S : Cond.methodLink "ShameAngles$State" 1 Lib.objectInit ∈ bg := bg_m1 (List.mem_of_getElem? (i := 34) (by decide +kernel)) (by decide +kernel)
theorem oi_H : Cond.methodLink "ShameAngles$Ship" 3 Lib.objectInit ∈ bg := bg_m1 (List.mem_of_getElem? (i := 40) (by decide +kernel)) (by decide +kernel)
theorem oi_R : Cond.methodLink "ShameAngles$Rows" 3 Lib.objectInit ∈ bg := bg_m1 (List.mem_of_getElem? (i := 103) (by decide +kernel)) (by decide +kernel)
theorem oi_P : Cond.methodLink "ShameAngles$Past" 3 Lib.objectInit ∈ bg := bg_m1 (List.mem_of_getElem? (i := 122) (by decide +kernel)) (by decide +kernel)
theorem oi_T : Cond.methodLink "ShameAngles$Script" 3 Lib.objectInit ∈ bg := bg_m1 (List.mem_of_getElem? (i := 163) (by decide +kernel)) (by decide +kernel)
theorem oi_O : Cond.methodLink "ShameAngles$Route" 3 Lib.objectInit ∈ bg := bg_m1 (List.mem_of_getElem? (i := 190) (by decide +kernel)) (by decide +kernel)
theorem oi_W : Cond.methodLink "ShameAngles$Watches" 3 Lib.objectInit ∈ bg := bg_m1 (List.mem_of_getElem? (i := 207) (by decide +kernel)) (by decide +kernel)
theorem oi_G : Cond.methodLink "ShameAngles$Guesses" 3 Lib.objectInit ∈ bg := bg_m1 (List.mem_of_getElem? (i := 227) (by decide +kernel)) (by decide +kernel)
theorem oi_C : Cond.methodLink "ShameAngles$Chance" 1 Lib.objectInit ∈ bg := bg_m1 (List.mem_of_getElem? (i := 237) (by decide +kernel)) (by decide +kernel)
theorem oi_M : Cond.methodLink "ShameAnglesModel" 7 Lib.objectInit ∈ bg := bg_m4 (List.mem_of_getElem? (i := 154) (by decide +kernel)) (by decide +kernel)
theorem sy_nat : Cond.native arraycopyName ∈ bg := bg_m3 (List.mem_of_getElem? (i := 31) (by decide +kernel)) (by decide +kernel)
theorem sy_stat : Cond.static arraycopyName ∈ bg := bg_m3 (List.mem_of_getElem? (i := 30) (by decide +kernel)) (by decide +kernel)
theorem sy_init : Cond.initialized "java/lang/System" ∈ bg := bg_m1 (List.mem_of_getElem? (i := 18) (by decide +kernel)) (by decide +kernel)
theorem sy_H_43 : Cond.methodLink "ShameAngles$Ship" 43 arraycopyName ∈ bg := bg_m3 (List.mem_of_getElem? (i := 29) (by decide +kernel)) (by decide +kernel)
theorem sy_P_19 : Cond.methodLink "ShameAngles$Past" 19 arraycopyName ∈ bg := bg_m3 (List.mem_of_getElem? (i := 50) (by decide +kernel)) (by decide +kernel)
theorem sy_W_48 : Cond.methodLink "ShameAngles$Watches" 48 arraycopyName ∈ bg := bg_m3 (List.mem_of_getElem? (i := 177) (by decide +kernel)) (by decide +kernel)
theorem sy_R_26 : Cond.methodLink "ShameAngles$Rows" 26 arraycopyName ∈ bg := bg_m4 (List.mem_of_getElem? (i := 109) (by decide +kernel)) (by decide +kernel)
