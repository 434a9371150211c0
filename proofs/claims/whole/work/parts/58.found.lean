/-! ===== what is found at the start ===== -/
def FL0 : List Cond := flatC (Jvm.Cond.and given_1 narrow_1)
theorem st_1 : ∀ k : Nat, k < 2 → (Cond.arrayOf (.static "ShameAngles$Route" (if k = 0 then "LEAST" else "GREATEST") "[I") .int) ∈ FL0 ∧ (Cond.eq (.length (.static "ShameAngles$Route" (if k = 0 then "LEAST" else "GREATEST") "[I")) (.int (Int32.ofNat 6))) ∈ FL0 ∧ ∀ j : Nat, j < 6 → (Cond.eq (.elem (.static "ShameAngles$Route" (if k = 0 then "LEAST" else "GREATEST") "[I") (.int (Int32.ofNat j))) (.int (Int32.ofInt (tabv k j)))) ∈ FL0 := by decide +kernel
theorem st_2 : ∀ k : Nat, k < 2 → (Cond.laysStatic "ShameAngles$Route" (if k = 0 then "LEAST" else "GREATEST") "[I") ∈ lw_tbl := by decide +kernel
theorem st_3 : (Cond.initialized "ShameAngles$Route") ∈ lw_tbl ∧ (Cond.laysStatic "java/lang/String" "COMPACT_STRINGS" "Z") ∈ lw_tbl ∧ (Cond.initialized "java/lang/String") ∈ lw_tbl ∧ (Cond.laysStatic "jdk/internal/util/Preconditions" "SIOOBE_FORMATTER" "Ljava/util/function/BiFunction;") ∈ lw_tbl ∧ (Cond.initialized "jdk/internal/util/Preconditions") ∈ lw_tbl := by decide +kernel
theorem st_4 : (Cond.eq (.static "java/lang/String" "COMPACT_STRINGS" "Z") (.int 1)) ∈ FL0 ∧ (Cond.isRef (.static "jdk/internal/util/Preconditions" "SIOOBE_FORMATTER" "Ljava/util/function/BiFunction;")) ∈ FL0 := by decide +kernel
def tmS (i : Nat) : Term := .string "ShameAngles$Script" (str_idx i)
theorem st_5 : ∀ i : Nat, i < 6 → str_len.getD i 0 < 2 ^ 31 ∧ (Cond.exactly (tmS i) "java/lang/String") ∈ FL0 ∧ (Cond.eq (.field (tmS i) "java/lang/String" "coder" "B") (.int 0)) ∈ FL0 ∧ (Cond.arrayOf (.field (tmS i) "java/lang/String" "value" "[B") .byte) ∈ FL0 ∧ (Cond.eq (.length (.field (tmS i) "java/lang/String" "value" "[B")) (.int (Int32.ofNat (str_len.getD i 0)))) ∈ FL0 ∧ ∀ j : Nat, j < str_len.getD i 0 → (Cond.eq (.elem (.field (tmS i) "java/lang/String" "value" "[B") (.int (Int32.ofNat j))) (.int ((str_byt.getD i []).getD j 0))) ∈ FL0 := by decide +kernel
theorem st_6 : ∀ i : Nat, i < 6 → ∀ j : Nat, j < 6 → i ≠ j → (Cond.not (Cond.eq (tmS i) (tmS j))) ∈ FL0 ∨ (Cond.not (Cond.eq (tmS j) (tmS i))) ∈ FL0 := by decide +kernel
theorem st_7 : ∀ i : Nat, i < 6 → (Cond.stringRef "ShameAngles$Script" (str_idx i) (str_txt i)) ∈ lw_tbl := by decide +kernel
theorem st_8 : ∀ q ∈ nest_w, (Cond.methodLinkNest q.1 q.2.1 q.2.2 "ShameAngles") ∈ lw_tbl := by decide +kernel
theorem st_9 : (Cond.arrayOver (.object RC1)) ∈ lw_tbl ∧ (Cond.arrayOver (.object RC2)) ∈ lw_tbl ∧ (Cond.arrayClass .int) ∈ lw_tbl ∧ (Cond.arrayClass .boolean) ∈ lw_tbl := by decide +kernel
theorem ks_start {s : State} {A : Array Value} (hts : ∀ w ∈ lw_tbl, w.before A s = true) (hpre : (Jvm.Cond.and given_1 narrow_1).before A s = true) : ∃ κ : Kx, kb κ = s.heap.size ∧ KS κ s := by
  have hs : ∀ w ∈ FL0, w.before A s = true := flat_of_before _ hpre
  have hbg : ∀ w ∈ bg, w.before A s = true := fun w hw => hts w (List.mem_filter.mp hw).1
  have hA : ∀ a : Nat, a < s.heap.size → ¬ (fun q : Nat => s.heap.size ≤ q) a := fun a h1 h2 => by
    have h2 : s.heap.size ≤ a := h2
    omega
  have one : ∀ {c : Nat} {q : vw_C} {ty : Nat → FieldType}, CK c q ty → ∃ D : ClassId × (Nat → Nat), ∀ q' : vw_C, classes[c]? = some q' → u_Kn s q'.1 q'.2.1 q'.2.2 D.1 D.2 := fun {c q ty} h => by
    obtain ⟨cC, iS, hk⟩ := u_known hbg h.2.1 (hbg _ h.2.2.2.2.1)
    refine ⟨(cC, iS), fun q' e => ?_⟩
    rw [h.1] at e
    cases e
    exact hk
  have hD : ∀ c : Nat, ∃ D : ClassId × (Nat → Nat), ∀ q' : vw_C, classes[c]? = some q' → u_Kn s q'.1 q'.2.1 q'.2.2 D.1 D.2 := by
    intro c
    match c with
    | 0 => exact one ck_0
    | 1 => exact one ck_1
    | 2 => exact one ck_2
    | 3 => exact one ck_3
    | 4 => exact one ck_4
    | 5 => exact one ck_5
    | 6 => exact one ck_6
    | 7 => exact one ck_7
    | 8 => exact one ck_8
    | 9 => exact one ck_9
    | 10 => exact one ck_10
    | n + 11 =>
      obtain ⟨D, _⟩ := one ck_0
      refine ⟨D, fun q' e => ?_⟩
      have e2 : classes[n + 11]? = none := List.getElem?_eq_none (by show 11 ≤ n + 11; omega)
      rw [e2] at e
      cases e
  obtain ⟨D, hD⟩ := Classical.axiomOfChoice hD
  obtain ⟨cI, kI, pI, i1, i2, i3⟩ := Cond.arrayClass_spec (hts _ st_9.2.2.1)
  obtain ⟨cZ, kZ, pZ, z1, z2, z3⟩ := Cond.arrayClass_spec (hts _ st_9.2.2.2)
  obtain ⟨pS, cS, kS9, s1, s2, s3, s4, s5⟩ := Cond.arrayOver_spec (hts _ st_9.1)
  obtain ⟨pH, cH, kH9, h1, h2, h3, h4, h5⟩ := Cond.arrayOver_spec (hts _ st_9.2.1)
  have tb : ∀ k : Nat, k < 2 → ∃ t : Nat, va_Z "ShameAngles$Route" (if k = 0 then "LEAST" else "GREATEST") "[I" (.ref t) (fun q => s.heap.size ≤ q) s s.heap ∧ va_T .int t 6 (fun j => .int (Int32.ofInt (tabv k j))) (fun q => s.heap.size ≤ q) s s.heap := by
    intro k hk
    obtain ⟨t, ht, hT⟩ := va_Tof (f := fun j => .int (Int32.ofInt (tabv k j))) (A := fun q => s.heap.size ≤ q) (by decide) (hs _ (st_1 k hk).1) (va_eqt (hs _ (st_1 k hk).2.1)) (fun j hj => va_eqt (hs _ ((st_1 k hk).2.2 j hj))) hA
    exact ⟨t, va_Zref (hts _ (st_2 k hk)) (hts _ st_3.1) ht hA, hT⟩
  obtain ⟨t0, t0z, t0t⟩ := tb 0 (by decide)
  obtain ⟨t1, t1z, t1t⟩ := tb 1 (by decide)
  obtain ⟨adK, adV, hV, hE⟩ := vk_Sof (args := A) (s := s) (N := 6) (tm := tmS) (len := str_len) (byt := str_byt) (A := fun q => s.heap.size ≤ q) (fun i hi => (st_5 i hi).1) (fun i hi => hs _ (st_5 i hi).2.1) (fun i hi => hs _ (st_5 i hi).2.2.1) (fun i hi => hs _ (st_5 i hi).2.2.2.1) (fun i hi => hs _ (st_5 i hi).2.2.2.2.1) (fun i hi j hj => hs _ ((st_5 i hi).2.2.2.2.2 j hj)) (fun i j hi hj e => (st_6 i hi j hj e).imp (hs _) (hs _)) hA
  have hcs := va_Zof (A := fun q => s.heap.size ≤ q) (hts _ st_3.2.1) (hts _ st_3.2.2.1) (va_eqt (hs _ st_4.1)) hA
  have hsf := va_Zqof (A := fun q => s.heap.size ≤ q) (hts _ st_3.2.2.2.1) (hts _ st_3.2.2.2.2) (hs _ st_4.2) hA
  refine ⟨((fun c => (D c).1, fun c => (D c).2), (cI, cZ, cS, cH), s.heap.size, (fun k => if k = 0 then t0 else t1), adK, adV), rfl, ⟨fun c q hq => hD c q hq, fun k q hq => ?_⟩, Nat.le_refl _, ⟨⟨t0z, t0t⟩, ⟨t1z, t1t⟩, hcs, hsf, hV⟩, fun q hq => ?_, fun i hi => vk_R.of (hts _ (st_7 i hi)) (hE i hi), va_AO.of (hts _ st_9.1), va_AO.of (hts _ st_9.2.1)⟩
  · match k, hq with
    | 0, hq => cases hq; exact ⟨fun n z => ⟨(fun _ q => by cases q), kI, i2, pI, i3⟩, i1⟩
    | 1, hq => cases hq; exact ⟨fun n z => ⟨(fun _ q => by cases q), kZ, z2, pZ, z3⟩, z1⟩
    | 2, hq => cases hq; exact ⟨fun n z => ⟨(fun _ q => by cases q), kS9, s3, pS, s4⟩, kS9, pS, s3, s4, s1, s5⟩
    | 3, hq => cases hq; exact ⟨fun n z => ⟨(fun _ q => by cases q), kH9, h3, pH, h4⟩, kH9, pH, h3, h4, h1, h5⟩
    | n + 4, hq =>
      have e2 : (tys ((fun c => (D c).1, fun c => (D c).2), (cI, cZ, cS, cH), s.heap.size, (fun k => if k = 0 then t0 else t1), adK, adV))[n + 4]? = none := List.getElem?_eq_none (by show 4 ≤ n + 4; omega)
      rw [e2] at hq
      cases hq
  · exact va_tabs (A := A) (u := s) rfl rfl (hts _ (st_8 q hq))
