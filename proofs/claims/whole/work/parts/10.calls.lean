/-- behind a call -/
def GCr (κ : Kx) (μ : MX) (Z : State → Prop) (kc ks nx : Nat) (ls : List (Option Value)) (st : List Value) (r : Option Value) (P : Heap → Prop) : Prop := GC κ μ Z kc ks nx ls (r.toList ++ st) P
section CA
variable {κ : Kx} {Γ Γ' : Gm} {d d' mc ms mc' ms' : Nat} {μ : MX} {Z : State → Prop} {kc ks pc nx tg idx ad0 c : Nat} {ls ls' : List (Option Value)} {st : List Value} {P : Heap → Prop} {q : vw_C} {v0 a1 a2 a3 a4 a5 : Value}
theorem GCr.v (k : GC κ μ Z kc ks nx ls (v0 :: st) P) : GCr κ μ Z kc ks nx ls st (some v0) P := k
theorem GCr.n (k : GC κ μ Z kc ks nx ls st P) : GCr κ μ Z kc ks nx ls st none P := k
theorem g_v0 (F : Fx κ Γ d mc ms μ) (hd : AT 3 Γ.2.1 pc (.invokevirtual idx) nx) (hs : VC Γ.1.cls idx Γ') (hk : MK Γ') (hob : OBJ κ ad0 c P) (hc : classes[c]? = some q) (hcn : q.1 = Γ'.1.cls) (hL : ls.length = Γ.2.2.1) (hdd : d' + 1 ≤ d) (hm : kc ≤ mc ∧ ks ≤ ms) (hn : 0 = Γ'.2.2.2.2) (hst : (st.map fun v => v.category).sum ≤ 8) (h : GG κ Γ' d' 0 0 [.ref ad0] P (GCr κ μ Z kc ks nx ls st)) : GC κ μ Z kc ks pc ls (.ref ad0 :: st) P := g_callV (As := []) F hd hs hk hob hc hcn hL hdd hm hn hst h
theorem g_s0 (F : Fx κ Γ d mc ms μ) (hd : AT 3 Γ.2.1 pc (.invokestatic idx) nx) (hs : SC Γ.1.cls idx Γ') (hk : MK Γ') (hL : ls.length = Γ.2.2.1) (hdd : d' + 1 ≤ d) (hm : kc ≤ mc ∧ ks ≤ ms) (hn : 0 = Γ'.2.2.2.2) (hst : (st.map fun v => v.category).sum ≤ 8) (h : GG κ Γ' d' 0 0 [] P (GCr κ μ Z kc ks nx ls st)) : GC κ μ Z kc ks pc ls (st) P := g_callS (As := []) F hd hs hk hL hdd hm hn hst h
theorem g_v1 (F : Fx κ Γ d mc ms μ) (hd : AT 3 Γ.2.1 pc (.invokevirtual idx) nx) (hs : VC Γ.1.cls idx Γ') (hk : MK Γ') (hob : OBJ κ ad0 c P) (hc : classes[c]? = some q) (hcn : q.1 = Γ'.1.cls) (hL : ls.length = Γ.2.2.1) (hdd : d' + 1 ≤ d) (hm : kc ≤ mc ∧ ks ≤ ms) (hn : 1 = Γ'.2.2.2.2) (hst : (st.map fun v => v.category).sum ≤ 8) (h : GG κ Γ' d' 0 0 [.ref ad0, a1] P (GCr κ μ Z kc ks nx ls st)) : GC κ μ Z kc ks pc ls (a1 :: .ref ad0 :: st) P := g_callV (As := [a1]) F hd hs hk hob hc hcn hL hdd hm hn hst h
theorem g_s1 (F : Fx κ Γ d mc ms μ) (hd : AT 3 Γ.2.1 pc (.invokestatic idx) nx) (hs : SC Γ.1.cls idx Γ') (hk : MK Γ') (hL : ls.length = Γ.2.2.1) (hdd : d' + 1 ≤ d) (hm : kc ≤ mc ∧ ks ≤ ms) (hn : 1 = Γ'.2.2.2.2) (hst : (st.map fun v => v.category).sum ≤ 8) (h : GG κ Γ' d' 0 0 [a1] P (GCr κ μ Z kc ks nx ls st)) : GC κ μ Z kc ks pc ls (a1 :: st) P := g_callS (As := [a1]) F hd hs hk hL hdd hm hn hst h
theorem g_v2 (F : Fx κ Γ d mc ms μ) (hd : AT 3 Γ.2.1 pc (.invokevirtual idx) nx) (hs : VC Γ.1.cls idx Γ') (hk : MK Γ') (hob : OBJ κ ad0 c P) (hc : classes[c]? = some q) (hcn : q.1 = Γ'.1.cls) (hL : ls.length = Γ.2.2.1) (hdd : d' + 1 ≤ d) (hm : kc ≤ mc ∧ ks ≤ ms) (hn : 2 = Γ'.2.2.2.2) (hst : (st.map fun v => v.category).sum ≤ 8) (h : GG κ Γ' d' 0 0 [.ref ad0, a1, a2] P (GCr κ μ Z kc ks nx ls st)) : GC κ μ Z kc ks pc ls (a2 :: a1 :: .ref ad0 :: st) P := g_callV (As := [a1, a2]) F hd hs hk hob hc hcn hL hdd hm hn hst h
theorem g_s2 (F : Fx κ Γ d mc ms μ) (hd : AT 3 Γ.2.1 pc (.invokestatic idx) nx) (hs : SC Γ.1.cls idx Γ') (hk : MK Γ') (hL : ls.length = Γ.2.2.1) (hdd : d' + 1 ≤ d) (hm : kc ≤ mc ∧ ks ≤ ms) (hn : 2 = Γ'.2.2.2.2) (hst : (st.map fun v => v.category).sum ≤ 8) (h : GG κ Γ' d' 0 0 [a1, a2] P (GCr κ μ Z kc ks nx ls st)) : GC κ μ Z kc ks pc ls (a2 :: a1 :: st) P := g_callS (As := [a1, a2]) F hd hs hk hL hdd hm hn hst h
theorem g_v3 (F : Fx κ Γ d mc ms μ) (hd : AT 3 Γ.2.1 pc (.invokevirtual idx) nx) (hs : VC Γ.1.cls idx Γ') (hk : MK Γ') (hob : OBJ κ ad0 c P) (hc : classes[c]? = some q) (hcn : q.1 = Γ'.1.cls) (hL : ls.length = Γ.2.2.1) (hdd : d' + 1 ≤ d) (hm : kc ≤ mc ∧ ks ≤ ms) (hn : 3 = Γ'.2.2.2.2) (hst : (st.map fun v => v.category).sum ≤ 8) (h : GG κ Γ' d' 0 0 [.ref ad0, a1, a2, a3] P (GCr κ μ Z kc ks nx ls st)) : GC κ μ Z kc ks pc ls (a3 :: a2 :: a1 :: .ref ad0 :: st) P := g_callV (As := [a1, a2, a3]) F hd hs hk hob hc hcn hL hdd hm hn hst h
theorem g_s3 (F : Fx κ Γ d mc ms μ) (hd : AT 3 Γ.2.1 pc (.invokestatic idx) nx) (hs : SC Γ.1.cls idx Γ') (hk : MK Γ') (hL : ls.length = Γ.2.2.1) (hdd : d' + 1 ≤ d) (hm : kc ≤ mc ∧ ks ≤ ms) (hn : 3 = Γ'.2.2.2.2) (hst : (st.map fun v => v.category).sum ≤ 8) (h : GG κ Γ' d' 0 0 [a1, a2, a3] P (GCr κ μ Z kc ks nx ls st)) : GC κ μ Z kc ks pc ls (a3 :: a2 :: a1 :: st) P := g_callS (As := [a1, a2, a3]) F hd hs hk hL hdd hm hn hst h
theorem g_v4 (F : Fx κ Γ d mc ms μ) (hd : AT 3 Γ.2.1 pc (.invokevirtual idx) nx) (hs : VC Γ.1.cls idx Γ') (hk : MK Γ') (hob : OBJ κ ad0 c P) (hc : classes[c]? = some q) (hcn : q.1 = Γ'.1.cls) (hL : ls.length = Γ.2.2.1) (hdd : d' + 1 ≤ d) (hm : kc ≤ mc ∧ ks ≤ ms) (hn : 4 = Γ'.2.2.2.2) (hst : (st.map fun v => v.category).sum ≤ 8) (h : GG κ Γ' d' 0 0 [.ref ad0, a1, a2, a3, a4] P (GCr κ μ Z kc ks nx ls st)) : GC κ μ Z kc ks pc ls (a4 :: a3 :: a2 :: a1 :: .ref ad0 :: st) P := g_callV (As := [a1, a2, a3, a4]) F hd hs hk hob hc hcn hL hdd hm hn hst h
theorem g_s4 (F : Fx κ Γ d mc ms μ) (hd : AT 3 Γ.2.1 pc (.invokestatic idx) nx) (hs : SC Γ.1.cls idx Γ') (hk : MK Γ') (hL : ls.length = Γ.2.2.1) (hdd : d' + 1 ≤ d) (hm : kc ≤ mc ∧ ks ≤ ms) (hn : 4 = Γ'.2.2.2.2) (hst : (st.map fun v => v.category).sum ≤ 8) (h : GG κ Γ' d' 0 0 [a1, a2, a3, a4] P (GCr κ μ Z kc ks nx ls st)) : GC κ μ Z kc ks pc ls (a4 :: a3 :: a2 :: a1 :: st) P := g_callS (As := [a1, a2, a3, a4]) F hd hs hk hL hdd hm hn hst h
theorem g_v5 (F : Fx κ Γ d mc ms μ) (hd : AT 3 Γ.2.1 pc (.invokevirtual idx) nx) (hs : VC Γ.1.cls idx Γ') (hk : MK Γ') (hob : OBJ κ ad0 c P) (hc : classes[c]? = some q) (hcn : q.1 = Γ'.1.cls) (hL : ls.length = Γ.2.2.1) (hdd : d' + 1 ≤ d) (hm : kc ≤ mc ∧ ks ≤ ms) (hn : 5 = Γ'.2.2.2.2) (hst : (st.map fun v => v.category).sum ≤ 8) (h : GG κ Γ' d' 0 0 [.ref ad0, a1, a2, a3, a4, a5] P (GCr κ μ Z kc ks nx ls st)) : GC κ μ Z kc ks pc ls (a5 :: a4 :: a3 :: a2 :: a1 :: .ref ad0 :: st) P := g_callV (As := [a1, a2, a3, a4, a5]) F hd hs hk hob hc hcn hL hdd hm hn hst h
theorem g_s5 (F : Fx κ Γ d mc ms μ) (hd : AT 3 Γ.2.1 pc (.invokestatic idx) nx) (hs : SC Γ.1.cls idx Γ') (hk : MK Γ') (hL : ls.length = Γ.2.2.1) (hdd : d' + 1 ≤ d) (hm : kc ≤ mc ∧ ks ≤ ms) (hn : 5 = Γ'.2.2.2.2) (hst : (st.map fun v => v.category).sum ≤ 8) (h : GG κ Γ' d' 0 0 [a1, a2, a3, a4, a5] P (GCr κ μ Z kc ks nx ls st)) : GC κ μ Z kc ks pc ls (a5 :: a4 :: a3 :: a2 :: a1 :: st) P := g_callS (As := [a1, a2, a3, a4, a5]) F hd hs hk hL hdd hm hn hst h
end CA
theorem ob_0 {κ : Kx} {m : Mem} : OBJ κ (ad κ 0 0) 0 (World κ m) := World.OBJ (by decide)
theorem ob_1 {κ : Kx} {m : Mem} {i : Nat} (h : i < 3) : OBJ κ (ad κ 1 i) 1 (World κ m) := World.OBJ h
theorem ob_2 {κ : Kx} {m : Mem} {i : Nat} (h : i < 9) : OBJ κ (ad κ 2 i) 2 (World κ m) := World.OBJ h
theorem ob_3 {κ : Kx} {m : Mem} {i : Nat} (h : i < 9) : OBJ κ (ad κ 3 i) 3 (World κ m) := World.OBJ h
theorem ob_4 {κ : Kx} {m : Mem} {i : Nat} (h : i < 3) : OBJ κ (ad κ 4 i) 4 (World κ m) := World.OBJ h
theorem ob_5 {κ : Kx} {m : Mem} : OBJ κ (ad κ 5 0) 5 (World κ m) := World.OBJ (by decide)
theorem ob_6 {κ : Kx} {m : Mem} : OBJ κ (ad κ 6 0) 6 (World κ m) := World.OBJ (by decide)
theorem ob_7 {κ : Kx} {m : Mem} : OBJ κ (ad κ 7 0) 7 (World κ m) := World.OBJ (by decide)
theorem ob_8 {κ : Kx} {m : Mem} : OBJ κ (ad κ 8 0) 8 (World κ m) := World.OBJ (by decide)
theorem ob_9 {κ : Kx} {m : Mem} : OBJ κ (ad κ 9 0) 9 (World κ m) := World.OBJ (by decide)
theorem ob_10 {κ : Kx} {m : Mem} : OBJ κ (ad κ 10 0) 10 (World κ m) := World.OBJ (by decide)
theorem mset_app (m : Mem) (c i c' i' : Nat) (R : Rc) : mset m c i R c' i' = if c' = c ∧ i' = i then R else m c' i' := rfl
theorem fup_app (f : Nat → Int) (k j : Nat) (v : Int) : fup f k v j = if j = k then v else f j := rfl
theorem aup_app (f : Nat → Int → Int) (k j : Nat) (g : Int → Int) : aup f k g j = if j = k then g else f j := rfl
theorem gup_app (f : Int → Int) (x y v : Int) : gup f x v y = if y = x then v else f y := rfl
theorem fup_fup (f : Nat → Int) (k : Nat) (v w : Int) : fup (fup f k v) k w = fup f k w := by
  funext j
  by_cases h : j = k <;> simp [fup, h]
theorem aup_aup (f : Nat → Int → Int) (k : Nat) (g h : Int → Int) : aup (aup f k g) k h = aup f k h := by
  funext j
  by_cases e : j = k <;> simp [aup, e]
/-! bits of small numbers, by looking at all of them -/
theorem bit_dec : ∀ s : Nat, s < 64 → ∀ i : Nat, i < 6 → bAnd (bShr (s : Int) (i : Int)) 1 = (s : Int) / 2 ^ i % 2 := by decide +kernel
theorem or_dec : ∀ s : Nat, s < 64 → ∀ t : Nat, t < 64 → (bOr (s : Int) (t : Int)) = ((s ||| t : Nat) : Int) := by decide +kernel
theorem and_dec : ∀ s : Nat, s < 64 → ∀ t : Nat, t < 64 → (bAnd (s : Int) (t : Int)) = ((s &&& t : Nat) : Int) := by decide +kernel
theorem shl_dec : ∀ i : Nat, i < 7 → (bShl 1 (i : Int)) = ((2 ^ i : Nat) : Int) := by decide +kernel
theorem xor_dec : ∀ s : Nat, s < 64 → (bXor (s : Int) (-1)) = -1 - (s : Int) := by decide +kernel
/-- bit i of s -/
def tb (s : Int) (i : Int) : Prop := s / 2 ^ i.toNat % 2 = 1
theorem bit_eq {s i : Int} (hs : 0 ≤ s ∧ s < 64) (hi : 0 ≤ i ∧ i < 6) : bAnd (bShr s i) 1 = s / 2 ^ i.toNat % 2 := by
  have h := bit_dec s.toNat (by omega) i.toNat (by omega)
  rw [Int.toNat_of_nonneg hs.1, Int.toNat_of_nonneg hi.1] at h
  exact h
theorem bit_01 (s i : Int) : 0 ≤ s / 2 ^ i.toNat % 2 ∧ s / 2 ^ i.toNat % 2 ≤ 1 := by omega
theorem shl_eq {i : Int} (hi : 0 ≤ i ∧ i < 7) : bShl 1 i = 2 ^ i.toNat := by
  have h := shl_dec i.toNat (by omega)
  rw [Int.toNat_of_nonneg hi.1] at h
  rw [h]
  simp
theorem pow_le {i : Int} (hi : 0 ≤ i ∧ i < 7) : (1 : Int) ≤ 2 ^ i.toNat ∧ (2 : Int) ^ i.toNat ≤ 64 := by
  have h : ∀ n : Nat, n < 7 → (1 : Int) ≤ 2 ^ n ∧ (2 : Int) ^ n ≤ 64 := by decide +kernel
  exact h _ (by omega)
