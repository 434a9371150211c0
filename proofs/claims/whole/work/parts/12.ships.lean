/-! a world told otherwise: what no cell holds is free -/
def fN (c : Nat) : Nat := [12, 0, 6, 2, 1, 6, 0, 4, 0, 2, 30].getD c 0
def Ag (c : Nat) (R R' : Rc) : Prop := (∀ k : Nat, k < fN c → R.1 k = R'.1 k) ∧ ∀ j : Nat, j < acnt c → ∀ k : Int, 0 ≤ k → k < alen c j → R.2 j k = R'.2 j k
theorem objF_ag {κ : Kx} {c i : Nat} {S S' : Nat → Int} (h : ∀ k : Nat, k < fN c → S k = S' k) : objF κ c i S = objF κ c i S' := by
  match c with
  | 0 => simp only [objF]; rw [h 9 (by decide), h 10 (by decide), h 11 (by decide)]
  | 1 => rfl
  | 2 => simp only [objF]; rw [h 0 (by decide), h 1 (by decide), h 2 (by decide), h 3 (by decide), h 4 (by decide), h 5 (by decide)]
  | 3 => simp only [objF]; rw [h 0 (by decide), h 1 (by decide)]
  | 4 => simp only [objF]; rw [h 0 (by decide)]
  | 5 => simp only [objF]; rw [h 0 (by decide), h 2 (by decide), h 3 (by decide), h 4 (by decide), h 5 (by decide)]
  | 6 => rfl
  | 7 => simp only [objF]; rw [h 3 (by decide)]
  | 8 => rfl
  | 9 => simp only [objF]; rw [h 0 (by decide), h 1 (by decide)]
  | 10 =>
    simp only [objF]
    rw [h 1 (by decide), h 2 (by decide), h 3 (by decide), h 4 (by decide), h 5 (by decide), h 6 (by decide), h 7 (by decide), h 8 (by decide), h 9 (by decide), h 18 (by decide), h 19 (by decide), h 20 (by decide), h 23 (by decide), h 25 (by decide), h 26 (by decide), h 29 (by decide)]
  | n + 11 => rfl
theorem ofFn_ag {cA : ClassId} {n : Nat} {f g : Nat → Int32} (h : ∀ k : Nat, k < n → f k = g k) : vp_cell cA (n, .inl f) = vp_cell cA (n, .inl g) := by
  rw [vp_cell_i, vp_cell_i]
  unfold arrV
  congr 2
  funext k
  show Value.int (f k.1) = Value.int (g k.1)
  rw [h k.1 k.2]
theorem arrE_ag {κ : Kx} {c j a : Nat} {f g : Int → Int} {H : Heap} (h : ∀ k : Int, 0 ≤ k → k < alen c j → f k = g k) (hja : j < acnt c) : va_at (kD κ) classes (a, .inl (arrE κ c j f)) H → va_at (kD κ) classes (a, .inl (arrE κ c j g)) H := by
  intro hv
  unfold arrE at hv ⊢
  split
  · rw [if_pos (by assumption)] at hv; exact hv
  · rw [if_neg (by assumption)] at hv
    split
    · rw [if_pos (by assumption)] at hv; exact hv
    · rw [if_neg (by assumption)] at hv
      split
      · rw [if_pos (by assumption)] at hv
        rename_i h1 h2 h3
        subst h3
        have hj : j = 1 := by
          have hj2 : j < 2 := hja
          have : ¬ j = 0 := fun e => h1 ⟨rfl, e⟩
          omega
        subst hj
        unfold va_at at hv ⊢
        dsimp only at hv ⊢
        rw [hv]
        congr 1
        exact ofFn_ag (fun k hk => by rw [h k (by omega) (by show (k : Int) < ((2 : Nat) : Int); omega)])
      · rw [if_neg (by assumption)] at hv
        unfold va_at at hv ⊢
        dsimp only at hv ⊢
        rw [hv]
        congr 1
        exact ofFn_ag (fun k hk => by rw [h k (by omega) (by omega)])
theorem inv_ok : ∀ n : Nat, n < 102 → (inv n).2.1 < cnt (inv n).1 ∧ ((inv n).2.2 = 0 ∨ (inv n).2.2 - 1 < acnt (inv n).1) := by decide +kernel
theorem World_le {κ : Kx} {m m' : Mem} (h : ∀ c i : Nat, i < cnt c → Ag c (m c i) (m' c i)) {H : Heap} (hw : World κ m H) : World κ m' H := by
  intro k q hk
  by_cases hn : k < 102
  · rw [wl_at hn] at hk
    cases hk
    have h1 := hw k _ (wl_at hn)
    obtain ⟨g1, g2⟩ := inv_ok k hn
    unfold cellAt at h1 ⊢
    generalize inv k = z at h1 g1 g2 ⊢
    obtain ⟨c, i, j⟩ := z
    have ha := h c i g1
    cases j with
    | zero =>
      dsimp only at h1 ⊢
      rw [← objF_ag (S := (m c i).1) ha.1]
      exact h1
    | succ j =>
      dsimp only at h1 g2 ⊢
      have hj : j < acnt c := by
        rcases g2 with e | e
        · exact absurd e (by omega)
        · exact e
      exact arrE_ag (ha.2 j hj) hj h1
  · rw [List.getElem?_eq_none (by simpa [wl] using hn)] at hk
    cases hk
theorem Ag.symm {c : Nat} {R R' : Rc} (h : Ag c R R') : Ag c R' R := ⟨fun k hk => (h.1 k hk).symm, fun j hj k h0 h1 => (h.2 j hj k h0 h1).symm⟩
theorem Ag.rfl {c : Nat} {R : Rc} : Ag c R R := ⟨fun _ _ => Eq.refl _, fun _ _ _ _ _ => Eq.refl _⟩
theorem World_eq {κ : Kx} {m m' : Mem} (h : ∀ c i : Nat, i < cnt c → Ag c (m c i) (m' c i)) : World κ m = World κ m' := by
  funext H
  exact propext ⟨World_le h, World_le (fun c i hi => (h c i hi).symm)⟩
theorem World_set {κ : Kx} {m : Mem} {c i : Nat} {R R' : Rc} (h : Ag c R R') : World κ (mset m c i R) = World κ (mset m c i R') := by
  refine World_eq (fun c' i' _ => ?_)
  rw [mset_app, mset_app]
  split
  · rename_i e
    rw [e.1]
    exact h
  · exact Ag.rfl
theorem qw {Q : Option Value → (Heap → Prop) → Prop} {r : Option Value} {P P' : Heap → Prop} (k : Q r P) (h : P' = P) : Q r P' := h ▸ k
theorem qs {Q : Option Value → (Heap → Prop) → Prop} {r : Option Value} {κ : Kx} {m : Mem} {c i : Nat} {R R' : Rc} (k : Q r (World κ (mset m c i R))) (h : Ag c R' R) : Q r (World κ (mset m c i R')) := qw k (World_set h)
/-- numbers copied from one row into another -/
def cpyI (f g : Int → Int) (sp dp n : Int) : Int → Int := fun k => if dp ≤ k ∧ k < dp + n then f (sp + (k - dp)) else g k
theorem cpyI_0 (f g : Int → Int) {n x : Int} (h : 0 ≤ x ∧ x < n) : cpyI f g 0 0 n x = f x := by
  unfold cpyI
  rw [if_pos (by omega), show (0 : Int) + (x - 0) = x by omega]
theorem clampI {x : Int} (h0 : 0 ≤ x) (h1 : x ≤ 1000) : ¬ (Int32.ofInt x) < 0 ∧ (((Int32.ofInt x).toNatClampNeg : Nat) : Int) = x := by
  have e : (Int32.ofInt x).toInt = x := i2r (by omega)
  have e2 : (Int32.ofInt x).toNatClampNeg = x.toNat := by
    show (Int32.ofInt x).toInt.toNat = x.toNat
    rw [e]
  refine ⟨fun h => ?_, by rw [e2]; omega⟩
  have := Int32.lt_iff_toInt_lt.mp h
  rw [e] at this
  have z : (0 : Int32).toInt = 0 := Eq.refl _
  omega
theorem g_copy {κ : Kx} {Γ : Gm} {d mc ms : Nat} {μ : MX} {Z : State → Prop} {kc ks pc nx idx c1 i1 j1 c2 i2 j2 : Nat} {ls : List (Option Value)} {st : List Value} {m : Mem} {sp dp n : Int} (F : Fx κ Γ d mc ms μ) (hd : AT 3 Γ.2.1 pc (.invokestatic idx) nx) (hs : Cond.methodLink Γ.1.cls idx arraycopyName ∈ bg)
    (h1 : i1 < cnt c1) (hj1 : j1 < acnt c1) (hI1 : ∀ f : Int → Int, arrE κ c1 j1 f = (kI κ, alen c1 j1, .inl (fun k => Int32.ofInt (f k)))) (h2 : i2 < cnt c2) (hj2 : j2 < acnt c2) (hI2 : ∀ f : Int → Int, arrE κ c2 j2 f = (kI κ, alen c2 j2, .inl (fun k => Int32.ofInt (f k)))) (hL : ls.length = Γ.2.2.1) (hdd : 1 ≤ d) (hst : (st.map fun v => v.category).sum ≤ 8)
    (hr : 0 ≤ sp ∧ 0 ≤ dp ∧ 0 ≤ n ∧ n ≤ 500 ∧ sp + n ≤ alen c1 j1 ∧ dp + n ≤ alen c2 j2) (hn : alen c1 j1 ≤ 500 ∧ alen c2 j2 ≤ 500)
    (k : GC κ μ Z kc ks nx ls st (World κ (mset m c2 i2 ((m c2 i2).1, aup (m c2 i2).2 j2 (cpyI ((m c1 i1).2 j1) ((m c2 i2).2 j2) sp dp n))))) : GC κ μ Z kc ks pc ls (vi n :: vi dp :: .ref (aa κ c2 i2 j2) :: vi sp :: .ref (aa κ c1 i1 j1) :: st) (World κ m) := by
  obtain ⟨hd, rfl⟩ := hd
  intro H locs la hS hP hl
  obtain ⟨hx, hb, hml, hret, hlk, hown, hnm, hts, hK, r1, r2, r3, r4⟩ := F
  have ha1 := wl_arr (κ := κ) (m := m) h1 hj1
  have ha2 := wl_arr (κ := κ) (m := m) h2 hj2
  rw [hI1] at ha1
  rw [hI2] at ha2
  obtain ⟨g1, e1⟩ := clampI (x := sp) (by omega) (by omega)
  obtain ⟨g2, e2⟩ := clampI (x := dp) (by omega) (by omega)
  obtain ⟨g3, e3⟩ := clampI (x := n) (by omega) (by omega)
  have hnw : nativeFrameWords "java/lang/System" "arraycopy" 5 ≤ 20 := by decide
  refine va_copyi (D := kD κ) (cl := classes) hx hb (by rw [hml, ← hL]; exact hl.1.symm) hown (hts _ hs) (hts _ sy_nat) (hts _ sy_stat) (hts _ sy_init) hK.1 hP wl_D hS (ao c1 i1 j1) (ao c2 i2 j2) 0 0 ha1 ha2 (Eq.refl _) (Eq.refl _) (Eq.refl _) g1 g2 g3 (by omega) (by omega) (fun _ _ => Eq.refl _) (by omega) (by omega) hd (fun H1 locs1 hP1 _ hS1 => k H1 locs1 la hS1 ?_ hl)
  rw [wl_setA (g := cpyI ((m c1 i1).2 j1) ((m c2 i2).2 j2) sp dp n) h2 hj2] at hP1
  · exact hP1
  · rw [hI2]
    congr 3
    funext q
    unfold va_cpy cpyI
    by_cases hq : dp ≤ (q : Int) ∧ (q : Int) < dp + n
    · rw [if_pos hq, if_pos (by omega)]
      exact congrArg (fun z : Int => Int32.ofInt ((m c1 i1).2 j1 z)) (by omega)
    · rw [if_neg hq, if_neg (by omega)]
/-! ===== ships ===== -/
def okS (D : Int) (S : Rc) : Prop := (0 ≤ S.1 0 ∧ S.1 0 < 100) ∧ (0 ≤ S.1 1 ∧ S.1 1 < 100) ∧ (0 ≤ S.1 2 ∧ S.1 2 ≤ 9) ∧ (0 ≤ S.1 3 ∧ S.1 3 ≤ D) ∧ (0 ≤ S.1 4 ∧ S.1 4 ≤ 6) ∧ (0 ≤ S.1 5 ∧ S.1 5 ≤ 3) ∧ (∀ k : Int, 0 ≤ k ∧ k < 6 → 0 ≤ S.2 0 k ∧ S.2 0 k ≤ 1) ∧ (∀ k : Int, 0 ≤ k ∧ k < 6 → 0 ≤ S.2 1 k ∧ S.2 1 k ≤ 5) ∧ (∀ k : Int, 0 ≤ k ∧ k < 6 → 0 ≤ S.2 2 k ∧ S.2 2 k ≤ 90) ∧ (∀ k : Int, 0 ≤ k ∧ k < 3 → 0 ≤ S.2 3 k ∧ S.2 3 k ≤ 5)
theorem okS.day {D D' : Int} {S : Rc} (h : okS D S) (hD : S.1 3 ≤ D') : okS D' S := ⟨h.1, h.2.1, h.2.2.1, ⟨h.2.2.2.1.1, hD⟩, h.2.2.2.2⟩
def ang (S : Rc) (x : Int) : Int := stn (S.2 1 x) (S.2 2 x) (S.1 3)
def sgt (S : Rc) (x r : Int) : Int := see (S.2 3 r) (ang S x) (S.1 3)
abbrev fogB (S : Rc) : Prop := S.2 0 (S.1 3 % 6) ≠ 0
def errN (S : Rc) (set r : Int) : Nat → Int
  | 0 => 0
  | n + 1 => errN S set r n + if set / 2 ^ n % 2 = 1 then sgt S n r - ang S n else 0
def errS (S : Rc) (set r : Int) : Int := if (0 ≤ r ∧ r < S.1 5) ∧ ¬ fogB S then errN S set r (S.1 4).toNat else 0
/-- SHAMES behind a noon, of the first n MEN -/
def shN (S : Rc) (set : Int) (n : Nat) : Int → Int := fun k => if 0 ≤ k ∧ k < n then (if set / 2 ^ k.toNat % 2 = 1 then max (S.2 2 k - 1) 0 else min (S.2 2 k + 3) 90) else S.2 2 k
def sailS (S : Rc) (set r : Int) : Rc := (fup (fup (fup S.1 0 ((S.1 0 + S.1 2 + errS S set r) % 100)) 1 ((S.1 1 + S.1 2) % 100)) 3 (S.1 3 + 1), aup S.2 2 (if fogB S then S.2 2 else shN S set (S.1 4).toNat))
def offS (S : Rc) : Int := (S.1 0 - S.1 1 + 50) % 100 - 50
def begS (c : Int) (S : Rc) : Rc := (fun k => if k = 2 then c else 0, aup S.2 0 (fun _ => 0))
theorem ang_r {D : Int} {S : Rc} (h : okS D S) {x : Int} (hx : 0 ≤ x ∧ x < 6) : 0 ≤ ang S x ∧ ang S x ≤ 90 := stn_r (h.2.2.2.2.2.2.2.2.1 x hx)
theorem sgt_r {D : Int} {S : Rc} (h : okS D S) {x r : Int} (hx : 0 ≤ x ∧ x < 6) : 0 ≤ sgt S x r ∧ sgt S x r ≤ 95 := see_r (ang_r h hx)
theorem errN_r {D : Int} {S : Rc} (h : okS D S) (set r : Int) : ∀ n : Nat, n ≤ 6 → -100 * (n : Int) ≤ errN S set r n ∧ errN S set r n ≤ 100 * (n : Int)
  | 0, _ => by simp [errN]
  | n + 1, hn => by
    have ih := errN_r h set r n (by omega)
    have h1 := ang_r h (x := n) (by omega)
    have h2 := sgt_r h (x := n) (r := r) (by omega)
    unfold errN
    split <;> omega
theorem errS_r {D : Int} {S : Rc} (h : okS D S) (set r : Int) : -600 ≤ errS S set r ∧ errS S set r ≤ 600 := by
  unfold errS
  have h4 := h.2.2.2.2.1
  have := errN_r h set r (S.1 4).toNat (by omega)
  split <;> omega
