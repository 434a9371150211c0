/-- all that an image keeps is the same -/
def KP (M M' : Rc) : Prop := (M'.1 1 = M.1 1 ∧ M'.1 2 = M.1 2 ∧ M'.1 3 = M.1 3 ∧ M'.1 4 = M.1 4 ∧ M'.1 5 = M.1 5 ∧ M'.1 6 = M.1 6 ∧ M'.1 7 = M.1 7 ∧ M'.1 8 = M.1 8 ∧ M'.1 9 = M.1 9 ∧ M'.1 23 = M.1 23) ∧ (∀ x : Int, 0 ≤ x ∧ x < 6 → M'.2 2 x = M.2 2 x) ∧ (∀ x : Int, 0 ≤ x ∧ x < 6 → M'.2 1 x = M.2 1 x) ∧ (∀ x : Int, 0 ≤ x ∧ x < 6 → M'.2 4 x = M.2 4 x) ∧ (∀ x : Int, 0 ≤ x ∧ x < 3 → M'.2 3 x = M.2 3 x) ∧ (∀ x : Int, 0 ≤ x ∧ x < 18 → M'.2 5 x = M.2 5 x) ∧ (∀ x : Int, 0 ≤ x ∧ x < 24 → M'.2 6 x = M.2 6 x) ∧ (∀ x : Int, 0 ≤ x ∧ x < 24 → M'.2 7 x = M.2 7 x) ∧ (∀ x : Int, 0 ≤ x ∧ x < 72 → M'.2 10 x = M.2 10 x)
/-- the row g holds it from a on -/
def HR (g : Int → Int) (a : Int) (M : Rc) : Prop := (g (a) = M.1 4 ∧ g (a + 1) = M.1 5 ∧ g (a + 2) = M.1 6 ∧ g (a + 9) = M.1 1 ∧ g (a + 10) = M.1 2 ∧ g (a + 11) = M.1 3 ∧ g (a + 12) = M.1 7 ∧ g (a + 13) = M.1 8 ∧ g (a + 14) = M.1 9 ∧ g (a + 15) = M.1 23) ∧ (∀ x : Int, 0 ≤ x ∧ x < 6 → g (a + 3 + x) = M.2 2 x) ∧ (∀ x : Int, 0 ≤ x ∧ x < 6 → g (a + 16 + x) = M.2 1 x) ∧ (∀ x : Int, 0 ≤ x ∧ x < 6 → g (a + 22 + x) = M.2 4 x) ∧ (∀ x : Int, 0 ≤ x ∧ x < 3 → g (a + 28 + x) = M.2 3 x) ∧ (∀ x : Int, 0 ≤ x ∧ x < 18 → g (a + 31 + x) = M.2 5 x) ∧ (∀ x : Int, 0 ≤ x ∧ x < 24 → g (a + 49 + x) = M.2 6 x) ∧ (∀ x : Int, 0 ≤ x ∧ x < 24 → g (a + 73 + x) = M.2 7 x) ∧ (∀ x : Int, 0 ≤ x ∧ x < 72 → g (a + 97 + x) = M.2 10 x)
theorem HR_ly {M : Rc} {f : Int → Int} {a : Int} : HR (lyA M f a) a M := ⟨⟨la_0, la_1, la_2, la_9, la_10, la_11, la_12, la_13, la_14, la_15⟩, fun x hx => la_3 hx, fun x hx => la_16 hx, fun x hx => la_22 hx, fun x hx => la_28 hx, fun x hx => la_31 hx, fun x hx => la_49 hx, fun x hx => la_73 hx, fun x hx => la_97 hx⟩
theorem HR.same {g g' : Int → Int} {a : Int} {M : Rc} (h : HR g a M) (e : ∀ x : Int, a ≤ x ∧ x < a + 169 → g' x = g x) : HR g' a M := ⟨⟨(e _ (by omega)).trans (h.1.1), (e _ (by omega)).trans (h.1.2.1), (e _ (by omega)).trans (h.1.2.2.1), (e _ (by omega)).trans (h.1.2.2.2.1), (e _ (by omega)).trans (h.1.2.2.2.2.1), (e _ (by omega)).trans (h.1.2.2.2.2.2.1), (e _ (by omega)).trans (h.1.2.2.2.2.2.2.1), (e _ (by omega)).trans (h.1.2.2.2.2.2.2.2.1), (e _ (by omega)).trans (h.1.2.2.2.2.2.2.2.2.1), (e _ (by omega)).trans (h.1.2.2.2.2.2.2.2.2.2)⟩, fun x hx => (e _ (by omega)).trans (h.2.1 x hx), fun x hx => (e _ (by omega)).trans (h.2.2.1 x hx), fun x hx => (e _ (by omega)).trans (h.2.2.2.1 x hx), fun x hx => (e _ (by omega)).trans (h.2.2.2.2.1 x hx), fun x hx => (e _ (by omega)).trans (h.2.2.2.2.2.1 x hx), fun x hx => (e _ (by omega)).trans (h.2.2.2.2.2.2.1 x hx), fun x hx => (e _ (by omega)).trans (h.2.2.2.2.2.2.2.1 x hx), fun x hx => (e _ (by omega)).trans (h.2.2.2.2.2.2.2.2 x hx)⟩
theorem cp_v {f g : Int → Int} {sp n x : Int} (h : 0 ≤ x ∧ x < n) : cpyI f g sp 0 n x = f (sp + x) := by
  unfold cpyI
  rw [if_pos (by omega)]
  exact congrArg f (by omega)
theorem KP_tk {M M3 : Rc} {g : Int → Int} {a : Int} (h : HR g a M) : KP M (tkA M3 g a) := ⟨⟨h.1.2.2.2.1, h.1.2.2.2.2.1, h.1.2.2.2.2.2.1, h.1.1, h.1.2.1, h.1.2.2.1, h.1.2.2.2.2.2.2.1, h.1.2.2.2.2.2.2.2.1, h.1.2.2.2.2.2.2.2.2.1, h.1.2.2.2.2.2.2.2.2.2⟩, fun x hx => h.2.1 x hx, fun x hx => (cp_v hx).trans (h.2.2.1 x hx), fun x hx => (cp_v hx).trans (h.2.2.2.1 x hx), fun x hx => (cp_v hx).trans (h.2.2.2.2.1 x hx), fun x hx => (cp_v hx).trans (h.2.2.2.2.2.1 x hx), fun x hx => (cp_v hx).trans (h.2.2.2.2.2.2.1 x hx), fun x hx => (cp_v hx).trans (h.2.2.2.2.2.2.2.1 x hx), fun x hx => (cp_v hx).trans (h.2.2.2.2.2.2.2.2 x hx)⟩
/-- a text that was no ship: all that shows stays -/
def FRx (M M' : Rc) : Prop := KP M M' ∧ (M'.1 18 = M.1 18 ∧ M'.1 25 = M.1 25 ∧ M'.1 26 = M.1 26) ∧ M'.2 0 = M.2 0 ∧ M'.2 8 = M.2 8 ∧ M'.2 12 = M.2 12 ∧ M'.2 13 = M.2 13
/-- a ship that is read -/
def FRd (M M' : Rc) : Prop := (M'.1 7 = 0 ∧ M'.1 8 = 0 ∧ M'.1 9 = 0 ∧ M'.1 23 = 0) ∧ (M'.1 18 = M.1 18 ∧ M'.1 25 = M.1 25 ∧ M'.1 26 = M.1 26) ∧ M'.2 0 = M.2 0 ∧ M'.2 8 = M.2 8 ∧ M'.2 12 = M.2 12 ∧ M'.2 13 = M.2 13 ∧ M'.2 5 = M.2 5 ∧ M'.2 6 = M.2 6 ∧ M'.2 7 = M.2 7 ∧ M'.2 10 = M.2 10
set_option maxHeartbeats 1000000 in
theorem sp_M_read {κ : Kx} {Q : Option Value → (Heap → Prop) → Prop} {m : Mem} {B : Int → Int} {z : Nat} {D : Int} {S0 : Rc} (hB0 : okB B z) (hb : (m 10 0).2 8 = B) (h18 : (m 10 0).1 18 = (z : Int)) (hS : okM D (m 10 0)) (hD : D + 150 ≤ 100000) (k1 : ∀ (M' : Rc) (n : Nat) (S' : Rc), tellL B z 150 0 0 S0 = .inr (n, S') → lv S' (shM M') → okM (D + 150) M' → FRd (m 10 0) M' → Q (some (vi n)) (World κ (mset m 10 0 M'))) (k0 : ∀ (M' : Rc) (e : Nat), tellL B z 150 0 0 S0 = .inl e → FRx (m 10 0) M' → Q (some (vi (-10 - (e : Int)))) (World κ (mset m 10 0 M'))) : GG κ G_M_read 9 0 0 [.ref (ad κ 10 0)] (World κ m) Q := by
  refine GG.intro (ls := [some _, none]) (Nat.le_of_ble_eq_true rfl) rfl (fun μ F => ?_)
  refine g_aload_n F a_M_read_0 rfl ?_
  refine g_aload_n F a_M_read_1 rfl ?_
  refine g_get_10_21 F a_M_read_2 fl_M_37 ?_
  refine g_iconst F a_M_read_5 ?_
  refine g_v2 F a_M_read_6 vc_M_183 mk_M_layAll ob_10 ck_10.1 rfl rfl (by decide) ⟨Nat.le_refl _, Nat.le_refl _⟩ rfl (Nat.le_of_ble_eq_true rfl) (sp_M_layAll (j := 9) (by decide) (by decide) (by decide) (by decide) (GCr.n ?_))
  (try simp only [mset_same, mset_mset, fup_app, aup_app, fup_fup, aup_aup, false_and, and_false, true_and, and_true, and_self, reduceIte, Nat.reduceEqDiff, reduceCtorEq, fup_10, fs_4_5, fs_4_6, fs_5_6, fs_19_20])
  refine g_aload_n F a_M_read_9 rfl ?_
  refine g_v0 F a_M_read_10 vc_M_187 mk_M_readsShip ob_10 ck_10.1 rfl rfl (by decide) ⟨Nat.le_refl _, Nat.le_refl _⟩ rfl (Nat.le_of_ble_eq_true rfl) (sp_M_readsShip (z := z) (D := D) (S0 := S0) hB0 (by exact hb) (by exact h18) (by exact hS) hD rfl (fun M9 n9 S9 e1 e2 eo e3 e4 => GCr.v ?_) (fun M9 q9 e1 e2 e4 => GCr.v ?_))
  · rw [mset_same] at e4
    rw [mset_mset]
    refine g_istore_n (ls' := [_, _]) F a_M_read_13 rfl rfl rfl ?_
    refine g_iload_n F a_M_read_14 rfl ?_
    refine g_if_ge F (by have h9 := tellN_r 150 0 0 _ e1; omega) a_M_read_15 (fun h15 => ?_) (fun h15 => ?_)
    · refine g_aload_n F a_M_read_35 rfl ?_
      refine g_iconst F a_M_read_36 ?_
      refine g_put_10_23 F a_M_read_37 fl_M_88 ?_
      (try simp only [mset_same, mset_mset, fup_app, aup_app, fup_fup, aup_aup, false_and, and_false, true_and, and_true, and_self, reduceIte, Nat.reduceEqDiff, reduceCtorEq, fup_10, fs_4_5, fs_4_6, fs_5_6, fs_19_20])
      refine g_iload_n F a_M_read_40 rfl ?_
      refine g_iret F a_M_read_41 rfl ⟨Nat.le_refl _, Nat.le_refl _⟩ ?_
      refine k1 _ n9 S9 e1 ?_ (by exact eo) ⟨⟨e3.1, e3.2.1, e3.2.2, rfl⟩, ⟨e4.1, e4.2.1, e4.2.2.1⟩, e4.2.2.2.1, e4.2.2.2.2.2.2.2.1, e4.2.2.2.2.2.2.2.2.2.2.2.1, e4.2.2.2.2.2.2.2.2.2.2.2.2, e4.2.2.2.2.1, e4.2.2.2.2.2.1, e4.2.2.2.2.2.2.1, e4.2.2.2.2.2.2.2.2.2.1⟩
      rw [sh_fup (by decide)]
      exact e2
    · refine g_aload_n F a_M_read_18 rfl ?_
      refine g_aload_n F a_M_read_19 rfl ?_
      refine g_get_10_21 F a_M_read_20 fl_M_37 ?_
      refine g_iconst F a_M_read_23 ?_
      refine g_v2 F a_M_read_24 vc_M_190 mk_M_takeAll ob_10 ck_10.1 rfl rfl (by decide) ⟨Nat.le_refl _, Nat.le_refl _⟩ rfl (Nat.le_of_ble_eq_true rfl) (sp_M_takeAll (by decide) (by decide) ⟨by omega, by show _ ≤ _; omega⟩ (by decide) (GCr.n ?_))
      (try simp only [mset_same, mset_mset, fup_app, aup_app, fup_fup, aup_aup, false_and, and_false, true_and, and_true, and_self, reduceIte, Nat.reduceEqDiff, reduceCtorEq, fup_10, fs_4_5, fs_4_6, fs_5_6, fs_19_20])
      refine g_bipush F a_M_read_27 (by decide) ?_
      refine g_aload_n F a_M_read_29 rfl ?_
      refine g_get_10_19 F a_M_read_30 fl_M_113 ?_
      (try simp only [mset_same, mset_mset, fup_app, aup_app, fup_fup, aup_aup, false_and, and_false, true_and, and_true, and_self, reduceIte, Nat.reduceEqDiff, reduceCtorEq, fup_10, fs_4_5, fs_4_6, fs_5_6, fs_19_20])
      refine g_isub F a_M_read_33 ?_
      refine g_iret F a_M_read_34 rfl ⟨Nat.le_refl _, Nat.le_refl _⟩ ?_
      exfalso; omega
  · rw [mset_same] at e4
    rw [mset_mset]
    refine g_istore_n (ls' := [_, _]) F a_M_read_13 rfl rfl rfl ?_
    refine g_iload_n F a_M_read_14 rfl ?_
    refine g_if_ge F (by decide) a_M_read_15 (fun h15 => ?_) (fun h15 => ?_)
    · refine g_aload_n F a_M_read_35 rfl ?_
      refine g_iconst F a_M_read_36 ?_
      refine g_put_10_23 F a_M_read_37 fl_M_88 ?_
      (try simp only [mset_same, mset_mset, fup_app, aup_app, fup_fup, aup_aup, false_and, and_false, true_and, and_true, and_self, reduceIte, Nat.reduceEqDiff, reduceCtorEq, fup_10, fs_4_5, fs_4_6, fs_5_6, fs_19_20])
      refine g_iload_n F a_M_read_40 rfl ?_
      refine g_iret F a_M_read_41 rfl ⟨Nat.le_refl _, Nat.le_refl _⟩ ?_
      exfalso; omega
    · refine g_aload_n F a_M_read_18 rfl ?_
      refine g_aload_n F a_M_read_19 rfl ?_
      refine g_get_10_21 F a_M_read_20 fl_M_37 ?_
      refine g_iconst F a_M_read_23 ?_
      refine g_v2 F a_M_read_24 vc_M_190 mk_M_takeAll ob_10 ck_10.1 rfl rfl (by decide) ⟨Nat.le_refl _, Nat.le_refl _⟩ rfl (Nat.le_of_ble_eq_true rfl) (sp_M_takeAll (j := 9) (by decide) (by decide) (by decide) (by decide) (GCr.n ?_))
      (try simp only [mset_same, mset_mset, fup_app, aup_app, fup_fup, aup_aup, false_and, and_false, true_and, and_true, and_self, reduceIte, Nat.reduceEqDiff, reduceCtorEq, fup_10, fs_4_5, fs_4_6, fs_5_6, fs_19_20])
      refine g_bipush F a_M_read_27 (by decide) ?_
      refine g_aload_n F a_M_read_29 rfl ?_
      refine g_get_10_19 F a_M_read_30 fl_M_113 ?_
      (try simp only [mset_same, mset_mset, fup_app, aup_app, fup_fup, aup_aup, false_and, and_false, true_and, and_true, and_self, reduceIte, Nat.reduceEqDiff, reduceCtorEq, fup_10, fs_4_5, fs_4_6, fs_5_6, fs_19_20])
      refine g_isub F a_M_read_33 ?_
      refine g_iret F a_M_read_34 rfl ⟨Nat.le_refl _, Nat.le_refl _⟩ ?_
      have e9 : M9.2 9 = lyA (m 10 0) ((m 10 0).2 9) 0 := e4.2.2.2.2.2.2.2.2.1
      refine qw (qv (k0 (tkA M9 (M9.2 9) 0) q9 e1 ?_) (by show -10 - M9.1 19 = _; rw [e2])) rfl
      rw [e9]
      exact ⟨KP_tk HR_ly, ⟨e4.1, e4.2.1, e4.2.2.1⟩, e4.2.2.2.1, e4.2.2.2.2.2.2.2.1, e4.2.2.2.2.2.2.2.2.2.2.2.1, e4.2.2.2.2.2.2.2.2.2.2.2.2⟩
