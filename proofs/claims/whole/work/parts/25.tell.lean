theorem fin_S {B : Int → Int} {z a q : Nat} {S S' : Rc} (h : finB B z a S = .inr (q, S')) : S' = S := by
  unfold finB at h
  split at h
  · cases h; rfl
  · cases h
theorem gup_in {f : Int → Int} {x v lo hi n : Int} (h : ∀ k : Int, 0 ≤ k ∧ k < n → lo ≤ f k ∧ f k ≤ hi) (hv : lo ≤ v ∧ v ≤ hi) : ∀ k : Int, 0 ≤ k ∧ k < n → lo ≤ gup f x v k ∧ gup f x v k ≤ hi := by
  intro k hk
  unfold gup
  split
  · exact hv
  · exact h k hk
theorem ok_up {D : Int} {S : Rc} (h : okS D S) : okS (D + 1) S := h.day (by have := h.2.2.2.1; omega)
theorem ok_beg {D c : Int} {S : Rc} (h : okS D S) (hc : 0 ≤ c ∧ c ≤ 9) : okS D (begS c S) := by
  obtain ⟨h0, h1, h2, h3, h4, h5, hfg, hkd, hsh, hgl⟩ := h
  exact ⟨(by decide : (0 : Int) ≤ 0 ∧ (0 : Int) < 100), (by decide : (0 : Int) ≤ 0 ∧ (0 : Int) < 100), hc, ⟨Int.le_refl 0, by show (0 : Int) ≤ D; omega⟩, (by decide : (0 : Int) ≤ 0 ∧ (0 : Int) ≤ 6), (by decide : (0 : Int) ≤ 0 ∧ (0 : Int) ≤ 3), fun _ _ => by show (0 : Int) ≤ 0 ∧ (0 : Int) ≤ 1; decide, hkd, hsh, hgl⟩
theorem ok_M {D a b : Int} {S : Rc} (h : okS D S) (hm : S.1 4 < 6) (ha : 0 ≤ a ∧ a ≤ 5) (hb : 0 ≤ b ∧ b ≤ 90) : okS D (addM S a b) := by
  obtain ⟨h0, h1, h2, h3, h4, h5, hfg, hkd, hsh, hgl⟩ := h
  exact ⟨h0, h1, h2, h3, by show 0 ≤ S.1 4 + 1 ∧ S.1 4 + 1 ≤ 6; omega, h5, hfg, gup_in hkd ha, gup_in hsh hb, hgl⟩
theorem ok_G {D a : Int} {S : Rc} (h : okS D S) (hm : S.1 5 < 3) (ha : 0 ≤ a ∧ a ≤ 5) : okS D (addG S a) := by
  obtain ⟨h0, h1, h2, h3, h4, h5, hfg, hkd, hsh, hgl⟩ := h
  exact ⟨h0, h1, h2, h3, h4, by show 0 ≤ S.1 5 + 1 ∧ S.1 5 + 1 ≤ 3; omega, hfg, hkd, hsh, gup_in hgl ha⟩
theorem ok_H {D x n : Int} {S : Rc} (h : okS D S) (hx : 0 ≤ x ∧ x < S.1 4) (hn : 0 ≤ n) : okS D (addH S x n) := by
  obtain ⟨h0, h1, h2, h3, h4, h5, hfg, hkd, hsh, hgl⟩ := h
  have := hsh x (by omega)
  exact ⟨h0, h1, h2, h3, h4, h5, hfg, hkd, gup_in hsh (by omega), hgl⟩
theorem fgL_ok {B : Int → Int} {z : Nat} {D : Int} : ∀ (f a : Nat) (S : Rc) (q : Nat) (S' : Rc), okS D S → fgL B z f a S = .inr (q, S') → okS D S'
  | 0, a, S, q, S', h, e => by rw [fin_S e]; exact h
  | f + 1, a, S, q, S', h, e => by
    unfold fgL at e
    split at e
    · rw [fin_S e]; exact h
    · split at e
      · rename_i _ g
        obtain ⟨h0, h1, h2, h3, h4, h5, hfg, hkd, hsh, hgl⟩ := h
        refine fgL_ok f _ _ q S' ?_ e
        exact ⟨h0, h1, h2, h3, h4, h5, gup_in hfg g.2, hkd, hsh, hgl⟩
      · cases e
theorem nnL_ok {B : Int → Int} {z : Nat} {D r : Int} {S : Rc} (h : okS D S) : ∀ (f : Nat) (t : Int) (a q : Nat) (S' : Rc), nnL B z S r f t a = .inr (q, S') → okS (D + 1) S'
  | 0, t, a, q, S', e => by rw [fin_S e]; exact sail_ok h _ _
  | f + 1, t, a, q, S', e => by
    unfold nnL at e
    split at e
    · rw [fin_S e]; exact sail_ok h _ _
    · split at e
      · cases e
      · split at e
        · exact nnL_ok h f _ _ q S' e
        · cases e
theorem item_ok {B : Int → Int} {z p q : Nat} {D : Int} {b : Bool} {S S' : Rc} (h : okS D S) (e : item B z p b S = .inr (q, S')) : okS (D + 1) S' := by
  unfold item at e
  split at e
  · split at e
    · unfold iShip at e
      split at e
      · rename_i g
        rw [fin_S e]; exact ok_up (ok_beg h g.2)
      · cases e
    · cases e
  · split at e
    · cases e
    · split at e
      · exact ok_up (fgL_ok _ _ _ _ _ h e)
      · split at e
        · split at e
          · rename_i hm
            unfold iMan at e
            split at e
            · rename_i g
              split at e
              · rename_i g2
                rw [fin_S e]; exact ok_up (ok_M h hm g.2 g2.2)
              · cases e
            · cases e
          · cases e
        · split at e
          · split at e
            · rename_i hm
              unfold iRd at e
              split at e
              · rename_i g
                rw [fin_S e]; exact ok_up (ok_G h hm g.2)
              · cases e
            · cases e
          · split at e
            · unfold iDeed at e
              split at e
              · rename_i g
                split at e
                · rename_i g2
                  rw [fin_S e]; exact ok_up (ok_H h ⟨g.2.1, by omega⟩ (by omega))
                · cases e
              · cases e
            · split at e
              · unfold iNoon at e
                split at e
                · exact nnL_ok h _ _ _ _ _ e
                · cases e
              · cases e
/-- ITEM behind ITEM -/
def tellL (B : Int → Int) (z : Nat) : Nat → Nat → Nat → Rc → Rs
  | 0, _, p, _ => .inl (lS B z p)
  | f + 1, k, p, S => if lK B z p = 0 ∧ 0 < k then .inr (k, S) else match item B z p (decide (k = 0)) S with
    | .inl e => .inl e
    | .inr (q, S') => tellL B z f (k + 1) q S'
def tellI : Rs → Int
  | .inl e => -10 - (e : Int)
  | .inr q => q.1
set_option maxHeartbeats 2000000 in
theorem lp_T_tell {κ : Kx} {μ : MX} {Q : Option Value → (Heap → Prop) → Prop} {m : Mem} {B : Int → Int} {z : Nat} {D : Int} {res : Rs} (hB0 : okB B z) (hD : D + 150 ≤ 100000) (k1 : ∀ (m2 : Mem) (n : Nat) (S : Rc), res = .inr (n, S) → FT m m2 → m2 2 3 = S → okS (D + 150) S → (m2 5 0).1 0 = z → (m2 5 0).2 0 = B → Q (some (vi n)) (World κ m2)) (k0 : ∀ (m2 : Mem) (e : Nat), res = .inl e → FT m m2 → okS (D + 150) (m2 2 3) → (m2 5 0).1 0 = z → (m2 5 0).2 0 = B → Q (some (vi (-10 - (e : Int)))) (World κ m2))  (F : Fx κ G_T_tell 7 0 0 μ) :
    ∀ (n : Nat) (f k p : Nat) (x : Int) (m1 : Mem), f < n → f + k = 150 → x = (k : Int) → p ≤ z → TX B z p (m1 5 0) → okS (D + k) (m1 2 3) → FT m m1 → tellL B z f k p (m1 2 3) = res →  GC κ μ (ZZ κ μ 0 0 Q) 0 0 11 [some (.ref (ad κ 5 0)), some (.ref (ad κ 2 3)), some (vi x)] [] (World κ m1) := by
  intro n
  induction n with
  | zero =>
    intro f k p x m1 hn hf hx hp ht hS hF hres
    exact absurd hn (by omega)
  | succ n ih =>
    intro f k p x m1 hn hf hx hp ht hS hF hres
    obtain ⟨t0, tb0, t2, t3, t4, tval⟩ := id ht
    have hkr := lK_r B z p
    have hsr := lS_r (B := B) hp
    have hz150 := hB0.1
    refine g_iload_n F a_T_tell_11 rfl ?_
    refine g_sipush F a_T_tell_12 (by decide) ?_
    refine g_icmp_ge F (by omega) (by omega) a_T_tell_15 (fun h15 => ?_) (fun h15 => ?_)
    · refine g_bipush F a_T_tell_62 (by decide) ?_
      refine g_aload_n F a_T_tell_64 rfl ?_
      refine g_get_5_2 F a_T_tell_65 fl_T_32 ?_
      refine g_isub F a_T_tell_68 ?_
      refine g_iret F a_T_tell_69 rfl ⟨Nat.le_refl _, Nat.le_refl _⟩ ?_
      obtain rfl : f = 0 := by omega
      exact qv (k0 m1 (lS B z p) (hres.symm.trans rfl) hF (hS.day (by have := hS.2.2.2.1; omega)) t0 tb0) (by rw [t2])
    · obtain ⟨f, rfl⟩ : ∃ f0 : Nat, f = f0 + 1 := ⟨f - 1, by omega⟩
      refine g_aload_n F a_T_tell_18 rfl ?_
      refine g_get_5_4 F a_T_tell_19 fl_T_25 ?_
      refine g_if_ne F (by omega) a_T_tell_22 (fun h22 => ?_) (fun h22 => ?_)
      · refine g_aload_n F a_T_tell_31 rfl ?_
        refine g_aload_n F a_T_tell_32 rfl ?_
        refine g_iload_n F a_T_tell_33 rfl ?_
        refine g_if_ne F (by omega) a_T_tell_34 (fun h34 => ?_) (fun h34 => ?_)
        · refine g_iconst F a_T_tell_41 ?_
          refine g_v2 F a_T_tell_42 vc_T_28 mk_T_item ob_5 ck_5.1 rfl rfl (by decide) ⟨Nat.le_refl _, Nat.le_refl _⟩ rfl (Nat.le_of_ble_eq_true rfl) (sp_T_item0 (D := D + k) hB0 hp ht hS (by omega) ⟨fun m2 q2 S2 e2 f2 x2 y2 v42 => GCr.v ?_, fun m2 q2 e2 f2 x2 y2 w2 v42 => GCr.v ?_⟩)
          · refine g_ifne1 F a_T_tell_45 ?_
            refine g_iinc (ls' := [_, _, _]) F a_T_tell_56 rfl rfl rfl ?_
            refine g_goto F a_T_tell_59 ?_
            have ek : decide (k = 0) = false := decide_eq_false (by omega)
            refine GC.loc2 (ih f (k + 1) q2 _ m2 (by omega) (by omega) (by omega) y2 x2 (by rw [v42, show (D + ((k + 1 : Nat) : Int)) = D + (k : Int) + 1 by omega]; exact item_ok hS e2) (hF.trans f2) ?_) ⟨rfl, rfl, rfl, trivial⟩
            rw [← hres]
            conv => rhs; unfold tellL
            rw [if_neg (by omega)]
            simp only [ek, e2, v42]
          · refine g_ifne0 F a_T_tell_45 ?_
            refine g_bipush F a_T_tell_48 (by decide) ?_
            refine g_aload_n F a_T_tell_50 rfl ?_
            refine g_get_5_2 F a_T_tell_51 fl_T_32 ?_
            refine g_isub F a_T_tell_54 ?_
            refine g_iret F a_T_tell_55 rfl ⟨Nat.le_refl _, Nat.le_refl _⟩ ?_
            have ek : decide (k = 0) = false := decide_eq_false (by omega)
            exact qv (k0 m2 q2 (by rw [← hres]; unfold tellL; rw [if_neg (by omega)]; simp only [ek, e2]) (hF.trans f2) (v42.day (by have := v42.2.2.2.1; omega)) y2 w2) (by rw [x2])
        · refine g_iconst F a_T_tell_37 ?_
          refine g_goto F a_T_tell_38 ?_
          refine g_v2 F a_T_tell_42 vc_T_28 mk_T_item ob_5 ck_5.1 rfl rfl (by decide) ⟨Nat.le_refl _, Nat.le_refl _⟩ rfl (Nat.le_of_ble_eq_true rfl) (sp_T_item1 (D := D + k) hB0 hp ht hS (by omega) ⟨fun m2 q2 S2 e2 f2 x2 y2 v42 => GCr.v ?_, fun m2 q2 e2 f2 x2 y2 w2 v42 => GCr.v ?_⟩)
          · refine g_ifne1 F a_T_tell_45 ?_
            refine g_iinc (ls' := [_, _, _]) F a_T_tell_56 rfl rfl rfl ?_
            refine g_goto F a_T_tell_59 ?_
            have ek : decide (k = 0) = true := decide_eq_true (by omega)
            refine GC.loc2 (ih f (k + 1) q2 _ m2 (by omega) (by omega) (by omega) y2 x2 (by rw [v42, show (D + ((k + 1 : Nat) : Int)) = D + (k : Int) + 1 by omega]; exact item_ok hS e2) (hF.trans f2) ?_) ⟨rfl, rfl, rfl, trivial⟩
            rw [← hres]
            conv => rhs; unfold tellL
            rw [if_neg (by omega)]
            simp only [ek, e2, v42]
          · refine g_ifne0 F a_T_tell_45 ?_
            refine g_bipush F a_T_tell_48 (by decide) ?_
            refine g_aload_n F a_T_tell_50 rfl ?_
            refine g_get_5_2 F a_T_tell_51 fl_T_32 ?_
            refine g_isub F a_T_tell_54 ?_
            refine g_iret F a_T_tell_55 rfl ⟨Nat.le_refl _, Nat.le_refl _⟩ ?_
            have ek : decide (k = 0) = true := decide_eq_true (by omega)
            exact qv (k0 m2 q2 (by rw [← hres]; unfold tellL; rw [if_neg (by omega)]; simp only [ek, e2]) (hF.trans f2) (v42.day (by have := v42.2.2.2.1; omega)) y2 w2) (by rw [x2])
      · refine g_iload_n F a_T_tell_25 rfl ?_
        refine g_if_le F (by omega) a_T_tell_26 (fun h26 => ?_) (fun h26 => ?_)
        · refine g_aload_n F a_T_tell_31 rfl ?_
          refine g_aload_n F a_T_tell_32 rfl ?_
          refine g_iload_n F a_T_tell_33 rfl ?_
          refine g_if_ne F (by omega) a_T_tell_34 (fun h34 => ?_) (fun h34 => ?_)
          · refine g_iconst F a_T_tell_41 ?_
            refine g_v2 F a_T_tell_42 vc_T_28 mk_T_item ob_5 ck_5.1 rfl rfl (by decide) ⟨Nat.le_refl _, Nat.le_refl _⟩ rfl (Nat.le_of_ble_eq_true rfl) (sp_T_item0 (D := D + k) hB0 hp ht hS (by omega) ⟨fun m2 q2 S2 e2 f2 x2 y2 v42 => GCr.v ?_, fun m2 q2 e2 f2 x2 y2 w2 v42 => GCr.v ?_⟩)
            · refine g_ifne1 F a_T_tell_45 ?_
              refine g_iinc (ls' := [_, _, _]) F a_T_tell_56 rfl rfl rfl ?_
              refine g_goto F a_T_tell_59 ?_
              have ek : decide (k = 0) = false := decide_eq_false (by omega)
              refine GC.loc2 (ih f (k + 1) q2 _ m2 (by omega) (by omega) (by omega) y2 x2 (by rw [v42, show (D + ((k + 1 : Nat) : Int)) = D + (k : Int) + 1 by omega]; exact item_ok hS e2) (hF.trans f2) ?_) ⟨rfl, rfl, rfl, trivial⟩
              rw [← hres]
              conv => rhs; unfold tellL
              rw [if_neg (by omega)]
              simp only [ek, e2, v42]
            · refine g_ifne0 F a_T_tell_45 ?_
              refine g_bipush F a_T_tell_48 (by decide) ?_
              refine g_aload_n F a_T_tell_50 rfl ?_
              refine g_get_5_2 F a_T_tell_51 fl_T_32 ?_
              refine g_isub F a_T_tell_54 ?_
              refine g_iret F a_T_tell_55 rfl ⟨Nat.le_refl _, Nat.le_refl _⟩ ?_
              have ek : decide (k = 0) = false := decide_eq_false (by omega)
              exact qv (k0 m2 q2 (by rw [← hres]; unfold tellL; rw [if_neg (by omega)]; simp only [ek, e2]) (hF.trans f2) (v42.day (by have := v42.2.2.2.1; omega)) y2 w2) (by rw [x2])
          · refine g_iconst F a_T_tell_37 ?_
            refine g_goto F a_T_tell_38 ?_
            refine g_v2 F a_T_tell_42 vc_T_28 mk_T_item ob_5 ck_5.1 rfl rfl (by decide) ⟨Nat.le_refl _, Nat.le_refl _⟩ rfl (Nat.le_of_ble_eq_true rfl) (sp_T_item1 (D := D + k) hB0 hp ht hS (by omega) ⟨fun m2 q2 S2 e2 f2 x2 y2 v42 => GCr.v ?_, fun m2 q2 e2 f2 x2 y2 w2 v42 => GCr.v ?_⟩)
            · refine g_ifne1 F a_T_tell_45 ?_
              refine g_iinc (ls' := [_, _, _]) F a_T_tell_56 rfl rfl rfl ?_
              refine g_goto F a_T_tell_59 ?_
              have ek : decide (k = 0) = true := decide_eq_true (by omega)
              refine GC.loc2 (ih f (k + 1) q2 _ m2 (by omega) (by omega) (by omega) y2 x2 (by rw [v42, show (D + ((k + 1 : Nat) : Int)) = D + (k : Int) + 1 by omega]; exact item_ok hS e2) (hF.trans f2) ?_) ⟨rfl, rfl, rfl, trivial⟩
              rw [← hres]
              conv => rhs; unfold tellL
              rw [if_neg (by omega)]
              simp only [ek, e2, v42]
            · refine g_ifne0 F a_T_tell_45 ?_
              refine g_bipush F a_T_tell_48 (by decide) ?_
              refine g_aload_n F a_T_tell_50 rfl ?_
              refine g_get_5_2 F a_T_tell_51 fl_T_32 ?_
              refine g_isub F a_T_tell_54 ?_
              refine g_iret F a_T_tell_55 rfl ⟨Nat.le_refl _, Nat.le_refl _⟩ ?_
              have ek : decide (k = 0) = true := decide_eq_true (by omega)
              exact qv (k0 m2 q2 (by rw [← hres]; unfold tellL; rw [if_neg (by omega)]; simp only [ek, e2]) (hF.trans f2) (v42.day (by have := v42.2.2.2.1; omega)) y2 w2) (by rw [x2])
        · refine g_iload_n F a_T_tell_29 rfl ?_
          refine g_iret F a_T_tell_30 rfl ⟨Nat.le_refl _, Nat.le_refl _⟩ ?_
          exact qv (k1 m1 k (m1 2 3) (by rw [← hres]; unfold tellL; rw [if_pos ⟨by omega, by omega⟩]) hF rfl (hS.day (by have := hS.2.2.2.1; omega)) t0 tb0) (by omega)
set_option maxHeartbeats 1000000 in
theorem sp_T_tell {κ : Kx} {Q : Option Value → (Heap → Prop) → Prop} {m : Mem} {z : Nat} {D : Int} (hB0 : okB ((m 5 0).2 0) z) (h0 : (m 5 0).1 0 = z) (hS : okS D (m 2 3)) (hD : D + 150 ≤ 100000) (k1 : ∀ (m2 : Mem) (n : Nat) (S : Rc), tellL ((m 5 0).2 0) z 150 0 0 (m 2 3) = .inr (n, S) → FT m m2 → m2 2 3 = S → okS (D + 150) S → (m2 5 0).1 0 = z → (m2 5 0).2 0 = (m 5 0).2 0 → Q (some (vi n)) (World κ m2)) (k0 : ∀ (m2 : Mem) (e : Nat), tellL ((m 5 0).2 0) z 150 0 0 (m 2 3) = .inl e → FT m m2 → okS (D + 150) (m2 2 3) → (m2 5 0).1 0 = z → (m2 5 0).2 0 = (m 5 0).2 0 → Q (some (vi (-10 - (e : Int)))) (World κ m2)) : GG κ G_T_tell 7 0 0 [.ref (ad κ 5 0), .ref (ad κ 2 3)] (World κ m) Q := by
  refine GG.intro (ls := [some _, some _, none]) (Nat.le_of_ble_eq_true rfl) rfl (fun μ F => ?_)
  refine g_aload_n F a_T_tell_0 rfl ?_
  refine g_iconst F a_T_tell_1 ?_
  refine g_put_5_3 F a_T_tell_2 fl_T_19 ?_
  (try simp only [mset_app, mset_mset, fup_app, aup_app, fup_fup, aup_aup, false_and, and_false, true_and, and_true, and_self, reduceIte, Nat.reduceEqDiff, reduceCtorEq, fup_10])
  refine g_aload_n F a_T_tell_5 rfl ?_
  refine g_v0 F a_T_tell_6 vc_T_22 mk_T_advance ob_5 ck_5.1 rfl rfl (by decide) ⟨Nat.le_refl _, Nat.le_refl _⟩ rfl (Nat.le_of_ble_eq_true rfl) (sp_T_advance (z := z) (p := 0) (by exact hB0) (Nat.zero_le _) (by exact h0) rfl (fun T ht hb => (GCr.n ?_)))
  (try simp only [mset_app, mset_mset, fup_app, aup_app, fup_fup, aup_aup, false_and, and_false, true_and, and_true, and_self, reduceIte, Nat.reduceEqDiff, reduceCtorEq, fup_10])
  refine g_iconst F a_T_tell_9 ?_
  refine g_istore_n (ls' := [_, _, _]) F a_T_tell_10 rfl rfl rfl ?_
  exact GC.loc2 (lp_T_tell hB0 hD k1 k0 F 151 150 0 0 _ (mset m 5 0 T) (by omega) rfl rfl (Nat.zero_le _) (by exact ht) (by rw [show D + ((0 : Nat) : Int) = D by omega]; exact hS) FT_5 rfl) ⟨rfl, rfl, rfl, trivial⟩
