section LC
variable {κ : Kx} {Γ : Gm} {d mc ms : Nat} {μ : MX} {Z : State → Prop} {kc ks pc p2 nx tg : Nat} {ls : List (Option Value)} {st : List Value} {P : Heap → Prop} {a b : Int}
theorem g_lcmp_ne (F : Fx κ Γ d mc ms μ) (ha : -9223372036854775808 ≤ a ∧ a ≤ 9223372036854775807) (hb : -9223372036854775808 ≤ b ∧ b ≤ 9223372036854775807) (hd : AT 1 Γ.2.1 pc .lcmp p2) (hd2 : AJ Γ.2.1 p2 (.ifCond .ne) tg nx) (kt : a ≠ b → GC κ μ Z kc ks tg ls st P) (kf : a = b → GC κ μ Z kc ks nx ls st P) : GC κ μ Z kc ks pc ls (vl b :: vl a :: st) P :=
  g_lcmp F ha hb hd (g_if_ne F (by have := cmpL_r a b; omega) hd2 (fun h => kt (fun e => h (cmpL_0.mpr e))) (fun h => kf (cmpL_0.mp h)))
theorem g_lcmp_eq (F : Fx κ Γ d mc ms μ) (ha : -9223372036854775808 ≤ a ∧ a ≤ 9223372036854775807) (hb : -9223372036854775808 ≤ b ∧ b ≤ 9223372036854775807) (hd : AT 1 Γ.2.1 pc .lcmp p2) (hd2 : AJ Γ.2.1 p2 (.ifCond .eq) tg nx) (kt : a = b → GC κ μ Z kc ks tg ls st P) (kf : a ≠ b → GC κ μ Z kc ks nx ls st P) : GC κ μ Z kc ks pc ls (vl b :: vl a :: st) P :=
  g_lcmp F ha hb hd (g_if_eq F (by have := cmpL_r a b; omega) hd2 (fun h => kt (cmpL_0.mp h)) (fun h => kf (fun e => h (cmpL_0.mpr e))))
end LC
theorem fup_10 (f : Nat → Int) (a b : Int) : fup (fup f 1 b) 0 a = fup (fup f 0 a) 1 b := by
  funext k
  simp only [fup]
  by_cases h0 : k = 0
  · subst h0; simp
  · simp [h0]
theorem fup_self (f : Nat → Int) (k : Nat) : fup f k (f k) = f := by
  funext j
  by_cases h : j = k
  · subst h; simp [fup]
  · simp [fup, h]
def r2a (a b : Int) : Int := if a % 2 = 0 ∧ b % 2 = 0 then a / 2 else a
def r2b (a b : Int) : Int := if a % 2 = 0 ∧ b % 2 = 0 then b / 2 else b
def r5a (a b : Int) : Int := if a % 5 = 0 ∧ b % 5 = 0 then a / 5 else a
def r5b (a b : Int) : Int := if a % 5 = 0 ∧ b % 5 = 0 then b / 5 else b
def redN (a b : Int) : Nat → Int × Int
  | 0 => (a, b)
  | n + 1 => (r5a (r2a (redN a b n).1 (redN a b n).2) (r2b (redN a b n).1 (redN a b n).2), r5b (r2a (redN a b n).1 (redN a b n).2) (r2b (redN a b n).1 (redN a b n).2))
/-- above ahead of the ways, behind j factors -/
def abN (n s c : Int) : Nat → Int
  | 0 => if s < 0 ∨ n < s then 0 else 1
  | j + 1 => abN n s c j * (if (j : Int) < s then c else 10 - c)
def blN : Nat → Int
  | 0 => 1
  | j + 1 => blN j * 10
def wyN (n : Int) : Nat → Int
  | 0 => 1
  | j + 1 => wyN n j * (n - (j + 1) + 1) / (j + 1)
theorem wy_dec : ∀ n : Nat, n < 7 → ∀ j : Nat, j < n + 1 → 0 ≤ wyN (n : Int) j ∧ wyN (n : Int) j ≤ 100 := by decide +kernel
theorem bl_dec : ∀ j : Nat, j < 7 → 1 ≤ blN j ∧ blN j ≤ 1000000 := by decide +kernel
theorem wyN_r {n : Int} (hn : 0 ≤ n ∧ n ≤ 6) {j : Nat} (hj : (j : Int) ≤ n) : 0 ≤ wyN n j ∧ wyN n j ≤ 100 := by
  have := wy_dec n.toNat (by omega) j (by omega)
  rw [Int.toNat_of_nonneg hn.1] at this
  exact this
theorem abN_r {n s c : Int} (hc : 0 ≤ c ∧ c ≤ 10) : ∀ j : Nat, 0 ≤ abN n s c j ∧ abN n s c j ≤ blN j
  | 0 => by unfold abN blN; split <;> omega
  | j + 1 => by
    have ih := abN_r (n := n) (s := s) hc j
    have h1 : 0 ≤ (if (j : Int) < s then c else 10 - c) ∧ (if (j : Int) < s then c else 10 - c) ≤ 10 := by split <;> omega
    unfold abN blN
    exact ⟨Int.mul_nonneg ih.1 h1.1, Int.mul_le_mul ih.2 h1.2 h1.1 (by omega)⟩
/-- how many rounds the ways take -/
def wyR (n s : Int) : Nat := if s ≤ n then s.toNat else n.toNat
def slA (n s c : Int) : Int := (redN (abN n s c n.toNat * wyN n (wyR n s)) (blN n.toNat) n.toNat).1
def slB (n s c : Int) : Int := (redN (abN n s c n.toNat * wyN n (wyR n s)) (blN n.toNat) n.toNat).2
theorem Ag9 {R R' : Rc} (h0 : R.1 0 = R'.1 0) (h1 : R.1 1 = R'.1 1) : Ag 9 R R' := by
  refine ⟨fun k hk => ?_, fun j hj x x0 x1 => ?_⟩
  · have hk : k < 2 := hk
    match k, hk with
    | 0, _ => exact h0
    | 1, _ => exact h1
  · have hj : j < 0 := hj
    exact absurd hj (by omega)
set_option maxHeartbeats 1000000 in
theorem sp_C_setSure {κ : Kx} {Q : Option Value → (Heap → Prop) → Prop} {m : Mem} (k : Q none (World κ (mset m 9 0 (fup (fup (m 9 0).1 0 (1)) 1 (1), (m 9 0).2)))) : GG κ G_C_setSure 0 0 0 [.ref (ad κ 9 0)] (World κ m) Q := by
  refine GG.intro (ls := [some _]) (Nat.le_of_ble_eq_true rfl) rfl (fun μ F => ?_)
  refine g_aload_n F a_C_setSure_0 rfl ?_
  refine g_lconst1 F a_C_setSure_1 ?_
  refine g_put_9_0 F a_C_setSure_2 fl_C_7 ?_
  (try simp only [mset_app, mset_mset, fup_app, aup_app, fup_fup, aup_aup, false_and, and_false, true_and, and_true, and_self, reduceIte, Nat.reduceEqDiff, reduceCtorEq, fup_10])
  refine g_aload_n F a_C_setSure_5 rfl ?_
  refine g_lconst1 F a_C_setSure_6 ?_
  refine g_put_9_1 F a_C_setSure_7 fl_C_13 ?_
  (try simp only [mset_app, mset_mset, fup_app, aup_app, fup_fup, aup_aup, false_and, and_false, true_and, and_true, and_self, reduceIte, Nat.reduceEqDiff, reduceCtorEq, fup_10])
  refine g_ret F a_C_setSure_10 rfl ⟨Nat.le_refl _, Nat.le_refl _⟩ ?_
  exact k
set_option maxHeartbeats 2000000 in
theorem lp_C_reduce {κ : Kx} {μ : MX} {Q : Option Value → (Heap → Prop) → Prop} {m : Mem} {a0 b0 nn : Int} (hn : 0 ≤ nn ∧ nn ≤ 100) (k : Q none (World κ (mset m 9 0 (fup (fup (m 9 0).1 0 ((redN a0 b0 nn.toNat).1)) 1 ((redN a0 b0 nn.toNat).2), (m 9 0).2)))) (F : Fx κ G_C_reduce 0 0 0 μ) :
    ∀ (n : Nat) (j : Nat) (x a b : Int), nn < j + n → (j : Int) ≤ nn → x = j → a = (redN a0 b0 j).1 → b = (redN a0 b0 j).2 → 0 ≤ a ∧ a ≤ 1000000000 → 0 ≤ b ∧ b ≤ 1000000000 →  GC κ μ (ZZ κ μ 0 0 Q) 0 0 2 [some (.ref (ad κ 9 0)), some (vi nn), some (vi x)] [] (World κ (mset m 9 0 (fup (fup (m 9 0).1 0 (a)) 1 (b), (m 9 0).2))) := by
  intro n
  induction n with
  | zero =>
    intro j x a b hn hj hx ha hb har hbr
    exact absurd hn (by omega)
  | succ n ih =>
    intro j x a b hn hj hx ha hb har hbr
    refine g_iload_n F a_C_reduce_2 rfl ?_
    refine g_iload_n F a_C_reduce_3 rfl ?_
    refine g_icmp_ge F (by omega) (by omega) a_C_reduce_4 (fun h4 => ?_) (fun h4 => ?_)
    · refine g_ret F a_C_reduce_113 rfl ⟨Nat.le_refl _, Nat.le_refl _⟩ ?_
      rw [ha, hb, show j = nn.toNat by omega]; exact k
    · refine g_aload_n F a_C_reduce_7 rfl ?_
      refine g_get_9_0 F a_C_reduce_8 fl_C_7 ?_
      (try simp only [mset_app, mset_mset, fup_app, aup_app, fup_fup, aup_aup, false_and, and_false, true_and, and_true, and_self, reduceIte, Nat.reduceEqDiff, reduceCtorEq, fup_10])
      refine g_ldc2 F a_C_reduce_11 kl_C_22 ?_
      refine g_lrem F (by omega) (by omega) a_C_reduce_14 ?_
      refine g_lconst0 F a_C_reduce_15 ?_
      refine g_lcmp_ne F (by omega) (by omega) a_C_reduce_16 a_C_reduce_17 (fun h17 => ?_) (fun h17 => ?_)
      · refine g_aload_n F a_C_reduce_57 rfl ?_
        refine g_get_9_0 F a_C_reduce_58 fl_C_7 ?_
        (try simp only [mset_app, mset_mset, fup_app, aup_app, fup_fup, aup_aup, false_and, and_false, true_and, and_true, and_self, reduceIte, Nat.reduceEqDiff, reduceCtorEq, fup_10])
        refine g_ldc2 F a_C_reduce_61 kl_C_24 ?_
        refine g_lrem F (by omega) (by omega) a_C_reduce_64 ?_
        refine g_lconst0 F a_C_reduce_65 ?_
        refine g_lcmp_ne F (by omega) (by omega) a_C_reduce_66 a_C_reduce_67 (fun h67 => ?_) (fun h67 => ?_)
        · refine g_iinc (ls' := [_, _, _]) F a_C_reduce_107 rfl rfl rfl ?_
          refine g_goto F a_C_reduce_110 ?_
          refine GC.loc2 (ih (j + 1) _ _ _ (by omega) (by omega) (by omega) ?_ ?_ (by omega) (by omega)) ⟨rfl, rfl, rfl, trivial⟩
          all_goals
            simp only [redN, ← ha, ← hb, r2a, r2b, r5a, r5b]
            repeat' split
            all_goals omega
        · refine g_aload_n F a_C_reduce_70 rfl ?_
          refine g_get_9_1 F a_C_reduce_71 fl_C_13 ?_
          (try simp only [mset_app, mset_mset, fup_app, aup_app, fup_fup, aup_aup, false_and, and_false, true_and, and_true, and_self, reduceIte, Nat.reduceEqDiff, reduceCtorEq, fup_10])
          refine g_ldc2 F a_C_reduce_74 kl_C_24 ?_
          refine g_lrem F (by omega) (by omega) a_C_reduce_77 ?_
          refine g_lconst0 F a_C_reduce_78 ?_
          refine g_lcmp_ne F (by omega) (by omega) a_C_reduce_79 a_C_reduce_80 (fun h80 => ?_) (fun h80 => ?_)
          · refine g_iinc (ls' := [_, _, _]) F a_C_reduce_107 rfl rfl rfl ?_
            refine g_goto F a_C_reduce_110 ?_
            refine GC.loc2 (ih (j + 1) _ _ _ (by omega) (by omega) (by omega) ?_ ?_ (by omega) (by omega)) ⟨rfl, rfl, rfl, trivial⟩
            all_goals
              simp only [redN, ← ha, ← hb, r2a, r2b, r5a, r5b]
              repeat' split
              all_goals omega
          · refine g_aload_n F a_C_reduce_83 rfl ?_
            refine g_dup F a_C_reduce_84 rfl ?_
            refine g_get_9_0 F a_C_reduce_85 fl_C_7 ?_
            (try simp only [mset_app, mset_mset, fup_app, aup_app, fup_fup, aup_aup, false_and, and_false, true_and, and_true, and_self, reduceIte, Nat.reduceEqDiff, reduceCtorEq, fup_10])
            refine g_ldc2 F a_C_reduce_88 kl_C_24 ?_
            refine g_ldiv F (by omega) (by omega) a_C_reduce_91 ?_
            refine g_put_9_0 F a_C_reduce_92 fl_C_7 ?_
            (try simp only [mset_app, mset_mset, fup_app, aup_app, fup_fup, aup_aup, false_and, and_false, true_and, and_true, and_self, reduceIte, Nat.reduceEqDiff, reduceCtorEq, fup_10])
            refine g_aload_n F a_C_reduce_95 rfl ?_
            refine g_dup F a_C_reduce_96 rfl ?_
            refine g_get_9_1 F a_C_reduce_97 fl_C_13 ?_
            (try simp only [mset_app, mset_mset, fup_app, aup_app, fup_fup, aup_aup, false_and, and_false, true_and, and_true, and_self, reduceIte, Nat.reduceEqDiff, reduceCtorEq, fup_10])
            refine g_ldc2 F a_C_reduce_100 kl_C_24 ?_
            refine g_ldiv F (by omega) (by omega) a_C_reduce_103 ?_
            refine g_put_9_1 F a_C_reduce_104 fl_C_13 ?_
            (try simp only [mset_app, mset_mset, fup_app, aup_app, fup_fup, aup_aup, false_and, and_false, true_and, and_true, and_self, reduceIte, Nat.reduceEqDiff, reduceCtorEq, fup_10])
            refine g_iinc (ls' := [_, _, _]) F a_C_reduce_107 rfl rfl rfl ?_
            refine g_goto F a_C_reduce_110 ?_
            refine GC.loc2 (ih (j + 1) _ _ _ (by omega) (by omega) (by omega) ?_ ?_ (by omega) (by omega)) ⟨rfl, rfl, rfl, trivial⟩
            all_goals
              simp only [redN, ← ha, ← hb, r2a, r2b, r5a, r5b]
              repeat' split
              all_goals omega
      · refine g_aload_n F a_C_reduce_20 rfl ?_
        refine g_get_9_1 F a_C_reduce_21 fl_C_13 ?_
        (try simp only [mset_app, mset_mset, fup_app, aup_app, fup_fup, aup_aup, false_and, and_false, true_and, and_true, and_self, reduceIte, Nat.reduceEqDiff, reduceCtorEq, fup_10])
        refine g_ldc2 F a_C_reduce_24 kl_C_22 ?_
        refine g_lrem F (by omega) (by omega) a_C_reduce_27 ?_
        refine g_lconst0 F a_C_reduce_28 ?_
        refine g_lcmp_ne F (by omega) (by omega) a_C_reduce_29 a_C_reduce_30 (fun h30 => ?_) (fun h30 => ?_)
        · refine g_aload_n F a_C_reduce_57 rfl ?_
          refine g_get_9_0 F a_C_reduce_58 fl_C_7 ?_
          (try simp only [mset_app, mset_mset, fup_app, aup_app, fup_fup, aup_aup, false_and, and_false, true_and, and_true, and_self, reduceIte, Nat.reduceEqDiff, reduceCtorEq, fup_10])
          refine g_ldc2 F a_C_reduce_61 kl_C_24 ?_
          refine g_lrem F (by omega) (by omega) a_C_reduce_64 ?_
          refine g_lconst0 F a_C_reduce_65 ?_
          refine g_lcmp_ne F (by omega) (by omega) a_C_reduce_66 a_C_reduce_67 (fun h67 => ?_) (fun h67 => ?_)
          · refine g_iinc (ls' := [_, _, _]) F a_C_reduce_107 rfl rfl rfl ?_
            refine g_goto F a_C_reduce_110 ?_
            refine GC.loc2 (ih (j + 1) _ _ _ (by omega) (by omega) (by omega) ?_ ?_ (by omega) (by omega)) ⟨rfl, rfl, rfl, trivial⟩
            all_goals
              simp only [redN, ← ha, ← hb, r2a, r2b, r5a, r5b]
              repeat' split
              all_goals omega
          · refine g_aload_n F a_C_reduce_70 rfl ?_
            refine g_get_9_1 F a_C_reduce_71 fl_C_13 ?_
            (try simp only [mset_app, mset_mset, fup_app, aup_app, fup_fup, aup_aup, false_and, and_false, true_and, and_true, and_self, reduceIte, Nat.reduceEqDiff, reduceCtorEq, fup_10])
            refine g_ldc2 F a_C_reduce_74 kl_C_24 ?_
            refine g_lrem F (by omega) (by omega) a_C_reduce_77 ?_
            refine g_lconst0 F a_C_reduce_78 ?_
            refine g_lcmp_ne F (by omega) (by omega) a_C_reduce_79 a_C_reduce_80 (fun h80 => ?_) (fun h80 => ?_)
            · refine g_iinc (ls' := [_, _, _]) F a_C_reduce_107 rfl rfl rfl ?_
              refine g_goto F a_C_reduce_110 ?_
              refine GC.loc2 (ih (j + 1) _ _ _ (by omega) (by omega) (by omega) ?_ ?_ (by omega) (by omega)) ⟨rfl, rfl, rfl, trivial⟩
              all_goals
                simp only [redN, ← ha, ← hb, r2a, r2b, r5a, r5b]
                repeat' split
                all_goals omega
            · refine g_aload_n F a_C_reduce_83 rfl ?_
              refine g_dup F a_C_reduce_84 rfl ?_
              refine g_get_9_0 F a_C_reduce_85 fl_C_7 ?_
              (try simp only [mset_app, mset_mset, fup_app, aup_app, fup_fup, aup_aup, false_and, and_false, true_and, and_true, and_self, reduceIte, Nat.reduceEqDiff, reduceCtorEq, fup_10])
              refine g_ldc2 F a_C_reduce_88 kl_C_24 ?_
              refine g_ldiv F (by omega) (by omega) a_C_reduce_91 ?_
              refine g_put_9_0 F a_C_reduce_92 fl_C_7 ?_
              (try simp only [mset_app, mset_mset, fup_app, aup_app, fup_fup, aup_aup, false_and, and_false, true_and, and_true, and_self, reduceIte, Nat.reduceEqDiff, reduceCtorEq, fup_10])
              refine g_aload_n F a_C_reduce_95 rfl ?_
              refine g_dup F a_C_reduce_96 rfl ?_
              refine g_get_9_1 F a_C_reduce_97 fl_C_13 ?_
              (try simp only [mset_app, mset_mset, fup_app, aup_app, fup_fup, aup_aup, false_and, and_false, true_and, and_true, and_self, reduceIte, Nat.reduceEqDiff, reduceCtorEq, fup_10])
              refine g_ldc2 F a_C_reduce_100 kl_C_24 ?_
              refine g_ldiv F (by omega) (by omega) a_C_reduce_103 ?_
              refine g_put_9_1 F a_C_reduce_104 fl_C_13 ?_
              (try simp only [mset_app, mset_mset, fup_app, aup_app, fup_fup, aup_aup, false_and, and_false, true_and, and_true, and_self, reduceIte, Nat.reduceEqDiff, reduceCtorEq, fup_10])
              refine g_iinc (ls' := [_, _, _]) F a_C_reduce_107 rfl rfl rfl ?_
              refine g_goto F a_C_reduce_110 ?_
              refine GC.loc2 (ih (j + 1) _ _ _ (by omega) (by omega) (by omega) ?_ ?_ (by omega) (by omega)) ⟨rfl, rfl, rfl, trivial⟩
              all_goals
                simp only [redN, ← ha, ← hb, r2a, r2b, r5a, r5b]
                repeat' split
                all_goals omega
        · refine g_aload_n F a_C_reduce_33 rfl ?_
          refine g_dup F a_C_reduce_34 rfl ?_
          refine g_get_9_0 F a_C_reduce_35 fl_C_7 ?_
          (try simp only [mset_app, mset_mset, fup_app, aup_app, fup_fup, aup_aup, false_and, and_false, true_and, and_true, and_self, reduceIte, Nat.reduceEqDiff, reduceCtorEq, fup_10])
          refine g_ldc2 F a_C_reduce_38 kl_C_22 ?_
          refine g_ldiv F (by omega) (by omega) a_C_reduce_41 ?_
          refine g_put_9_0 F a_C_reduce_42 fl_C_7 ?_
          (try simp only [mset_app, mset_mset, fup_app, aup_app, fup_fup, aup_aup, false_and, and_false, true_and, and_true, and_self, reduceIte, Nat.reduceEqDiff, reduceCtorEq, fup_10])
          refine g_aload_n F a_C_reduce_45 rfl ?_
          refine g_dup F a_C_reduce_46 rfl ?_
          refine g_get_9_1 F a_C_reduce_47 fl_C_13 ?_
          (try simp only [mset_app, mset_mset, fup_app, aup_app, fup_fup, aup_aup, false_and, and_false, true_and, and_true, and_self, reduceIte, Nat.reduceEqDiff, reduceCtorEq, fup_10])
          refine g_ldc2 F a_C_reduce_50 kl_C_22 ?_
          refine g_ldiv F (by omega) (by omega) a_C_reduce_53 ?_
          refine g_put_9_1 F a_C_reduce_54 fl_C_13 ?_
          (try simp only [mset_app, mset_mset, fup_app, aup_app, fup_fup, aup_aup, false_and, and_false, true_and, and_true, and_self, reduceIte, Nat.reduceEqDiff, reduceCtorEq, fup_10])
          refine g_aload_n F a_C_reduce_57 rfl ?_
          refine g_get_9_0 F a_C_reduce_58 fl_C_7 ?_
          (try simp only [mset_app, mset_mset, fup_app, aup_app, fup_fup, aup_aup, false_and, and_false, true_and, and_true, and_self, reduceIte, Nat.reduceEqDiff, reduceCtorEq, fup_10])
          refine g_ldc2 F a_C_reduce_61 kl_C_24 ?_
          refine g_lrem F (by omega) (by omega) a_C_reduce_64 ?_
          refine g_lconst0 F a_C_reduce_65 ?_
          refine g_lcmp_ne F (by omega) (by omega) a_C_reduce_66 a_C_reduce_67 (fun h67 => ?_) (fun h67 => ?_)
          · refine g_iinc (ls' := [_, _, _]) F a_C_reduce_107 rfl rfl rfl ?_
            refine g_goto F a_C_reduce_110 ?_
            refine GC.loc2 (ih (j + 1) _ _ _ (by omega) (by omega) (by omega) ?_ ?_ (by omega) (by omega)) ⟨rfl, rfl, rfl, trivial⟩
            all_goals
              simp only [redN, ← ha, ← hb, r2a, r2b, r5a, r5b]
              repeat' split
              all_goals omega
          · refine g_aload_n F a_C_reduce_70 rfl ?_
            refine g_get_9_1 F a_C_reduce_71 fl_C_13 ?_
            (try simp only [mset_app, mset_mset, fup_app, aup_app, fup_fup, aup_aup, false_and, and_false, true_and, and_true, and_self, reduceIte, Nat.reduceEqDiff, reduceCtorEq, fup_10])
            refine g_ldc2 F a_C_reduce_74 kl_C_24 ?_
            refine g_lrem F (by omega) (by omega) a_C_reduce_77 ?_
            refine g_lconst0 F a_C_reduce_78 ?_
            refine g_lcmp_ne F (by omega) (by omega) a_C_reduce_79 a_C_reduce_80 (fun h80 => ?_) (fun h80 => ?_)
            · refine g_iinc (ls' := [_, _, _]) F a_C_reduce_107 rfl rfl rfl ?_
              refine g_goto F a_C_reduce_110 ?_
              refine GC.loc2 (ih (j + 1) _ _ _ (by omega) (by omega) (by omega) ?_ ?_ (by omega) (by omega)) ⟨rfl, rfl, rfl, trivial⟩
              all_goals
                simp only [redN, ← ha, ← hb, r2a, r2b, r5a, r5b]
                repeat' split
                all_goals omega
            · refine g_aload_n F a_C_reduce_83 rfl ?_
              refine g_dup F a_C_reduce_84 rfl ?_
              refine g_get_9_0 F a_C_reduce_85 fl_C_7 ?_
              (try simp only [mset_app, mset_mset, fup_app, aup_app, fup_fup, aup_aup, false_and, and_false, true_and, and_true, and_self, reduceIte, Nat.reduceEqDiff, reduceCtorEq, fup_10])
              refine g_ldc2 F a_C_reduce_88 kl_C_24 ?_
              refine g_ldiv F (by omega) (by omega) a_C_reduce_91 ?_
              refine g_put_9_0 F a_C_reduce_92 fl_C_7 ?_
              (try simp only [mset_app, mset_mset, fup_app, aup_app, fup_fup, aup_aup, false_and, and_false, true_and, and_true, and_self, reduceIte, Nat.reduceEqDiff, reduceCtorEq, fup_10])
              refine g_aload_n F a_C_reduce_95 rfl ?_
              refine g_dup F a_C_reduce_96 rfl ?_
              refine g_get_9_1 F a_C_reduce_97 fl_C_13 ?_
              (try simp only [mset_app, mset_mset, fup_app, aup_app, fup_fup, aup_aup, false_and, and_false, true_and, and_true, and_self, reduceIte, Nat.reduceEqDiff, reduceCtorEq, fup_10])
              refine g_ldc2 F a_C_reduce_100 kl_C_24 ?_
              refine g_ldiv F (by omega) (by omega) a_C_reduce_103 ?_
              refine g_put_9_1 F a_C_reduce_104 fl_C_13 ?_
              (try simp only [mset_app, mset_mset, fup_app, aup_app, fup_fup, aup_aup, false_and, and_false, true_and, and_true, and_self, reduceIte, Nat.reduceEqDiff, reduceCtorEq, fup_10])
              refine g_iinc (ls' := [_, _, _]) F a_C_reduce_107 rfl rfl rfl ?_
              refine g_goto F a_C_reduce_110 ?_
              refine GC.loc2 (ih (j + 1) _ _ _ (by omega) (by omega) (by omega) ?_ ?_ (by omega) (by omega)) ⟨rfl, rfl, rfl, trivial⟩
              all_goals
                simp only [redN, ← ha, ← hb, r2a, r2b, r5a, r5b]
                repeat' split
                all_goals omega
set_option maxHeartbeats 1000000 in
theorem sp_C_reduce {κ : Kx} {Q : Option Value → (Heap → Prop) → Prop} {m : Mem} {nn : Int} (hn : 0 ≤ nn ∧ nn ≤ 100) (h0 : 0 ≤ (m 9 0).1 0 ∧ (m 9 0).1 0 ≤ 1000000000) (h1 : 0 ≤ (m 9 0).1 1 ∧ (m 9 0).1 1 ≤ 1000000000) (k : Q none (World κ (mset m 9 0 (fup (fup (m 9 0).1 0 ((redN ((m 9 0).1 0) ((m 9 0).1 1) nn.toNat).1)) 1 ((redN ((m 9 0).1 0) ((m 9 0).1 1) nn.toNat).2), (m 9 0).2)))) : GG κ G_C_reduce 0 0 0 [.ref (ad κ 9 0), vi nn] (World κ m) Q := by
  refine GG.intro (ls := [some _, some _, none]) (Nat.le_of_ble_eq_true rfl) rfl (fun μ F => ?_)
  refine g_iconst F a_C_reduce_0 ?_
  refine g_istore_n (ls' := [_, _, _]) F a_C_reduce_1 rfl rfl rfl ?_
  have hz := lp_C_reduce hn k F (nn.toNat + 1) 0 0 ((m 9 0).1 0) ((m 9 0).1 1) (by omega) (by omega) rfl rfl rfl h0 h1
  rw [fup_self, fup_self, mset_self] at hz
  exact GC.loc2 hz ⟨rfl, rfl, rfl, trivial⟩
set_option maxHeartbeats 2000000 in
theorem lp_C_slips2 {κ : Kx} {μ : MX} {Q : Option Value → (Heap → Prop) → Prop} {m : Mem} {nn s c : Int} (hn6 : 0 ≤ nn ∧ nn ≤ 6) (hs : -100000 ≤ s ∧ s ≤ 100000) (hc : 0 ≤ c ∧ c ≤ 10) (k : Q none (World κ (mset m 9 0 (fup (fup (m 9 0).1 0 (slA nn s c)) 1 (slB nn s c), (m 9 0).2)))) (F : Fx κ G_C_setSlips 1 0 0 μ) :
    ∀ (n : Nat) (j : Nat) (x e : Int), nn < j + n → (j : Int) ≤ nn → (0 < j → (j : Int) ≤ s) → x = j + 1 → e = wyN nn j →  GC κ μ (ZZ κ μ 0 0 Q) 0 0 81 [some (.ref (ad κ 9 0)), some (vi nn), some (vi s), some (vi c), some (vl e), none, some (vi x)] [] (World κ (mset m 9 0 (fup (fup (m 9 0).1 0 (abN nn s c nn.toNat)) 1 (blN nn.toNat), (m 9 0).2))) := by
  intro n
  induction n with
  | zero =>
    intro j x e hn hj hjs hx he
    exact absurd hn (by omega)
  | succ n ih =>
    intro j x e hn hj hjs hx he
    have hwy := wyN_r hn6 hj
    have hab := abN_r (n := nn) (s := s) hc nn.toNat
    have hbl := bl_dec nn.toNat (by omega)
    have hmr : x ≤ nn → 0 ≤ e * (nn - x + 1) ∧ e * (nn - x + 1) ≤ 100 * 7 := fun h => ⟨Int.mul_nonneg (by omega) (by omega), Int.mul_le_mul (by omega) (by omega) (by omega) (by omega)⟩
    refine g_iload F a_C_setSlips_81 rfl ?_
    refine g_iload_n F a_C_setSlips_83 rfl ?_
    refine g_icmp_gt F (by first | omega | (have := hmr (by omega); omega)) (by first | omega | (have := hmr (by omega); omega)) a_C_setSlips_84 (fun h84 => ?_) (fun h84 => ?_)
    · refine g_aload_n F a_C_setSlips_115 rfl ?_
      refine g_dup F a_C_setSlips_116 rfl ?_
      refine g_get_9_0 F a_C_setSlips_117 fl_C_7 ?_
      (try simp only [mset_app, mset_mset, fup_app, aup_app, fup_fup, aup_aup, false_and, and_false, true_and, and_true, and_self, reduceIte, Nat.reduceEqDiff, reduceCtorEq, fup_10])
      refine g_lload F a_C_setSlips_120 rfl ?_
      refine g_lmul F a_C_setSlips_122 ?_
      refine g_put_9_0 F a_C_setSlips_123 fl_C_7 ?_
      (try simp only [mset_app, mset_mset, fup_app, aup_app, fup_fup, aup_aup, false_and, and_false, true_and, and_true, and_self, reduceIte, Nat.reduceEqDiff, reduceCtorEq, fup_10])
      refine g_aload_n F a_C_setSlips_126 rfl ?_
      refine g_iload_n F a_C_setSlips_127 rfl ?_
      refine g_v1 F a_C_setSlips_128 vc_C_18 mk_C_reduce ob_9 ck_9.1 rfl rfl (by decide) ⟨Nat.le_refl _, Nat.le_refl _⟩ rfl (Nat.le_of_ble_eq_true rfl) (sp_C_reduce (by omega) (by rw [mset_same]; show 0 ≤ _ * _ ∧ _ * _ ≤ _; rw [he]; exact ⟨Int.mul_nonneg hab.1 hwy.1, Int.le_trans (Int.mul_le_mul hab.2 hwy.2 hwy.1 (by omega)) (by omega)⟩) (by rw [mset_same]; show 0 ≤ blN _ ∧ blN _ ≤ _; omega) (GCr.n ?_))
      (try simp only [mset_app, mset_mset, fup_app, aup_app, fup_fup, aup_aup, false_and, and_false, true_and, and_true, and_self, reduceIte, Nat.reduceEqDiff, reduceCtorEq, fup_10])
      refine g_ret F a_C_setSlips_131 rfl ⟨Nat.le_refl _, Nat.le_refl _⟩ ?_
      have ej : j = wyR nn s := by
        unfold wyR
        split <;> omega
      unfold slA slB at k
      rw [← ej] at k
      rw [he]
      exact k
    · refine g_iload F a_C_setSlips_87 rfl ?_
      refine g_iload_n F a_C_setSlips_89 rfl ?_
      refine g_icmp_gt F (by first | omega | (have := hmr (by omega); omega)) (by first | omega | (have := hmr (by omega); omega)) a_C_setSlips_90 (fun h90 => ?_) (fun h90 => ?_)
      · refine g_aload_n F a_C_setSlips_115 rfl ?_
        refine g_dup F a_C_setSlips_116 rfl ?_
        refine g_get_9_0 F a_C_setSlips_117 fl_C_7 ?_
        (try simp only [mset_app, mset_mset, fup_app, aup_app, fup_fup, aup_aup, false_and, and_false, true_and, and_true, and_self, reduceIte, Nat.reduceEqDiff, reduceCtorEq, fup_10])
        refine g_lload F a_C_setSlips_120 rfl ?_
        refine g_lmul F a_C_setSlips_122 ?_
        refine g_put_9_0 F a_C_setSlips_123 fl_C_7 ?_
        (try simp only [mset_app, mset_mset, fup_app, aup_app, fup_fup, aup_aup, false_and, and_false, true_and, and_true, and_self, reduceIte, Nat.reduceEqDiff, reduceCtorEq, fup_10])
        refine g_aload_n F a_C_setSlips_126 rfl ?_
        refine g_iload_n F a_C_setSlips_127 rfl ?_
        refine g_v1 F a_C_setSlips_128 vc_C_18 mk_C_reduce ob_9 ck_9.1 rfl rfl (by decide) ⟨Nat.le_refl _, Nat.le_refl _⟩ rfl (Nat.le_of_ble_eq_true rfl) (sp_C_reduce (by omega) (by rw [mset_same]; show 0 ≤ _ * _ ∧ _ * _ ≤ _; rw [he]; exact ⟨Int.mul_nonneg hab.1 hwy.1, Int.le_trans (Int.mul_le_mul hab.2 hwy.2 hwy.1 (by omega)) (by omega)⟩) (by rw [mset_same]; show 0 ≤ blN _ ∧ blN _ ≤ _; omega) (GCr.n ?_))
        (try simp only [mset_app, mset_mset, fup_app, aup_app, fup_fup, aup_aup, false_and, and_false, true_and, and_true, and_self, reduceIte, Nat.reduceEqDiff, reduceCtorEq, fup_10])
        refine g_ret F a_C_setSlips_131 rfl ⟨Nat.le_refl _, Nat.le_refl _⟩ ?_
        have ej : j = wyR nn s := by
          unfold wyR
          split <;> omega
        unfold slA slB at k
        rw [← ej] at k
        rw [he]
        exact k
      · refine g_lload F a_C_setSlips_93 rfl ?_
        refine g_iload_n F a_C_setSlips_95 rfl ?_
        refine g_iload F a_C_setSlips_96 rfl ?_
        refine g_isub F a_C_setSlips_98 ?_
        refine g_iconst F a_C_setSlips_99 ?_
        refine g_iadd F a_C_setSlips_100 ?_
        refine g_i2l F (by first | omega | (have := hmr (by omega); omega)) a_C_setSlips_101 ?_
        refine g_lmul F a_C_setSlips_102 ?_
        refine g_iload F a_C_setSlips_103 rfl ?_
        refine g_i2l F (by first | omega | (have := hmr (by omega); omega)) a_C_setSlips_105 ?_
        refine g_ldiv F (by first | omega | (have := hmr (by omega); omega)) (by first | omega | (have := hmr (by omega); omega)) a_C_setSlips_106 ?_
        refine g_lstore (ls' := [_, _, _, _, _, _, _]) F a_C_setSlips_107 rfl rfl rfl ?_
        refine g_iinc (ls' := [_, _, _, _, _, _, _]) F a_C_setSlips_109 rfl rfl rfl ?_
        refine g_goto F a_C_setSlips_112 ?_
        exact GC.loc2 (ih (j + 1) _ _ (by omega) (by omega) (by omega) (by omega) (by rw [he, hx]; rfl)) ⟨rfl, rfl, rfl, rfl, rfl, rfl, trivial⟩
set_option maxHeartbeats 2000000 in
theorem lp_C_slips1 {κ : Kx} {μ : MX} {Q : Option Value → (Heap → Prop) → Prop} {m : Mem} {nn s c : Int} (hn6 : 0 ≤ nn ∧ nn ≤ 6) (hs : -100000 ≤ s ∧ s ≤ 100000) (hc : 0 ≤ c ∧ c ≤ 10) (k : Q none (World κ (mset m 9 0 (fup (fup (m 9 0).1 0 (slA nn s c)) 1 (slB nn s c), (m 9 0).2)))) (F : Fx κ G_C_setSlips 1 0 0 μ) :
    ∀ (n : Nat) (j : Nat) (x : Int), nn < j + n → (j : Int) ≤ nn → x = j →  GC κ μ (ZZ κ μ 0 0 Q) 0 0 26 [some (.ref (ad κ 9 0)), some (vi nn), some (vi s), some (vi c), some (vi x), none, none] [] (World κ (mset m 9 0 (fup (fup (m 9 0).1 0 (abN nn s c j)) 1 (blN j), (m 9 0).2))) := by
  intro n
  induction n with
  | zero =>
    intro j x hn hj hx
    exact absurd hn (by omega)
  | succ n ih =>
    intro j x hn hj hx
    refine g_iload F a_C_setSlips_26 rfl ?_
    refine g_iload_n F a_C_setSlips_28 rfl ?_
    refine g_icmp_ge F (by omega) (by omega) a_C_setSlips_29 (fun h29 => ?_) (fun h29 => ?_)
    · refine g_lconst1 F a_C_setSlips_75 ?_
      refine g_lstore (ls' := [_, _, _, _, _, _, _]) F a_C_setSlips_76 rfl rfl rfl ?_
      refine g_iconst F a_C_setSlips_78 ?_
      refine g_istore (ls' := [_, _, _, _, _, _, _]) F a_C_setSlips_79 rfl rfl rfl ?_
      rw [show j = nn.toNat by omega]
      exact GC.loc2 (lp_C_slips2 hn6 hs hc k F (nn.toNat + 1) 0 _ _ (by omega) (by omega) (by omega) rfl rfl) ⟨rfl, rfl, rfl, rfl, rfl, rfl, trivial⟩
    · refine g_aload_n F a_C_setSlips_32 rfl ?_
      refine g_dup F a_C_setSlips_33 rfl ?_
      refine g_get_9_0 F a_C_setSlips_34 fl_C_7 ?_
      (try simp only [mset_app, mset_mset, fup_app, aup_app, fup_fup, aup_aup, false_and, and_false, true_and, and_true, and_self, reduceIte, Nat.reduceEqDiff, reduceCtorEq, fup_10])
      refine g_iload F a_C_setSlips_37 rfl ?_
      refine g_iload_n F a_C_setSlips_39 rfl ?_
      refine g_icmp_ge F (by omega) (by omega) a_C_setSlips_40 (fun h40 => ?_) (fun h40 => ?_)
      · refine g_bipush F a_C_setSlips_48 (by decide) ?_
        refine g_iload_n F a_C_setSlips_50 rfl ?_
        refine g_isub F a_C_setSlips_51 ?_
        refine g_i2l F (by omega) a_C_setSlips_52 ?_
        refine g_lmul F a_C_setSlips_53 ?_
        refine g_put_9_0 F a_C_setSlips_54 fl_C_7 ?_
        (try simp only [mset_app, mset_mset, fup_app, aup_app, fup_fup, aup_aup, false_and, and_false, true_and, and_true, and_self, reduceIte, Nat.reduceEqDiff, reduceCtorEq, fup_10])
        refine g_aload_n F a_C_setSlips_57 rfl ?_
        refine g_dup F a_C_setSlips_58 rfl ?_
        refine g_get_9_1 F a_C_setSlips_59 fl_C_13 ?_
        (try simp only [mset_app, mset_mset, fup_app, aup_app, fup_fup, aup_aup, false_and, and_false, true_and, and_true, and_self, reduceIte, Nat.reduceEqDiff, reduceCtorEq, fup_10])
        refine g_ldc2 F a_C_setSlips_62 kl_C_16 ?_
        refine g_lmul F a_C_setSlips_65 ?_
        refine g_put_9_1 F a_C_setSlips_66 fl_C_13 ?_
        (try simp only [mset_app, mset_mset, fup_app, aup_app, fup_fup, aup_aup, false_and, and_false, true_and, and_true, and_self, reduceIte, Nat.reduceEqDiff, reduceCtorEq, fup_10])
        refine g_iinc (ls' := [_, _, _, _, _, _, _]) F a_C_setSlips_69 rfl rfl rfl ?_
        refine g_goto F a_C_setSlips_72 ?_
        rw [show abN nn s c j * (10 - c) = abN nn s c (j + 1) by rw [abN, if_neg (by omega)], show blN j * 10 = blN (j + 1) from rfl]
        exact GC.loc2 (ih (j + 1) _ (by omega) (by omega) (by omega)) ⟨rfl, rfl, rfl, rfl, rfl, trivial⟩
      · refine g_iload_n F a_C_setSlips_43 rfl ?_
        refine g_i2l F (by omega) a_C_setSlips_44 ?_
        refine g_goto F a_C_setSlips_45 ?_
        refine g_lmul F a_C_setSlips_53 ?_
        refine g_put_9_0 F a_C_setSlips_54 fl_C_7 ?_
        (try simp only [mset_app, mset_mset, fup_app, aup_app, fup_fup, aup_aup, false_and, and_false, true_and, and_true, and_self, reduceIte, Nat.reduceEqDiff, reduceCtorEq, fup_10])
        refine g_aload_n F a_C_setSlips_57 rfl ?_
        refine g_dup F a_C_setSlips_58 rfl ?_
        refine g_get_9_1 F a_C_setSlips_59 fl_C_13 ?_
        (try simp only [mset_app, mset_mset, fup_app, aup_app, fup_fup, aup_aup, false_and, and_false, true_and, and_true, and_self, reduceIte, Nat.reduceEqDiff, reduceCtorEq, fup_10])
        refine g_ldc2 F a_C_setSlips_62 kl_C_16 ?_
        refine g_lmul F a_C_setSlips_65 ?_
        refine g_put_9_1 F a_C_setSlips_66 fl_C_13 ?_
        (try simp only [mset_app, mset_mset, fup_app, aup_app, fup_fup, aup_aup, false_and, and_false, true_and, and_true, and_self, reduceIte, Nat.reduceEqDiff, reduceCtorEq, fup_10])
        refine g_iinc (ls' := [_, _, _, _, _, _, _]) F a_C_setSlips_69 rfl rfl rfl ?_
        refine g_goto F a_C_setSlips_72 ?_
        rw [show abN nn s c j * c = abN nn s c (j + 1) by rw [abN, if_pos (by omega)], show blN j * 10 = blN (j + 1) from rfl]
        exact GC.loc2 (ih (j + 1) _ (by omega) (by omega) (by omega)) ⟨rfl, rfl, rfl, rfl, rfl, trivial⟩
set_option maxHeartbeats 1000000 in
theorem sp_C_setSlips {κ : Kx} {Q : Option Value → (Heap → Prop) → Prop} {m : Mem} {nn s c : Int} (hn6 : 0 ≤ nn ∧ nn ≤ 6) (hs : -100000 ≤ s ∧ s ≤ 100000) (hc : 0 ≤ c ∧ c ≤ 10) (k : Q none (World κ (mset m 9 0 (fup (fup (m 9 0).1 0 (slA nn s c)) 1 (slB nn s c), (m 9 0).2)))) : GG κ G_C_setSlips 1 0 0 [.ref (ad κ 9 0), vi nn, vi s, vi c] (World κ m) Q := by
  refine GG.intro (ls := [some _, some _, some _, some _, none, none, none]) (Nat.le_of_ble_eq_true rfl) rfl (fun μ F => ?_)
  refine g_aload_n F a_C_setSlips_0 rfl ?_
  refine g_iload_n F a_C_setSlips_1 rfl ?_
  refine g_if_lt F (by omega) a_C_setSlips_2 (fun h2 => ?_) (fun h2 => ?_)
  · refine g_lconst0 F a_C_setSlips_10 ?_
    refine g_goto F a_C_setSlips_11 ?_
    refine g_put_9_0 F a_C_setSlips_15 fl_C_7 ?_
    (try simp only [mset_app, mset_mset, fup_app, aup_app, fup_fup, aup_aup, false_and, and_false, true_and, and_true, and_self, reduceIte, Nat.reduceEqDiff, reduceCtorEq, fup_10])
    refine g_aload_n F a_C_setSlips_18 rfl ?_
    refine g_lconst1 F a_C_setSlips_19 ?_
    refine g_put_9_1 F a_C_setSlips_20 fl_C_13 ?_
    (try simp only [mset_app, mset_mset, fup_app, aup_app, fup_fup, aup_aup, false_and, and_false, true_and, and_true, and_self, reduceIte, Nat.reduceEqDiff, reduceCtorEq, fup_10])
    refine g_iconst F a_C_setSlips_23 ?_
    refine g_istore (ls' := [_, _, _, _, _, _, _]) F a_C_setSlips_24 rfl rfl rfl ?_
    have hz := lp_C_slips1 hn6 hs hc k F (nn.toNat + 1) 0 0 (by omega) (by omega) rfl
    rw [show abN nn s c 0 = 0 by unfold abN; rw [if_pos (by omega)]] at hz
    exact GC.loc2 hz ⟨rfl, rfl, rfl, rfl, rfl, trivial⟩
  · refine g_iload_n F a_C_setSlips_5 rfl ?_
    refine g_iload_n F a_C_setSlips_6 rfl ?_
    refine g_icmp_le F (by omega) (by omega) a_C_setSlips_7 (fun h7 => ?_) (fun h7 => ?_)
    · refine g_lconst1 F a_C_setSlips_14 ?_
      refine g_put_9_0 F a_C_setSlips_15 fl_C_7 ?_
      (try simp only [mset_app, mset_mset, fup_app, aup_app, fup_fup, aup_aup, false_and, and_false, true_and, and_true, and_self, reduceIte, Nat.reduceEqDiff, reduceCtorEq, fup_10])
      refine g_aload_n F a_C_setSlips_18 rfl ?_
      refine g_lconst1 F a_C_setSlips_19 ?_
      refine g_put_9_1 F a_C_setSlips_20 fl_C_13 ?_
      (try simp only [mset_app, mset_mset, fup_app, aup_app, fup_fup, aup_aup, false_and, and_false, true_and, and_true, and_self, reduceIte, Nat.reduceEqDiff, reduceCtorEq, fup_10])
      refine g_iconst F a_C_setSlips_23 ?_
      refine g_istore (ls' := [_, _, _, _, _, _, _]) F a_C_setSlips_24 rfl rfl rfl ?_
      have hz := lp_C_slips1 hn6 hs hc k F (nn.toNat + 1) 0 0 (by omega) (by omega) rfl
      rw [show abN nn s c 0 = 1 by unfold abN; rw [if_neg (by omega)]] at hz
      exact GC.loc2 hz ⟨rfl, rfl, rfl, rfl, rfl, trivial⟩
    · refine g_lconst0 F a_C_setSlips_10 ?_
      refine g_goto F a_C_setSlips_11 ?_
      refine g_put_9_0 F a_C_setSlips_15 fl_C_7 ?_
      (try simp only [mset_app, mset_mset, fup_app, aup_app, fup_fup, aup_aup, false_and, and_false, true_and, and_true, and_self, reduceIte, Nat.reduceEqDiff, reduceCtorEq, fup_10])
      refine g_aload_n F a_C_setSlips_18 rfl ?_
      refine g_lconst1 F a_C_setSlips_19 ?_
      refine g_put_9_1 F a_C_setSlips_20 fl_C_13 ?_
      (try simp only [mset_app, mset_mset, fup_app, aup_app, fup_fup, aup_aup, false_and, and_false, true_and, and_true, and_self, reduceIte, Nat.reduceEqDiff, reduceCtorEq, fup_10])
      refine g_iconst F a_C_setSlips_23 ?_
      refine g_istore (ls' := [_, _, _, _, _, _, _]) F a_C_setSlips_24 rfl rfl rfl ?_
      have hz := lp_C_slips1 hn6 hs hc k F (nn.toNat + 1) 0 0 (by omega) (by omega) rfl
      rw [show abN nn s c 0 = 0 by unfold abN; rw [if_pos (by omega)]] at hz
      exact GC.loc2 hz ⟨rfl, rfl, rfl, rfl, rfl, trivial⟩
