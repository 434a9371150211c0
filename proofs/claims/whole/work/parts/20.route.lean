theorem g_getS_LEAST {κ : Kx} {Γ : Gm} {d mc ms : Nat} {μ : MX} {Z : State → Prop} {kc ks pc nx : Nat} {ls : List (Option Value)} {st : List Value} {P : Heap → Prop} (F : Fx κ Γ d mc ms μ) (hd : AT 3 Γ.2.1 pc (.getstatic 63) nx) (hg : Γ.1.cls = "ShameAngles$Route") (k : GC κ μ Z kc ks nx ls (.ref (kt κ 0) :: st) P) : GC κ μ Z kc ks pc ls st P := by
  obtain ⟨hd, rfl⟩ := hd
  intro H locs la hS hP hl
  exact va_gets (own := Γ.1.cls) (C := "ShameAngles$Route") (ref := "ShameAngles$Route") F.1 F.2.1 F.2.2.2.2.2.2.2.2.1.2.2.1.1.1 hS F.2.2.2.2.2.1 (F.2.2.2.2.2.2.2.1 _ (by rw [hg]; exact bg_m3 (List.mem_of_getElem? (i := 154) (by decide +kernel)) (by decide +kernel))) (fun _ h => h) hd (k H locs la hS hP hl)
theorem g_tab_LEAST {κ : Kx} {Γ : Gm} {d mc ms : Nat} {μ : MX} {Z : State → Prop} {kc ks pc nx : Nat} {ls : List (Option Value)} {st : List Value} {P : Heap → Prop} {x : Int} (F : Fx κ Γ d mc ms μ) (hd : AT 1 Γ.2.1 pc .iaload nx) (hx : 0 ≤ x ∧ x < 6) (k : GC κ μ Z kc ks nx ls (vi (tabv 0 x.toNat) :: st) P) : GC κ μ Z kc ks pc ls (vi x :: .ref (kt κ 0) :: st) P := by
  obtain ⟨hd, rfl⟩ := hd
  intro H locs la hS hP hl
  obtain ⟨g1, g2⟩ := vin (n := 6) hx.1 hx.2 (by decide)
  refine va_ti F.1 F.2.1 F.2.2.2.2.2.2.2.2.1.2.2.1.1.2 hS g1 ?_ hd (k H locs la hS hP hl)
  rw [show (Int32.ofInt x).toNatClampNeg = x.toNat by omega]
theorem g_getS_GREATEST {κ : Kx} {Γ : Gm} {d mc ms : Nat} {μ : MX} {Z : State → Prop} {kc ks pc nx : Nat} {ls : List (Option Value)} {st : List Value} {P : Heap → Prop} (F : Fx κ Γ d mc ms μ) (hd : AT 3 Γ.2.1 pc (.getstatic 71) nx) (hg : Γ.1.cls = "ShameAngles$Route") (k : GC κ μ Z kc ks nx ls (.ref (kt κ 1) :: st) P) : GC κ μ Z kc ks pc ls st P := by
  obtain ⟨hd, rfl⟩ := hd
  intro H locs la hS hP hl
  exact va_gets (own := Γ.1.cls) (C := "ShameAngles$Route") (ref := "ShameAngles$Route") F.1 F.2.1 F.2.2.2.2.2.2.2.2.1.2.2.1.2.1.1 hS F.2.2.2.2.2.1 (F.2.2.2.2.2.2.2.1 _ (by rw [hg]; exact bg_m3 (List.mem_of_getElem? (i := 157) (by decide +kernel)) (by decide +kernel))) (fun _ h => h) hd (k H locs la hS hP hl)
theorem g_tab_GREATEST {κ : Kx} {Γ : Gm} {d mc ms : Nat} {μ : MX} {Z : State → Prop} {kc ks pc nx : Nat} {ls : List (Option Value)} {st : List Value} {P : Heap → Prop} {x : Int} (F : Fx κ Γ d mc ms μ) (hd : AT 1 Γ.2.1 pc .iaload nx) (hx : 0 ≤ x ∧ x < 6) (k : GC κ μ Z kc ks nx ls (vi (tabv 1 x.toNat) :: st) P) : GC κ μ Z kc ks pc ls (vi x :: .ref (kt κ 1) :: st) P := by
  obtain ⟨hd, rfl⟩ := hd
  intro H locs la hS hP hl
  obtain ⟨g1, g2⟩ := vin (n := 6) hx.1 hx.2 (by decide)
  refine va_ti F.1 F.2.1 F.2.2.2.2.2.2.2.2.1.2.2.1.2.1.2 hS g1 ?_ hd (k H locs la hS hP hl)
  rw [show (Int32.ofInt x).toNatClampNeg = x.toNat by omega]
theorem g_aald_6 {κ : Kx} {Γ : Gm} {d mc ms : Nat} {μ : MX} {Z : State → Prop} {kc ks pc nx : Nat} {ls : List (Option Value)} {st : List Value} {m : Mem} {x : Int} {j : Nat} (F : Fx κ Γ d mc ms μ) (hd : AT 1 Γ.2.1 pc .aaload nx) (hx : x = j ∧ j < 5) (k : GC κ μ Z kc ks nx ls (.ref (ad κ 2 (j + 4)) :: st) (World κ m)) : GC κ μ Z kc ks pc ls (vi x :: .ref (aa κ 6 0 1) :: st) (World κ m) := by
  obtain ⟨hd, rfl⟩ := hd
  intro H locs la hS hP hl
  have ha := wl_arr (κ := κ) (m := m) (c := 6) (i := 0) (j := 1) (by decide) (by decide)
  obtain ⟨g1, g2⟩ := vin (x := x) (n := 5) (by omega) (by omega) (by decide)
  refine va_aldq (D := kD κ) (cl := classes) F.1 F.2.1 F.2.2.2.2.2.2.2.2.1.1 hP (ao 6 0 1) 3 ha rfl g1 hd ?_
  rw [show (Int32.ofInt x).toNatClampNeg = j by omega]
  exact k H locs la hS hP hl
theorem sail_ok {D : Int} {S : Rc} (h : okS D S) (set r : Int) : okS (D + 1) (sailS S set r) := by
  obtain ⟨h0, h1, h2, h3, h4, h5, hfg, hkd, hsh, hgl⟩ := h
  refine ⟨?_, ?_, h2, ?_, h4, h5, hfg, hkd, ?_, hgl⟩
  · show 0 ≤ (S.1 0 + S.1 2 + errS S set r) % 100 ∧ (S.1 0 + S.1 2 + errS S set r) % 100 < 100
    omega
  · show 0 ≤ (S.1 1 + S.1 2) % 100 ∧ (S.1 1 + S.1 2) % 100 < 100
    omega
  · show 0 ≤ S.1 3 + 1 ∧ S.1 3 + 1 ≤ D + 1
    omega
  · intro k hk
    show 0 ≤ (if fogB S then S.2 2 else shN S set (S.1 4).toNat) k ∧ (if fogB S then S.2 2 else shN S set (S.1 4).toNat) k ≤ 90
    have := hsh k hk
    split
    · exact this
    · unfold shN
      split
      · split <;> omega
      · exact this
def mayO (S : Rc) (l c r : Int) : Bool := decide ((c - S.1 0 - l * S.1 2 - l * tabv 0 (S.2 3 r).toNat) % 100 ≤ l * (tabv 1 (S.2 3 r).toNat - tabv 0 (S.2 3 r).toNat))
def setO (n : Nat) : Int := if n = 0 then 0 else 2 ^ (n - 1)
def arF (g : Nat → Option (List Int)) : Nat → Option (List Int)
  | 0 => none
  | n + 1 => (arF g n).or ((g n).map (fun l => ((n : Int) - 1) :: l))
def arQ (c r : Int) : Nat → Rc → Option (List Int)
  | 0, S => if S.1 0 = c then some [] else none
  | l + 1, S => if mayO S (l + 1) c r = true then arF (fun n => arQ c r l (sailS S (setO n) r)) ((S.1 4).toNat + 1) else none
theorem tab_dec : ∀ n : Nat, n < 6 → ∀ k : Nat, k < 2 → -9 ≤ tabv k n ∧ tabv k n ≤ 5 := by decide
theorem arF_none {g : Nat → Option (List Int)} {a : Nat} (h : arF g a ≠ none) : ∀ b : Nat, arF g (a + b) = arF g a
  | 0 => rfl
  | b + 1 => by
    have ih := arF_none h b
    show (arF g (a + b)).or _ = _
    rw [ih]
    cases e : arF g a with
    | none => exact absurd e h
    | some x => rfl
/-- what the search leaves as it is -/
def FR (p : Nat) (m m' : Mem) : Prop := ∀ c i : Nat, c ≠ 6 → ¬ (c = 2 ∧ p + 4 < i) → m' c i = m c i
theorem FR.rfl {p : Nat} {m : Mem} : FR p m m := fun _ _ _ _ => Eq.refl _
theorem FR.trans {p q : Nat} {m m1 m2 : Mem} (h : FR p m m1) (hq : p ≤ q) (h2 : FR q m1 m2) : FR p m m2 := fun c i hc hi => (h2 c i hc (fun e => hi ⟨e.1, by omega⟩)).trans (h c i hc hi)
set_option maxHeartbeats 1000000 in
theorem sp_O_mayArrive {κ : Kx} {Q : Option Value → (Heap → Prop) → Prop} {i : Nat} {m : Mem} {D : Int} (hi : i < 9) (hS : okS D (m 2 i)) (hD : D ≤ 100000) {l c r : Int} (hl : 0 ≤ l ∧ l ≤ 5) (hc : 0 ≤ c ∧ c < 100) (hr : 0 ≤ r ∧ r < (m 2 i).1 5) (k1 : mayO (m 2 i) l c r = true → Q (some (vi 1)) (World κ m)) (k0 : mayO (m 2 i) l c r = false → Q (some (vi 0)) (World κ m)) : GG κ G_O_mayArrive 1 0 0 [.ref (ad κ 2 i), vi l, vi c, vi r] (World κ m) Q := by
  obtain ⟨h0, h1, h2, h3, h4, h5, hfg, hkd, hsh, hgl⟩ := id hS
  have hgr := hgl r (by omega)
  have ht0 := tab_dec (Int.toNat ((m 2 i).2 3 r)) (by omega) 0 (by decide)
  have ht1 := tab_dec (Int.toNat ((m 2 i).2 3 r)) (by omega) 1 (by decide)
  have hl1 : 0 ≤ l * (m 2 i).1 2 ∧ l * (m 2 i).1 2 ≤ 5 * 9 := ⟨Int.mul_nonneg (by omega) (by omega), Int.mul_le_mul (by omega) (by omega) (by omega) (by omega)⟩
  have hl2 : -45 ≤ l * tabv 0 (Int.toNat ((m 2 i).2 3 r)) ∧ l * tabv 0 (Int.toNat ((m 2 i).2 3 r)) ≤ 45 := by
    rcases (show l = 0 ∨ l = 1 ∨ l = 2 ∨ l = 3 ∨ l = 4 ∨ l = 5 by omega) with rfl | rfl | rfl | rfl | rfl | rfl <;> omega
  have hl3 : -100 ≤ l * (tabv 1 (Int.toNat ((m 2 i).2 3 r)) - tabv 0 (Int.toNat ((m 2 i).2 3 r))) ∧ l * (tabv 1 (Int.toNat ((m 2 i).2 3 r)) - tabv 0 (Int.toNat ((m 2 i).2 3 r))) ≤ 100 := by
    rcases (show l = 0 ∨ l = 1 ∨ l = 2 ∨ l = 3 ∨ l = 4 ∨ l = 5 by omega) with rfl | rfl | rfl | rfl | rfl | rfl <;> omega
  refine GG.intro (ls := [some _, some _, some _, some _, none, none, none]) (Nat.le_of_ble_eq_true rfl) rfl (fun μ F => ?_)
  refine g_aload_n F a_O_mayArrive_0 rfl ?_
  refine g_iload_n F a_O_mayArrive_1 rfl ?_
  refine g_v1 F a_O_mayArrive_2 vc_O_53 mk_H_hasReader (ob_2 (by first | assumption | decide | omega)) ck_2.1 rfl rfl (by decide) ⟨Nat.le_refl _, Nat.le_refl _⟩ rfl (Nat.le_of_ble_eq_true rfl) (sp_H_hasReader hi hS hD (by omega) (fun c2 => GCr.v ?_) (fun c2 => GCr.v ?_))
  · refine g_ifne1 F a_O_mayArrive_5 ?_
    refine g_aload_n F a_O_mayArrive_10 rfl ?_
    refine g_get_2_9 F a_O_mayArrive_11 fl_O_57 (by first | assumption | decide | omega) ?_
    refine g_iload_n F a_O_mayArrive_14 rfl ?_
    refine g_ild_2_3 F a_O_mayArrive_15 (by first | assumption | decide | omega) (by omega) ?_
    refine g_istore (ls' := [_, _, _, _, _, _, _]) F a_O_mayArrive_16 rfl rfl rfl ?_
    refine g_iload F a_O_mayArrive_18 rfl ?_
    refine g_if_lt F (by omega) a_O_mayArrive_20 (fun h20 => ?_) (fun h20 => ?_)
    · exfalso; omega
    · refine g_iload F a_O_mayArrive_23 rfl ?_
      refine g_iconst F a_O_mayArrive_25 ?_
      refine g_icmp_le F (by omega) (by omega) a_O_mayArrive_26 (fun h26 => ?_) (fun h26 => ?_)
      · refine g_iload_n F a_O_mayArrive_31 rfl ?_
        refine g_aload_n F a_O_mayArrive_32 rfl ?_
        refine g_get_2_0 F a_O_mayArrive_33 fl_O_22 (by first | assumption | decide | omega) ?_
        refine g_isub F a_O_mayArrive_36 ?_
        refine g_iload_n F a_O_mayArrive_37 rfl ?_
        refine g_aload_n F a_O_mayArrive_38 rfl ?_
        refine g_get_2_2 F a_O_mayArrive_39 fl_O_60 (by first | assumption | decide | omega) ?_
        refine g_imul F a_O_mayArrive_42 ?_
        refine g_isub F a_O_mayArrive_43 ?_
        refine g_istore (ls' := [_, _, _, _, _, _, _]) F a_O_mayArrive_44 rfl rfl rfl ?_
        refine g_iload F a_O_mayArrive_46 rfl ?_
        refine g_iload_n F a_O_mayArrive_48 rfl ?_
        refine g_getS_LEAST F a_O_mayArrive_49 rfl ?_
        refine g_iload F a_O_mayArrive_52 rfl ?_
        refine g_tab_LEAST F a_O_mayArrive_54 (by omega) ?_
        refine g_imul F a_O_mayArrive_55 ?_
        refine g_isub F a_O_mayArrive_56 ?_
        refine g_bipush F a_O_mayArrive_57 (by decide) ?_
        refine g_s2 F a_O_mayArrive_59 sc_O_66 mk_J_floorMod rfl (by decide) ⟨Nat.le_refl _, Nat.le_refl _⟩ rfl (Nat.le_of_ble_eq_true rfl) (sp_J_floorMod (by omega) rfl (GCr.v ?_))
        refine g_istore (ls' := [_, _, _, _, _, _, _]) F a_O_mayArrive_62 rfl rfl rfl ?_
        refine g_iload F a_O_mayArrive_64 rfl ?_
        refine g_iload_n F a_O_mayArrive_66 rfl ?_
        refine g_getS_GREATEST F a_O_mayArrive_67 rfl ?_
        refine g_iload F a_O_mayArrive_70 rfl ?_
        refine g_tab_GREATEST F a_O_mayArrive_72 (by omega) ?_
        refine g_getS_LEAST F a_O_mayArrive_73 rfl ?_
        refine g_iload F a_O_mayArrive_76 rfl ?_
        refine g_tab_LEAST F a_O_mayArrive_78 (by omega) ?_
        refine g_isub F a_O_mayArrive_79 ?_
        refine g_imul F a_O_mayArrive_80 ?_
        refine g_icmp_gt F (by omega) (by omega) a_O_mayArrive_81 (fun h81 => ?_) (fun h81 => ?_)
        · refine g_iconst F a_O_mayArrive_88 ?_
          refine g_zret F a_O_mayArrive_89 rfl rfl ⟨Nat.le_refl _, Nat.le_refl _⟩ ?_
          exact k0 (by unfold mayO; rw [decide_eq_false_iff_not]; omega)
        · refine g_iconst F a_O_mayArrive_84 ?_
          refine g_goto F a_O_mayArrive_85 ?_
          refine g_zret F a_O_mayArrive_89 rfl rfl ⟨Nat.le_refl _, Nat.le_refl _⟩ ?_
          exact k1 (by unfold mayO; rw [decide_eq_true_iff]; omega)
      · exfalso; omega
  · refine g_ifne0 F a_O_mayArrive_5 ?_
    exact absurd hr c2
theorem FR_row {p : Nat} {m : Mem} {R : Rc} : FR p m (mset m 6 0 R) := fun c i hc _ => by rw [mset_app, if_neg (fun e => hc e.1)]
theorem FR_leg {p : Nat} {m : Mem} {R : Rc} : FR p m (mset m 2 (p + 1 + 4) R) := fun c i _ hi => by
  rw [mset_app, if_neg]
  intro e
  exact hi ⟨e.1, by omega⟩
def rowIs (m : Mem) (p l : Nat) (ps : List Int) : Prop := ∀ n : Nat, n < l → (m 6 0).2 0 ((p : Int) + n) = ps.getD n 0
theorem rowIs_cons {m : Mem} {p l : Nat} {ps : List Int} {x : Int} (h : rowIs m (p + 1) l ps) : rowIs (mset m 6 0 ((m 6 0).1, aup (m 6 0).2 0 (gup ((m 6 0).2 0) p x))) p (l + 1) (x :: ps) := by
  intro n hn
  rw [mset_app, if_pos ⟨rfl, rfl⟩]
  show gup ((m 6 0).2 0) p x _ = _
  unfold gup
  cases n with
  | zero => rw [if_pos (by omega)]; rfl
  | succ n =>
    rw [if_neg (by omega)]
    have := h n (by omega)
    rw [show ((p : Int) + ((n + 1 : Nat) : Int)) = (((p + 1 : Nat) : Int) + (n : Int)) by omega, this]
    rfl
def arS (κ : Kx) (c r : Int) (l : Nat) : Prop := ∀ (Q : Option Value → (Heap → Prop) → Prop) (m : Mem) (p : Nat) (D : Int), okS D (m 2 (p + 4)) → D + l ≤ 100000 → p + l ≤ 5 → 1 ≤ l → 0 ≤ r ∧ r < (m 2 (p + 4)).1 5 →
  (∀ (m' : Mem) (ps : List Int), FR p m m' → arQ c r l (m 2 (p + 4)) = some ps → rowIs m' p l ps → Q (some (vi 1)) (World κ m')) → (∀ m' : Mem, FR p m m' → arQ c r l (m 2 (p + 4)) = none → Q (some (vi 0)) (World κ m')) → GG κ G_O_arrives (l + 8) 0 0 [.ref (ad κ 6 0), vi p, vi l, vi c, vi r] (World κ m) Q
theorem setO_r {n : Nat} (h : n ≤ 6) : 0 ≤ setO n ∧ setO n < 64 := by
  have : ∀ n : Nat, n < 7 → 0 ≤ setO n ∧ setO n < 64 := by decide +kernel
  exact this n (by omega)
theorem arF_hit {g : Nat → Option (List Int)} {n : Nat} {ps : List Int} (h : arF g n = none) (hg : g n = some ps) : arF g (n + 1) = some (((n : Int) - 1) :: ps) := by
  show (arF g n).or ((g n).map _) = _
  rw [h, hg]
  rfl
theorem arF_miss {g : Nat → Option (List Int)} {n : Nat} (h : arF g n = none) (hg : g n = none) : arF g (n + 1) = none := by
  show (arF g n).or ((g n).map _) = _
  rw [h, hg]
  rfl
set_option maxHeartbeats 2000000 in
theorem tl_O {κ : Kx} {Q : Option Value → (Heap → Prop) → Prop} {μ : MX} {m m1 : Mem} {D : Int} {p l j : Nat} {c r x : Int} (hIH : 1 ≤ l → arS κ c r l) (hS : okS D (m 2 (p + 4))) (hD : D + (l + 1) ≤ 100000) (hpl : p + (l + 1) ≤ 5) (hr : 0 ≤ r ∧ r < (m 2 (p + 4)).1 5) (hc : 0 ≤ c ∧ c < 100) (hx : x = (j : Int) - 1) (hj : (j : Int) ≤ (m 2 (p + 4)).1 4) (hF : FR p m m1) (hnone : arF (fun n => arQ c r l (sailS (m 2 (p + 4)) (setO n) r)) j = none) (k1 : ∀ (m2 : Mem) (ps : List Int), FR p m m2 → arF (fun n => arQ c r l (sailS (m 2 (p + 4)) (setO n) r)) (j + 1) = some ps → rowIs m2 p (l + 1) ps → Q (some (vi 1)) (World κ m2)) (kn : ∀ m2 : Mem, FR p m m2 → arF (fun n => arQ c r l (sailS (m 2 (p + 4)) (setO n) r)) (j + 1) = none → GC κ μ (ZZ κ μ 0 0 Q) 0 0 43 [some (.ref (ad κ 6 0)), some (vi p), some (vi ((l + 1 : Nat) : Int)), some (vi c), some (vi r), some (.ref (ad κ 2 (p + 4))), some (vi (x + 1)), none, none] [] (World κ m2)) (F : Fx κ G_O_arrives (l + 1 + 8) 0 0 μ)  : GC κ μ (ZZ κ μ 0 0 Q) 0 0 67 [some (.ref (ad κ 6 0)), some (vi p), some (vi ((l + 1 : Nat) : Int)), some (vi c), some (vi r), some (.ref (ad κ 2 (p + 4))), some (vi x), none, none] [vi (setO j)] (World κ m1) := by
  have hm1 : m1 2 (p + 4) = m 2 (p + 4) := hF 2 (p + 4) (by decide) (by omega)
  have hpp : ¬ p + 4 = p + 1 + 4 := by omega
  have hS1 : okS D (m1 2 (p + 4)) := by rw [hm1]; exact hS
  obtain ⟨h0, h1, h2, h3, h4, h5, hfg, hkd, hsh, hgl⟩ := id hS
  have hset := setO_r (n := j) (by omega)
  have her := errS_r hS (setO j) r
  refine g_istore (ls' := [_, _, _, _, _, _, _, _, _]) F a_O_arrives_67 rfl rfl rfl ?_
  refine g_iload_n F a_O_arrives_69 rfl ?_
  refine g_iconst F a_O_arrives_70 ?_
  have hzz := hx
  refine g_icmp_ne F (by omega) (by omega) a_O_arrives_71 (fun h71 => ?_) (fun h71 => ?_)
  · refine g_aload_n F a_O_arrives_102 rfl ?_
    refine g_get_6_1 F a_O_arrives_103 fl_O_17 ?_
    (try simp only [mset_app, mset_mset, fup_app, aup_app, fup_fup, aup_aup, false_and, and_false, true_and, and_true, and_self, reduceIte, Nat.reduceEqDiff, reduceCtorEq, fup_10, hm1, hpp])
    refine g_iload_n F a_O_arrives_106 rfl ?_
    refine g_iconst F a_O_arrives_107 ?_
    refine g_iadd F a_O_arrives_108 ?_
    refine g_aald_6 F a_O_arrives_109 (j := p + 1) ⟨by omega, by omega⟩ ?_
    refine g_aload F a_O_arrives_110 rfl ?_
    refine g_v1 F a_O_arrives_112 vc_O_26 mk_H_copy (ob_2 (by first | assumption | decide | omega)) ck_2.1 rfl rfl (by omega) ⟨Nat.le_refl _, Nat.le_refl _⟩ rfl (Nat.le_of_ble_eq_true rfl) (sp_H_copy (by omega) (by omega) hpp (GCr.n ?_))
    (try simp only [mset_app, mset_mset, fup_app, aup_app, fup_fup, aup_aup, false_and, and_false, true_and, and_true, and_self, reduceIte, Nat.reduceEqDiff, reduceCtorEq, fup_10, hm1, hpp])
    refine g_aload_n F a_O_arrives_115 rfl ?_
    refine g_get_6_1 F a_O_arrives_116 fl_O_17 ?_
    (try simp only [mset_app, mset_mset, fup_app, aup_app, fup_fup, aup_aup, false_and, and_false, true_and, and_true, and_self, reduceIte, Nat.reduceEqDiff, reduceCtorEq, fup_10, hm1, hpp])
    refine g_iload_n F a_O_arrives_119 rfl ?_
    refine g_iconst F a_O_arrives_120 ?_
    refine g_iadd F a_O_arrives_121 ?_
    refine g_aald_6 F a_O_arrives_122 (j := p + 1) ⟨by omega, by omega⟩ ?_
    refine g_iload F a_O_arrives_123 rfl ?_
    refine g_iload F a_O_arrives_125 rfl ?_
    refine g_v2 F a_O_arrives_127 vc_O_49 mk_H_sail (ob_2 (by first | assumption | decide | omega)) ck_2.1 rfl rfl (by omega) ⟨Nat.le_refl _, Nat.le_refl _⟩ rfl (Nat.le_of_ble_eq_true rfl) (sp_H_sail (by omega) (D := D) (by rw [mset_same]; exact hS) (by omega) hset (by omega) (GCr.n ?_))
    (try simp only [mset_app, mset_mset, fup_app, aup_app, fup_fup, aup_aup, false_and, and_false, true_and, and_true, and_self, reduceIte, Nat.reduceEqDiff, reduceCtorEq, fup_10, hm1, hpp])
    refine g_aload_n F a_O_arrives_130 rfl ?_
    refine g_iload_n F a_O_arrives_131 rfl ?_
    refine g_iconst F a_O_arrives_132 ?_
    refine g_iadd F a_O_arrives_133 ?_
    rw [show ((p : Int) + 1) = ((p + 1 : Nat) : Int) by omega]
    refine g_iload_n F a_O_arrives_134 rfl ?_
    refine g_iconst F a_O_arrives_135 ?_
    refine g_isub F a_O_arrives_136 ?_
    refine g_iload_n F a_O_arrives_137 rfl ?_
    rw [show ((((l + 1 : Nat)) : Int) - 1) = (l : Int) by omega]
    refine g_iload F a_O_arrives_138 rfl ?_
    refine g_s5 F a_O_arrives_140 sc_O_30 mk_O_arrives rfl (by omega) ⟨Nat.le_refl _, Nat.le_refl _⟩ rfl (Nat.le_of_ble_eq_true rfl) (hIH (by omega) _ _ (p + 1) (D + 1) (by rw [mset_same]; exact sail_ok hS _ _) (by omega) (by omega) (by omega) (by rw [mset_same]; exact hr)  (fun m3 ps hfr hqs hrw140 => GCr.v ?_) (fun m3 hfr hqs140 => GCr.v ?_))
    · refine g_istore (ls' := [_, _, _, _, _, _, _, _, _]) F a_O_arrives_143 rfl rfl rfl ?_
      refine g_iload F a_O_arrives_145 rfl ?_
      refine g_ifeq1 F a_O_arrives_147 ?_
      refine g_aload_n F a_O_arrives_150 rfl ?_
      refine g_get_6_0 F a_O_arrives_151 fl_O_11 ?_
      (try simp only [mset_app, mset_mset, fup_app, aup_app, fup_fup, aup_aup, false_and, and_false, true_and, and_true, and_self, reduceIte, Nat.reduceEqDiff, reduceCtorEq, fup_10, hm1, hpp])
      refine g_iload_n F a_O_arrives_154 rfl ?_
      refine g_iload F a_O_arrives_155 rfl ?_
      refine g_ist_6_0 F a_O_arrives_157 (by omega) ?_
      (try simp only [mset_app, mset_mset, fup_app, aup_app, fup_fup, aup_aup, false_and, and_false, true_and, and_true, and_self, reduceIte, Nat.reduceEqDiff, reduceCtorEq, fup_10, hm1, hpp])
      refine g_iconst F a_O_arrives_158 ?_
      refine g_zret F a_O_arrives_159 rfl rfl ⟨Nat.le_refl _, Nat.le_refl _⟩ ?_
      refine k1 _ (x :: ps) (((hF.trans (Nat.le_refl _) FR_leg).trans (Nat.le_succ _) hfr).trans (Nat.le_refl _) FR_row) ?_ (rowIs_cons hrw140)
      rw [hx]
      refine arF_hit hnone ?_
      refine Eq.trans (congrArg (arQ c r l) ?_) hqs
      exact (mset_same _ _ _ _).symm
    · refine g_istore (ls' := [_, _, _, _, _, _, _, _, _]) F a_O_arrives_143 rfl rfl rfl ?_
      refine g_iload F a_O_arrives_145 rfl ?_
      refine g_ifeq0 F a_O_arrives_147 ?_
      refine g_iinc (ls' := [_, _, _, _, _, _, _, _, _]) F a_O_arrives_160 rfl rfl rfl ?_
      refine g_goto F a_O_arrives_163 ?_
      refine GC.loc2 (kn m3 ((hF.trans (Nat.le_refl _) FR_leg).trans (Nat.le_succ _) hfr) (arF_miss hnone ?_)) ⟨rfl, rfl, rfl, rfl, rfl, rfl, rfl, trivial⟩
      refine Eq.trans (congrArg (arQ c r l) ?_) hqs140
      exact (mset_same _ _ _ _).symm
  · refine g_aload F a_O_arrives_74 rfl ?_
    refine g_aload F a_O_arrives_76 rfl ?_
    refine g_iload F a_O_arrives_78 rfl ?_
    refine g_iload F a_O_arrives_80 rfl ?_
    refine g_v2 F a_O_arrives_82 vc_O_41 mk_H_errorOf (ob_2 (by first | assumption | decide | omega)) ck_2.1 rfl rfl (by omega) ⟨Nat.le_refl _, Nat.le_refl _⟩ rfl (Nat.le_of_ble_eq_true rfl) (sp_H_errorOf (m := m1) (by omega) hS1 (by omega) hset (by omega) (GCr.v ?_))
    (try simp only [mset_app, mset_mset, fup_app, aup_app, fup_fup, aup_aup, false_and, and_false, true_and, and_true, and_self, reduceIte, Nat.reduceEqDiff, reduceCtorEq, fup_10, hm1, hpp])
    refine g_v1 F a_O_arrives_85 vc_O_45 mk_H_placeBehind (ob_2 (by first | assumption | decide | omega)) ck_2.1 rfl rfl (by omega) ⟨Nat.le_refl _, Nat.le_refl _⟩ rfl (Nat.le_of_ble_eq_true rfl) (sp_H_placeBehind (m := m1) (by omega) hS1 (by omega) (by omega) (GCr.v ?_))
    (try simp only [mset_app, mset_mset, fup_app, aup_app, fup_fup, aup_aup, false_and, and_false, true_and, and_true, and_self, reduceIte, Nat.reduceEqDiff, reduceCtorEq, fup_10, hm1, hpp])
    refine g_iload_n F a_O_arrives_88 rfl ?_
    refine g_icmp_ne F (by omega) (by omega) a_O_arrives_89 (fun h89 => ?_) (fun h89 => ?_)
    · refine g_iconst F a_O_arrives_96 ?_
      refine g_istore (ls' := [_, _, _, _, _, _, _, _, _]) F a_O_arrives_97 rfl rfl rfl ?_
      refine g_goto F a_O_arrives_99 ?_
      refine g_iload F a_O_arrives_145 rfl ?_
      refine g_ifeq0 F a_O_arrives_147 ?_
      refine g_iinc (ls' := [_, _, _, _, _, _, _, _, _]) F a_O_arrives_160 rfl rfl rfl ?_
      refine g_goto F a_O_arrives_163 ?_
      refine GC.loc2 (kn m1 hF (arF_miss hnone ?_)) ⟨rfl, rfl, rfl, rfl, rfl, rfl, rfl, trivial⟩
      obtain rfl : l = 0 := by omega
      exact if_neg h89
    · refine g_iconst F a_O_arrives_92 ?_
      refine g_goto F a_O_arrives_93 ?_
      refine g_istore (ls' := [_, _, _, _, _, _, _, _, _]) F a_O_arrives_97 rfl rfl rfl ?_
      refine g_goto F a_O_arrives_99 ?_
      refine g_iload F a_O_arrives_145 rfl ?_
      refine g_ifeq1 F a_O_arrives_147 ?_
      refine g_aload_n F a_O_arrives_150 rfl ?_
      refine g_get_6_0 F a_O_arrives_151 fl_O_11 ?_
      (try simp only [mset_app, mset_mset, fup_app, aup_app, fup_fup, aup_aup, false_and, and_false, true_and, and_true, and_self, reduceIte, Nat.reduceEqDiff, reduceCtorEq, fup_10, hm1, hpp])
      refine g_iload_n F a_O_arrives_154 rfl ?_
      refine g_iload F a_O_arrives_155 rfl ?_
      refine g_ist_6_0 F a_O_arrives_157 (by omega) ?_
      (try simp only [mset_app, mset_mset, fup_app, aup_app, fup_fup, aup_aup, false_and, and_false, true_and, and_true, and_self, reduceIte, Nat.reduceEqDiff, reduceCtorEq, fup_10, hm1, hpp])
      refine g_iconst F a_O_arrives_158 ?_
      refine g_zret F a_O_arrives_159 rfl rfl ⟨Nat.le_refl _, Nat.le_refl _⟩ ?_
      obtain rfl : l = 0 := by omega
      refine k1 _ (x :: []) (hF.trans (Nat.le_refl _) FR_row) ?_ (rowIs_cons (fun n hn => absurd hn (Nat.not_lt_zero n)))
      rw [hx]
      exact arF_hit hnone (if_pos h89)
set_option maxHeartbeats 2000000 in
theorem lp_O {κ : Kx} {μ : MX} {Q : Option Value → (Heap → Prop) → Prop} {m : Mem} {D : Int} {p l : Nat} {c r : Int} (hIH : 1 ≤ l → arS κ c r l) (hS : okS D (m 2 (p + 4))) (hD : D + (l + 1) ≤ 100000) (hpl : p + (l + 1) ≤ 5) (hr : 0 ≤ r ∧ r < (m 2 (p + 4)).1 5) (hc : 0 ≤ c ∧ c < 100) (k1 : ∀ (m2 : Mem) (ps : List Int), FR p m m2 → arF (fun n => arQ c r l (sailS (m 2 (p + 4)) (setO n) r)) ((m 2 (p + 4)).1 4 + 1).toNat = some ps → rowIs m2 p (l + 1) ps → Q (some (vi 1)) (World κ m2)) (k0 : ∀ m2 : Mem, FR p m m2 → arF (fun n => arQ c r l (sailS (m 2 (p + 4)) (setO n) r)) ((m 2 (p + 4)).1 4 + 1).toNat = none → Q (some (vi 0)) (World κ m2)) (F : Fx κ G_O_arrives (l + 1 + 8) 0 0 μ) :
    ∀ (n : Nat) (j : Nat) (x : Int) (m1 : Mem), (m 2 (p + 4)).1 4 + 1 < j + n → (j : Int) ≤ (m 2 (p + 4)).1 4 + 1 → x = (j : Int) - 1 → FR p m m1 → arF (fun n => arQ c r l (sailS (m 2 (p + 4)) (setO n) r)) j = none →  GC κ μ (ZZ κ μ 0 0 Q) 0 0 43 [some (.ref (ad κ 6 0)), some (vi p), some (vi ((l + 1 : Nat) : Int)), some (vi c), some (vi r), some (.ref (ad κ 2 (p + 4))), some (vi x), none, none] [] (World κ m1) := by
  obtain ⟨h0, h1, h2, h3, h4, h5, hfg, hkd, hsh, hgl⟩ := id hS
  intro n
  induction n with
  | zero =>
    intro j x m1 hn hj hx hF1 hnone
    exact absurd hn (by omega)
  | succ n ih =>
    intro j x m1 hn hj hx hF1 hnone
    have hm1 : m1 2 (p + 4) = m 2 (p + 4) := hF1 2 (p + 4) (by decide) (by omega)
    refine g_iload F a_O_arrives_43 rfl ?_
    refine g_aload F a_O_arrives_45 rfl ?_
    refine g_get_2_4 F a_O_arrives_47 fl_O_38 (by first | assumption | decide | omega) ?_
    (try simp only [mset_app, mset_mset, fup_app, aup_app, fup_fup, aup_aup, false_and, and_false, true_and, and_true, and_self, reduceIte, Nat.reduceEqDiff, reduceCtorEq, fup_10, hm1])
    refine g_icmp_ge F (by omega) (by omega) a_O_arrives_50 (fun h50 => ?_) (fun h50 => ?_)
    · refine g_iconst F a_O_arrives_166 ?_
      refine g_zret F a_O_arrives_167 rfl rfl ⟨Nat.le_refl _, Nat.le_refl _⟩ ?_
      exact k0 m1 hF1 (by rw [show ((m 2 (p + 4)).1 4 + 1).toNat = j by omega]; exact hnone)
    · refine g_iload F a_O_arrives_53 rfl ?_
      refine g_iconst F a_O_arrives_55 ?_
      refine g_icmp_ne F (by omega) (by omega) a_O_arrives_56 (fun h56 => ?_) (fun h56 => ?_)
      · refine g_iconst F a_O_arrives_63 ?_
        refine g_iload F a_O_arrives_64 rfl ?_
        refine g_ishl F a_O_arrives_66 ?_
        have hset : bShl 1 x = setO j := by
          rw [shl_eq (by omega)]
          unfold setO
          rw [if_neg (by omega), show x.toNat = j - 1 by omega]
        rw [hset]
        exact tl_O hIH hS hD hpl hr hc hx (by omega) hF1 hnone (fun m2 ps hf ha hw => k1 m2 ps hf (by
          obtain ⟨d, hd⟩ : ∃ d : Nat, ((m 2 (p + 4)).1 4 + 1).toNat = (j + 1) + d := ⟨((m 2 (p + 4)).1 4 + 1).toNat - (j + 1), by omega⟩
          rw [hd, arF_none (by rw [ha]; exact fun e => by cases e) d]
          exact ha) hw) (fun m2 hf ha => ih (j + 1) _ m2 (by omega) (by omega) (by omega) hf ha) F
      · refine g_iconst F a_O_arrives_59 ?_
        refine g_goto F a_O_arrives_60 ?_
        obtain rfl : j = 0 := by omega
        exact tl_O hIH hS hD hpl hr hc hx (by omega) hF1 hnone (fun m2 ps hf ha hw => k1 m2 ps hf (by
          obtain ⟨d, hd⟩ : ∃ d : Nat, ((m 2 (p + 4)).1 4 + 1).toNat = (0 + 1) + d := ⟨((m 2 (p + 4)).1 4 + 1).toNat - (0 + 1), by omega⟩
          rw [hd, arF_none (by rw [ha]; exact fun e => by cases e) d]
          exact ha) hw) (fun m2 hf ha => ih (0 + 1) _ m2 (by omega) (by omega) (by omega) hf ha) F
theorem ar_ok {κ : Kx} {c r : Int} (hc : 0 ≤ c ∧ c < 100) : ∀ l : Nat, 1 ≤ l → arS κ c r l
  | 0 => fun h => absurd h (by omega)
  | l + 1 => by
    intro _ Q m p D hS hD hpl _ hr k1 k0
    obtain ⟨h0, h1, h2, h3, h4, h5, hfg, hkd, hsh, hgl⟩ := id hS
    have et : ((m 2 (p + 4)).1 4 + 1).toNat = ((m 2 (p + 4)).1 4).toNat + 1 := by omega
    refine GG.intro (ls := [some _, some _, some _, some _, some _, none, none, none, none]) (Nat.le_of_ble_eq_true rfl) rfl (fun μ F => ?_)
    refine g_iload_n F a_O_arrives_0 rfl ?_
    refine g_if_lt F (by omega) a_O_arrives_1 (fun h1 => ?_) (fun h1 => ?_)
    · exfalso; omega
    · refine g_iload_n F a_O_arrives_4 rfl ?_
      refine g_iconst F a_O_arrives_5 ?_
      refine g_icmp_lt F (by omega) (by omega) a_O_arrives_6 (fun h6 => ?_) (fun h6 => ?_)
      · exfalso; omega
      · refine g_iload_n F a_O_arrives_9 rfl ?_
        refine g_iload_n F a_O_arrives_10 rfl ?_
        refine g_iadd F a_O_arrives_11 ?_
        refine g_iconst F a_O_arrives_12 ?_
        refine g_icmp_le F (by omega) (by omega) a_O_arrives_13 (fun h13 => ?_) (fun h13 => ?_)
        · refine g_aload_n F a_O_arrives_18 rfl ?_
          refine g_get_6_1 F a_O_arrives_19 fl_O_17 ?_
          refine g_iload_n F a_O_arrives_22 rfl ?_
          refine g_aald_6 F a_O_arrives_23 (j := p) ⟨rfl, by omega⟩ ?_
          refine g_astore (ls' := [_, _, _, _, _, _, _, _, _]) F a_O_arrives_24 rfl rfl rfl ?_
          refine g_aload F a_O_arrives_26 rfl ?_
          refine g_iload_n F a_O_arrives_28 rfl ?_
          refine g_iload_n F a_O_arrives_29 rfl ?_
          refine g_iload F a_O_arrives_30 rfl ?_
          refine g_s4 F a_O_arrives_32 sc_O_34 mk_O_mayArrive rfl (by omega) ⟨Nat.le_refl _, Nat.le_refl _⟩ rfl (Nat.le_of_ble_eq_true rfl) (sp_O_mayArrive (by omega) hS (by omega) (by omega) hc hr (fun c32 => GCr.v ?_) (fun c32 => GCr.v ?_))
          · refine g_ifne1 F a_O_arrives_35 ?_
            refine g_iconst F a_O_arrives_40 ?_
            refine g_istore (ls' := [_, _, _, _, _, _, _, _, _]) F a_O_arrives_41 rfl rfl rfl ?_
            refine GC.loc2 (lp_O (ar_ok hc l) hS (by omega) hpl hr hc (fun m2 ps hf ha hw => k1 m2 ps hf ?_ hw) (fun m2 hf ha => k0 m2 hf ?_) F 9 0 _ m (by omega) (by omega) rfl FR.rfl rfl) ⟨rfl, rfl, rfl, rfl, rfl, rfl, rfl, trivial⟩
            · unfold arQ
              rw [if_pos (by rw [show ((l : Int) + 1) = ((l + 1 : Nat) : Int) by omega]; exact c32), ← et]
              exact ha
            · unfold arQ
              rw [if_pos (by rw [show ((l : Int) + 1) = ((l + 1 : Nat) : Int) by omega]; exact c32), ← et]
              exact ha
          · refine g_ifne0 F a_O_arrives_35 ?_
            refine g_iconst F a_O_arrives_38 ?_
            refine g_zret F a_O_arrives_39 rfl rfl ⟨Nat.le_refl _, Nat.le_refl _⟩ ?_
            exact k0 m FR.rfl (by unfold arQ; rw [if_neg (by rw [show ((l : Int) + 1) = ((l + 1 : Nat) : Int) by omega, c32]; decide)])
        · exfalso; omega
/-- the soonest row: how many noons, and whom -/
def fwN (c r : Int) (S : Rc) : Nat → Option (Nat × List Int)
  | 0 => none
  | n + 1 => (fwN c r S n).or ((arQ c r (n + 1) S).map (fun ps => (n + 1, ps)))
theorem fwN_more {c r : Int} {S : Rc} {a : Nat} (h : fwN c r S a ≠ none) : ∀ b : Nat, fwN c r S (a + b) = fwN c r S a
  | 0 => rfl
  | b + 1 => by
    have ih := fwN_more h b
    show (fwN c r S (a + b)).or _ = _
    rw [ih]
    cases e : fwN c r S a with
    | none => exact absurd e h
    | some x => rfl
def rtS (c r : Int) (S : Rc) : Option (Nat × List Int) := if S.1 0 = c then some (0, []) else fwN c r S 5
def rtI : Option (Nat × List Int) → Int
  | none => -1
  | some q => q.1
def FR0 (m m' : Mem) : Prop := ∀ c i : Nat, c ≠ 6 → ¬ (c = 2 ∧ 3 < i) → m' c i = m c i
theorem FR0_of {m m' : Mem} {R : Rc} (h : FR 0 (mset m 2 4 R) m') : FR0 m m' := fun c i hc hi => (h c i hc (fun e => hi ⟨e.1, by omega⟩)).trans (by rw [mset_app, if_neg (fun e => hi ⟨e.1, by omega⟩)])
theorem FR0.rfl {m : Mem} : FR0 m m := fun _ _ _ _ => Eq.refl _
set_option maxHeartbeats 2000000 in
theorem lp_Of {κ : Kx} {μ : MX} {Q : Option Value → (Heap → Prop) → Prop} {i : Nat} {m : Mem} {D : Int} (hi : i < 4) (hS : okS D (m 2 i)) (hD : D + 5 ≤ 100000) {c r : Int} (hc : 0 ≤ c ∧ c < 100) (hr : 0 ≤ r ∧ r < (m 2 i).1 5) (k : ∀ m2 : Mem, FR0 m m2 → (∀ q : Nat × List Int, rtS c r (m 2 i) = some q → rowIs m2 0 q.1 q.2) → Q (some (vi (rtI (rtS c r (m 2 i))))) (World κ m2)) (hne : ¬ (m 2 i).1 0 = c) (F : Fx κ G_O_fewestNoons 20 0 0 μ) :
    ∀ (n : Nat) (j : Nat) (x : Int) (m1 : Mem), 5 < j + n → j ≤ 5 → x = ((j + 1 : Nat) : Int) → FR 0 (mset m 2 4 (m 2 i)) m1 → fwN c r (m 2 i) j = none →  GC κ μ (ZZ κ μ 0 0 Q) 0 0 23 [some (.ref (ad κ 6 0)), some (.ref (ad κ 2 i)), some (vi c), some (vi r), some (vi x)] [] (World κ m1) := by
  intro n
  induction n with
  | zero =>
    intro j x m1 hn hj hx hF1 hnone
    exact absurd hn (by omega)
  | succ n ih =>
    intro j x m1 hn hj hx hF1 hnone
    have hm4 : m1 2 (0 + 4) = m 2 i := (hF1 2 4 (by decide) (by omega)).trans (mset_same _ _ _ _)
    refine g_iload F a_O_fewestNoons_23 rfl ?_
    refine g_iconst F a_O_fewestNoons_25 ?_
    refine g_icmp_gt F (by omega) (by omega) a_O_fewestNoons_26 (fun h26 => ?_) (fun h26 => ?_)
    · refine g_iconst F a_O_fewestNoons_50 ?_
      refine g_iret F a_O_fewestNoons_51 rfl ⟨Nat.le_refl _, Nat.le_refl _⟩ ?_
      have e : rtS c r (m 2 i) = none := by
        unfold rtS
        rw [if_neg hne, show 5 = j by omega]
        exact hnone
      refine qv (k m1 (FR0_of hF1) (fun q hq => by rw [e] at hq; cases hq)) ?_
      rw [e]
      rfl
    · subst hx
      refine g_aload_n F a_O_fewestNoons_29 rfl ?_
      refine g_iconst F a_O_fewestNoons_30 ?_
      refine g_iload F a_O_fewestNoons_31 rfl ?_
      refine g_iload_n F a_O_fewestNoons_33 rfl ?_
      refine g_iload_n F a_O_fewestNoons_34 rfl ?_
      refine g_s5 F a_O_fewestNoons_35 sc_O_30 mk_O_arrives rfl (by omega) ⟨Nat.le_refl _, Nat.le_refl _⟩ rfl (Nat.le_of_ble_eq_true rfl) (ar_ok hc (j + 1) (by omega) _ m1 0 D (by rw [hm4]; exact hS) (by omega) (by omega) (by omega) (by rw [hm4]; exact hr)  (fun m3 ps hfr hqs hrw35 => GCr.v ?_) (fun m3 hfr hqs35 => GCr.v ?_))
      · refine g_ifeq1 F a_O_fewestNoons_38 ?_
        refine g_iload F a_O_fewestNoons_41 rfl ?_
        refine g_iret F a_O_fewestNoons_43 rfl ⟨Nat.le_refl _, Nat.le_refl _⟩ ?_
        rw [hm4] at hqs
        have e1 : fwN c r (m 2 i) (j + 1) = some (j + 1, ps) := by
          show (fwN c r (m 2 i) j).or ((arQ c r (j + 1) (m 2 i)).map _) = _
          rw [hnone, hqs]
          rfl
        have e : rtS c r (m 2 i) = some (j + 1, ps) := by
          unfold rtS
          obtain ⟨d, hd⟩ : ∃ d : Nat, 5 = (j + 1) + d := ⟨5 - (j + 1), by omega⟩
          rw [if_neg hne, hd, fwN_more (by rw [e1]; exact fun q => by cases q) d, e1]
        refine qv (k m3 (FR0_of (hF1.trans (Nat.le_refl _) hfr)) (fun q hq => ?_)) ?_
        · rw [e] at hq
          cases hq
          exact hrw35
        · rw [e]
          rfl
      · refine g_ifeq0 F a_O_fewestNoons_38 ?_
        refine g_iinc (ls' := [_, _, _, _, _]) F a_O_fewestNoons_44 rfl rfl rfl ?_
        refine g_goto F a_O_fewestNoons_47 ?_
        refine GC.loc2 (ih (j + 1) _ m3 (by omega) (by omega) (by omega) (hF1.trans (Nat.le_refl _) hfr) ?_) ⟨rfl, rfl, rfl, rfl, rfl, trivial⟩
        show (fwN c r (m 2 i) j).or _ = none
        rw [hnone]
        rw [hm4] at hqs35
        rw [hqs35]
        rfl
set_option maxHeartbeats 1000000 in
theorem sp_O_fewestNoons {κ : Kx} {Q : Option Value → (Heap → Prop) → Prop} {i : Nat} {m : Mem} {D : Int} (hi : i < 4) (hS : okS D (m 2 i)) (hD : D + 5 ≤ 100000) {c r : Int} (hc : 0 ≤ c ∧ c < 100) (hr : 0 ≤ r ∧ r < (m 2 i).1 5) (k : ∀ m2 : Mem, FR0 m m2 → (∀ q : Nat × List Int, rtS c r (m 2 i) = some q → rowIs m2 0 q.1 q.2) → Q (some (vi (rtI (rtS c r (m 2 i))))) (World κ m2)) : GG κ G_O_fewestNoons 20 0 0 [.ref (ad κ 6 0), .ref (ad κ 2 i), vi c, vi r] (World κ m) Q := by
  obtain ⟨h0, h1, h2, h3, h4, h55, hfg, hkd, hsh, hgl⟩ := id hS
  refine GG.intro (ls := [some _, some _, some _, some _, none]) (Nat.le_of_ble_eq_true rfl) rfl (fun μ F => ?_)
  refine g_aload_n F a_O_fewestNoons_0 rfl ?_
  refine g_get_2_0 F a_O_fewestNoons_1 fl_O_22 (by first | assumption | decide | omega) ?_
  refine g_iload_n F a_O_fewestNoons_4 rfl ?_
  refine g_icmp_ne F (by omega) (by omega) a_O_fewestNoons_5 (fun h5 => ?_) (fun h5 => ?_)
  · refine g_aload_n F a_O_fewestNoons_10 rfl ?_
    refine g_get_6_1 F a_O_fewestNoons_11 fl_O_17 ?_
    refine g_iconst F a_O_fewestNoons_14 ?_
    refine g_aald_6 F a_O_fewestNoons_15 (j := 0) ⟨rfl, by omega⟩ ?_
    refine g_aload_n F a_O_fewestNoons_16 rfl ?_
    refine g_v1 F a_O_fewestNoons_17 vc_O_26 mk_H_copy (ob_2 (by first | assumption | decide | omega)) ck_2.1 rfl rfl (by decide) ⟨Nat.le_refl _, Nat.le_refl _⟩ rfl (Nat.le_of_ble_eq_true rfl) (sp_H_copy (by omega) (by omega) (by omega) (GCr.n ?_))
    (try simp only [mset_app, mset_mset, fup_app, aup_app, fup_fup, aup_aup, false_and, and_false, true_and, and_true, and_self, reduceIte, Nat.reduceEqDiff, reduceCtorEq, fup_10])
    refine g_iconst F a_O_fewestNoons_20 ?_
    refine g_istore (ls' := [_, _, _, _, _]) F a_O_fewestNoons_21 rfl rfl rfl ?_
    exact GC.loc2 (lp_Of hi hS hD hc hr k h5 F 6 0 _ _ (by omega) (by omega) rfl FR.rfl rfl) ⟨rfl, rfl, rfl, rfl, rfl, trivial⟩
  · refine g_iconst F a_O_fewestNoons_8 ?_
    refine g_iret F a_O_fewestNoons_9 rfl ⟨Nat.le_refl _, Nat.le_refl _⟩ ?_
    have e : rtS c r (m 2 i) = some (0, []) := if_pos h5
    refine qv (k m FR0.rfl (fun q hq => ?_)) (by rw [e]; rfl)
    rw [e] at hq
    cases hq
    exact fun n hn => absurd hn (Nat.not_lt_zero n)
