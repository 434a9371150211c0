/-- who reads man a, by the figures of code -/
def fgO (B q c a : Nat) : Nat := c / B ^ (q - 1 - a) % B
def ibN (S : Rc) (B q c a : Nat) : Nat → Bool
  | 0 => true
  | k + 1 => ibN S B q c a k && decide (sgt S a (fgO B q c a) ≠ sgt S ((a + 1 + k : Nat) : Int) (fgO B q c (a + 1 + k)))
def iaN (S : Rc) (B q c : Nat) : Nat → Bool
  | 0 => true
  | a + 1 => iaN S B q c a && ibN S B q c a (q - (a + 1))
theorem ibN_s {S : Rc} {B q c a k : Nat} : ibN S B q c a (k + 1) = (ibN S B q c a k && decide (sgt S a (fgO B q c a) ≠ sgt S ((a + 1 + k : Nat) : Int) (fgO B q c (a + 1 + k)))) := rfl
theorem iaN_s {S : Rc} {B q c a : Nat} : iaN S B q c (a + 1) = (iaN S B q c a && ibN S B q c a (q - (a + 1))) := rfl
theorem fgO_lt {B q c a : Nat} (h : 0 < B) : fgO B q c a < B := Nat.mod_lt _ h
def iwB (S : Rc) (B q c : Nat) : Bool := iaN S B q c q
def wwN (S : Rc) (B q : Nat) : Nat → Int
  | 0 => 0
  | k + 1 => wwN S B q k + if iwB S B q k = true then 1 else 0
def wfN (S : Rc) (B q : Nat) : Nat → Nat
  | 0 => 0
  | k + 1 => if iwB S B q k = true ∧ wwN S B q k = 0 then k else wfN S B q k
theorem wwN_s {S : Rc} {B q k : Nat} : wwN S B q (k + 1) = wwN S B q k + if iwB S B q k = true then 1 else 0 := rfl
theorem wfN_s {S : Rc} {B q k : Nat} : wfN S B q (k + 1) = if iwB S B q k = true ∧ wwN S B q k = 0 then k else wfN S B q k := rfl
theorem wwN_r (S : Rc) (B q : Nat) : ∀ k : Nat, 0 ≤ wwN S B q k ∧ wwN S B q k ≤ k
  | 0 => by simp [wwN]
  | k + 1 => by
    have ih := wwN_r S B q k
    rw [wwN_s]
    split <;> omega
theorem wfN_r (S : Rc) (B q : Nat) : ∀ k : Nat, wfN S B q k ≤ k
  | 0 => Nat.le_refl 0
  | k + 1 => by
    have ih := wfN_r S B q k
    rw [wfN_s]
    split <;> omega
def watM (S : Rc) (B q : Nat) (x : Int) : Int := if x = -1 then wwN S B q (B ^ q) else if wwN S B q (B ^ q) = 0 then -6 else (fgO B q (wfN S B q (B ^ q)) x.toNat : Nat)
set_option maxHeartbeats 2000000 in
theorem lp_M_isw2 {κ : Kx} {μ : MX} {Z : State → Prop} {m : Mem} {D : Int} (hS : okM D (m 10 0)) (hD : D ≤ 100000) {B q c : Nat} {x : Int} (hB : (m 10 0).1 2 = (B : Int)) (hq : (m 10 0).1 1 = (q : Int)) (hx : x = (c : Int)) (hc : c ≤ 117649) (hB0 : 0 < B) {a0 : Nat} {a : Int} (ha : a = (a0 : Int)) (haq : a0 < q) (kk : ∀ e : Int, e = bI (iaN (shM (m 10 0)) B q c (a0 + 1)) → GC κ μ Z 0 0 107 [some (.ref (ad κ 10 0)), some (vi x), some (vi e), some (vi a), none, none] [] (World κ m)) (F : Fx κ G_M_isWatch 4 0 0 μ) :
    ∀ (n : Nat) (k : Nat) (e b : Int), q < a0 + 1 + k + n → a0 + 1 + k ≤ q → b = ((a0 + 1 + k : Nat) : Int) → e = bI (iaN (shM (m 10 0)) B q c a0 && ibN (shM (m 10 0)) B q c a0 k) →  GC κ μ Z 0 0 17 [some (.ref (ad κ 10 0)), some (vi x), some (vi e), some (vi a), some (vi b), none] [] (World κ m) := by
  have s4 := hS.2.2.2.2.1
  have s5 := hS.2.2.2.2.2.1
  intro n
  induction n with
  | zero =>
    intro k e b hn hk hb he
    exact absurd hn (by omega)
  | succ n ih =>
    intro k e b hn hk hb he
    have hda : x / ((B ^ (q - 1 - a0) : Nat) : Int) = ((c / B ^ (q - 1 - a0) : Nat) : Int) := by rw [hx, nat_div]
    have hma : ((c / B ^ (q - 1 - a0) : Nat) : Int) % (m 10 0).1 2 = ((fgO B q c a0 : Nat) : Int) := by rw [hB, nat_mod]; rfl
    have hdb : x / ((B ^ (q - 1 - (a0 + 1 + k)) : Nat) : Int) = ((c / B ^ (q - 1 - (a0 + 1 + k)) : Nat) : Int) := by rw [hx, nat_div]
    have hmb : ((c / B ^ (q - 1 - (a0 + 1 + k)) : Nat) : Int) % (m 10 0).1 2 = ((fgO B q c (a0 + 1 + k) : Nat) : Int) := by rw [hB, nat_mod]; rfl
    have hfa := fgO_lt (B := B) (q := q) (c := c) (a := a0) hB0
    have hfb := fgO_lt (B := B) (q := q) (c := c) (a := a0 + 1 + k) hB0
    have hpa := pw_r (b := B) (n := q - 1 - a0) (by omega) (by omega)
    have hpb := pw_r (b := B) (n := q - 1 - (a0 + 1 + k)) (by omega) (by omega)
    have hla : c / B ^ (q - 1 - a0) ≤ c := Nat.div_le_self _ _
    have hlb : c / B ^ (q - 1 - (a0 + 1 + k)) ≤ c := Nat.div_le_self _ _
    have hna := nat_pos (c / B ^ (q - 1 - a0))
    have hnb := nat_pos (c / B ^ (q - 1 - (a0 + 1 + k)))
    have hga := sgt_r (okM_S hS) (x := a) (r := (fgO B q c a0 : Nat)) (by omega)
    have hgb := fun h : b < 6 => sgt_r (okM_S hS) (x := b) (r := (fgO B q c (a0 + 1 + k) : Nat)) (by omega)
    have hebr := bI_r (iaN (shM (m 10 0)) B q c a0 && ibN (shM (m 10 0)) B q c a0 k)
    refine g_iload F a_M_isWatch_17 rfl ?_
    refine g_aload_n F a_M_isWatch_19 rfl ?_
    refine g_get_10_1 F a_M_isWatch_20 fl_M_60 ?_
    refine g_icmp_ge F (by omega) (by omega) a_M_isWatch_23 (fun h23 => ?_) (fun h23 => ?_)
    · exact GC.loc2 (kk e (by rw [iaN_s, he, show q - (a0 + 1) = k by omega])) ⟨rfl, rfl, rfl, rfl, trivial⟩
    · refine g_aload_n F a_M_isWatch_26 rfl ?_
      refine g_iload_n F a_M_isWatch_27 rfl ?_
      refine g_iload_n F a_M_isWatch_28 rfl ?_
      refine g_aload_n F a_M_isWatch_29 rfl ?_
      refine g_aload_n F a_M_isWatch_30 rfl ?_
      refine g_get_10_2 F a_M_isWatch_31 fl_M_64 ?_
      refine g_aload_n F a_M_isWatch_34 rfl ?_
      refine g_get_10_1 F a_M_isWatch_35 fl_M_60 ?_
      refine g_iconst F a_M_isWatch_38 ?_
      refine g_isub F a_M_isWatch_39 ?_
      refine g_iload_n F a_M_isWatch_40 rfl ?_
      refine g_isub F a_M_isWatch_41 ?_
      refine g_v2 F a_M_isWatch_42 vc_M_255 mk_M_power ob_10 ck_10.1 rfl rfl (by decide) ⟨Nat.le_refl _, Nat.le_refl _⟩ rfl (Nat.le_of_ble_eq_true rfl) (sp_M_power (b := B) (q := q - 1 - a0) (by exact hB) (by omega) (by omega) (GCr.v ?_))
      refine g_idiv F (by omega) (by omega) a_M_isWatch_45 ?_
      rw [hda]
      refine g_aload_n F a_M_isWatch_46 rfl ?_
      refine g_get_10_2 F a_M_isWatch_47 fl_M_64 ?_
      refine g_irem F (by omega) (by omega) a_M_isWatch_50 ?_
      rw [hma]
      refine g_v2 F a_M_isWatch_51 vc_M_209 mk_M_readOf ob_10 ck_10.1 rfl rfl (by decide) ⟨Nat.le_refl _, Nat.le_refl _⟩ rfl (Nat.le_of_ble_eq_true rfl) (sp_M_readOf hS hD (by omega) (by omega) (GCr.v ?_))
      refine g_istore (ls' := [_, _, _, _, _, _]) F a_M_isWatch_54 rfl rfl rfl ?_
      refine g_iload_n F a_M_isWatch_56 rfl ?_
      refine g_if_eq F (by omega) a_M_isWatch_57 (fun h57 => ?_) (fun h57 => ?_)
      · refine g_iconst F a_M_isWatch_99 ?_
        refine g_istore_n (ls' := [_, _, _, _, _, _]) F a_M_isWatch_100 rfl rfl rfl ?_
        refine g_iinc (ls' := [_, _, _, _, _, _]) F a_M_isWatch_101 rfl rfl rfl ?_
        refine g_goto F a_M_isWatch_104 ?_
        exact GC.loc2 (ih (k + 1) _ _ (by omega) (by omega) (by omega) (by rw [bI_0 (he.symm.trans (by assumption)) |> fun z => (by rw [ibN_s, ← Bool.and_assoc, z]; rfl : (iaN (shM (m 10 0)) B q c a0 && ibN (shM (m 10 0)) B q c a0 (k + 1)) = false)]; rfl)) ⟨rfl, rfl, rfl, rfl, rfl, trivial⟩
      · refine g_iload F a_M_isWatch_60 rfl ?_
        refine g_aload_n F a_M_isWatch_62 rfl ?_
        refine g_iload F a_M_isWatch_63 rfl ?_
        refine g_iload_n F a_M_isWatch_65 rfl ?_
        refine g_aload_n F a_M_isWatch_66 rfl ?_
        refine g_aload_n F a_M_isWatch_67 rfl ?_
        refine g_get_10_2 F a_M_isWatch_68 fl_M_64 ?_
        refine g_aload_n F a_M_isWatch_71 rfl ?_
        refine g_get_10_1 F a_M_isWatch_72 fl_M_60 ?_
        refine g_iconst F a_M_isWatch_75 ?_
        refine g_isub F a_M_isWatch_76 ?_
        refine g_iload F a_M_isWatch_77 rfl ?_
        refine g_isub F a_M_isWatch_79 ?_
        refine g_v2 F a_M_isWatch_80 vc_M_255 mk_M_power ob_10 ck_10.1 rfl rfl (by decide) ⟨Nat.le_refl _, Nat.le_refl _⟩ rfl (Nat.le_of_ble_eq_true rfl) (sp_M_power (b := B) (q := q - 1 - (a0 + 1 + k)) (by exact hB) (by omega) (by omega) (GCr.v ?_))
        refine g_idiv F (by omega) (by omega) a_M_isWatch_83 ?_
        rw [hdb]
        refine g_aload_n F a_M_isWatch_84 rfl ?_
        refine g_get_10_2 F a_M_isWatch_85 fl_M_64 ?_
        refine g_irem F (by omega) (by omega) a_M_isWatch_88 ?_
        rw [hmb]
        refine g_v2 F a_M_isWatch_89 vc_M_209 mk_M_readOf ob_10 ck_10.1 rfl rfl (by decide) ⟨Nat.le_refl _, Nat.le_refl _⟩ rfl (Nat.le_of_ble_eq_true rfl) (sp_M_readOf hS hD (by omega) (by omega) (GCr.v ?_))
        refine g_icmp_eq F (by omega) (by omega) a_M_isWatch_92 (fun h92 => ?_) (fun h92 => ?_)
        · refine g_iconst F a_M_isWatch_99 ?_
          refine g_istore_n (ls' := [_, _, _, _, _, _]) F a_M_isWatch_100 rfl rfl rfl ?_
          refine g_iinc (ls' := [_, _, _, _, _, _]) F a_M_isWatch_101 rfl rfl rfl ?_
          refine g_goto F a_M_isWatch_104 ?_
          exact GC.loc2 (ih (k + 1) _ _ (by omega) (by omega) (by omega) (by rw [ibN_s, ← Bool.and_assoc, decide_eq_false (fun z => z (by rw [← ha, ← hb]; assumption)), Bool.and_false]; rfl)) ⟨rfl, rfl, rfl, rfl, rfl, trivial⟩
        · refine g_iconst F a_M_isWatch_95 ?_
          refine g_goto F a_M_isWatch_96 ?_
          refine g_istore_n (ls' := [_, _, _, _, _, _]) F a_M_isWatch_100 rfl rfl rfl ?_
          refine g_iinc (ls' := [_, _, _, _, _, _]) F a_M_isWatch_101 rfl rfl rfl ?_
          refine g_goto F a_M_isWatch_104 ?_
          exact GC.loc2 (ih (k + 1) _ _ (by omega) (by omega) (by omega) (by rw [ibN_s, ← Bool.and_assoc, bI_1 (fun z => (by assumption : ¬ e = 0) (he.trans z)), decide_eq_true (by rw [← ha, ← hb]; assumption)]; rfl)) ⟨rfl, rfl, rfl, rfl, rfl, trivial⟩
set_option maxHeartbeats 2000000 in
theorem lp_M_isw1 {κ : Kx} {μ : MX} {Q : Option Value → (Heap → Prop) → Prop} {m : Mem} {D : Int} (hS : okM D (m 10 0)) (hD : D ≤ 100000) {B q c : Nat} {x : Int} (hB : (m 10 0).1 2 = (B : Int)) (hq : (m 10 0).1 1 = (q : Int)) (hx : x = (c : Int)) (hc : c ≤ 117649) (hB0 : 0 < q → 0 < B) (k1 : iwB (shM (m 10 0)) B q c = true → Q (some (vi 1)) (World κ m)) (k0 : iwB (shM (m 10 0)) B q c = false → Q (some (vi 0)) (World κ m))  (F : Fx κ G_M_isWatch 4 0 0 μ) :
    ∀ (n : Nat) (a0 : Nat) (e a : Int), q < a0 + n → a0 ≤ q → a = (a0 : Int) → e = bI (iaN (shM (m 10 0)) B q c a0) →  GC κ μ (ZZ κ μ 0 0 Q) 0 0 4 [some (.ref (ad κ 10 0)), some (vi x), some (vi e), some (vi a), none, none] [] (World κ m) := by
  have s4 := hS.2.2.2.2.1
  have s5 := hS.2.2.2.2.2.1
  intro n
  induction n with
  | zero =>
    intro a0 e a hn haq ha he
    exact absurd hn (by omega)
  | succ n ih =>
    intro a0 e a hn haq ha he
    have hebr := bI_r (iaN (shM (m 10 0)) B q c a0)
    refine g_iload_n F a_M_isWatch_4 rfl ?_
    refine g_aload_n F a_M_isWatch_5 rfl ?_
    refine g_get_10_1 F a_M_isWatch_6 fl_M_60 ?_
    refine g_icmp_ge F (by omega) (by omega) a_M_isWatch_9 (fun h9 => ?_) (fun h9 => ?_)
    · obtain rfl : a0 = q := by omega
      rcases (show e = 0 ∨ e = 1 by omega) with rfl | rfl
      · refine g_iload_n F a_M_isWatch_113 rfl ?_
        refine g_zret F a_M_isWatch_114 rfl rfl ⟨Nat.le_refl _, Nat.le_refl _⟩ ?_
        exact k0 (bI_0 he.symm)
      · refine g_iload_n F a_M_isWatch_113 rfl ?_
        refine g_zret F a_M_isWatch_114 rfl rfl ⟨Nat.le_refl _, Nat.le_refl _⟩ ?_
        exact k1 (bI_1 (b := iaN (shM (m 10 0)) B a0 c a0) (by rw [← he]; decide))
    · refine g_iload_n F a_M_isWatch_12 rfl ?_
      refine g_iconst F a_M_isWatch_13 ?_
      refine g_iadd F a_M_isWatch_14 ?_
      refine g_istore (ls' := [_, _, _, _, _, _]) F a_M_isWatch_15 rfl rfl rfl ?_
      refine GC.loc2 (lp_M_isw2 hS hD hB hq hx hc (hB0 (by omega)) (a0 := a0) (a := a) ha (by omega) (fun e9 he9 => ?_) F (q + 1) 0 _ _ (by omega) (by omega) (by omega) (by rw [he]; show bI _ = bI (_ && true); rw [Bool.and_true])) ⟨rfl, rfl, rfl, rfl, rfl, trivial⟩
      refine g_iinc (ls' := [_, _, _, _, _, _]) F a_M_isWatch_107 rfl rfl rfl ?_
      refine g_goto F a_M_isWatch_110 ?_
      exact GC.loc2 (ih (a0 + 1) _ _ (by omega) (by omega) (by omega) he9) ⟨rfl, rfl, rfl, rfl, trivial⟩
set_option maxHeartbeats 1000000 in
theorem sp_M_isWatch {κ : Kx} {Q : Option Value → (Heap → Prop) → Prop} {m : Mem} {D : Int} (hS : okM D (m 10 0)) (hD : D ≤ 100000) {B q c : Nat} {x : Int} (hB : (m 10 0).1 2 = (B : Int)) (hq : (m 10 0).1 1 = (q : Int)) (hx : x = (c : Int)) (hc : c ≤ 117649) (hB0 : 0 < q → 0 < B) (k1 : iwB (shM (m 10 0)) B q c = true → Q (some (vi 1)) (World κ m)) (k0 : iwB (shM (m 10 0)) B q c = false → Q (some (vi 0)) (World κ m))  : GG κ G_M_isWatch 4 0 0 [.ref (ad κ 10 0), vi x] (World κ m) Q := by
  have s4 := hS.2.2.2.2.1
  have s5 := hS.2.2.2.2.2.1
  refine GG.intro (ls := [some _, some _, none, none, none, none]) (Nat.le_of_ble_eq_true rfl) rfl (fun μ F => ?_)
  refine g_iconst F a_M_isWatch_0 ?_
  refine g_istore_n (ls' := [_, _, _, _, _, _]) F a_M_isWatch_1 rfl rfl rfl ?_
  refine g_iconst F a_M_isWatch_2 ?_
  refine g_istore_n (ls' := [_, _, _, _, _, _]) F a_M_isWatch_3 rfl rfl rfl ?_
  exact GC.loc2 (lp_M_isw1 hS hD hB hq hx hc hB0 k1 k0 F (q + 1) 0 _ _ (by omega) (by omega) rfl rfl) ⟨rfl, rfl, rfl, rfl, trivial⟩
set_option maxHeartbeats 2000000 in
theorem lp_M_watch {κ : Kx} {μ : MX} {Q : Option Value → (Heap → Prop) → Prop} {m : Mem} {D : Int} (hS : okM D (m 10 0)) (hD : D ≤ 100000) {B q : Nat} {x a0 : Int} (hB : (m 10 0).1 2 = (B : Int)) (hq : (m 10 0).1 1 = (q : Int)) (hx : x = -1 ∨ (0 ≤ x ∧ x < (m 10 0).1 1)) (hA : a0 = ((B ^ q : Nat) : Int)) (k : Q (some (vi (watM (shM (m 10 0)) B q x))) (World κ m)) (F : Fx κ G_M_watch 5 0 0 μ) :
    ∀ (n : Nat) (j : Nat) (s f v : Int), ((B ^ q : Nat) : Int) < j + n → j ≤ B ^ q → v = (j : Int) → s = wwN (shM (m 10 0)) B q j → f = ((wfN (shM (m 10 0)) B q j : Nat) : Int) →  GC κ μ (ZZ κ μ 0 0 Q) 0 0 39 [some (.ref (ad κ 10 0)), some (vi x), some (vi s), some (vi f), some (vi a0), some (vi v), none] [] (World κ m) := by
  have s4 := hS.2.2.2.2.1
  have s5 := hS.2.2.2.2.2.1
  have hbp := pw_r0 (b := B) (n := q) (by omega) (by omega)
  intro n
  induction n with
  | zero =>
    intro j s f v hn hj hv hs hf
    exact absurd hn (by omega)
  | succ n ih =>
    intro j s f v hn hj hv hs hf
    have hwr := wwN_r (shM (m 10 0)) B q j
    have hfr := wfN_r (shM (m 10 0)) B q j
    have hB0 : j < B ^ q → 0 < q → 0 < B := fun h1 h2 => Nat.pos_of_ne_zero (fun e => by rw [e, Nat.zero_pow h2] at h1; exact absurd h1 (by omega))
    have hdv : f / ((B ^ (q - 1 - x.toNat) : Nat) : Int) = ((wfN (shM (m 10 0)) B q j / B ^ (q - 1 - x.toNat) : Nat) : Int) := by rw [hf, nat_div]
    have hmd : ((wfN (shM (m 10 0)) B q j / B ^ (q - 1 - x.toNat) : Nat) : Int) % (m 10 0).1 2 = ((fgO B q (wfN (shM (m 10 0)) B q j) x.toNat : Nat) : Int) := by rw [hB, nat_mod]; rfl
    have hld : wfN (shM (m 10 0)) B q j / B ^ (q - 1 - x.toNat) ≤ wfN (shM (m 10 0)) B q j := Nat.div_le_self _ _
    have hnd := nat_pos (wfN (shM (m 10 0)) B q j / B ^ (q - 1 - x.toNat))
    have hpd : 0 < B → 1 ≤ B ^ (q - 1 - x.toNat) ∧ B ^ (q - 1 - x.toNat) ≤ 117649 := fun h => pw_r (b := B) (n := q - 1 - x.toNat) (by omega) (by omega)
    refine g_iload F a_M_watch_39 rfl ?_
    refine g_iload F a_M_watch_41 rfl ?_
    refine g_icmp_ge F (by omega) (by omega) a_M_watch_43 (fun h43 => ?_) (fun h43 => ?_)
    · refine g_iload_n F a_M_watch_89 rfl ?_
      refine g_iconst F a_M_watch_90 ?_
      refine g_icmp_ne F (by omega) (by omega) a_M_watch_91 (fun h91 => ?_) (fun h91 => ?_)
      · refine g_iload_n F a_M_watch_96 rfl ?_
        refine g_if_ne F (by omega) a_M_watch_97 (fun h97 => ?_) (fun h97 => ?_)
        · refine g_iload_n F a_M_watch_105 rfl ?_
          have hB1 : 0 < B := Nat.pos_of_ne_zero (fun e => by rw [e, Nat.zero_pow (by omega)] at hj; omega)
          have hp9 := hpd hB1
          refine g_aload_n F a_M_watch_106 rfl ?_
          refine g_aload_n F a_M_watch_107 rfl ?_
          refine g_get_10_2 F a_M_watch_108 fl_M_64 ?_
          refine g_aload_n F a_M_watch_111 rfl ?_
          refine g_get_10_1 F a_M_watch_112 fl_M_60 ?_
          refine g_iconst F a_M_watch_115 ?_
          refine g_isub F a_M_watch_116 ?_
          refine g_iload_n F a_M_watch_117 rfl ?_
          refine g_isub F a_M_watch_118 ?_
          refine g_v2 F a_M_watch_119 vc_M_255 mk_M_power ob_10 ck_10.1 rfl rfl (by decide) ⟨Nat.le_refl _, Nat.le_refl _⟩ rfl (Nat.le_of_ble_eq_true rfl) (sp_M_power (b := B) (q := q - 1 - x.toNat) (by exact hB) (by omega) (by omega) (GCr.v ?_))
          refine g_idiv F (by omega) (by omega) a_M_watch_122 ?_
          rw [hdv]
          refine g_aload_n F a_M_watch_123 rfl ?_
          refine g_get_10_2 F a_M_watch_124 fl_M_64 ?_
          refine g_irem F (by omega) (by omega) a_M_watch_127 ?_
          rw [hmd]
          refine g_iret F a_M_watch_128 rfl ⟨Nat.le_refl _, Nat.le_refl _⟩ ?_
          obtain rfl : j = B ^ q := by omega
          exact qv k (by unfold watM; rw [if_neg (by assumption), if_neg (by rw [← hs]; assumption)])
        · refine g_bipush F a_M_watch_100 (by decide) ?_
          refine g_goto F a_M_watch_102 ?_
          refine g_iret F a_M_watch_128 rfl ⟨Nat.le_refl _, Nat.le_refl _⟩ ?_
          obtain rfl : j = B ^ q := by omega
          exact qv k (by unfold watM; rw [if_neg (by assumption), if_pos (by rw [← hs]; assumption)])
      · refine g_iload_n F a_M_watch_94 rfl ?_
        refine g_iret F a_M_watch_95 rfl ⟨Nat.le_refl _, Nat.le_refl _⟩ ?_
        obtain rfl : j = B ^ q := by omega
        exact qv k (by unfold watM; rw [if_pos (by assumption), hs])
    · refine g_aload_n F a_M_watch_46 rfl ?_
      refine g_iload F a_M_watch_47 rfl ?_
      refine g_v1 F a_M_watch_49 vc_M_264 mk_M_isWatch ob_10 ck_10.1 rfl rfl (by decide) ⟨Nat.le_refl _, Nat.le_refl _⟩ rfl (Nat.le_of_ble_eq_true rfl) (sp_M_isWatch hS hD hB hq hv (by omega) (hB0 (by omega)) (fun c49 => GCr.v ?_) (fun c49 => GCr.v ?_))
      · refine g_istore (ls' := [_, _, _, _, _, _, _]) F a_M_watch_52 rfl rfl rfl ?_
        refine g_iload F a_M_watch_54 rfl ?_
        refine g_ifeq1 F a_M_watch_56 ?_
        refine g_iload_n F a_M_watch_59 rfl ?_
        refine g_if_ne F (by omega) a_M_watch_60 (fun h60 => ?_) (fun h60 => ?_)
        · refine g_iload_n F a_M_watch_68 rfl ?_
          refine g_istore_n (ls' := [_, _, _, _, _, _, _]) F a_M_watch_69 rfl rfl rfl ?_
          refine g_iload_n F a_M_watch_70 rfl ?_
          refine g_iload F a_M_watch_71 rfl ?_
          refine g_ifeq1 F a_M_watch_73 ?_
          refine g_iconst F a_M_watch_76 ?_
          refine g_goto F a_M_watch_77 ?_
          refine g_iadd F a_M_watch_81 ?_
          refine g_istore_n (ls' := [_, _, _, _, _, _, _]) F a_M_watch_82 rfl rfl rfl ?_
          refine g_iinc (ls' := [_, _, _, _, _, _, _]) F a_M_watch_83 rfl rfl rfl ?_
          refine g_goto F a_M_watch_86 ?_
          exact GC.loc2 (ih (j + 1) _ _ _ (by omega) (by omega) (by omega) (by rw [wwN_s, if_pos (show iwB (shM (m 10 0)) B q j = true from c49), ← hs]) (by rw [wfN_s, if_neg (fun z => by rw [← hs] at z; exact absurd z.2 (by assumption))]; exact hf)) ⟨rfl, rfl, rfl, rfl, rfl, rfl, trivial⟩
        · refine g_iload F a_M_watch_63 rfl ?_
          refine g_goto F a_M_watch_65 ?_
          refine g_istore_n (ls' := [_, _, _, _, _, _, _]) F a_M_watch_69 rfl rfl rfl ?_
          refine g_iload_n F a_M_watch_70 rfl ?_
          refine g_iload F a_M_watch_71 rfl ?_
          refine g_ifeq1 F a_M_watch_73 ?_
          refine g_iconst F a_M_watch_76 ?_
          refine g_goto F a_M_watch_77 ?_
          refine g_iadd F a_M_watch_81 ?_
          refine g_istore_n (ls' := [_, _, _, _, _, _, _]) F a_M_watch_82 rfl rfl rfl ?_
          refine g_iinc (ls' := [_, _, _, _, _, _, _]) F a_M_watch_83 rfl rfl rfl ?_
          refine g_goto F a_M_watch_86 ?_
          exact GC.loc2 (ih (j + 1) _ _ _ (by omega) (by omega) (by omega) (by rw [wwN_s, if_pos (show iwB (shM (m 10 0)) B q j = true from c49), ← hs]) (by rw [wfN_s, if_pos ⟨(show iwB (shM (m 10 0)) B q j = true from c49), by rw [← hs]; assumption⟩]; exact hv)) ⟨rfl, rfl, rfl, rfl, rfl, rfl, trivial⟩
      · refine g_istore (ls' := [_, _, _, _, _, _, _]) F a_M_watch_52 rfl rfl rfl ?_
        refine g_iload F a_M_watch_54 rfl ?_
        refine g_ifeq0 F a_M_watch_56 ?_
        refine g_iload_n F a_M_watch_68 rfl ?_
        refine g_istore_n (ls' := [_, _, _, _, _, _, _]) F a_M_watch_69 rfl rfl rfl ?_
        refine g_iload_n F a_M_watch_70 rfl ?_
        refine g_iload F a_M_watch_71 rfl ?_
        refine g_ifeq0 F a_M_watch_73 ?_
        refine g_iconst F a_M_watch_80 ?_
        refine g_iadd F a_M_watch_81 ?_
        refine g_istore_n (ls' := [_, _, _, _, _, _, _]) F a_M_watch_82 rfl rfl rfl ?_
        refine g_iinc (ls' := [_, _, _, _, _, _, _]) F a_M_watch_83 rfl rfl rfl ?_
        refine g_goto F a_M_watch_86 ?_
        exact GC.loc2 (ih (j + 1) _ _ _ (by omega) (by omega) (by omega) (by rw [wwN_s, if_neg (show ¬ iwB (shM (m 10 0)) B q j = true by rw [c49]; decide), ← hs]) (by rw [wfN_s, if_neg (fun z => (show ¬ iwB (shM (m 10 0)) B q j = true by rw [c49]; decide) z.1)]; exact hf)) ⟨rfl, rfl, rfl, rfl, rfl, rfl, trivial⟩
set_option maxHeartbeats 1000000 in
theorem sp_M_watch {κ : Kx} {Q : Option Value → (Heap → Prop) → Prop} {m : Mem} {D : Int} (hS : okM D (m 10 0)) (hD : D ≤ 100000) {B q : Nat} {x : Int} (hx : R32 x) (hB : (m 10 0).1 2 = (B : Int)) (hq : (m 10 0).1 1 = (q : Int)) (kb : ¬ x = -1 → ¬ (0 ≤ x ∧ x < (m 10 0).1 1) → Q (some (vi (-10))) (World κ (bmM m 0))) (k : x = -1 ∨ (0 ≤ x ∧ x < (m 10 0).1 1) → Q (some (vi (watM (shM (m 10 0)) B q x))) (World κ m)) : GG κ G_M_watch 5 0 0 [.ref (ad κ 10 0), vi x] (World κ m) Q := by
  obtain ⟨s0, s1, s2, s3, s4, s5, hfg, hkd, hsh, hgl⟩ := id hS
  refine GG.intro (ls := [some _, some _, none, none, none, none, none]) (Nat.le_of_ble_eq_true rfl) rfl (fun μ F => ?_)
  refine g_iload_n F a_M_watch_0 rfl ?_
  refine g_iconst F a_M_watch_1 ?_
  refine g_icmp_eq F (by omega) (by omega) a_M_watch_2 (fun h2 => ?_) (fun h2 => ?_)
  · refine g_iconst F a_M_watch_18 ?_
    refine g_istore_n (ls' := [_, _, _, _, _, _, _]) F a_M_watch_19 rfl rfl rfl ?_
    refine g_iconst F a_M_watch_20 ?_
    refine g_istore_n (ls' := [_, _, _, _, _, _, _]) F a_M_watch_21 rfl rfl rfl ?_
    refine g_aload_n F a_M_watch_22 rfl ?_
    refine g_aload_n F a_M_watch_23 rfl ?_
    refine g_get_10_2 F a_M_watch_24 fl_M_64 ?_
    refine g_aload_n F a_M_watch_27 rfl ?_
    refine g_get_10_1 F a_M_watch_28 fl_M_60 ?_
    refine g_v2 F a_M_watch_31 vc_M_255 mk_M_power ob_10 ck_10.1 rfl rfl (by decide) ⟨Nat.le_refl _, Nat.le_refl _⟩ rfl (Nat.le_of_ble_eq_true rfl) (sp_M_power (b := B) (q := q) (by exact hB) (by omega) (by omega) (GCr.v ?_))
    refine g_istore (ls' := [_, _, _, _, _, _, _]) F a_M_watch_34 rfl rfl rfl ?_
    refine g_iconst F a_M_watch_36 ?_
    refine g_istore (ls' := [_, _, _, _, _, _, _]) F a_M_watch_37 rfl rfl rfl ?_
    exact GC.loc2 (lp_M_watch hS hD hB hq (by omega) rfl (k (by omega)) F (B ^ q + 1) 0 0 0 _ (by omega) (by omega) rfl rfl rfl) ⟨rfl, rfl, rfl, rfl, rfl, rfl, trivial⟩
  · refine g_aload_n F a_M_watch_5 rfl ?_
    refine g_iload_n F a_M_watch_6 rfl ?_
    refine g_v1 F a_M_watch_7 vc_M_236 mk_M_isMan ob_10 ck_10.1 rfl rfl (by decide) ⟨Nat.le_refl _, Nat.le_refl _⟩ rfl (Nat.le_of_ble_eq_true rfl) (sp_M_isMan hS hD (by omega) (fun c7 => GCr.v ?_) (fun c7 => GCr.v ?_))
    · refine g_ifne1 F a_M_watch_10 ?_
      refine g_iconst F a_M_watch_18 ?_
      refine g_istore_n (ls' := [_, _, _, _, _, _, _]) F a_M_watch_19 rfl rfl rfl ?_
      refine g_iconst F a_M_watch_20 ?_
      refine g_istore_n (ls' := [_, _, _, _, _, _, _]) F a_M_watch_21 rfl rfl rfl ?_
      refine g_aload_n F a_M_watch_22 rfl ?_
      refine g_aload_n F a_M_watch_23 rfl ?_
      refine g_get_10_2 F a_M_watch_24 fl_M_64 ?_
      refine g_aload_n F a_M_watch_27 rfl ?_
      refine g_get_10_1 F a_M_watch_28 fl_M_60 ?_
      refine g_v2 F a_M_watch_31 vc_M_255 mk_M_power ob_10 ck_10.1 rfl rfl (by decide) ⟨Nat.le_refl _, Nat.le_refl _⟩ rfl (Nat.le_of_ble_eq_true rfl) (sp_M_power (b := B) (q := q) (by exact hB) (by omega) (by omega) (GCr.v ?_))
      refine g_istore (ls' := [_, _, _, _, _, _, _]) F a_M_watch_34 rfl rfl rfl ?_
      refine g_iconst F a_M_watch_36 ?_
      refine g_istore (ls' := [_, _, _, _, _, _, _]) F a_M_watch_37 rfl rfl rfl ?_
      exact GC.loc2 (lp_M_watch hS hD hB hq (by omega) rfl (k (by omega)) F (B ^ q + 1) 0 0 0 _ (by omega) (by omega) rfl rfl rfl) ⟨rfl, rfl, rfl, rfl, rfl, rfl, trivial⟩
    · refine g_ifne0 F a_M_watch_10 ?_
      refine g_aload_n F a_M_watch_13 rfl ?_
      refine g_v0 F a_M_watch_14 vc_M_258 mk_M_ten ob_10 ck_10.1 rfl rfl (by decide) ⟨Nat.le_refl _, Nat.le_refl _⟩ rfl (Nat.le_of_ble_eq_true rfl) (sp_M_ten  (GCr.v ?_))
      refine g_iret F a_M_watch_17 rfl ⟨Nat.le_refl _, Nat.le_refl _⟩ ?_
      exact kb (by assumption) (by assumption)
