theorem g_getS_COMPACT_STRINGS {κ : Kx} {Γ : Gm} {d mc ms : Nat} {μ : MX} {Z : State → Prop} {kc ks pc nx : Nat} {ls : List (Option Value)} {st : List Value} {P : Heap → Prop} (F : Fx κ Γ d mc ms μ) (hd : AT 3 Γ.2.1 pc (.getstatic 38) nx) (hg : Γ.1.cls = "java/lang/String") (k : GC κ μ Z kc ks nx ls (vi 1 :: st) P) : GC κ μ Z kc ks pc ls st P := by
  obtain ⟨hd, rfl⟩ := hd
  intro H locs la hS hP hl
  exact va_gets (own := Γ.1.cls) (C := "java/lang/String") (ref := "java/lang/String") F.1 F.2.1 F.2.2.2.2.2.2.2.2.1.2.2.1.2.2.1 hS F.2.2.2.2.2.1 (F.2.2.2.2.2.2.2.1 _ (by rw [hg]; exact bg_m2 (List.mem_of_getElem? (i := 142) (by decide +kernel)) (by decide +kernel))) (fun _ h => h) hd (k H locs la hS hP hl)
theorem g_getS_SIOOBE_FORMATTER {κ : Kx} {Γ : Gm} {d mc ms : Nat} {μ : MX} {Z : State → Prop} {kc ks pc nx : Nat} {ls : List (Option Value)} {st : List Value} {P : Heap → Prop} (F : Fx κ Γ d mc ms μ) (hd : AT 3 Γ.2.1 pc (.getstatic 1053) nx) (hg : Γ.1.cls = "java/lang/String") (k : ∀ v : Value, (v = .null ∨ ∃ t : Nat, v = .ref t) → GC κ μ Z kc ks nx ls (v :: st) P) : GC κ μ Z kc ks pc ls st P := by
  obtain ⟨hd, rfl⟩ := hd
  intro H locs la hS hP hl
  rcases F.2.2.2.2.2.2.2.2.1.2.2.1.2.2.2.1 with hz | ⟨t, hz⟩
  · exact va_gets (own := Γ.1.cls) (C := "jdk/internal/util/Preconditions") (ref := "jdk/internal/util/Preconditions") F.1 F.2.1 hz hS F.2.2.2.2.2.1 (F.2.2.2.2.2.2.2.1 _ (by rw [hg]; exact bg_m2 (List.mem_of_getElem? (i := 158) (by decide +kernel)) (by decide +kernel))) (fun _ h => h) hd (k .null (Or.inl rfl) H locs la hS hP hl)
  · exact va_gets (own := Γ.1.cls) (C := "jdk/internal/util/Preconditions") (ref := "jdk/internal/util/Preconditions") F.1 F.2.1 hz hS F.2.2.2.2.2.1 (F.2.2.2.2.2.2.2.1 _ (by rw [hg]; exact bg_m2 (List.mem_of_getElem? (i := 158) (by decide +kernel)) (by decide +kernel))) (fun _ h => h) hd (k (.ref t) (Or.inr ⟨t, rfl⟩) H locs la hS hP hl)
theorem g_str_value {κ : Kx} {Γ : Gm} {d mc ms : Nat} {μ : MX} {Z : State → Prop} {kc ks pc nx : Nat} {ls : List (Option Value)} {st : List Value} {P : Heap → Prop} {i : Nat} (F : Fx κ Γ d mc ms μ) (hd : AT 3 Γ.2.1 pc (.getfield 9) nx) (hg : Γ.1.cls = "java/lang/String") (hi : i < 6) (k : GC κ μ Z kc ks nx ls (.ref (kV κ i) :: st) P) : GC κ μ Z kc ks pc ls (.ref (kK κ i) :: st) P := by
  obtain ⟨hd, rfl⟩ := hd
  intro H locs la hS hP hl
  exact vk_getf (own := Γ.1.cls) (ref := "java/lang/String") F.1 F.2.1 (F.2.2.2.2.2.2.2.2.1.2.2.1.2.2.2.2.1 i hi).2.2.1 hS F.2.2.2.2.2.1 (F.2.2.2.2.2.2.2.1 _ (by rw [hg]; exact bg_m6 (List.mem_of_getElem? (i := 186) (by decide +kernel)) (by decide +kernel))) (fun _ h => h) hd (k H locs la hS hP hl)
theorem g_str_coder {κ : Kx} {Γ : Gm} {d mc ms : Nat} {μ : MX} {Z : State → Prop} {kc ks pc nx : Nat} {ls : List (Option Value)} {st : List Value} {P : Heap → Prop} {i : Nat} (F : Fx κ Γ d mc ms μ) (hd : AT 3 Γ.2.1 pc (.getfield 15) nx) (hg : Γ.1.cls = "java/lang/String") (hi : i < 6) (k : GC κ μ Z kc ks nx ls (vi 0 :: st) P) : GC κ μ Z kc ks pc ls (.ref (kK κ i) :: st) P := by
  obtain ⟨hd, rfl⟩ := hd
  intro H locs la hS hP hl
  exact vk_getf (own := Γ.1.cls) (ref := "java/lang/String") F.1 F.2.1 (F.2.2.2.2.2.2.2.2.1.2.2.1.2.2.2.2.1 i hi).2.1 hS F.2.2.2.2.2.1 (F.2.2.2.2.2.2.2.1 _ (by rw [hg]; exact bg_m6 (List.mem_of_getElem? (i := 187) (by decide +kernel)) (by decide +kernel))) (fun _ h => h) hd (k H locs la hS hP hl)
def lenI (i : Nat) : Int := (str_len.getD i 0 : Nat)
def chI (i j : Nat) : Int := ((str_byt.getD i []).getD j 0).toInt
theorem ch_dec : ∀ i : Nat, i < 6 → ∀ j : Nat, j < str_len.getD i 0 → 97 ≤ chI i j ∧ chI i j ≤ 122 := by decide
theorem len_dec : ∀ i : Nat, i < 6 → 3 ≤ lenI i ∧ lenI i ≤ 6 := by decide
theorem and255 : ∀ n : Nat, n < 128 → bAnd (n : Int) 255 = n := by decide +kernel
theorem i2c_dec : ∀ n : Nat, n < 128 → ((Int32.ofInt n).toUInt32 % 65536).toInt32 = Int32.ofInt n := by decide +kernel
theorem shr0 : ∀ n : Nat, n < 7 → bShr (n : Int) 0 = n := by decide +kernel
theorem g_slen {κ : Kx} {Γ : Gm} {d mc ms : Nat} {μ : MX} {Z : State → Prop} {kc ks pc nx : Nat} {ls : List (Option Value)} {st : List Value} {P : Heap → Prop} {i : Nat} (F : Fx κ Γ d mc ms μ) (hd : AT 1 Γ.2.1 pc .arraylength nx) (hi : i < 6) (k : GC κ μ Z kc ks nx ls (vi (lenI i) :: st) P) : GC κ μ Z kc ks pc ls (.ref (kV κ i) :: st) P := by
  obtain ⟨hd, rfl⟩ := hd
  intro H locs la hS hP hl
  exact va_tlen F.1 F.2.1 (F.2.2.2.2.2.2.2.2.1.2.2.1.2.2.2.2.1 i hi).2.2.2 hS rfl hd (k H locs la hS hP hl)
theorem g_sbald {κ : Kx} {Γ : Gm} {d mc ms : Nat} {μ : MX} {Z : State → Prop} {kc ks pc nx : Nat} {ls : List (Option Value)} {st : List Value} {P : Heap → Prop} {i : Nat} {x : Int} {j : Nat} (F : Fx κ Γ d mc ms μ) (hd : AT 1 Γ.2.1 pc .baload nx) (hi : i < 6) (hx : x = j ∧ x < lenI i) (k : GC κ μ Z kc ks nx ls (vi (chI i j) :: st) P) : GC κ μ Z kc ks pc ls (vi x :: .ref (kV κ i) :: st) P := by
  obtain ⟨hd, rfl⟩ := hd
  intro H locs la hS hP hl
  have hl6 := len_dec i hi
  obtain ⟨g1, g2⟩ := vin (x := x) (n := str_len.getD i 0) (by omega) hx.2 (by unfold lenI at hl6; omega)
  refine va_tb F.1 F.2.1 (F.2.2.2.2.2.2.2.2.1.2.2.1.2.2.2.2.1 i hi).2.2.2 hS g1 ?_ hd (k H locs la hS hP hl)
  rw [show (Int32.ofInt x).toNatClampNeg = j by omega]
  exact congrArg Value.int (Int32.ofInt_toInt _).symm
theorem g_i2c {κ : Kx} {Γ : Gm} {d mc ms : Nat} {μ : MX} {Z : State → Prop} {kc ks pc nx : Nat} {ls : List (Option Value)} {st : List Value} {P : Heap → Prop} {a : Int} (F : Fx κ Γ d mc ms μ) (hd : AT 1 Γ.2.1 pc .i2c nx) (ha : 0 ≤ a ∧ a < 128) (k : GC κ μ Z kc ks nx ls (vi a :: st) P) : GC κ μ Z kc ks pc ls (vi a :: st) P := by
  obtain ⟨hd, rfl⟩ := hd
  intro H locs la hS hP hl
  refine lv_i2c F.1 F.2.1 hd ?_ (k H locs la hS hP hl)
  have h := i2c_dec a.toNat (by omega)
  rw [Int.toNat_of_nonneg ha.1] at h
  exact h
theorem g_ldcS {κ : Kx} {Γ : Gm} {d mc ms : Nat} {μ : MX} {Z : State → Prop} {kc ks pc nx : Nat} {ls : List (Option Value)} {st : List Value} {P : Heap → Prop} {i idx : Nat} (F : Fx κ Γ d mc ms μ) (hd : AT 2 Γ.2.1 pc (.ldc idx) nx) (hi : i < 6) (he : str_idx i = idx) (hg : Γ.1.cls = "ShameAngles$Script") (k : GC κ μ Z kc ks nx ls (.ref (kK κ i) :: st) P) : GC κ μ Z kc ks pc ls st P := by
  obtain ⟨hd, rfl⟩ := hd
  intro H locs la hS hP hl
  subst he
  exact va_ldcS F.1 F.2.1 (own := "ShameAngles$Script") (by rw [← hg]; exact F.2.2.2.2.2.1) (F.2.2.2.2.2.2.2.2.1.2.2.2.2.1 i hi) hd (k H locs la hS hP hl)
theorem g_callW {κ : Kx} {Γ Γ' : Gm} {d d' mc ms mc' ms' : Nat} {μ : MX} {Z : State → Prop} {kc ks pc nx idx i : Nat} {ls : List (Option Value)} {st As : List Value} {P : Heap → Prop} (F : Fx κ Γ d mc ms μ) (hd : AT 3 Γ.2.1 pc (.invokevirtual idx) nx) (hs : VC Γ.1.cls idx Γ') (hk : MK Γ') (hi : i < 6) (hcn : "java/lang/String" = Γ'.1.cls) (hL : ls.length = Γ.2.2.1) (hdd : d' + 1 ≤ d) (hm : kc + mc' ≤ mc ∧ ks + ms' ≤ ms) (hn : As.length = Γ'.2.2.2.2) (hst : (st.map fun v => v.category).sum ≤ 8)
    (h : GG κ Γ' d' mc' ms' (.ref (kK κ i) :: As) P (fun r P' => GC κ μ Z (kc + mc') (ks + ms') nx ls (r.toList ++ st) P')) : GC κ μ Z kc ks pc ls (As.reverse ++ .ref (kK κ i) :: st) P := by
  obtain ⟨hd, rfl⟩ := hd
  intro H locs la hS hP hl
  obtain ⟨hx, hb, hml, hret, hlk, hown, hnm, hts, hK, r1, r2, r3, r4⟩ := F
  have hM := GG.met (mL μ) hk h
  refine va_callQ (va_runV (As := As) (rest := st) (nL := Γ.2.2.1) (Ts := bg) (C := Γ'.1.cls) ⟨hx, hb, hml, hown, hts⟩ hM
    (cwV (ret := Γ'.2.2.2.1) (bytes := Γ'.2.1) (maxL := Γ'.2.2.1) Γ'.2.2.2.2 hts (bg_in (fun w hw => ?_)) rfl rfl rfl ⟨rfl, hk.2.2.2.1.1, hk.2.2.2.1.2, hk.2.2.2.2.1⟩ ⟨by show d' + 1 ≤ _; omega, by show 8 + (Γ'.2.2.1 + 11) + 64 * d' ≤ _; have := hk.2.2.2.2.2; omega⟩)
    ⟨Pc_blind, by rw [← hcn]; exact vk_recv hK.2.2.1.2.2.2.2 hi hS, fun U hU hW => ⟨rfl, by rw [hU]; exact hP, KS.warm hK hW hU hS⟩⟩ rfl hn (hl.1.trans hL) rfl (lv_room hst) hd ⟨by omega, by omega⟩) hS (fun q h => h) (fun r P' H1 locs1 hp hq hS1 => hq H1 locs1 la hS1 hp hl)
  rcases List.mem_append.mp hw with hw | hw
  · simp only [List.mem_cons, List.not_mem_nil, or_false] at hw
    rcases hw with rfl | rfl | rfl | rfl
    · exact hs.1
    · exact hs.2.1
    · exact hs.2.2
    · exact hk.2.1
  · rcases List.mem_cons.mp hw with rfl | hw
    · exact hk.1
    · exact hw
theorem g_w0 {κ : Kx} {Γ Γ' : Gm} {d d' mc ms : Nat} {μ : MX} {Z : State → Prop} {kc ks pc nx idx i : Nat} {ls : List (Option Value)} {st : List Value} {P : Heap → Prop} (F : Fx κ Γ d mc ms μ) (hd : AT 3 Γ.2.1 pc (.invokevirtual idx) nx) (hs : VC Γ.1.cls idx Γ') (hk : MK Γ') (hi : i < 6) (hcn : "java/lang/String" = Γ'.1.cls) (hL : ls.length = Γ.2.2.1) (hdd : d' + 1 ≤ d) (hm : kc ≤ mc ∧ ks ≤ ms) (hn : 0 = Γ'.2.2.2.2) (hst : (st.map fun v => v.category).sum ≤ 8) (h : GG κ Γ' d' 0 0 [.ref (kK κ i)] P (GCr κ μ Z kc ks nx ls st)) : GC κ μ Z kc ks pc ls (.ref (kK κ i) :: st) P := g_callW (As := []) F hd hs hk hi hcn hL hdd hm hn hst h
theorem g_w1 {κ : Kx} {Γ Γ' : Gm} {d d' mc ms : Nat} {μ : MX} {Z : State → Prop} {kc ks pc nx idx i : Nat} {ls : List (Option Value)} {st : List Value} {P : Heap → Prop} {a1 : Value} (F : Fx κ Γ d mc ms μ) (hd : AT 3 Γ.2.1 pc (.invokevirtual idx) nx) (hs : VC Γ.1.cls idx Γ') (hk : MK Γ') (hi : i < 6) (hcn : "java/lang/String" = Γ'.1.cls) (hL : ls.length = Γ.2.2.1) (hdd : d' + 1 ≤ d) (hm : kc ≤ mc ∧ ks ≤ ms) (hn : 1 = Γ'.2.2.2.2) (hst : (st.map fun v => v.category).sum ≤ 8) (h : GG κ Γ' d' 0 0 [.ref (kK κ i), a1] P (GCr κ μ Z kc ks nx ls st)) : GC κ μ Z kc ks pc ls (a1 :: .ref (kK κ i) :: st) P := g_callW (As := [a1]) F hd hs hk hi hcn hL hdd hm hn hst h
theorem sp_J_coder {κ : Kx} {Q : Option Value → (Heap → Prop) → Prop} {P : Heap → Prop} {i : Nat} (hi : i < 6) (k : Q (some (vi 0)) P) : GG κ G_J_coder 1 0 0 [.ref (kK κ i)] P Q := by
  refine GG.intro (ls := [some _]) (Nat.le_of_ble_eq_true rfl) rfl (fun μ F => ?_)
  refine g_getS_COMPACT_STRINGS F a_J_coder_0 rfl ?_
  refine g_ifeq1 F a_J_coder_3 ?_
  refine g_aload_n F a_J_coder_6 rfl ?_
  refine g_str_coder F a_J_coder_7 rfl hi ?_
  refine g_goto F a_J_coder_10 ?_
  refine g_zret F a_J_coder_14 rfl rfl ⟨Nat.le_refl _, Nat.le_refl _⟩ ?_
  exact k
theorem sp_J_isLatin1 {κ : Kx} {Q : Option Value → (Heap → Prop) → Prop} {P : Heap → Prop} {i : Nat} (hi : i < 6) (k : Q (some (vi 1)) P) : GG κ G_J_isLatin1 1 0 0 [.ref (kK κ i)] P Q := by
  refine GG.intro (ls := [some _]) (Nat.le_of_ble_eq_true rfl) rfl (fun μ F => ?_)
  refine g_getS_COMPACT_STRINGS F a_J_isLatin1_0 rfl ?_
  refine g_ifeq1 F a_J_isLatin1_3 ?_
  refine g_aload_n F a_J_isLatin1_6 rfl ?_
  refine g_str_coder F a_J_isLatin1_7 rfl hi ?_
  refine g_ifne0 F a_J_isLatin1_10 ?_
  refine g_iconst F a_J_isLatin1_13 ?_
  refine g_goto F a_J_isLatin1_14 ?_
  refine g_zret F a_J_isLatin1_18 rfl rfl ⟨Nat.le_refl _, Nat.le_refl _⟩ ?_
  exact k
theorem sp_J_length {κ : Kx} {Q : Option Value → (Heap → Prop) → Prop} {P : Heap → Prop} {i : Nat} (hi : i < 6) (k : Q (some (vi (lenI i))) P) : GG κ G_J_length 2 0 0 [.ref (kK κ i)] P Q := by
  refine GG.intro (ls := [some _]) (Nat.le_of_ble_eq_true rfl) rfl (fun μ F => ?_)
  refine g_aload_n F a_J_length_0 rfl ?_
  refine g_str_value F a_J_length_1 rfl hi ?_
  refine g_slen F a_J_length_4 hi ?_
  refine g_aload_n F a_J_length_5 rfl ?_
  refine g_w0 F a_J_length_6 vc_J_335 mk_J_coder hi rfl rfl (by decide) ⟨Nat.le_refl _, Nat.le_refl _⟩ rfl (Nat.le_of_ble_eq_true rfl) (sp_J_coder hi (GCr.v ?_))
  refine g_ishr F a_J_length_9 ?_
  have hl := len_dec i hi
  have h0 := shr0 (lenI i).toNat (by omega)
  rw [Int.toNat_of_nonneg (by omega)] at h0
  rw [h0]
  refine g_iret F a_J_length_10 rfl ⟨Nat.le_refl _, Nat.le_refl _⟩ ?_
  exact k
theorem sp_JP_checkIndex {κ : Kx} {Q : Option Value → (Heap → Prop) → Prop} {P : Heap → Prop} {x y : Int} {v : Value} (hx : 0 ≤ x ∧ x < y ∧ y < 1000) (hv : v = .null ∨ ∃ t : Nat, v = .ref t) (k : Q (some (vi x)) P) : GG κ G_JP_checkIndex 1 0 0 [vi x, vi y, v] P Q := by
  rcases hv with rfl | ⟨t, rfl⟩
  · refine GG.intro (ls := [some _, some _, some _]) (Nat.le_of_ble_eq_true rfl) rfl (fun μ F => ?_)
    refine g_iload_n F a_JP_checkIndex_0 rfl ?_
    refine g_if_lt F (by omega) a_JP_checkIndex_1 (fun h => absurd h (by omega)) (fun h => ?_)
    refine g_iload_n F a_JP_checkIndex_4 rfl ?_
    refine g_iload_n F a_JP_checkIndex_5 rfl ?_
    refine g_icmp_lt F (by omega) (by omega) a_JP_checkIndex_6 (fun h => ?_) (fun h => absurd h (by omega))
    refine g_iload_n F a_JP_checkIndex_16 rfl ?_
    refine g_iret F a_JP_checkIndex_17 rfl ⟨Nat.le_refl _, Nat.le_refl _⟩ ?_
    exact k
  · refine GG.intro (ls := [some _, some _, some _]) (Nat.le_of_ble_eq_true rfl) rfl (fun μ F => ?_)
    refine g_iload_n F a_JP_checkIndex_0 rfl ?_
    refine g_if_lt F (by omega) a_JP_checkIndex_1 (fun h => absurd h (by omega)) (fun h => ?_)
    refine g_iload_n F a_JP_checkIndex_4 rfl ?_
    refine g_iload_n F a_JP_checkIndex_5 rfl ?_
    refine g_icmp_lt F (by omega) (by omega) a_JP_checkIndex_6 (fun h => ?_) (fun h => absurd h (by omega))
    refine g_iload_n F a_JP_checkIndex_16 rfl ?_
    refine g_iret F a_JP_checkIndex_17 rfl ⟨Nat.le_refl _, Nat.le_refl _⟩ ?_
    exact k
theorem sp_J_checkIndex {κ : Kx} {Q : Option Value → (Heap → Prop) → Prop} {P : Heap → Prop} {x y : Int} (hx : 0 ≤ x ∧ x < y ∧ y < 1000) (k : Q none P) : GG κ G_J_checkIndex 2 0 0 [vi x, vi y] P Q := by
  refine GG.intro (ls := [some _, some _]) (Nat.le_of_ble_eq_true rfl) rfl (fun μ F => ?_)
  refine g_iload_n F a_J_checkIndex_0 rfl ?_
  refine g_iload_n F a_J_checkIndex_1 rfl ?_
  refine g_getS_SIOOBE_FORMATTER F a_J_checkIndex_2 rfl (fun v hv => ?_)
  refine g_s3 F a_J_checkIndex_5 sc_J_1059 mk_JP_checkIndex rfl (by decide) ⟨Nat.le_refl _, Nat.le_refl _⟩ rfl (Nat.le_of_ble_eq_true rfl) (sp_JP_checkIndex hx hv (GCr.v ?_))
  refine g_pop F a_J_checkIndex_8 rfl ?_
  refine g_ret F a_J_checkIndex_9 rfl ⟨Nat.le_refl _, Nat.le_refl _⟩ ?_
  exact k
theorem sp_JL_charAt {κ : Kx} {Q : Option Value → (Heap → Prop) → Prop} {P : Heap → Prop} {i j : Nat} (hi : i < 6) (hj : (j : Int) < lenI i) (k : Q (some (vi (chI i j))) P) : GG κ G_JL_charAt 3 0 0 [.ref (kV κ i), vi j] P Q := by
  have hl6 := len_dec i hi
  have hch := ch_dec i hi j (by unfold lenI at hj; omega)
  refine GG.intro (ls := [some _, some _]) (Nat.le_of_ble_eq_true rfl) rfl (fun μ F => ?_)
  refine g_iload_n F a_JL_charAt_0 rfl ?_
  refine g_aload_n F a_JL_charAt_1 rfl ?_
  refine g_slen F a_JL_charAt_2 hi ?_
  refine g_s2 F a_JL_charAt_3 sc_JL_9 mk_J_checkIndex rfl (by decide) ⟨Nat.le_refl _, Nat.le_refl _⟩ rfl (Nat.le_of_ble_eq_true rfl) (sp_J_checkIndex (by omega) (GCr.n ?_))
  refine g_aload_n F a_JL_charAt_6 rfl ?_
  refine g_iload_n F a_JL_charAt_7 rfl ?_
  refine g_sbald F a_JL_charAt_8 hi ⟨rfl, hj⟩ ?_
  refine g_sipush F a_JL_charAt_9 (by decide) ?_
  refine g_iand F a_JL_charAt_12 ?_
  have hz := and255 (chI i j).toNat (by omega)
  rw [Int.toNat_of_nonneg (by omega)] at hz
  rw [hz]
  refine g_i2c F a_JL_charAt_13 (by omega) ?_
  refine g_zret F a_JL_charAt_14 rfl ?_ ⟨Nat.le_refl _, Nat.le_refl _⟩ ?_
  · have hn := i2c_dec (chI i j).toNat (by omega)
    rw [Int.toNat_of_nonneg (by omega)] at hn
    exact congrArg Value.int hn
  exact k
theorem sp_J_charAt {κ : Kx} {Q : Option Value → (Heap → Prop) → Prop} {P : Heap → Prop} {i j : Nat} (hi : i < 6) (hj : (j : Int) < lenI i) (k : Q (some (vi (chI i j))) P) : GG κ G_J_charAt 4 0 0 [.ref (kK κ i), vi j] P Q := by
  have hl6 := len_dec i hi
  have hch := ch_dec i hi j (by unfold lenI at hj; omega)
  refine GG.intro (ls := [some _, some _]) (Nat.le_of_ble_eq_true rfl) rfl (fun μ F => ?_)
  refine g_aload_n F a_J_charAt_0 rfl ?_
  refine g_w0 F a_J_charAt_1 vc_J_492 mk_J_isLatin1 hi rfl rfl (by decide) ⟨Nat.le_refl _, Nat.le_refl _⟩ rfl (Nat.le_of_ble_eq_true rfl) (sp_J_isLatin1 hi (GCr.v ?_))
  refine g_ifeq1 F a_J_charAt_4 ?_
  refine g_aload_n F a_J_charAt_7 rfl ?_
  refine g_str_value F a_J_charAt_8 rfl hi ?_
  refine g_iload_n F a_J_charAt_11 rfl ?_
  refine g_s2 F a_J_charAt_12 sc_J_495 mk_JL_charAt rfl (by decide) ⟨Nat.le_refl _, Nat.le_refl _⟩ rfl (Nat.le_of_ble_eq_true rfl) (sp_JL_charAt hi hj (GCr.v ?_))
  refine g_zret F a_J_charAt_15 rfl ?_ ⟨Nat.le_refl _, Nat.le_refl _⟩ ?_
  · have hn := i2c_dec (chI i j).toNat (by omega)
    rw [Int.toNat_of_nonneg (by omega)] at hn
    exact congrArg Value.int hn
  exact k
