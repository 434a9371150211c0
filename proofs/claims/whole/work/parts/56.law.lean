/-! ===== the law's body ===== -/
/-- the law, under whatever name -/
def G_Ln (nm : String) : Gm := (⟨x.cls, nm, x.desc⟩, code, 4, ret, 1)
section LAW
variable {κ : Kx} {Γ : Gm} {d mc ms : Nat} {μ : MX} {Z : State → Prop} {kc ks pc nx tg : Nat} {ls : List (Option Value)} {st : List Value} {P : Heap → Prop} {a x : Int} {b L : Nat} {xs : Nat → Int32}
/-- the script, where it lies -/
def SX (κ : Kx) (μ : MX) (b L : Nat) (xs : Nat → Int32) : Prop := va_X b L xs (mS μ) (mS μ).heap ∧ b < (mS μ).heap.size ∧ b < kb κ ∧ L ≤ 2560
theorem g_sld (F : Fx κ Γ d mc ms μ) (hX : SX κ μ b L xs) (hd : AT 1 Γ.2.1 pc .iaload nx) (hx : 0 ≤ x ∧ x < L) (k : GC κ μ Z kc ks nx ls (vi (xs x.toNat).toInt :: st) P) : GC κ μ Z kc ks pc ls (vi x :: .ref b :: st) P := by
  obtain ⟨hd, rfl⟩ := hd
  obtain ⟨h1, h2, h3, h4⟩ := hX
  intro H locs la hS hP hl
  have e1 : (Int32.ofInt x).toInt = x := i2r (by omega)
  have e2 : (Int32.ofInt x).toNatClampNeg = x.toNat := by
    show (Int32.ofInt x).toInt.toNat = x.toNat
    rw [e1]
  refine va_sld F.1 F.2.1 h1 h2 (fun h => by have h : kb κ ≤ b := h; omega) hS (fun h => ?_) hd ?_
  · rcases h with h | h
    · have := Int32.lt_iff_toInt_lt.mp h
      rw [e1] at this
      have z : (0 : Int32).toInt = 0 := Eq.refl _
      omega
    · rw [e2] at h
      omega
  · rw [e2]
    have e3 : Int32.ofInt (xs x.toNat).toInt = xs x.toNat := Int32.ofInt_toInt _
    have k1 := k H locs la hS hP hl
    rw [show vi (xs x.toNat).toInt = .int (xs x.toNat) from congrArg Value.int e3] at k1
    exact k1
theorem g_scl (F : Fx κ Γ d mc ms μ) (hX : SX κ μ b L xs) (hd : AT 1 Γ.2.1 pc .arraylength nx) (k : GC κ μ Z kc ks nx ls (vi (L : Int) :: st) P) : GC κ μ Z kc ks pc ls (.ref b :: st) P := by
  obtain ⟨hd, rfl⟩ := hd
  obtain ⟨h1, h2, h3, h4⟩ := hX
  intro H locs la hS hP hl
  refine va_slen F.1 F.2.1 h1 h2 (fun h => by have h : kb κ ≤ b := h; omega) hS hd ?_
  have e : Int32.ofNat L = Int32.ofInt (L : Int) := (Int32.ofInt_eq_ofNat (n := L)).symm
  rw [e]
  exact k H locs la hS hP hl
theorem g_same (F : Fx κ Γ d mc ms μ) (hd : AJ Γ.2.1 pc (.if_icmp .eq) tg nx) (k : GC κ μ Z kc ks tg ls st P) : GC κ μ Z kc ks pc ls (vi a :: vi a :: st) P := by
  obtain ⟨⟨o, hd, ho⟩, rfl⟩ := hd
  intro H locs la hS hP hl
  exact lv_icmp_eq F.1 F.2.1 hd ho (fun _ => k H locs la hS hP hl) (fun h => absurd rfl h)
end LAW
set_option maxHeartbeats 1000000 in
theorem lc_0 {κ : Kx} {μ : MX} {Z : State → Prop} {kc ks : Nat} {m : Mem} {n b L : Nat} {xs : Nat → Int32} {i : Int} {nm : String} (F : Fx κ (G_Ln nm) 100 600000 7302250 μ) (hk : kc ≤ 600000 ∧ ks ≤ 7302250) (hX : SX κ μ b L xs) (h : Inv n m) (hn : n ≤ 600) (hi : 0 ≤ i ∧ i + 5 ≤ L) (kont : ∀ m2 : Mem, Inv (n + 1) m2 → GC κ μ Z kc ks 1387 [some (.ref b), some (.ref (ad κ 0 0)), some (.ref (ad κ 10 0)), some (vi i)] [] (World κ m2)) : GC κ μ Z kc ks 212 [some (.ref b), some (.ref (ad κ 0 0)), some (.ref (ad κ 10 0)), some (vi i)] [] (World κ m) := by
  refine g_aload_n F a_L_law_212 rfl ?_
  refine g_aload_n F a_L_law_213 rfl ?_
  refine g_iload_n F a_L_law_214 rfl ?_
  refine g_iconst F a_L_law_215 ?_
  refine g_iadd F a_L_law_216 ?_
  refine g_sld F hX a_L_law_217 (by omega) ?_
  refine g_v1 F a_L_law_218 vc_L_13 mk_A_ship ob_0 ck_0.1 rfl rfl (by decide) hk rfl (Nat.le_of_ble_eq_true rfl) (pr_ship h hn (i32_r _) _ (fun z m1 hM => GCr.v ?_))
  refine g_aload_n F a_L_law_221 rfl ?_
  refine g_aload_n F a_L_law_222 rfl ?_
  refine g_iload_n F a_L_law_223 rfl ?_
  refine g_iconst F a_L_law_224 ?_
  refine g_iadd F a_L_law_225 ?_
  refine g_sld F hX a_L_law_226 (by omega) ?_
  refine g_v1 F a_L_law_227 vc_L_17 mk_M_ship ob_10 ck_10.1 rfl rfl (by decide) hk rfl (Nat.le_of_ble_eq_true rfl) (hM _ (fun m2 i2 => GCr.v ?_))
  exact g_same F a_L_law_230 (kont m2 i2)
set_option maxHeartbeats 1000000 in
theorem lc_1 {κ : Kx} {μ : MX} {Z : State → Prop} {kc ks : Nat} {m : Mem} {n b L : Nat} {xs : Nat → Int32} {i : Int} {nm : String} (F : Fx κ (G_Ln nm) 100 600000 7302250 μ) (hk : kc ≤ 600000 ∧ ks ≤ 7302250) (hX : SX κ μ b L xs) (h : Inv n m) (hn : n ≤ 600) (hi : 0 ≤ i ∧ i + 5 ≤ L) (kont : ∀ m2 : Mem, Inv (n + 1) m2 → GC κ μ Z kc ks 1387 [some (.ref b), some (.ref (ad κ 0 0)), some (.ref (ad κ 10 0)), some (vi i)] [] (World κ m2)) : GC κ μ Z kc ks 235 [some (.ref b), some (.ref (ad κ 0 0)), some (.ref (ad κ 10 0)), some (vi i)] [] (World κ m) := by
  refine g_aload_n F a_L_law_235 rfl ?_
  refine g_aload_n F a_L_law_236 rfl ?_
  refine g_iload_n F a_L_law_237 rfl ?_
  refine g_iconst F a_L_law_238 ?_
  refine g_iadd F a_L_law_239 ?_
  refine g_sld F hX a_L_law_240 (by omega) ?_
  refine g_aload_n F a_L_law_241 rfl ?_
  refine g_iload_n F a_L_law_242 rfl ?_
  refine g_iconst F a_L_law_243 ?_
  refine g_iadd F a_L_law_244 ?_
  refine g_sld F hX a_L_law_245 (by omega) ?_
  refine g_v2 F a_L_law_246 vc_L_18 mk_A_fog ob_0 ck_0.1 rfl rfl (by decide) hk rfl (Nat.le_of_ble_eq_true rfl) (pr_fog h hn (i32_r _) (i32_r _) _ (fun z m1 hM => GCr.v ?_))
  refine g_aload_n F a_L_law_249 rfl ?_
  refine g_aload_n F a_L_law_250 rfl ?_
  refine g_iload_n F a_L_law_251 rfl ?_
  refine g_iconst F a_L_law_252 ?_
  refine g_iadd F a_L_law_253 ?_
  refine g_sld F hX a_L_law_254 (by omega) ?_
  refine g_aload_n F a_L_law_255 rfl ?_
  refine g_iload_n F a_L_law_256 rfl ?_
  refine g_iconst F a_L_law_257 ?_
  refine g_iadd F a_L_law_258 ?_
  refine g_sld F hX a_L_law_259 (by omega) ?_
  refine g_v2 F a_L_law_260 vc_L_22 mk_M_fog ob_10 ck_10.1 rfl rfl (by decide) hk rfl (Nat.le_of_ble_eq_true rfl) (hM _ (fun m2 i2 => GCr.v ?_))
  exact g_same F a_L_law_263 (kont m2 i2)
set_option maxHeartbeats 1000000 in
theorem lc_2 {κ : Kx} {μ : MX} {Z : State → Prop} {kc ks : Nat} {m : Mem} {n b L : Nat} {xs : Nat → Int32} {i : Int} {nm : String} (F : Fx κ (G_Ln nm) 100 600000 7302250 μ) (hk : kc ≤ 600000 ∧ ks ≤ 7302250) (hX : SX κ μ b L xs) (h : Inv n m) (hn : n ≤ 600) (hi : 0 ≤ i ∧ i + 5 ≤ L) (kont : ∀ m2 : Mem, Inv (n + 1) m2 → GC κ μ Z kc ks 1387 [some (.ref b), some (.ref (ad κ 0 0)), some (.ref (ad κ 10 0)), some (vi i)] [] (World κ m2)) : GC κ μ Z kc ks 268 [some (.ref b), some (.ref (ad κ 0 0)), some (.ref (ad κ 10 0)), some (vi i)] [] (World κ m) := by
  refine g_aload_n F a_L_law_268 rfl ?_
  refine g_aload_n F a_L_law_269 rfl ?_
  refine g_iload_n F a_L_law_270 rfl ?_
  refine g_iconst F a_L_law_271 ?_
  refine g_iadd F a_L_law_272 ?_
  refine g_sld F hX a_L_law_273 (by omega) ?_
  refine g_aload_n F a_L_law_274 rfl ?_
  refine g_iload_n F a_L_law_275 rfl ?_
  refine g_iconst F a_L_law_276 ?_
  refine g_iadd F a_L_law_277 ?_
  refine g_sld F hX a_L_law_278 (by omega) ?_
  refine g_v2 F a_L_law_279 vc_L_23 mk_A_man ob_0 ck_0.1 rfl rfl (by decide) hk rfl (Nat.le_of_ble_eq_true rfl) (pr_man h hn (i32_r _) (i32_r _) _ (fun z m1 hM => GCr.v ?_))
  refine g_aload_n F a_L_law_282 rfl ?_
  refine g_aload_n F a_L_law_283 rfl ?_
  refine g_iload_n F a_L_law_284 rfl ?_
  refine g_iconst F a_L_law_285 ?_
  refine g_iadd F a_L_law_286 ?_
  refine g_sld F hX a_L_law_287 (by omega) ?_
  refine g_aload_n F a_L_law_288 rfl ?_
  refine g_iload_n F a_L_law_289 rfl ?_
  refine g_iconst F a_L_law_290 ?_
  refine g_iadd F a_L_law_291 ?_
  refine g_sld F hX a_L_law_292 (by omega) ?_
  refine g_v2 F a_L_law_293 vc_L_26 mk_M_man ob_10 ck_10.1 rfl rfl (by decide) hk rfl (Nat.le_of_ble_eq_true rfl) (hM _ (fun m2 i2 => GCr.v ?_))
  exact g_same F a_L_law_296 (kont m2 i2)
set_option maxHeartbeats 1000000 in
theorem lc_3 {κ : Kx} {μ : MX} {Z : State → Prop} {kc ks : Nat} {m : Mem} {n b L : Nat} {xs : Nat → Int32} {i : Int} {nm : String} (F : Fx κ (G_Ln nm) 100 600000 7302250 μ) (hk : kc ≤ 600000 ∧ ks ≤ 7302250) (hX : SX κ μ b L xs) (h : Inv n m) (hn : n ≤ 600) (hi : 0 ≤ i ∧ i + 5 ≤ L) (kont : ∀ m2 : Mem, Inv (n + 1) m2 → GC κ μ Z kc ks 1387 [some (.ref b), some (.ref (ad κ 0 0)), some (.ref (ad κ 10 0)), some (vi i)] [] (World κ m2)) : GC κ μ Z kc ks 301 [some (.ref b), some (.ref (ad κ 0 0)), some (.ref (ad κ 10 0)), some (vi i)] [] (World κ m) := by
  refine g_aload_n F a_L_law_301 rfl ?_
  refine g_aload_n F a_L_law_302 rfl ?_
  refine g_iload_n F a_L_law_303 rfl ?_
  refine g_iconst F a_L_law_304 ?_
  refine g_iadd F a_L_law_305 ?_
  refine g_sld F hX a_L_law_306 (by omega) ?_
  refine g_v1 F a_L_law_307 vc_L_27 mk_A_reader ob_0 ck_0.1 rfl rfl (by decide) hk rfl (Nat.le_of_ble_eq_true rfl) (pr_reader h hn (i32_r _) _ (fun z m1 hM => GCr.v ?_))
  refine g_aload_n F a_L_law_310 rfl ?_
  refine g_aload_n F a_L_law_311 rfl ?_
  refine g_iload_n F a_L_law_312 rfl ?_
  refine g_iconst F a_L_law_313 ?_
  refine g_iadd F a_L_law_314 ?_
  refine g_sld F hX a_L_law_315 (by omega) ?_
  refine g_v1 F a_L_law_316 vc_L_30 mk_M_reader ob_10 ck_10.1 rfl rfl (by decide) hk rfl (Nat.le_of_ble_eq_true rfl) (hM _ (fun m2 i2 => GCr.v ?_))
  exact g_same F a_L_law_319 (kont m2 i2)
set_option maxHeartbeats 1000000 in
theorem lc_4 {κ : Kx} {μ : MX} {Z : State → Prop} {kc ks : Nat} {m : Mem} {n b L : Nat} {xs : Nat → Int32} {i : Int} {nm : String} (F : Fx κ (G_Ln nm) 100 600000 7302250 μ) (hk : kc ≤ 600000 ∧ ks ≤ 7302250) (hX : SX κ μ b L xs) (h : Inv n m) (hn : n ≤ 600) (hi : 0 ≤ i ∧ i + 5 ≤ L) (kont : ∀ m2 : Mem, Inv (n + 1) m2 → GC κ μ Z kc ks 1387 [some (.ref b), some (.ref (ad κ 0 0)), some (.ref (ad κ 10 0)), some (vi i)] [] (World κ m2)) : GC κ μ Z kc ks 324 [some (.ref b), some (.ref (ad κ 0 0)), some (.ref (ad κ 10 0)), some (vi i)] [] (World κ m) := by
  refine g_aload_n F a_L_law_324 rfl ?_
  refine g_aload_n F a_L_law_325 rfl ?_
  refine g_iload_n F a_L_law_326 rfl ?_
  refine g_iconst F a_L_law_327 ?_
  refine g_iadd F a_L_law_328 ?_
  refine g_sld F hX a_L_law_329 (by omega) ?_
  refine g_v1 F a_L_law_330 vc_L_31 mk_A_type ob_0 ck_0.1 rfl rfl (by decide) hk rfl (Nat.le_of_ble_eq_true rfl) (pr_type h hn (i32_r _) _ (fun z m1 hM => GCr.v ?_))
  refine g_aload_n F a_L_law_333 rfl ?_
  refine g_aload_n F a_L_law_334 rfl ?_
  refine g_iload_n F a_L_law_335 rfl ?_
  refine g_iconst F a_L_law_336 ?_
  refine g_iadd F a_L_law_337 ?_
  refine g_sld F hX a_L_law_338 (by omega) ?_
  refine g_v1 F a_L_law_339 vc_L_34 mk_M_type ob_10 ck_10.1 rfl rfl (by decide) hk rfl (Nat.le_of_ble_eq_true rfl) (hM _ (fun m2 i2 => GCr.v ?_))
  exact g_same F a_L_law_342 (kont m2 i2)
set_option maxHeartbeats 1000000 in
theorem lc_5 {κ : Kx} {μ : MX} {Z : State → Prop} {kc ks : Nat} {m : Mem} {n b L : Nat} {xs : Nat → Int32} {i : Int} {nm : String} (F : Fx κ (G_Ln nm) 100 600000 7302250 μ) (hk : kc ≤ 600000 ∧ ks ≤ 7302250) (hX : SX κ μ b L xs) (h : Inv n m) (hn : n ≤ 600) (hi : 0 ≤ i ∧ i + 5 ≤ L) (kont : ∀ m2 : Mem, Inv (n + 1) m2 → GC κ μ Z kc ks 1387 [some (.ref b), some (.ref (ad κ 0 0)), some (.ref (ad κ 10 0)), some (vi i)] [] (World κ m2)) : GC κ μ Z kc ks 347 [some (.ref b), some (.ref (ad κ 0 0)), some (.ref (ad κ 10 0)), some (vi i)] [] (World κ m) := by
  refine g_aload_n F a_L_law_347 rfl ?_
  refine g_v0 F a_L_law_348 vc_L_35 mk_A_clear ob_0 ck_0.1 rfl rfl (by decide) hk rfl (Nat.le_of_ble_eq_true rfl) (pr_clear h hn _ (fun z m1 hM => GCr.v ?_))
  refine g_aload_n F a_L_law_351 rfl ?_
  refine g_v0 F a_L_law_352 vc_L_39 mk_M_clear ob_10 ck_10.1 rfl rfl (by decide) hk rfl (Nat.le_of_ble_eq_true rfl) (hM _ (fun m2 i2 => GCr.v ?_))
  exact g_same F a_L_law_355 (kont m2 i2)
set_option maxHeartbeats 1000000 in
theorem lc_6 {κ : Kx} {μ : MX} {Z : State → Prop} {kc ks : Nat} {m : Mem} {n b L : Nat} {xs : Nat → Int32} {i : Int} {nm : String} (F : Fx κ (G_Ln nm) 100 600000 7302250 μ) (hk : kc ≤ 600000 ∧ ks ≤ 7302250) (hX : SX κ μ b L xs) (h : Inv n m) (hn : n ≤ 600) (hi : 0 ≤ i ∧ i + 5 ≤ L) (kont : ∀ m2 : Mem, Inv (n + 1) m2 → GC κ μ Z kc ks 1387 [some (.ref b), some (.ref (ad κ 0 0)), some (.ref (ad κ 10 0)), some (vi i)] [] (World κ m2)) : GC κ μ Z kc ks 360 [some (.ref b), some (.ref (ad κ 0 0)), some (.ref (ad κ 10 0)), some (vi i)] [] (World κ m) := by
  refine g_aload_n F a_L_law_360 rfl ?_
  refine g_v0 F a_L_law_361 vc_L_40 mk_A_read ob_0 ck_0.1 rfl rfl (by decide) hk rfl (Nat.le_of_ble_eq_true rfl) (pr_read h hn _ (fun z m1 hM => GCr.v ?_))
  refine g_aload_n F a_L_law_364 rfl ?_
  refine g_v0 F a_L_law_365 vc_L_43 mk_M_read ob_10 ck_10.1 rfl rfl (by decide) hk rfl (Nat.le_of_ble_eq_true rfl) (hM _ (fun m2 i2 => GCr.v ?_))
  exact g_same F a_L_law_368 (kont m2 i2)
set_option maxHeartbeats 1000000 in
theorem lc_7 {κ : Kx} {μ : MX} {Z : State → Prop} {kc ks : Nat} {m : Mem} {n b L : Nat} {xs : Nat → Int32} {i : Int} {nm : String} (F : Fx κ (G_Ln nm) 100 600000 7302250 μ) (hk : kc ≤ 600000 ∧ ks ≤ 7302250) (hX : SX κ μ b L xs) (h : Inv n m) (hn : n ≤ 600) (hi : 0 ≤ i ∧ i + 5 ≤ L) (kont : ∀ m2 : Mem, Inv (n + 1) m2 → GC κ μ Z kc ks 1387 [some (.ref b), some (.ref (ad κ 0 0)), some (.ref (ad κ 10 0)), some (vi i)] [] (World κ m2)) : GC κ μ Z kc ks 373 [some (.ref b), some (.ref (ad κ 0 0)), some (.ref (ad κ 10 0)), some (vi i)] [] (World κ m) := by
  refine g_aload_n F a_L_law_373 rfl ?_
  refine g_aload_n F a_L_law_374 rfl ?_
  refine g_iload_n F a_L_law_375 rfl ?_
  refine g_iconst F a_L_law_376 ?_
  refine g_iadd F a_L_law_377 ?_
  refine g_sld F hX a_L_law_378 (by omega) ?_
  refine g_aload_n F a_L_law_379 rfl ?_
  refine g_iload_n F a_L_law_380 rfl ?_
  refine g_iconst F a_L_law_381 ?_
  refine g_iadd F a_L_law_382 ?_
  refine g_sld F hX a_L_law_383 (by omega) ?_
  refine g_v2 F a_L_law_384 vc_L_44 mk_A_noon ob_0 ck_0.1 rfl rfl (by decide) hk rfl (Nat.le_of_ble_eq_true rfl) (pr_noon h hn (i32_r _) (i32_r _) _ (fun z m1 hM => GCr.v ?_))
  refine g_aload_n F a_L_law_387 rfl ?_
  refine g_aload_n F a_L_law_388 rfl ?_
  refine g_iload_n F a_L_law_389 rfl ?_
  refine g_iconst F a_L_law_390 ?_
  refine g_iadd F a_L_law_391 ?_
  refine g_sld F hX a_L_law_392 (by omega) ?_
  refine g_aload_n F a_L_law_393 rfl ?_
  refine g_iload_n F a_L_law_394 rfl ?_
  refine g_iconst F a_L_law_395 ?_
  refine g_iadd F a_L_law_396 ?_
  refine g_sld F hX a_L_law_397 (by omega) ?_
  refine g_v2 F a_L_law_398 vc_L_47 mk_M_noon ob_10 ck_10.1 rfl rfl (by decide) hk rfl (Nat.le_of_ble_eq_true rfl) (hM _ (fun m2 i2 => GCr.v ?_))
  exact g_same F a_L_law_401 (kont m2 i2)
set_option maxHeartbeats 1000000 in
theorem lc_8 {κ : Kx} {μ : MX} {Z : State → Prop} {kc ks : Nat} {m : Mem} {n b L : Nat} {xs : Nat → Int32} {i : Int} {nm : String} (F : Fx κ (G_Ln nm) 100 600000 7302250 μ) (hk : kc ≤ 600000 ∧ ks ≤ 7302250) (hX : SX κ μ b L xs) (h : Inv n m) (hn : n ≤ 600) (hi : 0 ≤ i ∧ i + 5 ≤ L) (kont : ∀ m2 : Mem, Inv (n + 1) m2 → GC κ μ Z kc ks 1387 [some (.ref b), some (.ref (ad κ 0 0)), some (.ref (ad κ 10 0)), some (vi i)] [] (World κ m2)) : GC κ μ Z kc ks 406 [some (.ref b), some (.ref (ad κ 0 0)), some (.ref (ad κ 10 0)), some (vi i)] [] (World κ m) := by
  refine g_aload_n F a_L_law_406 rfl ?_
  refine g_aload_n F a_L_law_407 rfl ?_
  refine g_iload_n F a_L_law_408 rfl ?_
  refine g_iconst F a_L_law_409 ?_
  refine g_iadd F a_L_law_410 ?_
  refine g_sld F hX a_L_law_411 (by omega) ?_
  refine g_aload_n F a_L_law_412 rfl ?_
  refine g_iload_n F a_L_law_413 rfl ?_
  refine g_iconst F a_L_law_414 ?_
  refine g_iadd F a_L_law_415 ?_
  refine g_sld F hX a_L_law_416 (by omega) ?_
  refine g_v2 F a_L_law_417 vc_L_48 mk_A_deed ob_0 ck_0.1 rfl rfl (by decide) hk rfl (Nat.le_of_ble_eq_true rfl) (pr_deed h hn (i32_r _) (i32_r _) _ (fun z m1 hM => GCr.v ?_))
  refine g_aload_n F a_L_law_420 rfl ?_
  refine g_aload_n F a_L_law_421 rfl ?_
  refine g_iload_n F a_L_law_422 rfl ?_
  refine g_iconst F a_L_law_423 ?_
  refine g_iadd F a_L_law_424 ?_
  refine g_sld F hX a_L_law_425 (by omega) ?_
  refine g_aload_n F a_L_law_426 rfl ?_
  refine g_iload_n F a_L_law_427 rfl ?_
  refine g_iconst F a_L_law_428 ?_
  refine g_iadd F a_L_law_429 ?_
  refine g_sld F hX a_L_law_430 (by omega) ?_
  refine g_v2 F a_L_law_431 vc_L_51 mk_M_deed ob_10 ck_10.1 rfl rfl (by decide) hk rfl (Nat.le_of_ble_eq_true rfl) (hM _ (fun m2 i2 => GCr.v ?_))
  exact g_same F a_L_law_434 (kont m2 i2)
set_option maxHeartbeats 1000000 in
theorem lc_9 {κ : Kx} {μ : MX} {Z : State → Prop} {kc ks : Nat} {m : Mem} {n b L : Nat} {xs : Nat → Int32} {i : Int} {nm : String} (F : Fx κ (G_Ln nm) 100 600000 7302250 μ) (hk : kc ≤ 600000 ∧ ks ≤ 7302250) (hX : SX κ μ b L xs) (h : Inv n m) (hn : n ≤ 600) (hi : 0 ≤ i ∧ i + 5 ≤ L) (kont : ∀ m2 : Mem, Inv (n + 1) m2 → GC κ μ Z kc ks 1387 [some (.ref b), some (.ref (ad κ 0 0)), some (.ref (ad κ 10 0)), some (vi i)] [] (World κ m2)) : GC κ μ Z kc ks 439 [some (.ref b), some (.ref (ad κ 0 0)), some (.ref (ad κ 10 0)), some (vi i)] [] (World κ m) := by
  refine g_aload_n F a_L_law_439 rfl ?_
  refine g_v0 F a_L_law_440 vc_L_52 mk_A_undo ob_0 ck_0.1 rfl rfl (by decide) hk rfl (Nat.le_of_ble_eq_true rfl) (pr_undo h hn _ (fun z m1 hM => GCr.v ?_))
  refine g_aload_n F a_L_law_443 rfl ?_
  refine g_v0 F a_L_law_444 vc_L_55 mk_M_undo ob_10 ck_10.1 rfl rfl (by decide) hk rfl (Nat.le_of_ble_eq_true rfl) (hM _ (fun m2 i2 => GCr.v ?_))
  exact g_same F a_L_law_447 (kont m2 i2)
set_option maxHeartbeats 1000000 in
theorem lc_10 {κ : Kx} {μ : MX} {Z : State → Prop} {kc ks : Nat} {m : Mem} {n b L : Nat} {xs : Nat → Int32} {i : Int} {nm : String} (F : Fx κ (G_Ln nm) 100 600000 7302250 μ) (hk : kc ≤ 600000 ∧ ks ≤ 7302250) (hX : SX κ μ b L xs) (h : Inv n m) (hn : n ≤ 600) (hi : 0 ≤ i ∧ i + 5 ≤ L) (kont : ∀ m2 : Mem, Inv (n + 1) m2 → GC κ μ Z kc ks 1387 [some (.ref b), some (.ref (ad κ 0 0)), some (.ref (ad κ 10 0)), some (vi i)] [] (World κ m2)) : GC κ μ Z kc ks 452 [some (.ref b), some (.ref (ad κ 0 0)), some (.ref (ad κ 10 0)), some (vi i)] [] (World κ m) := by
  refine g_aload_n F a_L_law_452 rfl ?_
  refine g_aload_n F a_L_law_453 rfl ?_
  refine g_iload_n F a_L_law_454 rfl ?_
  refine g_iconst F a_L_law_455 ?_
  refine g_iadd F a_L_law_456 ?_
  refine g_sld F hX a_L_law_457 (by omega) ?_
  refine g_v1 F a_L_law_458 vc_L_56 mk_A_now ob_0 ck_0.1 rfl rfl (by decide) hk rfl (Nat.le_of_ble_eq_true rfl) (pr_now h hn (i32_r _) _ (fun z m1 hM => GCr.v ?_))
  refine g_aload_n F a_L_law_461 rfl ?_
  refine g_aload_n F a_L_law_462 rfl ?_
  refine g_iload_n F a_L_law_463 rfl ?_
  refine g_iconst F a_L_law_464 ?_
  refine g_iadd F a_L_law_465 ?_
  refine g_sld F hX a_L_law_466 (by omega) ?_
  refine g_v1 F a_L_law_467 vc_L_59 mk_M_now ob_10 ck_10.1 rfl rfl (by decide) hk rfl (Nat.le_of_ble_eq_true rfl) (hM _ (fun m2 i2 => GCr.v ?_))
  exact g_same F a_L_law_470 (kont m2 i2)
set_option maxHeartbeats 1000000 in
theorem lc_11 {κ : Kx} {μ : MX} {Z : State → Prop} {kc ks : Nat} {m : Mem} {n b L : Nat} {xs : Nat → Int32} {i : Int} {nm : String} (F : Fx κ (G_Ln nm) 100 600000 7302250 μ) (hk : kc ≤ 600000 ∧ ks ≤ 7302250) (hX : SX κ μ b L xs) (h : Inv n m) (hn : n ≤ 600) (hi : 0 ≤ i ∧ i + 5 ≤ L) (kont : ∀ m2 : Mem, Inv (n + 1) m2 → GC κ μ Z kc ks 1387 [some (.ref b), some (.ref (ad κ 0 0)), some (.ref (ad κ 10 0)), some (vi i)] [] (World κ m2)) : GC κ μ Z kc ks 475 [some (.ref b), some (.ref (ad κ 0 0)), some (.ref (ad κ 10 0)), some (vi i)] [] (World κ m) := by
  refine g_aload_n F a_L_law_475 rfl ?_
  refine g_aload_n F a_L_law_476 rfl ?_
  refine g_iload_n F a_L_law_477 rfl ?_
  refine g_iconst F a_L_law_478 ?_
  refine g_iadd F a_L_law_479 ?_
  refine g_sld F hX a_L_law_480 (by omega) ?_
  refine g_aload_n F a_L_law_481 rfl ?_
  refine g_iload_n F a_L_law_482 rfl ?_
  refine g_iconst F a_L_law_483 ?_
  refine g_iadd F a_L_law_484 ?_
  refine g_sld F hX a_L_law_485 (by omega) ?_
  refine g_v2 F a_L_law_486 vc_L_60 mk_A_of ob_0 ck_0.1 rfl rfl (by decide) hk rfl (Nat.le_of_ble_eq_true rfl) (pr_of h hn (i32_r _) (i32_r _) _ (fun z m1 hM => GCr.v ?_))
  refine g_aload_n F a_L_law_489 rfl ?_
  refine g_aload_n F a_L_law_490 rfl ?_
  refine g_iload_n F a_L_law_491 rfl ?_
  refine g_iconst F a_L_law_492 ?_
  refine g_iadd F a_L_law_493 ?_
  refine g_sld F hX a_L_law_494 (by omega) ?_
  refine g_aload_n F a_L_law_495 rfl ?_
  refine g_iload_n F a_L_law_496 rfl ?_
  refine g_iconst F a_L_law_497 ?_
  refine g_iadd F a_L_law_498 ?_
  refine g_sld F hX a_L_law_499 (by omega) ?_
  refine g_v2 F a_L_law_500 vc_L_63 mk_M_of ob_10 ck_10.1 rfl rfl (by decide) hk rfl (Nat.le_of_ble_eq_true rfl) (hM _ (fun m2 i2 => GCr.v ?_))
  exact g_same F a_L_law_503 (kont m2 i2)
set_option maxHeartbeats 1000000 in
theorem lc_12 {κ : Kx} {μ : MX} {Z : State → Prop} {kc ks : Nat} {m : Mem} {n b L : Nat} {xs : Nat → Int32} {i : Int} {nm : String} (F : Fx κ (G_Ln nm) 100 600000 7302250 μ) (hk : kc ≤ 600000 ∧ ks ≤ 7302250) (hX : SX κ μ b L xs) (h : Inv n m) (hn : n ≤ 600) (hi : 0 ≤ i ∧ i + 5 ≤ L) (kont : ∀ m2 : Mem, Inv (n + 1) m2 → GC κ μ Z kc ks 1387 [some (.ref b), some (.ref (ad κ 0 0)), some (.ref (ad κ 10 0)), some (vi i)] [] (World κ m2)) : GC κ μ Z kc ks 508 [some (.ref b), some (.ref (ad κ 0 0)), some (.ref (ad κ 10 0)), some (vi i)] [] (World κ m) := by
  refine g_aload_n F a_L_law_508 rfl ?_
  refine g_aload_n F a_L_law_509 rfl ?_
  refine g_iload_n F a_L_law_510 rfl ?_
  refine g_iconst F a_L_law_511 ?_
  refine g_iadd F a_L_law_512 ?_
  refine g_sld F hX a_L_law_513 (by omega) ?_
  refine g_v1 F a_L_law_514 vc_L_64 mk_A_angle ob_0 ck_0.1 rfl rfl (by decide) hk rfl (Nat.le_of_ble_eq_true rfl) (pr_angle h hn (i32_r _) _ (fun z m1 hM => GCr.v ?_))
  refine g_aload_n F a_L_law_517 rfl ?_
  refine g_aload_n F a_L_law_518 rfl ?_
  refine g_iload_n F a_L_law_519 rfl ?_
  refine g_iconst F a_L_law_520 ?_
  refine g_iadd F a_L_law_521 ?_
  refine g_sld F hX a_L_law_522 (by omega) ?_
  refine g_v1 F a_L_law_523 vc_L_67 mk_M_angle ob_10 ck_10.1 rfl rfl (by decide) hk rfl (Nat.le_of_ble_eq_true rfl) (hM _ (fun m2 i2 => GCr.v ?_))
  exact g_same F a_L_law_526 (kont m2 i2)
set_option maxHeartbeats 1000000 in
theorem lc_13 {κ : Kx} {μ : MX} {Z : State → Prop} {kc ks : Nat} {m : Mem} {n b L : Nat} {xs : Nat → Int32} {i : Int} {nm : String} (F : Fx κ (G_Ln nm) 100 600000 7302250 μ) (hk : kc ≤ 600000 ∧ ks ≤ 7302250) (hX : SX κ μ b L xs) (h : Inv n m) (hn : n ≤ 600) (hi : 0 ≤ i ∧ i + 5 ≤ L) (kont : ∀ m2 : Mem, Inv (n + 1) m2 → GC κ μ Z kc ks 1387 [some (.ref b), some (.ref (ad κ 0 0)), some (.ref (ad κ 10 0)), some (vi i)] [] (World κ m2)) : GC κ μ Z kc ks 531 [some (.ref b), some (.ref (ad κ 0 0)), some (.ref (ad κ 10 0)), some (vi i)] [] (World κ m) := by
  refine g_aload_n F a_L_law_531 rfl ?_
  refine g_aload_n F a_L_law_532 rfl ?_
  refine g_iload_n F a_L_law_533 rfl ?_
  refine g_iconst F a_L_law_534 ?_
  refine g_iadd F a_L_law_535 ?_
  refine g_sld F hX a_L_law_536 (by omega) ?_
  refine g_aload_n F a_L_law_537 rfl ?_
  refine g_iload_n F a_L_law_538 rfl ?_
  refine g_iconst F a_L_law_539 ?_
  refine g_iadd F a_L_law_540 ?_
  refine g_sld F hX a_L_law_541 (by omega) ?_
  refine g_v2 F a_L_law_542 vc_L_68 mk_A_reads ob_0 ck_0.1 rfl rfl (by decide) hk rfl (Nat.le_of_ble_eq_true rfl) (pr_reads h hn (i32_r _) (i32_r _) _ (fun z m1 hM => GCr.v ?_))
  refine g_aload_n F a_L_law_545 rfl ?_
  refine g_aload_n F a_L_law_546 rfl ?_
  refine g_iload_n F a_L_law_547 rfl ?_
  refine g_iconst F a_L_law_548 ?_
  refine g_iadd F a_L_law_549 ?_
  refine g_sld F hX a_L_law_550 (by omega) ?_
  refine g_aload_n F a_L_law_551 rfl ?_
  refine g_iload_n F a_L_law_552 rfl ?_
  refine g_iconst F a_L_law_553 ?_
  refine g_iadd F a_L_law_554 ?_
  refine g_sld F hX a_L_law_555 (by omega) ?_
  refine g_v2 F a_L_law_556 vc_L_71 mk_M_reads ob_10 ck_10.1 rfl rfl (by decide) hk rfl (Nat.le_of_ble_eq_true rfl) (hM _ (fun m2 i2 => GCr.v ?_))
  exact g_same F a_L_law_559 (kont m2 i2)
set_option maxHeartbeats 1000000 in
theorem lc_14 {κ : Kx} {μ : MX} {Z : State → Prop} {kc ks : Nat} {m : Mem} {n b L : Nat} {xs : Nat → Int32} {i : Int} {nm : String} (F : Fx κ (G_Ln nm) 100 600000 7302250 μ) (hk : kc ≤ 600000 ∧ ks ≤ 7302250) (hX : SX κ μ b L xs) (h : Inv n m) (hn : n ≤ 600) (hi : 0 ≤ i ∧ i + 5 ≤ L) (kont : ∀ m2 : Mem, Inv (n + 1) m2 → GC κ μ Z kc ks 1387 [some (.ref b), some (.ref (ad κ 0 0)), some (.ref (ad κ 10 0)), some (vi i)] [] (World κ m2)) : GC κ μ Z kc ks 564 [some (.ref b), some (.ref (ad κ 0 0)), some (.ref (ad κ 10 0)), some (vi i)] [] (World κ m) := by
  refine g_aload_n F a_L_law_564 rfl ?_
  refine g_aload_n F a_L_law_565 rfl ?_
  refine g_iload_n F a_L_law_566 rfl ?_
  refine g_iconst F a_L_law_567 ?_
  refine g_iadd F a_L_law_568 ?_
  refine g_sld F hX a_L_law_569 (by omega) ?_
  refine g_aload_n F a_L_law_570 rfl ?_
  refine g_iload_n F a_L_law_571 rfl ?_
  refine g_iconst F a_L_law_572 ?_
  refine g_iadd F a_L_law_573 ?_
  refine g_sld F hX a_L_law_574 (by omega) ?_
  refine g_v2 F a_L_law_575 vc_L_72 mk_A_error ob_0 ck_0.1 rfl rfl (by decide) hk rfl (Nat.le_of_ble_eq_true rfl) (pr_error h hn (i32_r _) (i32_r _) _ (fun z m1 hM => GCr.v ?_))
  refine g_aload_n F a_L_law_578 rfl ?_
  refine g_aload_n F a_L_law_579 rfl ?_
  refine g_iload_n F a_L_law_580 rfl ?_
  refine g_iconst F a_L_law_581 ?_
  refine g_iadd F a_L_law_582 ?_
  refine g_sld F hX a_L_law_583 (by omega) ?_
  refine g_aload_n F a_L_law_584 rfl ?_
  refine g_iload_n F a_L_law_585 rfl ?_
  refine g_iconst F a_L_law_586 ?_
  refine g_iadd F a_L_law_587 ?_
  refine g_sld F hX a_L_law_588 (by omega) ?_
  refine g_v2 F a_L_law_589 vc_L_75 mk_M_error ob_10 ck_10.1 rfl rfl (by decide) hk rfl (Nat.le_of_ble_eq_true rfl) (hM _ (fun m2 i2 => GCr.v ?_))
  exact g_same F a_L_law_592 (kont m2 i2)
set_option maxHeartbeats 1000000 in
theorem lc_15 {κ : Kx} {μ : MX} {Z : State → Prop} {kc ks : Nat} {m : Mem} {n b L : Nat} {xs : Nat → Int32} {i : Int} {nm : String} (F : Fx κ (G_Ln nm) 100 600000 7302250 μ) (hk : kc ≤ 600000 ∧ ks ≤ 7302250) (hX : SX κ μ b L xs) (h : Inv n m) (hn : n ≤ 600) (hi : 0 ≤ i ∧ i + 5 ≤ L) (kont : ∀ m2 : Mem, Inv (n + 1) m2 → GC κ μ Z kc ks 1387 [some (.ref b), some (.ref (ad κ 0 0)), some (.ref (ad κ 10 0)), some (vi i)] [] (World κ m2)) : GC κ μ Z kc ks 597 [some (.ref b), some (.ref (ad κ 0 0)), some (.ref (ad κ 10 0)), some (vi i)] [] (World κ m) := by
  refine g_aload_n F a_L_law_597 rfl ?_
  refine g_v0 F a_L_law_598 vc_L_76 mk_A_off ob_0 ck_0.1 rfl rfl (by decide) hk rfl (Nat.le_of_ble_eq_true rfl) (pr_off h hn _ (fun z m1 hM => GCr.v ?_))
  refine g_aload_n F a_L_law_601 rfl ?_
  refine g_v0 F a_L_law_602 vc_L_79 mk_M_off ob_10 ck_10.1 rfl rfl (by decide) hk rfl (Nat.le_of_ble_eq_true rfl) (hM _ (fun m2 i2 => GCr.v ?_))
  exact g_same F a_L_law_605 (kont m2 i2)
set_option maxHeartbeats 1000000 in
theorem lc_16 {κ : Kx} {μ : MX} {Z : State → Prop} {kc ks : Nat} {m : Mem} {n b L : Nat} {xs : Nat → Int32} {i : Int} {nm : String} (F : Fx κ (G_Ln nm) 100 600000 7302250 μ) (hk : kc ≤ 600000 ∧ ks ≤ 7302250) (hX : SX κ μ b L xs) (h : Inv n m) (hn : n ≤ 600) (hi : 0 ≤ i ∧ i + 5 ≤ L) (kont : ∀ m2 : Mem, Inv (n + 1) m2 → GC κ μ Z kc ks 1387 [some (.ref b), some (.ref (ad κ 0 0)), some (.ref (ad κ 10 0)), some (vi i)] [] (World κ m2)) : GC κ μ Z kc ks 610 [some (.ref b), some (.ref (ad κ 0 0)), some (.ref (ad κ 10 0)), some (vi i)] [] (World κ m) := by
  refine g_aload_n F a_L_law_610 rfl ?_
  refine g_aload_n F a_L_law_611 rfl ?_
  refine g_iload_n F a_L_law_612 rfl ?_
  refine g_iconst F a_L_law_613 ?_
  refine g_iadd F a_L_law_614 ?_
  refine g_sld F hX a_L_law_615 (by omega) ?_
  refine g_aload_n F a_L_law_616 rfl ?_
  refine g_iload_n F a_L_law_617 rfl ?_
  refine g_iconst F a_L_law_618 ?_
  refine g_iadd F a_L_law_619 ?_
  refine g_sld F hX a_L_law_620 (by omega) ?_
  refine g_aload_n F a_L_law_621 rfl ?_
  refine g_iload_n F a_L_law_622 rfl ?_
  refine g_iconst F a_L_law_623 ?_
  refine g_iadd F a_L_law_624 ?_
  refine g_sld F hX a_L_law_625 (by omega) ?_
  refine g_v3 F a_L_law_626 vc_L_80 mk_A_then ob_0 ck_0.1 rfl rfl (by decide) hk rfl (Nat.le_of_ble_eq_true rfl) (pr_then h hn (i32_r _) (i32_r _) (i32_r _) _ (fun z m1 hM => GCr.v ?_))
  refine g_aload_n F a_L_law_629 rfl ?_
  refine g_aload_n F a_L_law_630 rfl ?_
  refine g_iload_n F a_L_law_631 rfl ?_
  refine g_iconst F a_L_law_632 ?_
  refine g_iadd F a_L_law_633 ?_
  refine g_sld F hX a_L_law_634 (by omega) ?_
  refine g_aload_n F a_L_law_635 rfl ?_
  refine g_iload_n F a_L_law_636 rfl ?_
  refine g_iconst F a_L_law_637 ?_
  refine g_iadd F a_L_law_638 ?_
  refine g_sld F hX a_L_law_639 (by omega) ?_
  refine g_aload_n F a_L_law_640 rfl ?_
  refine g_iload_n F a_L_law_641 rfl ?_
  refine g_iconst F a_L_law_642 ?_
  refine g_iadd F a_L_law_643 ?_
  refine g_sld F hX a_L_law_644 (by omega) ?_
  refine g_v3 F a_L_law_645 vc_L_84 mk_M_then ob_10 ck_10.1 rfl rfl (by decide) hk rfl (Nat.le_of_ble_eq_true rfl) (hM _ (fun m2 i2 => GCr.v ?_))
  exact g_same F a_L_law_648 (kont m2 i2)
set_option maxHeartbeats 1000000 in
theorem lc_17 {κ : Kx} {μ : MX} {Z : State → Prop} {kc ks : Nat} {m : Mem} {n b L : Nat} {xs : Nat → Int32} {i : Int} {nm : String} (F : Fx κ (G_Ln nm) 100 600000 7302250 μ) (hk : kc ≤ 600000 ∧ ks ≤ 7302250) (hX : SX κ μ b L xs) (h : Inv n m) (hn : n ≤ 600) (hi : 0 ≤ i ∧ i + 5 ≤ L) (kont : ∀ m2 : Mem, Inv (n + 1) m2 → GC κ μ Z kc ks 1387 [some (.ref b), some (.ref (ad κ 0 0)), some (.ref (ad κ 10 0)), some (vi i)] [] (World κ m2)) : GC κ μ Z kc ks 653 [some (.ref b), some (.ref (ad κ 0 0)), some (.ref (ad κ 10 0)), some (vi i)] [] (World κ m) := by
  refine g_aload_n F a_L_law_653 rfl ?_
  refine g_aload_n F a_L_law_654 rfl ?_
  refine g_iload_n F a_L_law_655 rfl ?_
  refine g_iconst F a_L_law_656 ?_
  refine g_iadd F a_L_law_657 ?_
  refine g_sld F hX a_L_law_658 (by omega) ?_
  refine g_aload_n F a_L_law_659 rfl ?_
  refine g_iload_n F a_L_law_660 rfl ?_
  refine g_iconst F a_L_law_661 ?_
  refine g_iadd F a_L_law_662 ?_
  refine g_sld F hX a_L_law_663 (by omega) ?_
  refine g_v2 F a_L_law_664 vc_L_85 mk_A_when ob_0 ck_0.1 rfl rfl (by decide) hk rfl (Nat.le_of_ble_eq_true rfl) (pr_when h hn (i32_r _) (i32_r _) _ (fun z m1 hM => GCr.v ?_))
  refine g_aload_n F a_L_law_667 rfl ?_
  refine g_aload_n F a_L_law_668 rfl ?_
  refine g_iload_n F a_L_law_669 rfl ?_
  refine g_iconst F a_L_law_670 ?_
  refine g_iadd F a_L_law_671 ?_
  refine g_sld F hX a_L_law_672 (by omega) ?_
  refine g_aload_n F a_L_law_673 rfl ?_
  refine g_iload_n F a_L_law_674 rfl ?_
  refine g_iconst F a_L_law_675 ?_
  refine g_iadd F a_L_law_676 ?_
  refine g_sld F hX a_L_law_677 (by omega) ?_
  refine g_v2 F a_L_law_678 vc_L_88 mk_M_when ob_10 ck_10.1 rfl rfl (by decide) hk rfl (Nat.le_of_ble_eq_true rfl) (hM _ (fun m2 i2 => GCr.v ?_))
  exact g_same F a_L_law_681 (kont m2 i2)
set_option maxHeartbeats 1000000 in
theorem lc_18 {κ : Kx} {μ : MX} {Z : State → Prop} {kc ks : Nat} {m : Mem} {n b L : Nat} {xs : Nat → Int32} {i : Int} {nm : String} (F : Fx κ (G_Ln nm) 100 600000 7302250 μ) (hk : kc ≤ 600000 ∧ ks ≤ 7302250) (hX : SX κ μ b L xs) (h : Inv n m) (hn : n ≤ 600) (hi : 0 ≤ i ∧ i + 5 ≤ L) (kont : ∀ m2 : Mem, Inv (n + 1) m2 → GC κ μ Z kc ks 1387 [some (.ref b), some (.ref (ad κ 0 0)), some (.ref (ad κ 10 0)), some (vi i)] [] (World κ m2)) : GC κ μ Z kc ks 686 [some (.ref b), some (.ref (ad κ 0 0)), some (.ref (ad κ 10 0)), some (vi i)] [] (World κ m) := by
  refine g_aload_n F a_L_law_686 rfl ?_
  refine g_aload_n F a_L_law_687 rfl ?_
  refine g_iload_n F a_L_law_688 rfl ?_
  refine g_iconst F a_L_law_689 ?_
  refine g_iadd F a_L_law_690 ?_
  refine g_sld F hX a_L_law_691 (by omega) ?_
  refine g_aload_n F a_L_law_692 rfl ?_
  refine g_iload_n F a_L_law_693 rfl ?_
  refine g_iconst F a_L_law_694 ?_
  refine g_iadd F a_L_law_695 ?_
  refine g_sld F hX a_L_law_696 (by omega) ?_
  refine g_aload_n F a_L_law_697 rfl ?_
  refine g_iload_n F a_L_law_698 rfl ?_
  refine g_iconst F a_L_law_699 ?_
  refine g_iadd F a_L_law_700 ?_
  refine g_sld F hX a_L_law_701 (by omega) ?_
  refine g_v3 F a_L_law_702 vc_L_89 mk_A_best ob_0 ck_0.1 rfl rfl (by decide) hk rfl (Nat.le_of_ble_eq_true rfl) (pr_best h hn (i32_r _) (i32_r _) (i32_r _) _ (fun z m1 hM => GCr.v ?_))
  refine g_aload_n F a_L_law_705 rfl ?_
  refine g_aload_n F a_L_law_706 rfl ?_
  refine g_iload_n F a_L_law_707 rfl ?_
  refine g_iconst F a_L_law_708 ?_
  refine g_iadd F a_L_law_709 ?_
  refine g_sld F hX a_L_law_710 (by omega) ?_
  refine g_aload_n F a_L_law_711 rfl ?_
  refine g_iload_n F a_L_law_712 rfl ?_
  refine g_iconst F a_L_law_713 ?_
  refine g_iadd F a_L_law_714 ?_
  refine g_sld F hX a_L_law_715 (by omega) ?_
  refine g_aload_n F a_L_law_716 rfl ?_
  refine g_iload_n F a_L_law_717 rfl ?_
  refine g_iconst F a_L_law_718 ?_
  refine g_iadd F a_L_law_719 ?_
  refine g_sld F hX a_L_law_720 (by omega) ?_
  refine g_v3 F a_L_law_721 vc_L_92 mk_M_best ob_10 ck_10.1 rfl rfl (by decide) hk rfl (Nat.le_of_ble_eq_true rfl) (hM _ (fun m2 i2 => GCr.v ?_))
  exact g_same F a_L_law_724 (kont m2 i2)
set_option maxHeartbeats 1000000 in
theorem lc_19 {κ : Kx} {μ : MX} {Z : State → Prop} {kc ks : Nat} {m : Mem} {n b L : Nat} {xs : Nat → Int32} {i : Int} {nm : String} (F : Fx κ (G_Ln nm) 100 600000 7302250 μ) (hk : kc ≤ 600000 ∧ ks ≤ 7302250) (hX : SX κ μ b L xs) (h : Inv n m) (hn : n ≤ 600) (hi : 0 ≤ i ∧ i + 5 ≤ L) (kont : ∀ m2 : Mem, Inv (n + 1) m2 → GC κ μ Z kc ks 1387 [some (.ref b), some (.ref (ad κ 0 0)), some (.ref (ad κ 10 0)), some (vi i)] [] (World κ m2)) : GC κ μ Z kc ks 729 [some (.ref b), some (.ref (ad κ 0 0)), some (.ref (ad κ 10 0)), some (vi i)] [] (World κ m) := by
  refine g_aload_n F a_L_law_729 rfl ?_
  refine g_aload_n F a_L_law_730 rfl ?_
  refine g_iload_n F a_L_law_731 rfl ?_
  refine g_iconst F a_L_law_732 ?_
  refine g_iadd F a_L_law_733 ?_
  refine g_sld F hX a_L_law_734 (by omega) ?_
  refine g_aload_n F a_L_law_735 rfl ?_
  refine g_iload_n F a_L_law_736 rfl ?_
  refine g_iconst F a_L_law_737 ?_
  refine g_iadd F a_L_law_738 ?_
  refine g_sld F hX a_L_law_739 (by omega) ?_
  refine g_v2 F a_L_law_740 vc_L_93 mk_A_fewest ob_0 ck_0.1 rfl rfl (by decide) hk rfl (Nat.le_of_ble_eq_true rfl) (pr_fewest h hn (i32_r _) (i32_r _) _ (fun z m1 hM => GCr.v ?_))
  refine g_aload_n F a_L_law_743 rfl ?_
  refine g_aload_n F a_L_law_744 rfl ?_
  refine g_iload_n F a_L_law_745 rfl ?_
  refine g_iconst F a_L_law_746 ?_
  refine g_iadd F a_L_law_747 ?_
  refine g_sld F hX a_L_law_748 (by omega) ?_
  refine g_aload_n F a_L_law_749 rfl ?_
  refine g_iload_n F a_L_law_750 rfl ?_
  refine g_iconst F a_L_law_751 ?_
  refine g_iadd F a_L_law_752 ?_
  refine g_sld F hX a_L_law_753 (by omega) ?_
  refine g_v2 F a_L_law_754 vc_L_96 mk_M_fewest ob_10 ck_10.1 rfl rfl (by decide) hk rfl (Nat.le_of_ble_eq_true rfl) (hM _ (fun m2 i2 => GCr.v ?_))
  exact g_same F a_L_law_757 (kont m2 i2)
set_option maxHeartbeats 1000000 in
theorem lc_20 {κ : Kx} {μ : MX} {Z : State → Prop} {kc ks : Nat} {m : Mem} {n b L : Nat} {xs : Nat → Int32} {i : Int} {nm : String} (F : Fx κ (G_Ln nm) 100 600000 7302250 μ) (hk : kc ≤ 600000 ∧ ks ≤ 7302250) (hX : SX κ μ b L xs) (h : Inv n m) (hn : n ≤ 600) (hi : 0 ≤ i ∧ i + 5 ≤ L) (kont : ∀ m2 : Mem, Inv (n + 1) m2 → GC κ μ Z kc ks 1387 [some (.ref b), some (.ref (ad κ 0 0)), some (.ref (ad κ 10 0)), some (vi i)] [] (World κ m2)) : GC κ μ Z kc ks 762 [some (.ref b), some (.ref (ad κ 0 0)), some (.ref (ad κ 10 0)), some (vi i)] [] (World κ m) := by
  refine g_aload_n F a_L_law_762 rfl ?_
  refine g_aload_n F a_L_law_763 rfl ?_
  refine g_iload_n F a_L_law_764 rfl ?_
  refine g_iconst F a_L_law_765 ?_
  refine g_iadd F a_L_law_766 ?_
  refine g_sld F hX a_L_law_767 (by omega) ?_
  refine g_aload_n F a_L_law_768 rfl ?_
  refine g_iload_n F a_L_law_769 rfl ?_
  refine g_iconst F a_L_law_770 ?_
  refine g_iadd F a_L_law_771 ?_
  refine g_sld F hX a_L_law_772 (by omega) ?_
  refine g_aload_n F a_L_law_773 rfl ?_
  refine g_iload_n F a_L_law_774 rfl ?_
  refine g_iconst F a_L_law_775 ?_
  refine g_iadd F a_L_law_776 ?_
  refine g_sld F hX a_L_law_777 (by omega) ?_
  refine g_v3 F a_L_law_778 vc_L_97 mk_A_cape ob_0 ck_0.1 rfl rfl (by decide) hk rfl (Nat.le_of_ble_eq_true rfl) (pr_cape h hn (i32_r _) (i32_r _) (i32_r _) _ (fun z m1 hM => GCr.v ?_))
  refine g_aload_n F a_L_law_781 rfl ?_
  refine g_aload_n F a_L_law_782 rfl ?_
  refine g_iload_n F a_L_law_783 rfl ?_
  refine g_iconst F a_L_law_784 ?_
  refine g_iadd F a_L_law_785 ?_
  refine g_sld F hX a_L_law_786 (by omega) ?_
  refine g_aload_n F a_L_law_787 rfl ?_
  refine g_iload_n F a_L_law_788 rfl ?_
  refine g_iconst F a_L_law_789 ?_
  refine g_iadd F a_L_law_790 ?_
  refine g_sld F hX a_L_law_791 (by omega) ?_
  refine g_aload_n F a_L_law_792 rfl ?_
  refine g_iload_n F a_L_law_793 rfl ?_
  refine g_iconst F a_L_law_794 ?_
  refine g_iadd F a_L_law_795 ?_
  refine g_sld F hX a_L_law_796 (by omega) ?_
  refine g_v3 F a_L_law_797 vc_L_100 mk_M_cape ob_10 ck_10.1 rfl rfl (by decide) hk rfl (Nat.le_of_ble_eq_true rfl) (hM _ (fun m2 i2 => GCr.v ?_))
  exact g_same F a_L_law_800 (kont m2 i2)
set_option maxHeartbeats 1000000 in
theorem lc_21 {κ : Kx} {μ : MX} {Z : State → Prop} {kc ks : Nat} {m : Mem} {n b L : Nat} {xs : Nat → Int32} {i : Int} {nm : String} (F : Fx κ (G_Ln nm) 100 600000 7302250 μ) (hk : kc ≤ 600000 ∧ ks ≤ 7302250) (hX : SX κ μ b L xs) (h : Inv n m) (hn : n ≤ 600) (hi : 0 ≤ i ∧ i + 5 ≤ L) (kont : ∀ m2 : Mem, Inv (n + 1) m2 → GC κ μ Z kc ks 1387 [some (.ref b), some (.ref (ad κ 0 0)), some (.ref (ad κ 10 0)), some (vi i)] [] (World κ m2)) : GC κ μ Z kc ks 805 [some (.ref b), some (.ref (ad κ 0 0)), some (.ref (ad κ 10 0)), some (vi i)] [] (World κ m) := by
  refine g_aload_n F a_L_law_805 rfl ?_
  refine g_aload_n F a_L_law_806 rfl ?_
  refine g_iload_n F a_L_law_807 rfl ?_
  refine g_iconst F a_L_law_808 ?_
  refine g_iadd F a_L_law_809 ?_
  refine g_sld F hX a_L_law_810 (by omega) ?_
  refine g_v1 F a_L_law_811 vc_L_101 mk_A_watch ob_0 ck_0.1 rfl rfl (by decide) hk rfl (Nat.le_of_ble_eq_true rfl) (pr_watch h hn (i32_r _) _ (fun z m1 hM => GCr.v ?_))
  refine g_aload_n F a_L_law_814 rfl ?_
  refine g_aload_n F a_L_law_815 rfl ?_
  refine g_iload_n F a_L_law_816 rfl ?_
  refine g_iconst F a_L_law_817 ?_
  refine g_iadd F a_L_law_818 ?_
  refine g_sld F hX a_L_law_819 (by omega) ?_
  refine g_v1 F a_L_law_820 vc_L_104 mk_M_watch ob_10 ck_10.1 rfl rfl (by decide) hk rfl (Nat.le_of_ble_eq_true rfl) (hM _ (fun m2 i2 => GCr.v ?_))
  exact g_same F a_L_law_823 (kont m2 i2)
set_option maxHeartbeats 1000000 in
theorem lc_22 {κ : Kx} {μ : MX} {Z : State → Prop} {kc ks : Nat} {m : Mem} {n b L : Nat} {xs : Nat → Int32} {i : Int} {nm : String} (F : Fx κ (G_Ln nm) 100 600000 7302250 μ) (hk : kc ≤ 600000 ∧ ks ≤ 7302250) (hX : SX κ μ b L xs) (h : Inv n m) (hn : n ≤ 600) (hi : 0 ≤ i ∧ i + 5 ≤ L) (kont : ∀ m2 : Mem, Inv (n + 1) m2 → GC κ μ Z kc ks 1387 [some (.ref b), some (.ref (ad κ 0 0)), some (.ref (ad κ 10 0)), some (vi i)] [] (World κ m2)) : GC κ μ Z kc ks 828 [some (.ref b), some (.ref (ad κ 0 0)), some (.ref (ad κ 10 0)), some (vi i)] [] (World κ m) := by
  refine g_aload_n F a_L_law_828 rfl ?_
  refine g_aload_n F a_L_law_829 rfl ?_
  refine g_iload_n F a_L_law_830 rfl ?_
  refine g_iconst F a_L_law_831 ?_
  refine g_iadd F a_L_law_832 ?_
  refine g_sld F hX a_L_law_833 (by omega) ?_
  refine g_v1 F a_L_law_834 vc_L_105 mk_A_mutiny ob_0 ck_0.1 rfl rfl (by decide) hk rfl (Nat.le_of_ble_eq_true rfl) (pr_mutiny h hn (i32_r _) _ (fun z m1 hM => GCr.v ?_))
  refine g_aload_n F a_L_law_837 rfl ?_
  refine g_aload_n F a_L_law_838 rfl ?_
  refine g_iload_n F a_L_law_839 rfl ?_
  refine g_iconst F a_L_law_840 ?_
  refine g_iadd F a_L_law_841 ?_
  refine g_sld F hX a_L_law_842 (by omega) ?_
  refine g_v1 F a_L_law_843 vc_L_108 mk_M_mutiny ob_10 ck_10.1 rfl rfl (by decide) hk rfl (Nat.le_of_ble_eq_true rfl) (hM _ (fun m2 i2 => GCr.v ?_))
  exact g_same F a_L_law_846 (kont m2 i2)
set_option maxHeartbeats 1000000 in
theorem lc_23 {κ : Kx} {μ : MX} {Z : State → Prop} {kc ks : Nat} {m : Mem} {n b L : Nat} {xs : Nat → Int32} {i : Int} {nm : String} (F : Fx κ (G_Ln nm) 100 600000 7302250 μ) (hk : kc ≤ 600000 ∧ ks ≤ 7302250) (hX : SX κ μ b L xs) (h : Inv n m) (hn : n ≤ 600) (hi : 0 ≤ i ∧ i + 5 ≤ L) (kont : ∀ m2 : Mem, Inv (n + 1) m2 → GC κ μ Z kc ks 1387 [some (.ref b), some (.ref (ad κ 0 0)), some (.ref (ad κ 10 0)), some (vi i)] [] (World κ m2)) : GC κ μ Z kc ks 851 [some (.ref b), some (.ref (ad κ 0 0)), some (.ref (ad κ 10 0)), some (vi i)] [] (World κ m) := by
  refine g_aload_n F a_L_law_851 rfl ?_
  refine g_aload_n F a_L_law_852 rfl ?_
  refine g_iload_n F a_L_law_853 rfl ?_
  refine g_iconst F a_L_law_854 ?_
  refine g_iadd F a_L_law_855 ?_
  refine g_sld F hX a_L_law_856 (by omega) ?_
  refine g_aload_n F a_L_law_857 rfl ?_
  refine g_iload_n F a_L_law_858 rfl ?_
  refine g_iconst F a_L_law_859 ?_
  refine g_iadd F a_L_law_860 ?_
  refine g_sld F hX a_L_law_861 (by omega) ?_
  refine g_aload_n F a_L_law_862 rfl ?_
  refine g_iload_n F a_L_law_863 rfl ?_
  refine g_iconst F a_L_law_864 ?_
  refine g_iadd F a_L_law_865 ?_
  refine g_sld F hX a_L_law_866 (by omega) ?_
  refine g_v3 F a_L_law_867 vc_L_109 mk_A_seen ob_0 ck_0.1 rfl rfl (by decide) hk rfl (Nat.le_of_ble_eq_true rfl) (pr_seen h hn (i32_r _) (i32_r _) (i32_r _) _ (fun z m1 hM => GCr.v ?_))
  refine g_aload_n F a_L_law_870 rfl ?_
  refine g_aload_n F a_L_law_871 rfl ?_
  refine g_iload_n F a_L_law_872 rfl ?_
  refine g_iconst F a_L_law_873 ?_
  refine g_iadd F a_L_law_874 ?_
  refine g_sld F hX a_L_law_875 (by omega) ?_
  refine g_aload_n F a_L_law_876 rfl ?_
  refine g_iload_n F a_L_law_877 rfl ?_
  refine g_iconst F a_L_law_878 ?_
  refine g_iadd F a_L_law_879 ?_
  refine g_sld F hX a_L_law_880 (by omega) ?_
  refine g_aload_n F a_L_law_881 rfl ?_
  refine g_iload_n F a_L_law_882 rfl ?_
  refine g_iconst F a_L_law_883 ?_
  refine g_iadd F a_L_law_884 ?_
  refine g_sld F hX a_L_law_885 (by omega) ?_
  refine g_v3 F a_L_law_886 vc_L_112 mk_M_seen ob_10 ck_10.1 rfl rfl (by decide) hk rfl (Nat.le_of_ble_eq_true rfl) (hM _ (fun m2 i2 => GCr.v ?_))
  exact g_same F a_L_law_889 (kont m2 i2)
set_option maxHeartbeats 1000000 in
theorem lc_24 {κ : Kx} {μ : MX} {Z : State → Prop} {kc ks : Nat} {m : Mem} {n b L : Nat} {xs : Nat → Int32} {i : Int} {nm : String} (F : Fx κ (G_Ln nm) 100 600000 7302250 μ) (hk : kc ≤ 600000 ∧ ks ≤ 7302250) (hX : SX κ μ b L xs) (h : Inv n m) (hn : n ≤ 600) (hi : 0 ≤ i ∧ i + 5 ≤ L) (kont : ∀ m2 : Mem, Inv (n + 1) m2 → GC κ μ Z kc ks 1387 [some (.ref b), some (.ref (ad κ 0 0)), some (.ref (ad κ 10 0)), some (vi i)] [] (World κ m2)) : GC κ μ Z kc ks 894 [some (.ref b), some (.ref (ad κ 0 0)), some (.ref (ad κ 10 0)), some (vi i)] [] (World κ m) := by
  refine g_aload_n F a_L_law_894 rfl ?_
  refine g_aload_n F a_L_law_895 rfl ?_
  refine g_iload_n F a_L_law_896 rfl ?_
  refine g_iconst F a_L_law_897 ?_
  refine g_iadd F a_L_law_898 ?_
  refine g_sld F hX a_L_law_899 (by omega) ?_
  refine g_aload_n F a_L_law_900 rfl ?_
  refine g_iload_n F a_L_law_901 rfl ?_
  refine g_iconst F a_L_law_902 ?_
  refine g_iadd F a_L_law_903 ?_
  refine g_sld F hX a_L_law_904 (by omega) ?_
  refine g_v2 F a_L_law_905 vc_L_113 mk_A_began ob_0 ck_0.1 rfl rfl (by decide) hk rfl (Nat.le_of_ble_eq_true rfl) (pr_began h hn (i32_r _) (i32_r _) _ (fun z m1 hM => GCr.v ?_))
  refine g_aload_n F a_L_law_908 rfl ?_
  refine g_aload_n F a_L_law_909 rfl ?_
  refine g_iload_n F a_L_law_910 rfl ?_
  refine g_iconst F a_L_law_911 ?_
  refine g_iadd F a_L_law_912 ?_
  refine g_sld F hX a_L_law_913 (by omega) ?_
  refine g_aload_n F a_L_law_914 rfl ?_
  refine g_iload_n F a_L_law_915 rfl ?_
  refine g_iconst F a_L_law_916 ?_
  refine g_iadd F a_L_law_917 ?_
  refine g_sld F hX a_L_law_918 (by omega) ?_
  refine g_v2 F a_L_law_919 vc_L_116 mk_M_began ob_10 ck_10.1 rfl rfl (by decide) hk rfl (Nat.le_of_ble_eq_true rfl) (hM _ (fun m2 i2 => GCr.v ?_))
  exact g_same F a_L_law_922 (kont m2 i2)
set_option maxHeartbeats 1000000 in
theorem lc_25 {κ : Kx} {μ : MX} {Z : State → Prop} {kc ks : Nat} {m : Mem} {n b L : Nat} {xs : Nat → Int32} {i : Int} {nm : String} (F : Fx κ (G_Ln nm) 100 600000 7302250 μ) (hk : kc ≤ 600000 ∧ ks ≤ 7302250) (hX : SX κ μ b L xs) (h : Inv n m) (hn : n ≤ 600) (hi : 0 ≤ i ∧ i + 5 ≤ L) (kont : ∀ m2 : Mem, Inv (n + 1) m2 → GC κ μ Z kc ks 1387 [some (.ref b), some (.ref (ad κ 0 0)), some (.ref (ad κ 10 0)), some (vi i)] [] (World κ m2)) : GC κ μ Z kc ks 927 [some (.ref b), some (.ref (ad κ 0 0)), some (.ref (ad κ 10 0)), some (vi i)] [] (World κ m) := by
  refine g_aload_n F a_L_law_927 rfl ?_
  refine g_aload_n F a_L_law_928 rfl ?_
  refine g_iload_n F a_L_law_929 rfl ?_
  refine g_iconst F a_L_law_930 ?_
  refine g_iadd F a_L_law_931 ?_
  refine g_sld F hX a_L_law_932 (by omega) ?_
  refine g_aload_n F a_L_law_933 rfl ?_
  refine g_iload_n F a_L_law_934 rfl ?_
  refine g_iconst F a_L_law_935 ?_
  refine g_iadd F a_L_law_936 ?_
  refine g_sld F hX a_L_law_937 (by omega) ?_
  refine g_aload_n F a_L_law_938 rfl ?_
  refine g_iload_n F a_L_law_939 rfl ?_
  refine g_iconst F a_L_law_940 ?_
  refine g_iadd F a_L_law_941 ?_
  refine g_sld F hX a_L_law_942 (by omega) ?_
  refine g_aload_n F a_L_law_943 rfl ?_
  refine g_iload_n F a_L_law_944 rfl ?_
  refine g_iconst F a_L_law_945 ?_
  refine g_iadd F a_L_law_946 ?_
  refine g_sld F hX a_L_law_947 (by omega) ?_
  refine g_v4 F a_L_law_948 vc_L_117 mk_A_note ob_0 ck_0.1 rfl rfl (by decide) hk rfl (Nat.le_of_ble_eq_true rfl) (pr_note h hn (i32_r _) (i32_r _) (i32_r _) (i32_r _) _ (fun z m1 hM => GCr.v ?_))
  refine g_aload_n F a_L_law_951 rfl ?_
  refine g_aload_n F a_L_law_952 rfl ?_
  refine g_iload_n F a_L_law_953 rfl ?_
  refine g_iconst F a_L_law_954 ?_
  refine g_iadd F a_L_law_955 ?_
  refine g_sld F hX a_L_law_956 (by omega) ?_
  refine g_aload_n F a_L_law_957 rfl ?_
  refine g_iload_n F a_L_law_958 rfl ?_
  refine g_iconst F a_L_law_959 ?_
  refine g_iadd F a_L_law_960 ?_
  refine g_sld F hX a_L_law_961 (by omega) ?_
  refine g_aload_n F a_L_law_962 rfl ?_
  refine g_iload_n F a_L_law_963 rfl ?_
  refine g_iconst F a_L_law_964 ?_
  refine g_iadd F a_L_law_965 ?_
  refine g_sld F hX a_L_law_966 (by omega) ?_
  refine g_aload_n F a_L_law_967 rfl ?_
  refine g_iload_n F a_L_law_968 rfl ?_
  refine g_iconst F a_L_law_969 ?_
  refine g_iadd F a_L_law_970 ?_
  refine g_sld F hX a_L_law_971 (by omega) ?_
  refine g_v4 F a_L_law_972 vc_L_121 mk_M_note ob_10 ck_10.1 rfl rfl (by decide) hk rfl (Nat.le_of_ble_eq_true rfl) (hM _ (fun m2 i2 => GCr.v ?_))
  exact g_same F a_L_law_975 (kont m2 i2)
set_option maxHeartbeats 1000000 in
theorem lc_26 {κ : Kx} {μ : MX} {Z : State → Prop} {kc ks : Nat} {m : Mem} {n b L : Nat} {xs : Nat → Int32} {i : Int} {nm : String} (F : Fx κ (G_Ln nm) 100 600000 7302250 μ) (hk : kc ≤ 600000 ∧ ks ≤ 7302250) (hX : SX κ μ b L xs) (h : Inv n m) (hn : n ≤ 600) (hi : 0 ≤ i ∧ i + 5 ≤ L) (kont : ∀ m2 : Mem, Inv (n + 1) m2 → GC κ μ Z kc ks 1387 [some (.ref b), some (.ref (ad κ 0 0)), some (.ref (ad κ 10 0)), some (vi i)] [] (World κ m2)) : GC κ μ Z kc ks 980 [some (.ref b), some (.ref (ad κ 0 0)), some (.ref (ad κ 10 0)), some (vi i)] [] (World κ m) := by
  refine g_aload_n F a_L_law_980 rfl ?_
  refine g_aload_n F a_L_law_981 rfl ?_
  refine g_iload_n F a_L_law_982 rfl ?_
  refine g_iconst F a_L_law_983 ?_
  refine g_iadd F a_L_law_984 ?_
  refine g_sld F hX a_L_law_985 (by omega) ?_
  refine g_aload_n F a_L_law_986 rfl ?_
  refine g_iload_n F a_L_law_987 rfl ?_
  refine g_iconst F a_L_law_988 ?_
  refine g_iadd F a_L_law_989 ?_
  refine g_sld F hX a_L_law_990 (by omega) ?_
  refine g_aload_n F a_L_law_991 rfl ?_
  refine g_iload_n F a_L_law_992 rfl ?_
  refine g_iconst F a_L_law_993 ?_
  refine g_iadd F a_L_law_994 ?_
  refine g_sld F hX a_L_law_995 (by omega) ?_
  refine g_aload_n F a_L_law_996 rfl ?_
  refine g_iload_n F a_L_law_997 rfl ?_
  refine g_iconst F a_L_law_998 ?_
  refine g_iadd F a_L_law_999 ?_
  refine g_sld F hX a_L_law_1000 (by omega) ?_
  refine g_v4 F a_L_law_1001 vc_L_122 mk_A_mark ob_0 ck_0.1 rfl rfl (by decide) hk rfl (Nat.le_of_ble_eq_true rfl) (pr_mark h hn (i32_r _) (i32_r _) (i32_r _) (i32_r _) _ (fun z m1 hM => GCr.v ?_))
  refine g_aload_n F a_L_law_1004 rfl ?_
  refine g_aload_n F a_L_law_1005 rfl ?_
  refine g_iload_n F a_L_law_1006 rfl ?_
  refine g_iconst F a_L_law_1007 ?_
  refine g_iadd F a_L_law_1008 ?_
  refine g_sld F hX a_L_law_1009 (by omega) ?_
  refine g_aload_n F a_L_law_1010 rfl ?_
  refine g_iload_n F a_L_law_1011 rfl ?_
  refine g_iconst F a_L_law_1012 ?_
  refine g_iadd F a_L_law_1013 ?_
  refine g_sld F hX a_L_law_1014 (by omega) ?_
  refine g_aload_n F a_L_law_1015 rfl ?_
  refine g_iload_n F a_L_law_1016 rfl ?_
  refine g_iconst F a_L_law_1017 ?_
  refine g_iadd F a_L_law_1018 ?_
  refine g_sld F hX a_L_law_1019 (by omega) ?_
  refine g_aload_n F a_L_law_1020 rfl ?_
  refine g_iload_n F a_L_law_1021 rfl ?_
  refine g_iconst F a_L_law_1022 ?_
  refine g_iadd F a_L_law_1023 ?_
  refine g_sld F hX a_L_law_1024 (by omega) ?_
  refine g_v4 F a_L_law_1025 vc_L_125 mk_M_mark ob_10 ck_10.1 rfl rfl (by decide) hk rfl (Nat.le_of_ble_eq_true rfl) (hM _ (fun m2 i2 => GCr.v ?_))
  exact g_same F a_L_law_1028 (kont m2 i2)
set_option maxHeartbeats 1000000 in
theorem lc_27 {κ : Kx} {μ : MX} {Z : State → Prop} {kc ks : Nat} {m : Mem} {n b L : Nat} {xs : Nat → Int32} {i : Int} {nm : String} (F : Fx κ (G_Ln nm) 100 600000 7302250 μ) (hk : kc ≤ 600000 ∧ ks ≤ 7302250) (hX : SX κ μ b L xs) (h : Inv n m) (hn : n ≤ 600) (hi : 0 ≤ i ∧ i + 5 ≤ L) (kont : ∀ m2 : Mem, Inv (n + 1) m2 → GC κ μ Z kc ks 1387 [some (.ref b), some (.ref (ad κ 0 0)), some (.ref (ad κ 10 0)), some (vi i)] [] (World κ m2)) : GC κ μ Z kc ks 1033 [some (.ref b), some (.ref (ad κ 0 0)), some (.ref (ad κ 10 0)), some (vi i)] [] (World κ m) := by
  refine g_aload_n F a_L_law_1033 rfl ?_
  refine g_aload_n F a_L_law_1034 rfl ?_
  refine g_iload_n F a_L_law_1035 rfl ?_
  refine g_iconst F a_L_law_1036 ?_
  refine g_iadd F a_L_law_1037 ?_
  refine g_sld F hX a_L_law_1038 (by omega) ?_
  refine g_v1 F a_L_law_1039 vc_L_126 mk_A_forget ob_0 ck_0.1 rfl rfl (by decide) hk rfl (Nat.le_of_ble_eq_true rfl) (pr_forget h hn (i32_r _) _ (fun z m1 hM => GCr.v ?_))
  refine g_aload_n F a_L_law_1042 rfl ?_
  refine g_aload_n F a_L_law_1043 rfl ?_
  refine g_iload_n F a_L_law_1044 rfl ?_
  refine g_iconst F a_L_law_1045 ?_
  refine g_iadd F a_L_law_1046 ?_
  refine g_sld F hX a_L_law_1047 (by omega) ?_
  refine g_v1 F a_L_law_1048 vc_L_129 mk_M_forget ob_10 ck_10.1 rfl rfl (by decide) hk rfl (Nat.le_of_ble_eq_true rfl) (hM _ (fun m2 i2 => GCr.v ?_))
  exact g_same F a_L_law_1051 (kont m2 i2)
set_option maxHeartbeats 1000000 in
theorem lc_28 {κ : Kx} {μ : MX} {Z : State → Prop} {kc ks : Nat} {m : Mem} {n b L : Nat} {xs : Nat → Int32} {i : Int} {nm : String} (F : Fx κ (G_Ln nm) 100 600000 7302250 μ) (hk : kc ≤ 600000 ∧ ks ≤ 7302250) (hX : SX κ μ b L xs) (h : Inv n m) (hn : n ≤ 600) (hi : 0 ≤ i ∧ i + 5 ≤ L) (kont : ∀ m2 : Mem, Inv (n + 1) m2 → GC κ μ Z kc ks 1387 [some (.ref b), some (.ref (ad κ 0 0)), some (.ref (ad κ 10 0)), some (vi i)] [] (World κ m2)) : GC κ μ Z kc ks 1056 [some (.ref b), some (.ref (ad κ 0 0)), some (.ref (ad κ 10 0)), some (vi i)] [] (World κ m) := by
  refine g_aload_n F a_L_law_1056 rfl ?_
  refine g_aload_n F a_L_law_1057 rfl ?_
  refine g_iload_n F a_L_law_1058 rfl ?_
  refine g_iconst F a_L_law_1059 ?_
  refine g_iadd F a_L_law_1060 ?_
  refine g_sld F hX a_L_law_1061 (by omega) ?_
  refine g_v1 F a_L_law_1062 vc_L_130 mk_A_is ob_0 ck_0.1 rfl rfl (by decide) hk rfl (Nat.le_of_ble_eq_true rfl) (pr_is h hn (i32_r _) _ (fun z m1 hM => GCr.v ?_))
  refine g_aload_n F a_L_law_1065 rfl ?_
  refine g_aload_n F a_L_law_1066 rfl ?_
  refine g_iload_n F a_L_law_1067 rfl ?_
  refine g_iconst F a_L_law_1068 ?_
  refine g_iadd F a_L_law_1069 ?_
  refine g_sld F hX a_L_law_1070 (by omega) ?_
  refine g_v1 F a_L_law_1071 vc_L_133 mk_M_is ob_10 ck_10.1 rfl rfl (by decide) hk rfl (Nat.le_of_ble_eq_true rfl) (hM _ (fun m2 i2 => GCr.v ?_))
  exact g_same F a_L_law_1074 (kont m2 i2)
set_option maxHeartbeats 1000000 in
theorem lc_29 {κ : Kx} {μ : MX} {Z : State → Prop} {kc ks : Nat} {m : Mem} {n b L : Nat} {xs : Nat → Int32} {i : Int} {nm : String} (F : Fx κ (G_Ln nm) 100 600000 7302250 μ) (hk : kc ≤ 600000 ∧ ks ≤ 7302250) (hX : SX κ μ b L xs) (h : Inv n m) (hn : n ≤ 600) (hi : 0 ≤ i ∧ i + 5 ≤ L) (kont : ∀ m2 : Mem, Inv (n + 1) m2 → GC κ μ Z kc ks 1387 [some (.ref b), some (.ref (ad κ 0 0)), some (.ref (ad κ 10 0)), some (vi i)] [] (World κ m2)) : GC κ μ Z kc ks 1079 [some (.ref b), some (.ref (ad κ 0 0)), some (.ref (ad κ 10 0)), some (vi i)] [] (World κ m) := by
  refine g_aload_n F a_L_law_1079 rfl ?_
  refine g_aload_n F a_L_law_1080 rfl ?_
  refine g_iload_n F a_L_law_1081 rfl ?_
  refine g_iconst F a_L_law_1082 ?_
  refine g_iadd F a_L_law_1083 ?_
  refine g_sld F hX a_L_law_1084 (by omega) ?_
  refine g_v1 F a_L_law_1085 vc_L_134 mk_A_look ob_0 ck_0.1 rfl rfl (by decide) hk rfl (Nat.le_of_ble_eq_true rfl) (pr_look h hn (i32_r _) _ (fun z m1 hM => GCr.v ?_))
  refine g_aload_n F a_L_law_1088 rfl ?_
  refine g_aload_n F a_L_law_1089 rfl ?_
  refine g_iload_n F a_L_law_1090 rfl ?_
  refine g_iconst F a_L_law_1091 ?_
  refine g_iadd F a_L_law_1092 ?_
  refine g_sld F hX a_L_law_1093 (by omega) ?_
  refine g_v1 F a_L_law_1094 vc_L_137 mk_M_look ob_10 ck_10.1 rfl rfl (by decide) hk rfl (Nat.le_of_ble_eq_true rfl) (hM _ (fun m2 i2 => GCr.v ?_))
  exact g_same F a_L_law_1097 (kont m2 i2)
set_option maxHeartbeats 1000000 in
theorem lc_30 {κ : Kx} {μ : MX} {Z : State → Prop} {kc ks : Nat} {m : Mem} {n b L : Nat} {xs : Nat → Int32} {i : Int} {nm : String} (F : Fx κ (G_Ln nm) 100 600000 7302250 μ) (hk : kc ≤ 600000 ∧ ks ≤ 7302250) (hX : SX κ μ b L xs) (h : Inv n m) (hn : n ≤ 600) (hi : 0 ≤ i ∧ i + 5 ≤ L) (kont : ∀ m2 : Mem, Inv (n + 1) m2 → GC κ μ Z kc ks 1387 [some (.ref b), some (.ref (ad κ 0 0)), some (.ref (ad κ 10 0)), some (vi i)] [] (World κ m2)) : GC κ μ Z kc ks 1102 [some (.ref b), some (.ref (ad κ 0 0)), some (.ref (ad κ 10 0)), some (vi i)] [] (World κ m) := by
  refine g_aload_n F a_L_law_1102 rfl ?_
  refine g_aload_n F a_L_law_1103 rfl ?_
  refine g_iload_n F a_L_law_1104 rfl ?_
  refine g_iconst F a_L_law_1105 ?_
  refine g_iadd F a_L_law_1106 ?_
  refine g_sld F hX a_L_law_1107 (by omega) ?_
  refine g_v1 F a_L_law_1108 vc_L_138 mk_A_kinds ob_0 ck_0.1 rfl rfl (by decide) hk rfl (Nat.le_of_ble_eq_true rfl) (pr_kinds h hn (i32_r _) _ (fun z m1 hM => GCr.v ?_))
  refine g_aload_n F a_L_law_1111 rfl ?_
  refine g_aload_n F a_L_law_1112 rfl ?_
  refine g_iload_n F a_L_law_1113 rfl ?_
  refine g_iconst F a_L_law_1114 ?_
  refine g_iadd F a_L_law_1115 ?_
  refine g_sld F hX a_L_law_1116 (by omega) ?_
  refine g_v1 F a_L_law_1117 vc_L_141 mk_M_kinds ob_10 ck_10.1 rfl rfl (by decide) hk rfl (Nat.le_of_ble_eq_true rfl) (hM _ (fun m2 i2 => GCr.v ?_))
  exact g_same F a_L_law_1120 (kont m2 i2)
set_option maxHeartbeats 1000000 in
theorem lc_31 {κ : Kx} {μ : MX} {Z : State → Prop} {kc ks : Nat} {m : Mem} {n b L : Nat} {xs : Nat → Int32} {i : Int} {nm : String} (F : Fx κ (G_Ln nm) 100 600000 7302250 μ) (hk : kc ≤ 600000 ∧ ks ≤ 7302250) (hX : SX κ μ b L xs) (h : Inv n m) (hn : n ≤ 600) (hi : 0 ≤ i ∧ i + 5 ≤ L) (kont : ∀ m2 : Mem, Inv (n + 1) m2 → GC κ μ Z kc ks 1387 [some (.ref b), some (.ref (ad κ 0 0)), some (.ref (ad κ 10 0)), some (vi i)] [] (World κ m2)) : GC κ μ Z kc ks 1125 [some (.ref b), some (.ref (ad κ 0 0)), some (.ref (ad κ 10 0)), some (vi i)] [] (World κ m) := by
  refine g_aload_n F a_L_law_1125 rfl ?_
  refine g_aload_n F a_L_law_1126 rfl ?_
  refine g_iload_n F a_L_law_1127 rfl ?_
  refine g_iconst F a_L_law_1128 ?_
  refine g_iadd F a_L_law_1129 ?_
  refine g_sld F hX a_L_law_1130 (by omega) ?_
  refine g_v1 F a_L_law_1131 vc_L_142 mk_A_ask ob_0 ck_0.1 rfl rfl (by decide) hk rfl (Nat.le_of_ble_eq_true rfl) (pr_ask h hn (i32_r _) _ (fun z m1 hM => GCr.v ?_))
  refine g_aload_n F a_L_law_1134 rfl ?_
  refine g_aload_n F a_L_law_1135 rfl ?_
  refine g_iload_n F a_L_law_1136 rfl ?_
  refine g_iconst F a_L_law_1137 ?_
  refine g_iadd F a_L_law_1138 ?_
  refine g_sld F hX a_L_law_1139 (by omega) ?_
  refine g_v1 F a_L_law_1140 vc_L_145 mk_M_ask ob_10 ck_10.1 rfl rfl (by decide) hk rfl (Nat.le_of_ble_eq_true rfl) (hM _ (fun m2 i2 => GCr.v ?_))
  exact g_same F a_L_law_1143 (kont m2 i2)
set_option maxHeartbeats 1000000 in
theorem lc_32 {κ : Kx} {μ : MX} {Z : State → Prop} {kc ks : Nat} {m : Mem} {n b L : Nat} {xs : Nat → Int32} {i : Int} {nm : String} (F : Fx κ (G_Ln nm) 100 600000 7302250 μ) (hk : kc ≤ 600000 ∧ ks ≤ 7302250) (hX : SX κ μ b L xs) (h : Inv n m) (hn : n ≤ 600) (hi : 0 ≤ i ∧ i + 5 ≤ L) (kont : ∀ m2 : Mem, Inv (n + 1) m2 → GC κ μ Z kc ks 1387 [some (.ref b), some (.ref (ad κ 0 0)), some (.ref (ad κ 10 0)), some (vi i)] [] (World κ m2)) : GC κ μ Z kc ks 1148 [some (.ref b), some (.ref (ad κ 0 0)), some (.ref (ad κ 10 0)), some (vi i)] [] (World κ m) := by
  refine g_aload_n F a_L_law_1148 rfl ?_
  refine g_aload_n F a_L_law_1149 rfl ?_
  refine g_iload_n F a_L_law_1150 rfl ?_
  refine g_iconst F a_L_law_1151 ?_
  refine g_iadd F a_L_law_1152 ?_
  refine g_sld F hX a_L_law_1153 (by omega) ?_
  refine g_aload_n F a_L_law_1154 rfl ?_
  refine g_iload_n F a_L_law_1155 rfl ?_
  refine g_iconst F a_L_law_1156 ?_
  refine g_iadd F a_L_law_1157 ?_
  refine g_sld F hX a_L_law_1158 (by omega) ?_
  refine g_v2 F a_L_law_1159 vc_L_146 mk_A_officers ob_0 ck_0.1 rfl rfl (by decide) hk rfl (Nat.le_of_ble_eq_true rfl) (pr_officers h hn (i32_r _) (i32_r _) _ (fun z m1 hM => GCr.v ?_))
  refine g_aload_n F a_L_law_1162 rfl ?_
  refine g_aload_n F a_L_law_1163 rfl ?_
  refine g_iload_n F a_L_law_1164 rfl ?_
  refine g_iconst F a_L_law_1165 ?_
  refine g_iadd F a_L_law_1166 ?_
  refine g_sld F hX a_L_law_1167 (by omega) ?_
  refine g_aload_n F a_L_law_1168 rfl ?_
  refine g_iload_n F a_L_law_1169 rfl ?_
  refine g_iconst F a_L_law_1170 ?_
  refine g_iadd F a_L_law_1171 ?_
  refine g_sld F hX a_L_law_1172 (by omega) ?_
  refine g_v2 F a_L_law_1173 vc_L_149 mk_M_officers ob_10 ck_10.1 rfl rfl (by decide) hk rfl (Nat.le_of_ble_eq_true rfl) (hM _ (fun m2 i2 => GCr.v ?_))
  exact g_same F a_L_law_1176 (kont m2 i2)
set_option maxHeartbeats 1000000 in
theorem lc_33 {κ : Kx} {μ : MX} {Z : State → Prop} {kc ks : Nat} {m : Mem} {n b L : Nat} {xs : Nat → Int32} {i : Int} {nm : String} (F : Fx κ (G_Ln nm) 100 600000 7302250 μ) (hk : kc ≤ 600000 ∧ ks ≤ 7302250) (hX : SX κ μ b L xs) (h : Inv n m) (hn : n ≤ 600) (hi : 0 ≤ i ∧ i + 5 ≤ L) (kont : ∀ m2 : Mem, Inv (n + 1) m2 → GC κ μ Z kc ks 1387 [some (.ref b), some (.ref (ad κ 0 0)), some (.ref (ad κ 10 0)), some (vi i)] [] (World κ m2)) : GC κ μ Z kc ks 1181 [some (.ref b), some (.ref (ad κ 0 0)), some (.ref (ad κ 10 0)), some (vi i)] [] (World κ m) := by
  refine g_aload_n F a_L_law_1181 rfl ?_
  refine g_aload_n F a_L_law_1182 rfl ?_
  refine g_iload_n F a_L_law_1183 rfl ?_
  refine g_iconst F a_L_law_1184 ?_
  refine g_iadd F a_L_law_1185 ?_
  refine g_sld F hX a_L_law_1186 (by omega) ?_
  refine g_aload_n F a_L_law_1187 rfl ?_
  refine g_iload_n F a_L_law_1188 rfl ?_
  refine g_iconst F a_L_law_1189 ?_
  refine g_iadd F a_L_law_1190 ?_
  refine g_sld F hX a_L_law_1191 (by omega) ?_
  refine g_aload_n F a_L_law_1192 rfl ?_
  refine g_iload_n F a_L_law_1193 rfl ?_
  refine g_iconst F a_L_law_1194 ?_
  refine g_iadd F a_L_law_1195 ?_
  refine g_sld F hX a_L_law_1196 (by omega) ?_
  refine g_v3 F a_L_law_1197 vc_L_150 mk_A_slips ob_0 ck_0.1 rfl rfl (by decide) hk rfl (Nat.le_of_ble_eq_true rfl) (pr_slips h hn (i32_r _) (i32_r _) (i32_r _) _ (fun z m1 hM => GCr.v ?_))
  refine g_aload_n F a_L_law_1200 rfl ?_
  refine g_aload_n F a_L_law_1201 rfl ?_
  refine g_iload_n F a_L_law_1202 rfl ?_
  refine g_iconst F a_L_law_1203 ?_
  refine g_iadd F a_L_law_1204 ?_
  refine g_sld F hX a_L_law_1205 (by omega) ?_
  refine g_aload_n F a_L_law_1206 rfl ?_
  refine g_iload_n F a_L_law_1207 rfl ?_
  refine g_iconst F a_L_law_1208 ?_
  refine g_iadd F a_L_law_1209 ?_
  refine g_sld F hX a_L_law_1210 (by omega) ?_
  refine g_aload_n F a_L_law_1211 rfl ?_
  refine g_iload_n F a_L_law_1212 rfl ?_
  refine g_iconst F a_L_law_1213 ?_
  refine g_iadd F a_L_law_1214 ?_
  refine g_sld F hX a_L_law_1215 (by omega) ?_
  refine g_v3 F a_L_law_1216 vc_L_153 mk_M_slips ob_10 ck_10.1 rfl rfl (by decide) hk rfl (Nat.le_of_ble_eq_true rfl) (hM _ (fun m2 i2 => GCr.v ?_))
  exact g_same F a_L_law_1219 (kont m2 i2)
set_option maxHeartbeats 1000000 in
theorem lc_34 {κ : Kx} {μ : MX} {Z : State → Prop} {kc ks : Nat} {m : Mem} {n b L : Nat} {xs : Nat → Int32} {i : Int} {nm : String} (F : Fx κ (G_Ln nm) 100 600000 7302250 μ) (hk : kc ≤ 600000 ∧ ks ≤ 7302250) (hX : SX κ μ b L xs) (h : Inv n m) (hn : n ≤ 600) (hi : 0 ≤ i ∧ i + 5 ≤ L) (kont : ∀ m2 : Mem, Inv (n + 1) m2 → GC κ μ Z kc ks 1387 [some (.ref b), some (.ref (ad κ 0 0)), some (.ref (ad κ 10 0)), some (vi i)] [] (World κ m2)) : GC κ μ Z kc ks 1224 [some (.ref b), some (.ref (ad κ 0 0)), some (.ref (ad κ 10 0)), some (vi i)] [] (World κ m) := by
  refine g_aload_n F a_L_law_1224 rfl ?_
  refine g_aload_n F a_L_law_1225 rfl ?_
  refine g_iload_n F a_L_law_1226 rfl ?_
  refine g_iconst F a_L_law_1227 ?_
  refine g_iadd F a_L_law_1228 ?_
  refine g_sld F hX a_L_law_1229 (by omega) ?_
  refine g_aload_n F a_L_law_1230 rfl ?_
  refine g_iload_n F a_L_law_1231 rfl ?_
  refine g_iconst F a_L_law_1232 ?_
  refine g_iadd F a_L_law_1233 ?_
  refine g_sld F hX a_L_law_1234 (by omega) ?_
  refine g_v2 F a_L_law_1235 vc_L_154 mk_A_voyages ob_0 ck_0.1 rfl rfl (by decide) hk rfl (Nat.le_of_ble_eq_true rfl) (pr_voyages h hn (i32_r _) (i32_r _) _ (fun z m1 hM => GCr.v ?_))
  refine g_aload_n F a_L_law_1238 rfl ?_
  refine g_aload_n F a_L_law_1239 rfl ?_
  refine g_iload_n F a_L_law_1240 rfl ?_
  refine g_iconst F a_L_law_1241 ?_
  refine g_iadd F a_L_law_1242 ?_
  refine g_sld F hX a_L_law_1243 (by omega) ?_
  refine g_aload_n F a_L_law_1244 rfl ?_
  refine g_iload_n F a_L_law_1245 rfl ?_
  refine g_iconst F a_L_law_1246 ?_
  refine g_iadd F a_L_law_1247 ?_
  refine g_sld F hX a_L_law_1248 (by omega) ?_
  refine g_v2 F a_L_law_1249 vc_L_157 mk_M_voyages ob_10 ck_10.1 rfl rfl (by decide) hk rfl (Nat.le_of_ble_eq_true rfl) (hM _ (fun m2 i2 => GCr.v ?_))
  exact g_same F a_L_law_1252 (kont m2 i2)
set_option maxHeartbeats 1000000 in
theorem lc_35 {κ : Kx} {μ : MX} {Z : State → Prop} {kc ks : Nat} {m : Mem} {n b L : Nat} {xs : Nat → Int32} {i : Int} {nm : String} (F : Fx κ (G_Ln nm) 100 600000 7302250 μ) (hk : kc ≤ 600000 ∧ ks ≤ 7302250) (hX : SX κ μ b L xs) (h : Inv n m) (hn : n ≤ 600) (hi : 0 ≤ i ∧ i + 5 ≤ L) (kont : ∀ m2 : Mem, Inv (n + 1) m2 → GC κ μ Z kc ks 1387 [some (.ref b), some (.ref (ad κ 0 0)), some (.ref (ad κ 10 0)), some (vi i)] [] (World κ m2)) : GC κ μ Z kc ks 1257 [some (.ref b), some (.ref (ad κ 0 0)), some (.ref (ad κ 10 0)), some (vi i)] [] (World κ m) := by
  refine g_aload_n F a_L_law_1257 rfl ?_
  refine g_aload_n F a_L_law_1258 rfl ?_
  refine g_iload_n F a_L_law_1259 rfl ?_
  refine g_iconst F a_L_law_1260 ?_
  refine g_iadd F a_L_law_1261 ?_
  refine g_sld F hX a_L_law_1262 (by omega) ?_
  refine g_v1 F a_L_law_1263 vc_L_158 mk_A_part ob_0 ck_0.1 rfl rfl (by decide) hk rfl (Nat.le_of_ble_eq_true rfl) (pr_part h hn (i32_r _) _ (fun z m1 hM => GCr.v ?_))
  refine g_aload_n F a_L_law_1266 rfl ?_
  refine g_aload_n F a_L_law_1267 rfl ?_
  refine g_iload_n F a_L_law_1268 rfl ?_
  refine g_iconst F a_L_law_1269 ?_
  refine g_iadd F a_L_law_1270 ?_
  refine g_sld F hX a_L_law_1271 (by omega) ?_
  refine g_v1 F a_L_law_1272 vc_L_162 mk_M_part ob_10 ck_10.1 rfl rfl (by decide) hk rfl (Nat.le_of_ble_eq_true rfl) (hM _ (fun m2 i2 => GCr.v ?_))
  refine g_lcmp0 F a_L_law_1275 ?_
  exact g_if_eq F (by decide) a_L_law_1276 (fun _ => kont m2 i2) (fun q => absurd rfl q)
set_option maxHeartbeats 1000000 in
theorem lc_36 {κ : Kx} {μ : MX} {Z : State → Prop} {kc ks : Nat} {m : Mem} {n b L : Nat} {xs : Nat → Int32} {i : Int} {nm : String} (F : Fx κ (G_Ln nm) 100 600000 7302250 μ) (hk : kc ≤ 600000 ∧ ks ≤ 7302250) (hX : SX κ μ b L xs) (h : Inv n m) (hn : n ≤ 600) (hi : 0 ≤ i ∧ i + 5 ≤ L) (kont : ∀ m2 : Mem, Inv (n + 1) m2 → GC κ μ Z kc ks 1387 [some (.ref b), some (.ref (ad κ 0 0)), some (.ref (ad κ 10 0)), some (vi i)] [] (World κ m2)) : GC κ μ Z kc ks 1281 [some (.ref b), some (.ref (ad κ 0 0)), some (.ref (ad κ 10 0)), some (vi i)] [] (World κ m) := by
  refine g_aload_n F a_L_law_1281 rfl ?_
  refine g_aload_n F a_L_law_1282 rfl ?_
  refine g_iload_n F a_L_law_1283 rfl ?_
  refine g_iconst F a_L_law_1284 ?_
  refine g_iadd F a_L_law_1285 ?_
  refine g_sld F hX a_L_law_1286 (by omega) ?_
  refine g_v1 F a_L_law_1287 vc_L_163 mk_A_image ob_0 ck_0.1 rfl rfl (by decide) hk rfl (Nat.le_of_ble_eq_true rfl) (pr_image h hn (i32_r _) _ (fun z m1 hM => GCr.v ?_))
  refine g_aload_n F a_L_law_1290 rfl ?_
  refine g_aload_n F a_L_law_1291 rfl ?_
  refine g_iload_n F a_L_law_1292 rfl ?_
  refine g_iconst F a_L_law_1293 ?_
  refine g_iadd F a_L_law_1294 ?_
  refine g_sld F hX a_L_law_1295 (by omega) ?_
  refine g_v1 F a_L_law_1296 vc_L_166 mk_M_image ob_10 ck_10.1 rfl rfl (by decide) hk rfl (Nat.le_of_ble_eq_true rfl) (hM _ (fun m2 i2 => GCr.v ?_))
  exact g_same F a_L_law_1299 (kont m2 i2)
set_option maxHeartbeats 1000000 in
theorem lc_37 {κ : Kx} {μ : MX} {Z : State → Prop} {kc ks : Nat} {m : Mem} {n b L : Nat} {xs : Nat → Int32} {i : Int} {nm : String} (F : Fx κ (G_Ln nm) 100 600000 7302250 μ) (hk : kc ≤ 600000 ∧ ks ≤ 7302250) (hX : SX κ μ b L xs) (h : Inv n m) (hn : n ≤ 600) (hi : 0 ≤ i ∧ i + 5 ≤ L) (kont : ∀ m2 : Mem, Inv (n + 1) m2 → GC κ μ Z kc ks 1387 [some (.ref b), some (.ref (ad κ 0 0)), some (.ref (ad κ 10 0)), some (vi i)] [] (World κ m2)) : GC κ μ Z kc ks 1304 [some (.ref b), some (.ref (ad κ 0 0)), some (.ref (ad κ 10 0)), some (vi i)] [] (World κ m) := by
  refine g_aload_n F a_L_law_1304 rfl ?_
  refine g_aload_n F a_L_law_1305 rfl ?_
  refine g_iload_n F a_L_law_1306 rfl ?_
  refine g_iconst F a_L_law_1307 ?_
  refine g_iadd F a_L_law_1308 ?_
  refine g_sld F hX a_L_law_1309 (by omega) ?_
  refine g_v1 F a_L_law_1310 vc_L_167 mk_A_from ob_0 ck_0.1 rfl rfl (by decide) hk rfl (Nat.le_of_ble_eq_true rfl) (pr_from h hn (i32_r _) _ (fun z m1 hM => GCr.v ?_))
  refine g_aload_n F a_L_law_1313 rfl ?_
  refine g_aload_n F a_L_law_1314 rfl ?_
  refine g_iload_n F a_L_law_1315 rfl ?_
  refine g_iconst F a_L_law_1316 ?_
  refine g_iadd F a_L_law_1317 ?_
  refine g_sld F hX a_L_law_1318 (by omega) ?_
  refine g_v1 F a_L_law_1319 vc_L_170 mk_M_from ob_10 ck_10.1 rfl rfl (by decide) hk rfl (Nat.le_of_ble_eq_true rfl) (hM _ (fun m2 i2 => GCr.v ?_))
  exact g_same F a_L_law_1322 (kont m2 i2)
set_option maxHeartbeats 1000000 in
theorem lc_38 {κ : Kx} {μ : MX} {Z : State → Prop} {kc ks : Nat} {m : Mem} {n b L : Nat} {xs : Nat → Int32} {i : Int} {nm : String} (F : Fx κ (G_Ln nm) 100 600000 7302250 μ) (hk : kc ≤ 600000 ∧ ks ≤ 7302250) (hX : SX κ μ b L xs) (h : Inv n m) (hn : n ≤ 600) (hi : 0 ≤ i ∧ i + 5 ≤ L) (kont : ∀ m2 : Mem, Inv (n + 1) m2 → GC κ μ Z kc ks 1387 [some (.ref b), some (.ref (ad κ 0 0)), some (.ref (ad κ 10 0)), some (vi i)] [] (World κ m2)) : GC κ μ Z kc ks 1327 [some (.ref b), some (.ref (ad κ 0 0)), some (.ref (ad κ 10 0)), some (vi i)] [] (World κ m) := by
  refine g_aload_n F a_L_law_1327 rfl ?_
  refine g_aload_n F a_L_law_1328 rfl ?_
  refine g_iload_n F a_L_law_1329 rfl ?_
  refine g_iconst F a_L_law_1330 ?_
  refine g_iadd F a_L_law_1331 ?_
  refine g_sld F hX a_L_law_1332 (by omega) ?_
  refine g_v1 F a_L_law_1333 vc_L_171 mk_A_status ob_0 ck_0.1 rfl rfl (by decide) hk rfl (Nat.le_of_ble_eq_true rfl) (pr_status h hn (i32_r _) _ (fun z m1 hM => GCr.v ?_))
  refine g_aload_n F a_L_law_1336 rfl ?_
  refine g_aload_n F a_L_law_1337 rfl ?_
  refine g_iload_n F a_L_law_1338 rfl ?_
  refine g_iconst F a_L_law_1339 ?_
  refine g_iadd F a_L_law_1340 ?_
  refine g_sld F hX a_L_law_1341 (by omega) ?_
  refine g_v1 F a_L_law_1342 vc_L_174 mk_M_status ob_10 ck_10.1 rfl rfl (by decide) hk rfl (Nat.le_of_ble_eq_true rfl) (hM _ (fun m2 i2 => GCr.v ?_))
  exact g_same F a_L_law_1345 (kont m2 i2)
set_option maxHeartbeats 1000000 in
theorem lc_39 {κ : Kx} {μ : MX} {Z : State → Prop} {kc ks : Nat} {m : Mem} {n b L : Nat} {xs : Nat → Int32} {i : Int} {nm : String} (F : Fx κ (G_Ln nm) 100 600000 7302250 μ) (hk : kc ≤ 600000 ∧ ks ≤ 7302250) (hX : SX κ μ b L xs) (h : Inv n m) (hn : n ≤ 600) (hi : 0 ≤ i ∧ i + 5 ≤ L) (kont : ∀ m2 : Mem, Inv (n + 1) m2 → GC κ μ Z kc ks 1387 [some (.ref b), some (.ref (ad κ 0 0)), some (.ref (ad κ 10 0)), some (vi i)] [] (World κ m2)) : GC κ μ Z kc ks 1350 [some (.ref b), some (.ref (ad κ 0 0)), some (.ref (ad κ 10 0)), some (vi i)] [] (World κ m) := by
  refine g_aload_n F a_L_law_1350 rfl ?_
  refine g_aload_n F a_L_law_1351 rfl ?_
  refine g_iload_n F a_L_law_1352 rfl ?_
  refine g_iconst F a_L_law_1353 ?_
  refine g_iadd F a_L_law_1354 ?_
  refine g_sld F hX a_L_law_1355 (by omega) ?_
  refine g_v1 F a_L_law_1356 vc_L_175 mk_A_count ob_0 ck_0.1 rfl rfl (by decide) hk rfl (Nat.le_of_ble_eq_true rfl) (pr_count h hn (i32_r _) _ (fun z m1 hM => GCr.v ?_))
  refine g_aload_n F a_L_law_1359 rfl ?_
  refine g_aload_n F a_L_law_1360 rfl ?_
  refine g_iload_n F a_L_law_1361 rfl ?_
  refine g_iconst F a_L_law_1362 ?_
  refine g_iadd F a_L_law_1363 ?_
  refine g_sld F hX a_L_law_1364 (by omega) ?_
  refine g_v1 F a_L_law_1365 vc_L_178 mk_M_count ob_10 ck_10.1 rfl rfl (by decide) hk rfl (Nat.le_of_ble_eq_true rfl) (hM _ (fun m2 i2 => GCr.v ?_))
  exact g_same F a_L_law_1368 (kont m2 i2)
set_option maxHeartbeats 1000000 in
theorem lc_40 {κ : Kx} {μ : MX} {Z : State → Prop} {kc ks : Nat} {m : Mem} {n b L : Nat} {xs : Nat → Int32} {i : Int} {nm : String} (F : Fx κ (G_Ln nm) 100 600000 7302250 μ) (hk : kc ≤ 600000 ∧ ks ≤ 7302250) (hX : SX κ μ b L xs) (h : Inv n m) (hn : n ≤ 600) (hi : 0 ≤ i ∧ i + 5 ≤ L) (kont : ∀ m2 : Mem, Inv (n + 1) m2 → GC κ μ Z kc ks 1387 [some (.ref b), some (.ref (ad κ 0 0)), some (.ref (ad κ 10 0)), some (vi i)] [] (World κ m2)) : GC κ μ Z kc ks 1373 [some (.ref b), some (.ref (ad κ 0 0)), some (.ref (ad κ 10 0)), some (vi i)] [] (World κ m) := by
  refine g_aload_n F a_L_law_1373 rfl ?_
  refine g_v0 F a_L_law_1374 vc_L_179 mk_A_digest ob_0 ck_0.1 rfl rfl (by decide) hk rfl (Nat.le_of_ble_eq_true rfl) (pr_digest h hn _ (fun z m1 hM => GCr.v ?_))
  refine g_aload_n F a_L_law_1377 rfl ?_
  refine g_v0 F a_L_law_1378 vc_L_183 mk_M_digest ob_10 ck_10.1 rfl rfl (by decide) hk rfl (Nat.le_of_ble_eq_true rfl) (hM _ (fun m2 i2 => GCr.v ?_))
  refine g_lcmp0 F a_L_law_1381 ?_
  exact g_if_eq F (by decide) a_L_law_1382 (fun _ => kont m2 i2) (fun q => absurd rfl q)
theorem tsw_j {j : Nat} {a : Int} (h : a = (j : Int)) : (a - 0).toNat = j := by omega
set_option maxHeartbeats 4000000 in
theorem law_sw {κ : Kx} {μ : MX} {Z : State → Prop} {kc ks : Nat} {m : Mem} {n b L : Nat} {xs : Nat → Int32} {i a : Int} {nm : String} (F : Fx κ (G_Ln nm) 100 600000 7302250 μ) (hk : kc ≤ 600000 ∧ ks ≤ 7302250) (hX : SX κ μ b L xs) (h : Inv n m) (hn : n ≤ 600) (hi : 0 ≤ i ∧ i + 5 ≤ L) (ha : R32 a) (kont : ∀ m2 : Mem, Inv (n + 1) m2 → GC κ μ Z kc ks 1387 [some (.ref b), some (.ref (ad κ 0 0)), some (.ref (ad κ 10 0)), some (vi i)] [] (World κ m2)) : GC κ μ Z kc ks 32 [some (.ref b), some (.ref (ad κ 0 0)), some (.ref (ad κ 10 0)), some (vi i)] [vi a] (World κ m) := by
  by_cases c : a < 0 ∨ 40 < a
  · exact g_tswD F ha a_L_law_32 c (tg := 1387) (by decide) (kont m (inv_up h))
  · obtain ⟨j, hj⟩ : ∃ j : Nat, a = (j : Int) := ⟨a.toNat, by omega⟩
    have hj41 : j < 41 := by omega
    match j, hj, hj41 with
    | 0, hj, _ => exact g_tsw F ha a_L_law_32 (by omega) (by omega) (tsw_j hj) (o := 180) (tg := 212) rfl (by decide) (lc_0 F hk hX h hn hi kont)
    | 1, hj, _ => exact g_tsw F ha a_L_law_32 (by omega) (by omega) (tsw_j hj) (o := 203) (tg := 235) rfl (by decide) (lc_1 F hk hX h hn hi kont)
    | 2, hj, _ => exact g_tsw F ha a_L_law_32 (by omega) (by omega) (tsw_j hj) (o := 236) (tg := 268) rfl (by decide) (lc_2 F hk hX h hn hi kont)
    | 3, hj, _ => exact g_tsw F ha a_L_law_32 (by omega) (by omega) (tsw_j hj) (o := 269) (tg := 301) rfl (by decide) (lc_3 F hk hX h hn hi kont)
    | 4, hj, _ => exact g_tsw F ha a_L_law_32 (by omega) (by omega) (tsw_j hj) (o := 292) (tg := 324) rfl (by decide) (lc_4 F hk hX h hn hi kont)
    | 5, hj, _ => exact g_tsw F ha a_L_law_32 (by omega) (by omega) (tsw_j hj) (o := 315) (tg := 347) rfl (by decide) (lc_5 F hk hX h hn hi kont)
    | 6, hj, _ => exact g_tsw F ha a_L_law_32 (by omega) (by omega) (tsw_j hj) (o := 328) (tg := 360) rfl (by decide) (lc_6 F hk hX h hn hi kont)
    | 7, hj, _ => exact g_tsw F ha a_L_law_32 (by omega) (by omega) (tsw_j hj) (o := 341) (tg := 373) rfl (by decide) (lc_7 F hk hX h hn hi kont)
    | 8, hj, _ => exact g_tsw F ha a_L_law_32 (by omega) (by omega) (tsw_j hj) (o := 374) (tg := 406) rfl (by decide) (lc_8 F hk hX h hn hi kont)
    | 9, hj, _ => exact g_tsw F ha a_L_law_32 (by omega) (by omega) (tsw_j hj) (o := 407) (tg := 439) rfl (by decide) (lc_9 F hk hX h hn hi kont)
    | 10, hj, _ => exact g_tsw F ha a_L_law_32 (by omega) (by omega) (tsw_j hj) (o := 420) (tg := 452) rfl (by decide) (lc_10 F hk hX h hn hi kont)
    | 11, hj, _ => exact g_tsw F ha a_L_law_32 (by omega) (by omega) (tsw_j hj) (o := 443) (tg := 475) rfl (by decide) (lc_11 F hk hX h hn hi kont)
    | 12, hj, _ => exact g_tsw F ha a_L_law_32 (by omega) (by omega) (tsw_j hj) (o := 476) (tg := 508) rfl (by decide) (lc_12 F hk hX h hn hi kont)
    | 13, hj, _ => exact g_tsw F ha a_L_law_32 (by omega) (by omega) (tsw_j hj) (o := 499) (tg := 531) rfl (by decide) (lc_13 F hk hX h hn hi kont)
    | 14, hj, _ => exact g_tsw F ha a_L_law_32 (by omega) (by omega) (tsw_j hj) (o := 532) (tg := 564) rfl (by decide) (lc_14 F hk hX h hn hi kont)
    | 15, hj, _ => exact g_tsw F ha a_L_law_32 (by omega) (by omega) (tsw_j hj) (o := 565) (tg := 597) rfl (by decide) (lc_15 F hk hX h hn hi kont)
    | 16, hj, _ => exact g_tsw F ha a_L_law_32 (by omega) (by omega) (tsw_j hj) (o := 578) (tg := 610) rfl (by decide) (lc_16 F hk hX h hn hi kont)
    | 17, hj, _ => exact g_tsw F ha a_L_law_32 (by omega) (by omega) (tsw_j hj) (o := 621) (tg := 653) rfl (by decide) (lc_17 F hk hX h hn hi kont)
    | 18, hj, _ => exact g_tsw F ha a_L_law_32 (by omega) (by omega) (tsw_j hj) (o := 654) (tg := 686) rfl (by decide) (lc_18 F hk hX h hn hi kont)
    | 19, hj, _ => exact g_tsw F ha a_L_law_32 (by omega) (by omega) (tsw_j hj) (o := 697) (tg := 729) rfl (by decide) (lc_19 F hk hX h hn hi kont)
    | 20, hj, _ => exact g_tsw F ha a_L_law_32 (by omega) (by omega) (tsw_j hj) (o := 730) (tg := 762) rfl (by decide) (lc_20 F hk hX h hn hi kont)
    | 21, hj, _ => exact g_tsw F ha a_L_law_32 (by omega) (by omega) (tsw_j hj) (o := 773) (tg := 805) rfl (by decide) (lc_21 F hk hX h hn hi kont)
    | 22, hj, _ => exact g_tsw F ha a_L_law_32 (by omega) (by omega) (tsw_j hj) (o := 796) (tg := 828) rfl (by decide) (lc_22 F hk hX h hn hi kont)
    | 23, hj, _ => exact g_tsw F ha a_L_law_32 (by omega) (by omega) (tsw_j hj) (o := 819) (tg := 851) rfl (by decide) (lc_23 F hk hX h hn hi kont)
    | 24, hj, _ => exact g_tsw F ha a_L_law_32 (by omega) (by omega) (tsw_j hj) (o := 862) (tg := 894) rfl (by decide) (lc_24 F hk hX h hn hi kont)
    | 25, hj, _ => exact g_tsw F ha a_L_law_32 (by omega) (by omega) (tsw_j hj) (o := 895) (tg := 927) rfl (by decide) (lc_25 F hk hX h hn hi kont)
    | 26, hj, _ => exact g_tsw F ha a_L_law_32 (by omega) (by omega) (tsw_j hj) (o := 948) (tg := 980) rfl (by decide) (lc_26 F hk hX h hn hi kont)
    | 27, hj, _ => exact g_tsw F ha a_L_law_32 (by omega) (by omega) (tsw_j hj) (o := 1001) (tg := 1033) rfl (by decide) (lc_27 F hk hX h hn hi kont)
    | 28, hj, _ => exact g_tsw F ha a_L_law_32 (by omega) (by omega) (tsw_j hj) (o := 1024) (tg := 1056) rfl (by decide) (lc_28 F hk hX h hn hi kont)
    | 29, hj, _ => exact g_tsw F ha a_L_law_32 (by omega) (by omega) (tsw_j hj) (o := 1047) (tg := 1079) rfl (by decide) (lc_29 F hk hX h hn hi kont)
    | 30, hj, _ => exact g_tsw F ha a_L_law_32 (by omega) (by omega) (tsw_j hj) (o := 1070) (tg := 1102) rfl (by decide) (lc_30 F hk hX h hn hi kont)
    | 31, hj, _ => exact g_tsw F ha a_L_law_32 (by omega) (by omega) (tsw_j hj) (o := 1093) (tg := 1125) rfl (by decide) (lc_31 F hk hX h hn hi kont)
    | 32, hj, _ => exact g_tsw F ha a_L_law_32 (by omega) (by omega) (tsw_j hj) (o := 1116) (tg := 1148) rfl (by decide) (lc_32 F hk hX h hn hi kont)
    | 33, hj, _ => exact g_tsw F ha a_L_law_32 (by omega) (by omega) (tsw_j hj) (o := 1149) (tg := 1181) rfl (by decide) (lc_33 F hk hX h hn hi kont)
    | 34, hj, _ => exact g_tsw F ha a_L_law_32 (by omega) (by omega) (tsw_j hj) (o := 1192) (tg := 1224) rfl (by decide) (lc_34 F hk hX h hn hi kont)
    | 35, hj, _ => exact g_tsw F ha a_L_law_32 (by omega) (by omega) (tsw_j hj) (o := 1225) (tg := 1257) rfl (by decide) (lc_35 F hk hX h hn hi kont)
    | 36, hj, _ => exact g_tsw F ha a_L_law_32 (by omega) (by omega) (tsw_j hj) (o := 1249) (tg := 1281) rfl (by decide) (lc_36 F hk hX h hn hi kont)
    | 37, hj, _ => exact g_tsw F ha a_L_law_32 (by omega) (by omega) (tsw_j hj) (o := 1272) (tg := 1304) rfl (by decide) (lc_37 F hk hX h hn hi kont)
    | 38, hj, _ => exact g_tsw F ha a_L_law_32 (by omega) (by omega) (tsw_j hj) (o := 1295) (tg := 1327) rfl (by decide) (lc_38 F hk hX h hn hi kont)
    | 39, hj, _ => exact g_tsw F ha a_L_law_32 (by omega) (by omega) (tsw_j hj) (o := 1318) (tg := 1350) rfl (by decide) (lc_39 F hk hX h hn hi kont)
    | 40, hj, _ => exact g_tsw F ha a_L_law_32 (by omega) (by omega) (tsw_j hj) (o := 1341) (tg := 1373) rfl (by decide) (lc_40 F hk hX h hn hi kont)
    | k + 41, _, hj41 => exact absurd hj41 (by omega)
set_option maxHeartbeats 1000000 in
theorem lp_law {κ : Kx} {μ : MX} {Z : State → Prop} {kc ks : Nat} {b L : Nat} {xs : Nat → Int32} {nm : String} (F : Fx κ (G_Ln nm) 100 600000 7302250 μ) (hk : kc ≤ 600000 ∧ ks ≤ 7302250) (hX : SX κ μ b L xs) (kz : ∀ (ls : List (Option Value)) (m : Mem), GC κ μ Z kc ks 1394 ls [vi 1] (World κ m)) :
    ∀ (N n : Nat) (m : Mem) (i : Int), 2560 < i + 5 * N → i = 5 * (n : Int) → i ≤ 2560 → Inv n m → GC κ μ Z kc ks 18 [some (.ref b), some (.ref (ad κ 0 0)), some (.ref (ad κ 10 0)), some (vi i)] [] (World κ m) := by
  have hL := hX.2.2.2
  intro N
  induction N with
  | zero => intro n m i h1 h2 h3 h; exact absurd h1 (by omega)
  | succ N ih =>
    intro n m i h1 h2 h3 h
    refine g_iload_n F a_L_law_18 rfl ?_
    refine g_aload_n F a_L_law_19 rfl ?_
    refine g_scl F hX a_L_law_20 ?_
    refine g_iconst F a_L_law_21 ?_
    refine g_isub F a_L_law_22 ?_
    refine g_icmp_gt F (by omega) (by omega) a_L_law_23 (fun h23 => ?_) (fun h23 => ?_)
    · refine g_iconst F a_L_law_1393 ?_
      exact kz _ _
    · refine g_aload_n F a_L_law_26 rfl ?_
      refine g_iload_n F a_L_law_27 rfl ?_
      refine g_sld F hX a_L_law_28 (by omega) ?_
      refine g_bipush F a_L_law_29 (by decide) ?_
      refine g_iand F a_L_law_31 ?_
      refine law_sw F hk hX h (by omega) (by omega) (bAnd_r _ _) (fun m2 i2 => ?_)
      refine g_iinc (ls' := [_, _, _, _]) F a_L_law_1387 rfl rfl rfl ?_
      refine g_goto F a_L_law_1390 ?_
      exact ih (n + 1) m2 (i + 5) (by omega) (by omega) (by omega) i2
