/-! the law: what each order of the script comes to -/
set_option maxHeartbeats 4000000 in
set_option maxRecDepth 100000 in
theorem cs_0 {p : Program} {l : Launch} {e : Env} {s : State} {m : MethodId} {b : Nat} {below : List Frame} {meth : Method} {c : Code} {D : va_G} {κ : Nat → ClassId} {ζ : Nat → Nat} {A B : Nat → Nat} {q LL x : Nat} {xs : Nat → Int32} {cells slots : Nat} {H : Heap} {locs : List Loc} {L : List Nat} {F : Nat → va_E} {σ : CS} {τ : MS} {ls : Array Slot} (E : LWE p l e s m b below meth c D κ ζ LL xs) (hx : 5 * x + 5 ≤ LL) (hL : LL ≤ 2560) (hc : cells + 256 ≤ 765322) (hs : slots + 8192 ≤ 6800139) (T : TL p l e s m b below meth c D κ ζ A B q x (cells + 256) (slots + 8192)) (Z : LST D κ ζ A B q s H locs L F σ τ) (hl : lv_has ls 7 [(4, .int (nI (5 * x))), (0, .ref b), (1, .ref (A 0)), (2, .ref (B 0)), (3, .ref q)]) : W p l e room_1 s m #[Value.ref b] below meth c H locs cells slots (lw_Z below #[Value.ref b] s) (F0 m 256 ls []) := by
  obtain ⟨hst, S, hr, hlk, hN, hK, hST, hX, hbl⟩ := E
  obtain ⟨hW, hI, hJ, hO, hV⟩ := Z
  have i1 : vp_in (nI (5 * x) + 1) LL := sc_in (k := 1) hx hL (by decide)
  obtain ⟨x1, hy1⟩ : ∃ v, xs (nI (5 * x) + 1).toNatClampNeg = v := ⟨_, rfl⟩
  have i2 : vp_in (nI (5 * x) + 2) LL := sc_in (k := 2) hx hL (by decide)
  obtain ⟨x2, hy2⟩ : ∃ v, xs (nI (5 * x) + 2).toNatClampNeg = v := ⟨_, rfl⟩
  have i3 : vp_in (nI (5 * x) + 3) LL := sc_in (k := 3) hx hL (by decide)
  obtain ⟨x3, hy3⟩ : ∃ v, xs (nI (5 * x) + 3).toNatClampNeg = v := ⟨_, rfl⟩
  have i4 : vp_in (nI (5 * x) + 4) LL := sc_in (k := 4) hx hL (by decide)
  obtain ⟨x4, hy4⟩ : ∃ v, xs (nI (5 * x) + 4).toNatClampNeg = v := ⟨_, rfl⟩
  obtain ⟨y2, hz2⟩ : ∃ v, (if x2 = 0 then (0 : Int32) else 1) = v := ⟨_, rfl⟩
  have hq2 := nz01 hz2
  refine lv_aload_n S.1 S.2.1 dW_256 rfl (lv_at hl 2 rfl) ?_
  refine lv_aload_n S.1 S.2.1 dW_257 rfl (lv_at hl 1 rfl) ?_
  refine lv_iload S.1 S.2.1 dW_258 (lv_at hl 0 rfl) ?_
  refine lv_iconst (v := 1) S.1 S.2.1 dW_260 (by decide) ?_
  refine lv_iadd S.1 S.2.1 dW_261 ?_
  refine pk_sld S hX hbl hW i1 hy1 dW_262 ?_
  refine lv_aload_n S.1 S.2.1 dW_263 rfl (lv_at hl 1 rfl) ?_
  refine lv_iload S.1 S.2.1 dW_264 (lv_at hl 0 rfl) ?_
  refine lv_iconst (v := 2) S.1 S.2.1 dW_266 (by decide) ?_
  refine lv_iadd S.1 S.2.1 dW_267 ?_
  refine pk_sld S hX hbl hW i2 hy2 dW_268 ?_
  refine pk_nz S.1 S.2.1 hz2 dW_269 dW_272 dW_273 dW_276 ?_
  refine lv_aload_n S.1 S.2.1 dW_277 rfl (lv_at hl 1 rfl) ?_
  refine lv_iload S.1 S.2.1 dW_278 (lv_at hl 0 rfl) ?_
  refine lv_iconst (v := 3) S.1 S.2.1 dW_280 (by decide) ?_
  refine lv_iadd S.1 S.2.1 dW_281 ?_
  refine pk_sld S hX hbl hW i3 hy3 dW_282 ?_
  refine lv_aload_n S.1 S.2.1 dW_283 rfl (lv_at hl 1 rfl) ?_
  refine lv_iload S.1 S.2.1 dW_284 (lv_at hl 0 rfl) ?_
  refine lv_iconst (v := 4) S.1 S.2.1 dW_286 (by decide) ?_
  refine lv_iadd S.1 S.2.1 dW_287 ?_
  refine pk_sld S hX hbl hW i4 hy4 dW_288 ?_
  refine lv_aload_n S.1 S.2.1 dW_289 rfl (lv_at hl 4 rfl) ?_
  obtain ⟨res, res2, hf, hk, hg, hV2, hag⟩ := sx_join hV x1 y2 hq2 x3 x4
  refine pk_cLI (As := [.ref (A 0), .int x1, .int y2, .int x3, .int x4, .ref q]) (rest := []) S hK hST hW hN (c_L_join hst hI hO x1 y2 x3 x4 hf hk) mw_L_join wd_346 wd_347 np_L_join rfl hl.1 rfl (Nat.le_of_ble_eq_true rfl) dW_290 ⟨Nat.le_of_ble_eq_true rfl, Nat.le_of_ble_eq_true rfl⟩ ⟨by show cells + 4 ≤ 765322; omega, by show slots + 24 ≤ 6800139; omega⟩ (fun r L1 F1 H1 l1 hp hW => ?_)
  obtain ⟨hs1, hI1, ⟨w0, w1, e_q1, ha1⟩, hf1⟩ := hp
  have hJ1 := hJ.keepC hI hO hs1 hf1 (noE hW hST)
  have hO1 : OUT q L1 F1 := ⟨hs1 _ hO.1, w0, w1, e_q1⟩
  refine lv_istore (lv' := [(5, .int r), (4, .int (nI (5 * x))), (0, .ref b), (1, .ref (A 0)), (2, .ref (B 0)), (3, .ref q)]) S.1 S.2.1 dW_293 hl (Nat.le_of_ble_eq_true rfl) rfl (fun ls hl => ?_)
  refine lv_aload_n S.1 S.2.1 dW_295 rfl (lv_at hl 4 rfl) ?_
  refine lv_aload_n S.1 S.2.1 dW_296 rfl (lv_at hl 2 rfl) ?_
  refine lv_iload S.1 S.2.1 dW_297 (lv_at hl 1 rfl) ?_
  refine lv_iconst (v := 1) S.1 S.2.1 dW_299 (by decide) ?_
  refine lv_iadd S.1 S.2.1 dW_300 ?_
  refine pk_sld S hX hbl hW i1 hy1 dW_301 ?_
  refine lv_aload_n S.1 S.2.1 dW_302 rfl (lv_at hl 2 rfl) ?_
  refine lv_iload S.1 S.2.1 dW_303 (lv_at hl 1 rfl) ?_
  refine lv_iconst (v := 2) S.1 S.2.1 dW_305 (by decide) ?_
  refine lv_iadd S.1 S.2.1 dW_306 ?_
  refine pk_sld S hX hbl hW i2 hy2 dW_307 ?_
  refine pk_nz S.1 S.2.1 hz2 dW_308 dW_311 dW_312 dW_315 ?_
  refine lv_aload_n S.1 S.2.1 dW_316 rfl (lv_at hl 2 rfl) ?_
  refine lv_iload S.1 S.2.1 dW_317 (lv_at hl 1 rfl) ?_
  refine lv_iconst (v := 3) S.1 S.2.1 dW_319 (by decide) ?_
  refine lv_iadd S.1 S.2.1 dW_320 ?_
  refine pk_sld S hX hbl hW i3 hy3 dW_321 ?_
  refine lv_aload_n S.1 S.2.1 dW_322 rfl (lv_at hl 2 rfl) ?_
  refine lv_iload S.1 S.2.1 dW_323 (lv_at hl 1 rfl) ?_
  refine lv_iconst (v := 4) S.1 S.2.1 dW_325 (by decide) ?_
  refine lv_iadd S.1 S.2.1 dW_326 ?_
  refine pk_sld S hX hbl hW i4 hy4 dW_327 ?_
  refine pk_cVI (As := [.int x1, .int y2, .int x3, .int x4]) (rest := []) S hK hST hW (c_X6_join hJ1 x1 y2 x3 x4 hg) mc_X6_join wd_1174 wd_1175 wd_1176 rfl np_X6_join (hJ1.mem (by decide)) hJ1.this rfl rfl hl.1 rfl (Nat.le_of_ble_eq_true rfl) dW_328 ⟨Nat.le_of_ble_eq_true rfl, Nat.le_of_ble_eq_true rfl⟩ ⟨by show cells + 4 + 4 ≤ 765322; omega, by show slots + 24 + 132 ≤ 6800139; omega⟩ (fun r2 L2 F2 H2 l2 hp hW => ?_)
  obtain ⟨rfl, hJ2, hM2⟩ := hp
  have hI2 := hI1.keepM hM2
  have hO2 := hO1.keepM hM2
  refine lv_istore (lv' := [(6, .int res2.1), (5, .int r), (4, .int (nI (5 * x))), (0, .ref b), (1, .ref (A 0)), (2, .ref (B 0)), (3, .ref q)]) S.1 S.2.1 dW_331 hl (Nat.le_of_ble_eq_true rfl) rfl (fun ls hl => ?_)
  refine lv_goto (tgt := 2363) S.1 S.2.1 dW_333 (by decide) ?_
  refine W.widen (k := cells + 256) (n := slots + 8192) (by omega) (by omega) ?_
  exact T _ _ _ _ _ _ _ ⟨hW, hI2, hJ2, hO2, hV2⟩ (lv_sub hl [2, 3, 4, 5, 6] rfl)
set_option maxHeartbeats 4000000 in
set_option maxRecDepth 100000 in
theorem cs_1 {p : Program} {l : Launch} {e : Env} {s : State} {m : MethodId} {b : Nat} {below : List Frame} {meth : Method} {c : Code} {D : va_G} {κ : Nat → ClassId} {ζ : Nat → Nat} {A B : Nat → Nat} {q LL x : Nat} {xs : Nat → Int32} {cells slots : Nat} {H : Heap} {locs : List Loc} {L : List Nat} {F : Nat → va_E} {σ : CS} {τ : MS} {ls : Array Slot} (E : LWE p l e s m b below meth c D κ ζ LL xs) (hx : 5 * x + 5 ≤ LL) (hL : LL ≤ 2560) (hc : cells + 256 ≤ 765322) (hs : slots + 8192 ≤ 6800139) (T : TL p l e s m b below meth c D κ ζ A B q x (cells + 256) (slots + 8192)) (Z : LST D κ ζ A B q s H locs L F σ τ) (hl : lv_has ls 7 [(4, .int (nI (5 * x))), (0, .ref b), (1, .ref (A 0)), (2, .ref (B 0)), (3, .ref q)]) : W p l e room_1 s m #[Value.ref b] below meth c H locs cells slots (lw_Z below #[Value.ref b] s) (F0 m 336 ls []) := by
  obtain ⟨hst, S, hr, hlk, hN, hK, hST, hX, hbl⟩ := E
  obtain ⟨hW, hI, hJ, hO, hV⟩ := Z
  have i1 : vp_in (nI (5 * x) + 1) LL := sc_in (k := 1) hx hL (by decide)
  obtain ⟨x1, hy1⟩ : ∃ v, xs (nI (5 * x) + 1).toNatClampNeg = v := ⟨_, rfl⟩
  have i2 : vp_in (nI (5 * x) + 2) LL := sc_in (k := 2) hx hL (by decide)
  obtain ⟨x2, hy2⟩ : ∃ v, xs (nI (5 * x) + 2).toNatClampNeg = v := ⟨_, rfl⟩
  have i3 : vp_in (nI (5 * x) + 3) LL := sc_in (k := 3) hx hL (by decide)
  obtain ⟨x3, hy3⟩ : ∃ v, xs (nI (5 * x) + 3).toNatClampNeg = v := ⟨_, rfl⟩
  have i4 : vp_in (nI (5 * x) + 4) LL := sc_in (k := 4) hx hL (by decide)
  obtain ⟨x4, hy4⟩ : ∃ v, xs (nI (5 * x) + 4).toNatClampNeg = v := ⟨_, rfl⟩
  obtain ⟨y2, hz2⟩ : ∃ v, (if x2 = 0 then (0 : Int32) else 1) = v := ⟨_, rfl⟩
  have hq2 := nz01 hz2
  refine lv_aload_n S.1 S.2.1 dW_336 rfl (lv_at hl 2 rfl) ?_
  refine lv_aload_n S.1 S.2.1 dW_337 rfl (lv_at hl 1 rfl) ?_
  refine lv_iload S.1 S.2.1 dW_338 (lv_at hl 0 rfl) ?_
  refine lv_iconst (v := 1) S.1 S.2.1 dW_340 (by decide) ?_
  refine lv_iadd S.1 S.2.1 dW_341 ?_
  refine pk_sld S hX hbl hW i1 hy1 dW_342 ?_
  refine lv_aload_n S.1 S.2.1 dW_343 rfl (lv_at hl 1 rfl) ?_
  refine lv_iload S.1 S.2.1 dW_344 (lv_at hl 0 rfl) ?_
  refine lv_iconst (v := 2) S.1 S.2.1 dW_346 (by decide) ?_
  refine lv_iadd S.1 S.2.1 dW_347 ?_
  refine pk_sld S hX hbl hW i2 hy2 dW_348 ?_
  refine pk_nz S.1 S.2.1 hz2 dW_349 dW_352 dW_353 dW_356 ?_
  refine lv_aload_n S.1 S.2.1 dW_357 rfl (lv_at hl 1 rfl) ?_
  refine lv_iload S.1 S.2.1 dW_358 (lv_at hl 0 rfl) ?_
  refine lv_iconst (v := 3) S.1 S.2.1 dW_360 (by decide) ?_
  refine lv_iadd S.1 S.2.1 dW_361 ?_
  refine pk_sld S hX hbl hW i3 hy3 dW_362 ?_
  refine lv_aload_n S.1 S.2.1 dW_363 rfl (lv_at hl 1 rfl) ?_
  refine lv_iload S.1 S.2.1 dW_364 (lv_at hl 0 rfl) ?_
  refine lv_iconst (v := 4) S.1 S.2.1 dW_366 (by decide) ?_
  refine lv_iadd S.1 S.2.1 dW_367 ?_
  refine pk_sld S hX hbl hW i4 hy4 dW_368 ?_
  refine lv_aload_n S.1 S.2.1 dW_369 rfl (lv_at hl 4 rfl) ?_
  obtain ⟨res, res2, hf, hk, hg, hV2, hag⟩ := sx_offer hV x1 y2 hq2 x3 x4
  refine pk_cLI (As := [.ref (A 0), .int x1, .int y2, .int x3, .int x4, .ref q]) (rest := []) S hK hST hW hN (c_L_offer hst hI hO x1 y2 x3 x4 hf hk) mw_L_offer wd_467 wd_468 np_L_offer rfl hl.1 rfl (Nat.le_of_ble_eq_true rfl) dW_370 ⟨Nat.le_of_ble_eq_true rfl, Nat.le_of_ble_eq_true rfl⟩ ⟨by show cells + 4 ≤ 765322; omega, by show slots + 24 ≤ 6800139; omega⟩ (fun r L1 F1 H1 l1 hp hW => ?_)
  obtain ⟨hs1, hI1, ⟨w0, w1, e_q1, ha1⟩, hf1⟩ := hp
  have hJ1 := hJ.keepC hI hO hs1 hf1 (noE hW hST)
  have hO1 : OUT q L1 F1 := ⟨hs1 _ hO.1, w0, w1, e_q1⟩
  refine lv_istore (lv' := [(5, .int r), (4, .int (nI (5 * x))), (0, .ref b), (1, .ref (A 0)), (2, .ref (B 0)), (3, .ref q)]) S.1 S.2.1 dW_373 hl (Nat.le_of_ble_eq_true rfl) rfl (fun ls hl => ?_)
  refine lv_aload_n S.1 S.2.1 dW_375 rfl (lv_at hl 4 rfl) ?_
  refine lv_aload_n S.1 S.2.1 dW_376 rfl (lv_at hl 2 rfl) ?_
  refine lv_iload S.1 S.2.1 dW_377 (lv_at hl 1 rfl) ?_
  refine lv_iconst (v := 1) S.1 S.2.1 dW_379 (by decide) ?_
  refine lv_iadd S.1 S.2.1 dW_380 ?_
  refine pk_sld S hX hbl hW i1 hy1 dW_381 ?_
  refine lv_aload_n S.1 S.2.1 dW_382 rfl (lv_at hl 2 rfl) ?_
  refine lv_iload S.1 S.2.1 dW_383 (lv_at hl 1 rfl) ?_
  refine lv_iconst (v := 2) S.1 S.2.1 dW_385 (by decide) ?_
  refine lv_iadd S.1 S.2.1 dW_386 ?_
  refine pk_sld S hX hbl hW i2 hy2 dW_387 ?_
  refine pk_nz S.1 S.2.1 hz2 dW_388 dW_391 dW_392 dW_395 ?_
  refine lv_aload_n S.1 S.2.1 dW_396 rfl (lv_at hl 2 rfl) ?_
  refine lv_iload S.1 S.2.1 dW_397 (lv_at hl 1 rfl) ?_
  refine lv_iconst (v := 3) S.1 S.2.1 dW_399 (by decide) ?_
  refine lv_iadd S.1 S.2.1 dW_400 ?_
  refine pk_sld S hX hbl hW i3 hy3 dW_401 ?_
  refine lv_aload_n S.1 S.2.1 dW_402 rfl (lv_at hl 2 rfl) ?_
  refine lv_iload S.1 S.2.1 dW_403 (lv_at hl 1 rfl) ?_
  refine lv_iconst (v := 4) S.1 S.2.1 dW_405 (by decide) ?_
  refine lv_iadd S.1 S.2.1 dW_406 ?_
  refine pk_sld S hX hbl hW i4 hy4 dW_407 ?_
  refine pk_cVI (As := [.int x1, .int y2, .int x3, .int x4]) (rest := []) S hK hST hW (c_X6_offer hJ1 x1 y2 x3 x4 hg) mc_X6_offer wd_1291 wd_1292 wd_1293 rfl np_X6_offer (hJ1.mem (by decide)) hJ1.this rfl rfl hl.1 rfl (Nat.le_of_ble_eq_true rfl) dW_408 ⟨Nat.le_of_ble_eq_true rfl, Nat.le_of_ble_eq_true rfl⟩ ⟨by show cells + 4 + 4 ≤ 765322; omega, by show slots + 24 + 132 ≤ 6800139; omega⟩ (fun r2 L2 F2 H2 l2 hp hW => ?_)
  obtain ⟨rfl, hJ2, hM2⟩ := hp
  have hI2 := hI1.keepM hM2
  have hO2 := hO1.keepM hM2
  have e_q2 := outM hO1.1 e_q1 hM2
  refine lv_istore (lv' := [(6, .int res2.1), (5, .int r), (4, .int (nI (5 * x))), (0, .ref b), (1, .ref (A 0)), (2, .ref (B 0)), (3, .ref q)]) S.1 S.2.1 dW_411 hl (Nat.le_of_ble_eq_true rfl) rfl (fun ls hl => ?_)
  refine lv_aload_n S.1 S.2.1 dW_413 rfl (lv_at hl 5 rfl) ?_
  refine pk_cVI (As := []) (rest := []) S hK hST hW (c_X6_thrown hJ2 (res := res2.2.2 0) rfl) mc_X6_thrown wd_3049 wd_3050 wd_3051 rfl np_X6_thrown (hJ2.mem (by decide)) hJ2.this rfl rfl hl.1 rfl (Nat.le_of_ble_eq_true rfl) dW_414 ⟨Nat.le_of_ble_eq_true rfl, Nat.le_of_ble_eq_true rfl⟩ ⟨by show cells + 4 + 4 + 0 ≤ 765322; omega, by show slots + 24 + 132 + 0 ≤ 6800139; omega⟩ (fun r3 L3 F3 H3 l3 hp hW => ?_)
  obtain ⟨rfl, rfl, rfl⟩ := hp
  have thr_eq := cmp_thr (RK := fun k => if k = 0 then 1 else if k = 1 then 2 else 3) rk_C3 hag (fun k h => ha1.1 k h) (fun z h => (ha1.2 z h).1)
  refine lv_iload S.1 S.2.1 dW_417 (lv_at hl 1 rfl) ?_
  refine lv_icmp_eq (tgt := 424) S.1 S.2.1 dW_419 (by decide) (fun _ => ?_) (fun c9 => absurd (thr_eq) c9)
  refine lv_iload S.1 S.2.1 dW_424 (lv_at hl 1 rfl) ?_
  refine lv_if_ne (tgt := 449) S.1 S.2.1 dW_426 (by decide) (fun _ => ?_) (fun c8 => ?_)
  · refine lv_goto (tgt := 2363) S.1 S.2.1 dW_449 (by decide) ?_
    refine W.widen (k := cells + 256) (n := slots + 8192) (by omega) (by omega) ?_
    exact T _ _ _ _ _ _ _ ⟨hW, hI2, hJ2, hO2, hV2⟩ (lv_sub hl [2, 3, 4, 5, 6] rfl)
  have hv0 := cmp_val (V := (fun v => .long (if v = 0 then 0 else 1))) (RK := fun k => if k = 0 then 1 else if k = 1 then 2 else 3) rk_C3 hag (fun k h => ha1.1 k h) (fun z h => ha1.2 z h) c8
  rw [hv0] at e_q2
  refine lv_aload_n S.1 S.2.1 dW_429 rfl (lv_at hl 6 rfl) ?_
  refine pk_getN (v := .long (if res2.1 = 0 then 0 else 1)) S hK hW 0 hO2.1 e_q2 rfl hinX4 (by decide) (va_Nw.use rfl (hST.1.1 _ wn_8)) rfl dW_430 ?_
  refine lv_iload S.1 S.2.1 dW_433 (lv_at hl 0 rfl) ?_
  refine pk_nzl S.1 S.2.1 rfl dW_435 dW_438 dW_439 dW_442 ?_
  refine pk_lceq S.1 S.2.1 rfl dW_443 ?_
  refine lv_if_eq (tgt := 449) S.1 S.2.1 dW_444 (by decide) (fun _ => ?_) (fun c7 => absurd rfl c7)
  refine lv_goto (tgt := 2363) S.1 S.2.1 dW_449 (by decide) ?_
  refine W.widen (k := cells + 256) (n := slots + 8192) (by omega) (by omega) ?_
  exact T _ _ _ _ _ _ _ ⟨hW, hI2, hJ2, hO2, hV2⟩ (lv_sub hl [2, 3, 4, 5, 6] rfl)
set_option maxHeartbeats 4000000 in
set_option maxRecDepth 100000 in
theorem cs_2 {p : Program} {l : Launch} {e : Env} {s : State} {m : MethodId} {b : Nat} {below : List Frame} {meth : Method} {c : Code} {D : va_G} {κ : Nat → ClassId} {ζ : Nat → Nat} {A B : Nat → Nat} {q LL x : Nat} {xs : Nat → Int32} {cells slots : Nat} {H : Heap} {locs : List Loc} {L : List Nat} {F : Nat → va_E} {σ : CS} {τ : MS} {ls : Array Slot} (E : LWE p l e s m b below meth c D κ ζ LL xs) (hx : 5 * x + 5 ≤ LL) (hL : LL ≤ 2560) (hc : cells + 256 ≤ 765322) (hs : slots + 8192 ≤ 6800139) (T : TL p l e s m b below meth c D κ ζ A B q x (cells + 256) (slots + 8192)) (Z : LST D κ ζ A B q s H locs L F σ τ) (hl : lv_has ls 7 [(4, .int (nI (5 * x))), (0, .ref b), (1, .ref (A 0)), (2, .ref (B 0)), (3, .ref q)]) : W p l e room_1 s m #[Value.ref b] below meth c H locs cells slots (lw_Z below #[Value.ref b] s) (F0 m 452 ls []) := by
  obtain ⟨hst, S, hr, hlk, hN, hK, hST, hX, hbl⟩ := E
  obtain ⟨hW, hI, hJ, hO, hV⟩ := Z
  have i1 : vp_in (nI (5 * x) + 1) LL := sc_in (k := 1) hx hL (by decide)
  obtain ⟨x1, hy1⟩ : ∃ v, xs (nI (5 * x) + 1).toNatClampNeg = v := ⟨_, rfl⟩
  have i2 : vp_in (nI (5 * x) + 2) LL := sc_in (k := 2) hx hL (by decide)
  obtain ⟨x2, hy2⟩ : ∃ v, xs (nI (5 * x) + 2).toNatClampNeg = v := ⟨_, rfl⟩
  have i3 : vp_in (nI (5 * x) + 3) LL := sc_in (k := 3) hx hL (by decide)
  obtain ⟨x3, hy3⟩ : ∃ v, xs (nI (5 * x) + 3).toNatClampNeg = v := ⟨_, rfl⟩
  refine lv_aload_n S.1 S.2.1 dW_452 rfl (lv_at hl 2 rfl) ?_
  refine lv_aload_n S.1 S.2.1 dW_453 rfl (lv_at hl 1 rfl) ?_
  refine lv_iload S.1 S.2.1 dW_454 (lv_at hl 0 rfl) ?_
  refine lv_iconst (v := 1) S.1 S.2.1 dW_456 (by decide) ?_
  refine lv_iadd S.1 S.2.1 dW_457 ?_
  refine pk_sld S hX hbl hW i1 hy1 dW_458 ?_
  refine lv_aload_n S.1 S.2.1 dW_459 rfl (lv_at hl 1 rfl) ?_
  refine lv_iload S.1 S.2.1 dW_460 (lv_at hl 0 rfl) ?_
  refine lv_iconst (v := 2) S.1 S.2.1 dW_462 (by decide) ?_
  refine lv_iadd S.1 S.2.1 dW_463 ?_
  refine pk_sld S hX hbl hW i2 hy2 dW_464 ?_
  refine lv_aload_n S.1 S.2.1 dW_465 rfl (lv_at hl 1 rfl) ?_
  refine lv_iload S.1 S.2.1 dW_466 (lv_at hl 0 rfl) ?_
  refine lv_iconst (v := 3) S.1 S.2.1 dW_468 (by decide) ?_
  refine lv_iadd S.1 S.2.1 dW_469 ?_
  refine pk_sld S hX hbl hW i3 hy3 dW_470 ?_
  refine lv_aload_n S.1 S.2.1 dW_471 rfl (lv_at hl 4 rfl) ?_
  obtain ⟨res, res2, hf, hk, hg, hV2, hag⟩ := sx_push hV x1 x2 x3
  refine pk_cLI (As := [.ref (A 0), .int x1, .int x2, .int x3, .ref q]) (rest := []) S hK hST hW hN (c_L_push hst hI hO x1 x2 x3 hf hk) mw_L_push wd_3008 wd_474 np_L_push rfl hl.1 rfl (Nat.le_of_ble_eq_true rfl) dW_472 ⟨Nat.le_of_ble_eq_true rfl, Nat.le_of_ble_eq_true rfl⟩ ⟨by show cells + 5 ≤ 765322; omega, by show slots + 30 ≤ 6800139; omega⟩ (fun r L1 F1 H1 l1 hp hW => ?_)
  obtain ⟨hs1, hI1, ⟨w0, w1, e_q1, ha1⟩, hf1⟩ := hp
  have hJ1 := hJ.keepC hI hO hs1 hf1 (noE hW hST)
  have hO1 : OUT q L1 F1 := ⟨hs1 _ hO.1, w0, w1, e_q1⟩
  refine lv_istore (lv' := [(5, .int r), (4, .int (nI (5 * x))), (0, .ref b), (1, .ref (A 0)), (2, .ref (B 0)), (3, .ref q)]) S.1 S.2.1 dW_475 hl (Nat.le_of_ble_eq_true rfl) rfl (fun ls hl => ?_)
  refine lv_aload_n S.1 S.2.1 dW_477 rfl (lv_at hl 4 rfl) ?_
  refine lv_aload_n S.1 S.2.1 dW_478 rfl (lv_at hl 2 rfl) ?_
  refine lv_iload S.1 S.2.1 dW_479 (lv_at hl 1 rfl) ?_
  refine lv_iconst (v := 1) S.1 S.2.1 dW_481 (by decide) ?_
  refine lv_iadd S.1 S.2.1 dW_482 ?_
  refine pk_sld S hX hbl hW i1 hy1 dW_483 ?_
  refine lv_aload_n S.1 S.2.1 dW_484 rfl (lv_at hl 2 rfl) ?_
  refine lv_iload S.1 S.2.1 dW_485 (lv_at hl 1 rfl) ?_
  refine lv_iconst (v := 2) S.1 S.2.1 dW_487 (by decide) ?_
  refine lv_iadd S.1 S.2.1 dW_488 ?_
  refine pk_sld S hX hbl hW i2 hy2 dW_489 ?_
  refine lv_aload_n S.1 S.2.1 dW_490 rfl (lv_at hl 2 rfl) ?_
  refine lv_iload S.1 S.2.1 dW_491 (lv_at hl 1 rfl) ?_
  refine lv_iconst (v := 3) S.1 S.2.1 dW_493 (by decide) ?_
  refine lv_iadd S.1 S.2.1 dW_494 ?_
  refine pk_sld S hX hbl hW i3 hy3 dW_495 ?_
  refine pk_cVI (As := [.int x1, .int x2, .int x3]) (rest := []) S hK hST hW (c_X6_push hJ1 x1 x2 x3 hg) mc_X6_push wd_3053 wd_1296 wd_1297 rfl np_X6_push (hJ1.mem (by decide)) hJ1.this rfl rfl hl.1 rfl (Nat.le_of_ble_eq_true rfl) dW_496 ⟨Nat.le_of_ble_eq_true rfl, Nat.le_of_ble_eq_true rfl⟩ ⟨by show cells + 5 + 4 ≤ 765322; omega, by show slots + 30 + 132 ≤ 6800139; omega⟩ (fun r2 L2 F2 H2 l2 hp hW => ?_)
  obtain ⟨rfl, hJ2, hM2⟩ := hp
  have hI2 := hI1.keepM hM2
  have hO2 := hO1.keepM hM2
  refine lv_istore (lv' := [(6, .int res2.1), (5, .int r), (4, .int (nI (5 * x))), (0, .ref b), (1, .ref (A 0)), (2, .ref (B 0)), (3, .ref q)]) S.1 S.2.1 dW_499 hl (Nat.le_of_ble_eq_true rfl) rfl (fun ls hl => ?_)
  refine lv_goto (tgt := 2363) S.1 S.2.1 dW_501 (by decide) ?_
  refine W.widen (k := cells + 256) (n := slots + 8192) (by omega) (by omega) ?_
  exact T _ _ _ _ _ _ _ ⟨hW, hI2, hJ2, hO2, hV2⟩ (lv_sub hl [2, 3, 4, 5, 6] rfl)
set_option maxHeartbeats 4000000 in
set_option maxRecDepth 100000 in
theorem cs_3 {p : Program} {l : Launch} {e : Env} {s : State} {m : MethodId} {b : Nat} {below : List Frame} {meth : Method} {c : Code} {D : va_G} {κ : Nat → ClassId} {ζ : Nat → Nat} {A B : Nat → Nat} {q LL x : Nat} {xs : Nat → Int32} {cells slots : Nat} {H : Heap} {locs : List Loc} {L : List Nat} {F : Nat → va_E} {σ : CS} {τ : MS} {ls : Array Slot} (E : LWE p l e s m b below meth c D κ ζ LL xs) (hx : 5 * x + 5 ≤ LL) (hL : LL ≤ 2560) (hc : cells + 256 ≤ 765322) (hs : slots + 8192 ≤ 6800139) (T : TL p l e s m b below meth c D κ ζ A B q x (cells + 256) (slots + 8192)) (Z : LST D κ ζ A B q s H locs L F σ τ) (hl : lv_has ls 7 [(4, .int (nI (5 * x))), (0, .ref b), (1, .ref (A 0)), (2, .ref (B 0)), (3, .ref q)]) : W p l e room_1 s m #[Value.ref b] below meth c H locs cells slots (lw_Z below #[Value.ref b] s) (F0 m 504 ls []) := by
  obtain ⟨hst, S, hr, hlk, hN, hK, hST, hX, hbl⟩ := E
  obtain ⟨hW, hI, hJ, hO, hV⟩ := Z
  have i1 : vp_in (nI (5 * x) + 1) LL := sc_in (k := 1) hx hL (by decide)
  obtain ⟨x1, hy1⟩ : ∃ v, xs (nI (5 * x) + 1).toNatClampNeg = v := ⟨_, rfl⟩
  have i2 : vp_in (nI (5 * x) + 2) LL := sc_in (k := 2) hx hL (by decide)
  obtain ⟨x2, hy2⟩ : ∃ v, xs (nI (5 * x) + 2).toNatClampNeg = v := ⟨_, rfl⟩
  have i3 : vp_in (nI (5 * x) + 3) LL := sc_in (k := 3) hx hL (by decide)
  obtain ⟨x3, hy3⟩ : ∃ v, xs (nI (5 * x) + 3).toNatClampNeg = v := ⟨_, rfl⟩
  refine lv_aload_n S.1 S.2.1 dW_504 rfl (lv_at hl 2 rfl) ?_
  refine lv_aload_n S.1 S.2.1 dW_505 rfl (lv_at hl 1 rfl) ?_
  refine lv_iload S.1 S.2.1 dW_506 (lv_at hl 0 rfl) ?_
  refine lv_iconst (v := 1) S.1 S.2.1 dW_508 (by decide) ?_
  refine lv_iadd S.1 S.2.1 dW_509 ?_
  refine pk_sld S hX hbl hW i1 hy1 dW_510 ?_
  refine lv_aload_n S.1 S.2.1 dW_511 rfl (lv_at hl 1 rfl) ?_
  refine lv_iload S.1 S.2.1 dW_512 (lv_at hl 0 rfl) ?_
  refine lv_iconst (v := 2) S.1 S.2.1 dW_514 (by decide) ?_
  refine lv_iadd S.1 S.2.1 dW_515 ?_
  refine pk_sld S hX hbl hW i2 hy2 dW_516 ?_
  refine lv_aload_n S.1 S.2.1 dW_517 rfl (lv_at hl 1 rfl) ?_
  refine lv_iload S.1 S.2.1 dW_518 (lv_at hl 0 rfl) ?_
  refine lv_iconst (v := 3) S.1 S.2.1 dW_520 (by decide) ?_
  refine lv_iadd S.1 S.2.1 dW_521 ?_
  refine pk_sld S hX hbl hW i3 hy3 dW_522 ?_
  refine lv_aload_n S.1 S.2.1 dW_523 rfl (lv_at hl 4 rfl) ?_
  obtain ⟨res, res2, hf, hk, hg, hV2, hag⟩ := sx_append hV x1 x2 x3
  refine pk_cLI (As := [.ref (A 0), .int x1, .int x2, .int x3, .ref q]) (rest := []) S hK hST hW hN (c_L_append hst hI hO x1 x2 x3 hf hk) mw_L_append wd_3009 wd_480 np_L_append rfl hl.1 rfl (Nat.le_of_ble_eq_true rfl) dW_524 ⟨Nat.le_of_ble_eq_true rfl, Nat.le_of_ble_eq_true rfl⟩ ⟨by show cells + 4 ≤ 765322; omega, by show slots + 24 ≤ 6800139; omega⟩ (fun r L1 F1 H1 l1 hp hW => ?_)
  obtain ⟨hs1, hI1, ⟨w0, w1, e_q1, ha1⟩, hf1⟩ := hp
  have hJ1 := hJ.keepC hI hO hs1 hf1 (noE hW hST)
  have hO1 : OUT q L1 F1 := ⟨hs1 _ hO.1, w0, w1, e_q1⟩
  refine lv_istore (lv' := [(5, .int r), (4, .int (nI (5 * x))), (0, .ref b), (1, .ref (A 0)), (2, .ref (B 0)), (3, .ref q)]) S.1 S.2.1 dW_527 hl (Nat.le_of_ble_eq_true rfl) rfl (fun ls hl => ?_)
  refine lv_aload_n S.1 S.2.1 dW_529 rfl (lv_at hl 4 rfl) ?_
  refine lv_aload_n S.1 S.2.1 dW_530 rfl (lv_at hl 2 rfl) ?_
  refine lv_iload S.1 S.2.1 dW_531 (lv_at hl 1 rfl) ?_
  refine lv_iconst (v := 1) S.1 S.2.1 dW_533 (by decide) ?_
  refine lv_iadd S.1 S.2.1 dW_534 ?_
  refine pk_sld S hX hbl hW i1 hy1 dW_535 ?_
  refine lv_aload_n S.1 S.2.1 dW_536 rfl (lv_at hl 2 rfl) ?_
  refine lv_iload S.1 S.2.1 dW_537 (lv_at hl 1 rfl) ?_
  refine lv_iconst (v := 2) S.1 S.2.1 dW_539 (by decide) ?_
  refine lv_iadd S.1 S.2.1 dW_540 ?_
  refine pk_sld S hX hbl hW i2 hy2 dW_541 ?_
  refine lv_aload_n S.1 S.2.1 dW_542 rfl (lv_at hl 2 rfl) ?_
  refine lv_iload S.1 S.2.1 dW_543 (lv_at hl 1 rfl) ?_
  refine lv_iconst (v := 3) S.1 S.2.1 dW_545 (by decide) ?_
  refine lv_iadd S.1 S.2.1 dW_546 ?_
  refine pk_sld S hX hbl hW i3 hy3 dW_547 ?_
  refine pk_cVI (As := [.int x1, .int x2, .int x3]) (rest := []) S hK hST hW (c_X6_append hJ1 x1 x2 x3 hg) mc_X6_append wd_3054 wd_1309 wd_1310 rfl np_X6_append (hJ1.mem (by decide)) hJ1.this rfl rfl hl.1 rfl (Nat.le_of_ble_eq_true rfl) dW_548 ⟨Nat.le_of_ble_eq_true rfl, Nat.le_of_ble_eq_true rfl⟩ ⟨by show cells + 4 + 4 ≤ 765322; omega, by show slots + 24 + 132 ≤ 6800139; omega⟩ (fun r2 L2 F2 H2 l2 hp hW => ?_)
  obtain ⟨rfl, hJ2, hM2⟩ := hp
  have hI2 := hI1.keepM hM2
  have hO2 := hO1.keepM hM2
  refine lv_istore (lv' := [(6, .int res2.1), (5, .int r), (4, .int (nI (5 * x))), (0, .ref b), (1, .ref (A 0)), (2, .ref (B 0)), (3, .ref q)]) S.1 S.2.1 dW_551 hl (Nat.le_of_ble_eq_true rfl) rfl (fun ls hl => ?_)
  refine lv_goto (tgt := 2363) S.1 S.2.1 dW_553 (by decide) ?_
  refine W.widen (k := cells + 256) (n := slots + 8192) (by omega) (by omega) ?_
  exact T _ _ _ _ _ _ _ ⟨hW, hI2, hJ2, hO2, hV2⟩ (lv_sub hl [2, 3, 4, 5, 6] rfl)
set_option maxHeartbeats 4000000 in
set_option maxRecDepth 100000 in
theorem cs_4 {p : Program} {l : Launch} {e : Env} {s : State} {m : MethodId} {b : Nat} {below : List Frame} {meth : Method} {c : Code} {D : va_G} {κ : Nat → ClassId} {ζ : Nat → Nat} {A B : Nat → Nat} {q LL x : Nat} {xs : Nat → Int32} {cells slots : Nat} {H : Heap} {locs : List Loc} {L : List Nat} {F : Nat → va_E} {σ : CS} {τ : MS} {ls : Array Slot} (E : LWE p l e s m b below meth c D κ ζ LL xs) (hx : 5 * x + 5 ≤ LL) (hL : LL ≤ 2560) (hc : cells + 256 ≤ 765322) (hs : slots + 8192 ≤ 6800139) (T : TL p l e s m b below meth c D κ ζ A B q x (cells + 256) (slots + 8192)) (Z : LST D κ ζ A B q s H locs L F σ τ) (hl : lv_has ls 7 [(4, .int (nI (5 * x))), (0, .ref b), (1, .ref (A 0)), (2, .ref (B 0)), (3, .ref q)]) : W p l e room_1 s m #[Value.ref b] below meth c H locs cells slots (lw_Z below #[Value.ref b] s) (F0 m 556 ls []) := by
  obtain ⟨hst, S, hr, hlk, hN, hK, hST, hX, hbl⟩ := E
  obtain ⟨hW, hI, hJ, hO, hV⟩ := Z
  have i1 : vp_in (nI (5 * x) + 1) LL := sc_in (k := 1) hx hL (by decide)
  obtain ⟨x1, hy1⟩ : ∃ v, xs (nI (5 * x) + 1).toNatClampNeg = v := ⟨_, rfl⟩
  have i2 : vp_in (nI (5 * x) + 2) LL := sc_in (k := 2) hx hL (by decide)
  obtain ⟨x2, hy2⟩ : ∃ v, xs (nI (5 * x) + 2).toNatClampNeg = v := ⟨_, rfl⟩
  have i3 : vp_in (nI (5 * x) + 3) LL := sc_in (k := 3) hx hL (by decide)
  obtain ⟨x3, hy3⟩ : ∃ v, xs (nI (5 * x) + 3).toNatClampNeg = v := ⟨_, rfl⟩
  have i4 : vp_in (nI (5 * x) + 4) LL := sc_in (k := 4) hx hL (by decide)
  obtain ⟨x4, hy4⟩ : ∃ v, xs (nI (5 * x) + 4).toNatClampNeg = v := ⟨_, rfl⟩
  refine lv_aload_n S.1 S.2.1 dW_556 rfl (lv_at hl 2 rfl) ?_
  refine lv_aload_n S.1 S.2.1 dW_557 rfl (lv_at hl 1 rfl) ?_
  refine lv_iload S.1 S.2.1 dW_558 (lv_at hl 0 rfl) ?_
  refine lv_iconst (v := 1) S.1 S.2.1 dW_560 (by decide) ?_
  refine lv_iadd S.1 S.2.1 dW_561 ?_
  refine pk_sld S hX hbl hW i1 hy1 dW_562 ?_
  refine lv_aload_n S.1 S.2.1 dW_563 rfl (lv_at hl 1 rfl) ?_
  refine lv_iload S.1 S.2.1 dW_564 (lv_at hl 0 rfl) ?_
  refine lv_iconst (v := 2) S.1 S.2.1 dW_566 (by decide) ?_
  refine lv_iadd S.1 S.2.1 dW_567 ?_
  refine pk_sld S hX hbl hW i2 hy2 dW_568 ?_
  refine lv_aload_n S.1 S.2.1 dW_569 rfl (lv_at hl 1 rfl) ?_
  refine lv_iload S.1 S.2.1 dW_570 (lv_at hl 0 rfl) ?_
  refine lv_iconst (v := 3) S.1 S.2.1 dW_572 (by decide) ?_
  refine lv_iadd S.1 S.2.1 dW_573 ?_
  refine pk_sld S hX hbl hW i3 hy3 dW_574 ?_
  refine lv_aload_n S.1 S.2.1 dW_575 rfl (lv_at hl 1 rfl) ?_
  refine lv_iload S.1 S.2.1 dW_576 (lv_at hl 0 rfl) ?_
  refine lv_iconst (v := 4) S.1 S.2.1 dW_578 (by decide) ?_
  refine lv_iadd S.1 S.2.1 dW_579 ?_
  refine pk_sld S hX hbl hW i4 hy4 dW_580 ?_
  refine lv_aload_n S.1 S.2.1 dW_581 rfl (lv_at hl 4 rfl) ?_
  obtain ⟨res, res2, hf, hk, hg, hV2, hag⟩ := sx_train hV x1 x2 x3 x4
  refine pk_cLI (As := [.ref (A 0), .int x1, .int x2, .int x3, .int x4, .ref q]) (rest := []) S hK hST hW hN (c_L_train hst hI hO x1 x2 x3 x4 hf hk) mw_L_train wd_3010 wd_486 np_L_train rfl hl.1 rfl (Nat.le_of_ble_eq_true rfl) dW_582 ⟨Nat.le_of_ble_eq_true rfl, Nat.le_of_ble_eq_true rfl⟩ ⟨by show cells + 5 ≤ 765322; omega, by show slots + 30 ≤ 6800139; omega⟩ (fun r L1 F1 H1 l1 hp hW => ?_)
  obtain ⟨hs1, hI1, ⟨w0, w1, e_q1, ha1⟩, hf1⟩ := hp
  have hJ1 := hJ.keepC hI hO hs1 hf1 (noE hW hST)
  have hO1 : OUT q L1 F1 := ⟨hs1 _ hO.1, w0, w1, e_q1⟩
  refine lv_istore (lv' := [(5, .int r), (4, .int (nI (5 * x))), (0, .ref b), (1, .ref (A 0)), (2, .ref (B 0)), (3, .ref q)]) S.1 S.2.1 dW_585 hl (Nat.le_of_ble_eq_true rfl) rfl (fun ls hl => ?_)
  refine lv_aload_n S.1 S.2.1 dW_587 rfl (lv_at hl 4 rfl) ?_
  refine lv_aload_n S.1 S.2.1 dW_588 rfl (lv_at hl 2 rfl) ?_
  refine lv_iload S.1 S.2.1 dW_589 (lv_at hl 1 rfl) ?_
  refine lv_iconst (v := 1) S.1 S.2.1 dW_591 (by decide) ?_
  refine lv_iadd S.1 S.2.1 dW_592 ?_
  refine pk_sld S hX hbl hW i1 hy1 dW_593 ?_
  refine lv_aload_n S.1 S.2.1 dW_594 rfl (lv_at hl 2 rfl) ?_
  refine lv_iload S.1 S.2.1 dW_595 (lv_at hl 1 rfl) ?_
  refine lv_iconst (v := 2) S.1 S.2.1 dW_597 (by decide) ?_
  refine lv_iadd S.1 S.2.1 dW_598 ?_
  refine pk_sld S hX hbl hW i2 hy2 dW_599 ?_
  refine lv_aload_n S.1 S.2.1 dW_600 rfl (lv_at hl 2 rfl) ?_
  refine lv_iload S.1 S.2.1 dW_601 (lv_at hl 1 rfl) ?_
  refine lv_iconst (v := 3) S.1 S.2.1 dW_603 (by decide) ?_
  refine lv_iadd S.1 S.2.1 dW_604 ?_
  refine pk_sld S hX hbl hW i3 hy3 dW_605 ?_
  refine lv_aload_n S.1 S.2.1 dW_606 rfl (lv_at hl 2 rfl) ?_
  refine lv_iload S.1 S.2.1 dW_607 (lv_at hl 1 rfl) ?_
  refine lv_iconst (v := 4) S.1 S.2.1 dW_609 (by decide) ?_
  refine lv_iadd S.1 S.2.1 dW_610 ?_
  refine pk_sld S hX hbl hW i4 hy4 dW_611 ?_
  refine pk_cVI (As := [.int x1, .int x2, .int x3, .int x4]) (rest := []) S hK hST hW (c_X6_train hJ1 x1 x2 x3 x4 hg) mc_X6_train wd_3055 wd_1314 wd_1315 rfl np_X6_train (hJ1.mem (by decide)) hJ1.this rfl rfl hl.1 rfl (Nat.le_of_ble_eq_true rfl) dW_612 ⟨Nat.le_of_ble_eq_true rfl, Nat.le_of_ble_eq_true rfl⟩ ⟨by show cells + 5 + 96 ≤ 765322; omega, by show slots + 30 + 3168 ≤ 6800139; omega⟩ (fun r2 L2 F2 H2 l2 hp hW => ?_)
  obtain ⟨rfl, hJ2, hM2⟩ := hp
  have hI2 := hI1.keepM hM2
  have hO2 := hO1.keepM hM2
  refine lv_istore (lv' := [(6, .int res2.1), (5, .int r), (4, .int (nI (5 * x))), (0, .ref b), (1, .ref (A 0)), (2, .ref (B 0)), (3, .ref q)]) S.1 S.2.1 dW_615 hl (Nat.le_of_ble_eq_true rfl) rfl (fun ls hl => ?_)
  refine lv_goto (tgt := 2363) S.1 S.2.1 dW_617 (by decide) ?_
  refine W.widen (k := cells + 256) (n := slots + 8192) (by omega) (by omega) ?_
  exact T _ _ _ _ _ _ _ ⟨hW, hI2, hJ2, hO2, hV2⟩ (lv_sub hl [2, 3, 4, 5, 6] rfl)
set_option maxHeartbeats 4000000 in
set_option maxRecDepth 100000 in
theorem cs_5 {p : Program} {l : Launch} {e : Env} {s : State} {m : MethodId} {b : Nat} {below : List Frame} {meth : Method} {c : Code} {D : va_G} {κ : Nat → ClassId} {ζ : Nat → Nat} {A B : Nat → Nat} {q LL x : Nat} {xs : Nat → Int32} {cells slots : Nat} {H : Heap} {locs : List Loc} {L : List Nat} {F : Nat → va_E} {σ : CS} {τ : MS} {ls : Array Slot} (E : LWE p l e s m b below meth c D κ ζ LL xs) (hx : 5 * x + 5 ≤ LL) (hL : LL ≤ 2560) (hc : cells + 256 ≤ 765322) (hs : slots + 8192 ≤ 6800139) (T : TL p l e s m b below meth c D κ ζ A B q x (cells + 256) (slots + 8192)) (Z : LST D κ ζ A B q s H locs L F σ τ) (hl : lv_has ls 7 [(4, .int (nI (5 * x))), (0, .ref b), (1, .ref (A 0)), (2, .ref (B 0)), (3, .ref q)]) : W p l e room_1 s m #[Value.ref b] below meth c H locs cells slots (lw_Z below #[Value.ref b] s) (F0 m 620 ls []) := by
  obtain ⟨hst, S, hr, hlk, hN, hK, hST, hX, hbl⟩ := E
  obtain ⟨hW, hI, hJ, hO, hV⟩ := Z
  have i1 : vp_in (nI (5 * x) + 1) LL := sc_in (k := 1) hx hL (by decide)
  obtain ⟨x1, hy1⟩ : ∃ v, xs (nI (5 * x) + 1).toNatClampNeg = v := ⟨_, rfl⟩
  have i2 : vp_in (nI (5 * x) + 2) LL := sc_in (k := 2) hx hL (by decide)
  obtain ⟨x2, hy2⟩ : ∃ v, xs (nI (5 * x) + 2).toNatClampNeg = v := ⟨_, rfl⟩
  obtain ⟨y2, hz2⟩ : ∃ v, (if x2 = 0 then (0 : Int32) else 1) = v := ⟨_, rfl⟩
  have hq2 := nz01 hz2
  refine lv_aload_n S.1 S.2.1 dW_620 rfl (lv_at hl 2 rfl) ?_
  refine lv_aload_n S.1 S.2.1 dW_621 rfl (lv_at hl 1 rfl) ?_
  refine lv_iload S.1 S.2.1 dW_622 (lv_at hl 0 rfl) ?_
  refine lv_iconst (v := 1) S.1 S.2.1 dW_624 (by decide) ?_
  refine lv_iadd S.1 S.2.1 dW_625 ?_
  refine pk_sld S hX hbl hW i1 hy1 dW_626 ?_
  refine lv_aload_n S.1 S.2.1 dW_627 rfl (lv_at hl 1 rfl) ?_
  refine lv_iload S.1 S.2.1 dW_628 (lv_at hl 0 rfl) ?_
  refine lv_iconst (v := 2) S.1 S.2.1 dW_630 (by decide) ?_
  refine lv_iadd S.1 S.2.1 dW_631 ?_
  refine pk_sld S hX hbl hW i2 hy2 dW_632 ?_
  refine pk_nz S.1 S.2.1 hz2 dW_633 dW_636 dW_637 dW_640 ?_
  refine lv_aload_n S.1 S.2.1 dW_641 rfl (lv_at hl 4 rfl) ?_
  obtain ⟨res, res2, hf, hk, hg, hV2, hag⟩ := sx_take hV x1 y2 hq2
  refine pk_cLI (As := [.ref (A 0), .int x1, .int y2, .ref q]) (rest := []) S hK hST hW hN (c_L_take hst hI hO x1 y2 hf hk) mw_L_take wd_3011 wd_492 np_L_take rfl hl.1 rfl (Nat.le_of_ble_eq_true rfl) dW_642 ⟨Nat.le_of_ble_eq_true rfl, Nat.le_of_ble_eq_true rfl⟩ ⟨by show cells + 1 ≤ 765322; omega, by show slots + 6 ≤ 6800139; omega⟩ (fun r L1 F1 H1 l1 hp hW => ?_)
  obtain ⟨hs1, hI1, ⟨w0, w1, e_q1, ha1⟩, hf1⟩ := hp
  have hJ1 := hJ.keepC hI hO hs1 hf1 (noE hW hST)
  have hO1 : OUT q L1 F1 := ⟨hs1 _ hO.1, w0, w1, e_q1⟩
  refine lv_istore (lv' := [(5, .int r), (4, .int (nI (5 * x))), (0, .ref b), (1, .ref (A 0)), (2, .ref (B 0)), (3, .ref q)]) S.1 S.2.1 dW_645 hl (Nat.le_of_ble_eq_true rfl) rfl (fun ls hl => ?_)
  refine lv_aload_n S.1 S.2.1 dW_647 rfl (lv_at hl 4 rfl) ?_
  refine lv_aload_n S.1 S.2.1 dW_648 rfl (lv_at hl 2 rfl) ?_
  refine lv_iload S.1 S.2.1 dW_649 (lv_at hl 1 rfl) ?_
  refine lv_iconst (v := 1) S.1 S.2.1 dW_651 (by decide) ?_
  refine lv_iadd S.1 S.2.1 dW_652 ?_
  refine pk_sld S hX hbl hW i1 hy1 dW_653 ?_
  refine lv_aload_n S.1 S.2.1 dW_654 rfl (lv_at hl 2 rfl) ?_
  refine lv_iload S.1 S.2.1 dW_655 (lv_at hl 1 rfl) ?_
  refine lv_iconst (v := 2) S.1 S.2.1 dW_657 (by decide) ?_
  refine lv_iadd S.1 S.2.1 dW_658 ?_
  refine pk_sld S hX hbl hW i2 hy2 dW_659 ?_
  refine pk_nz S.1 S.2.1 hz2 dW_660 dW_663 dW_664 dW_667 ?_
  refine pk_cVI (As := [.int x1, .int y2]) (rest := []) S hK hST hW (c_X6_take hJ1 x1 y2 hg) mc_X6_take wd_3056 wd_1318 wd_1319 rfl np_X6_take (hJ1.mem (by decide)) hJ1.this rfl rfl hl.1 rfl (Nat.le_of_ble_eq_true rfl) dW_668 ⟨Nat.le_of_ble_eq_true rfl, Nat.le_of_ble_eq_true rfl⟩ ⟨by show cells + 1 + 2 ≤ 765322; omega, by show slots + 6 + 66 ≤ 6800139; omega⟩ (fun r2 L2 F2 H2 l2 hp hW => ?_)
  obtain ⟨rfl, hJ2, hM2⟩ := hp
  have hI2 := hI1.keepM hM2
  have hO2 := hO1.keepM hM2
  refine lv_istore (lv' := [(6, .int res2.1), (5, .int r), (4, .int (nI (5 * x))), (0, .ref b), (1, .ref (A 0)), (2, .ref (B 0)), (3, .ref q)]) S.1 S.2.1 dW_671 hl (Nat.le_of_ble_eq_true rfl) rfl (fun ls hl => ?_)
  refine lv_goto (tgt := 2363) S.1 S.2.1 dW_673 (by decide) ?_
  refine W.widen (k := cells + 256) (n := slots + 8192) (by omega) (by omega) ?_
  exact T _ _ _ _ _ _ _ ⟨hW, hI2, hJ2, hO2, hV2⟩ (lv_sub hl [2, 3, 4, 5, 6] rfl)
set_option maxHeartbeats 4000000 in
set_option maxRecDepth 100000 in
theorem cs_6 {p : Program} {l : Launch} {e : Env} {s : State} {m : MethodId} {b : Nat} {below : List Frame} {meth : Method} {c : Code} {D : va_G} {κ : Nat → ClassId} {ζ : Nat → Nat} {A B : Nat → Nat} {q LL x : Nat} {xs : Nat → Int32} {cells slots : Nat} {H : Heap} {locs : List Loc} {L : List Nat} {F : Nat → va_E} {σ : CS} {τ : MS} {ls : Array Slot} (E : LWE p l e s m b below meth c D κ ζ LL xs) (hx : 5 * x + 5 ≤ LL) (hL : LL ≤ 2560) (hc : cells + 256 ≤ 765322) (hs : slots + 8192 ≤ 6800139) (T : TL p l e s m b below meth c D κ ζ A B q x (cells + 256) (slots + 8192)) (Z : LST D κ ζ A B q s H locs L F σ τ) (hl : lv_has ls 7 [(4, .int (nI (5 * x))), (0, .ref b), (1, .ref (A 0)), (2, .ref (B 0)), (3, .ref q)]) : W p l e room_1 s m #[Value.ref b] below meth c H locs cells slots (lw_Z below #[Value.ref b] s) (F0 m 676 ls []) := by
  obtain ⟨hst, S, hr, hlk, hN, hK, hST, hX, hbl⟩ := E
  obtain ⟨hW, hI, hJ, hO, hV⟩ := Z
  have i1 : vp_in (nI (5 * x) + 1) LL := sc_in (k := 1) hx hL (by decide)
  obtain ⟨x1, hy1⟩ : ∃ v, xs (nI (5 * x) + 1).toNatClampNeg = v := ⟨_, rfl⟩
  have i2 : vp_in (nI (5 * x) + 2) LL := sc_in (k := 2) hx hL (by decide)
  obtain ⟨x2, hy2⟩ : ∃ v, xs (nI (5 * x) + 2).toNatClampNeg = v := ⟨_, rfl⟩
  obtain ⟨y2, hz2⟩ : ∃ v, (if x2 = 0 then (0 : Int32) else 1) = v := ⟨_, rfl⟩
  have hq2 := nz01 hz2
  refine lv_aload_n S.1 S.2.1 dW_676 rfl (lv_at hl 2 rfl) ?_
  refine lv_aload_n S.1 S.2.1 dW_677 rfl (lv_at hl 1 rfl) ?_
  refine lv_iload S.1 S.2.1 dW_678 (lv_at hl 0 rfl) ?_
  refine lv_iconst (v := 1) S.1 S.2.1 dW_680 (by decide) ?_
  refine lv_iadd S.1 S.2.1 dW_681 ?_
  refine pk_sld S hX hbl hW i1 hy1 dW_682 ?_
  refine lv_aload_n S.1 S.2.1 dW_683 rfl (lv_at hl 1 rfl) ?_
  refine lv_iload S.1 S.2.1 dW_684 (lv_at hl 0 rfl) ?_
  refine lv_iconst (v := 2) S.1 S.2.1 dW_686 (by decide) ?_
  refine lv_iadd S.1 S.2.1 dW_687 ?_
  refine pk_sld S hX hbl hW i2 hy2 dW_688 ?_
  refine pk_nz S.1 S.2.1 hz2 dW_689 dW_692 dW_693 dW_696 ?_
  refine lv_aload_n S.1 S.2.1 dW_697 rfl (lv_at hl 4 rfl) ?_
  obtain ⟨res, res2, hf, hk, hg, hV2, hag⟩ := sx_poll hV x1 y2 hq2
  refine pk_cLI (As := [.ref (A 0), .int x1, .int y2, .ref q]) (rest := []) S hK hST hW hN (c_L_poll hst hI hO x1 y2 hf hk) mw_L_poll wd_3012 wd_506 np_L_poll rfl hl.1 rfl (Nat.le_of_ble_eq_true rfl) dW_698 ⟨Nat.le_of_ble_eq_true rfl, Nat.le_of_ble_eq_true rfl⟩ ⟨by show cells + 1 ≤ 765322; omega, by show slots + 6 ≤ 6800139; omega⟩ (fun r L1 F1 H1 l1 hp hW => ?_)
  obtain ⟨hs1, hI1, ⟨w0, w1, e_q1, ha1⟩, hf1⟩ := hp
  have hJ1 := hJ.keepC hI hO hs1 hf1 (noE hW hST)
  have hO1 : OUT q L1 F1 := ⟨hs1 _ hO.1, w0, w1, e_q1⟩
  refine lv_istore (lv' := [(5, .int r), (4, .int (nI (5 * x))), (0, .ref b), (1, .ref (A 0)), (2, .ref (B 0)), (3, .ref q)]) S.1 S.2.1 dW_701 hl (Nat.le_of_ble_eq_true rfl) rfl (fun ls hl => ?_)
  refine lv_aload_n S.1 S.2.1 dW_703 rfl (lv_at hl 4 rfl) ?_
  refine lv_aload_n S.1 S.2.1 dW_704 rfl (lv_at hl 2 rfl) ?_
  refine lv_iload S.1 S.2.1 dW_705 (lv_at hl 1 rfl) ?_
  refine lv_iconst (v := 1) S.1 S.2.1 dW_707 (by decide) ?_
  refine lv_iadd S.1 S.2.1 dW_708 ?_
  refine pk_sld S hX hbl hW i1 hy1 dW_709 ?_
  refine lv_aload_n S.1 S.2.1 dW_710 rfl (lv_at hl 2 rfl) ?_
  refine lv_iload S.1 S.2.1 dW_711 (lv_at hl 1 rfl) ?_
  refine lv_iconst (v := 2) S.1 S.2.1 dW_713 (by decide) ?_
  refine lv_iadd S.1 S.2.1 dW_714 ?_
  refine pk_sld S hX hbl hW i2 hy2 dW_715 ?_
  refine pk_nz S.1 S.2.1 hz2 dW_716 dW_719 dW_720 dW_723 ?_
  refine pk_cVI (As := [.int x1, .int y2]) (rest := []) S hK hST hW (c_X6_poll hJ1 x1 y2 hg) mc_X6_poll wd_3057 wd_1334 wd_1335 rfl np_X6_poll (hJ1.mem (by decide)) hJ1.this rfl rfl hl.1 rfl (Nat.le_of_ble_eq_true rfl) dW_724 ⟨Nat.le_of_ble_eq_true rfl, Nat.le_of_ble_eq_true rfl⟩ ⟨by show cells + 1 + 2 ≤ 765322; omega, by show slots + 6 + 66 ≤ 6800139; omega⟩ (fun r2 L2 F2 H2 l2 hp hW => ?_)
  obtain ⟨rfl, hJ2, hM2⟩ := hp
  have hI2 := hI1.keepM hM2
  have hO2 := hO1.keepM hM2
  refine lv_istore (lv' := [(6, .int res2.1), (5, .int r), (4, .int (nI (5 * x))), (0, .ref b), (1, .ref (A 0)), (2, .ref (B 0)), (3, .ref q)]) S.1 S.2.1 dW_727 hl (Nat.le_of_ble_eq_true rfl) rfl (fun ls hl => ?_)
  refine lv_goto (tgt := 2363) S.1 S.2.1 dW_729 (by decide) ?_
  refine W.widen (k := cells + 256) (n := slots + 8192) (by omega) (by omega) ?_
  exact T _ _ _ _ _ _ _ ⟨hW, hI2, hJ2, hO2, hV2⟩ (lv_sub hl [2, 3, 4, 5, 6] rfl)
set_option maxHeartbeats 4000000 in
set_option maxRecDepth 100000 in
theorem cs_7 {p : Program} {l : Launch} {e : Env} {s : State} {m : MethodId} {b : Nat} {below : List Frame} {meth : Method} {c : Code} {D : va_G} {κ : Nat → ClassId} {ζ : Nat → Nat} {A B : Nat → Nat} {q LL x : Nat} {xs : Nat → Int32} {cells slots : Nat} {H : Heap} {locs : List Loc} {L : List Nat} {F : Nat → va_E} {σ : CS} {τ : MS} {ls : Array Slot} (E : LWE p l e s m b below meth c D κ ζ LL xs) (hx : 5 * x + 5 ≤ LL) (hL : LL ≤ 2560) (hc : cells + 256 ≤ 765322) (hs : slots + 8192 ≤ 6800139) (T : TL p l e s m b below meth c D κ ζ A B q x (cells + 256) (slots + 8192)) (Z : LST D κ ζ A B q s H locs L F σ τ) (hl : lv_has ls 7 [(4, .int (nI (5 * x))), (0, .ref b), (1, .ref (A 0)), (2, .ref (B 0)), (3, .ref q)]) : W p l e room_1 s m #[Value.ref b] below meth c H locs cells slots (lw_Z below #[Value.ref b] s) (F0 m 732 ls []) := by
  obtain ⟨hst, S, hr, hlk, hN, hK, hST, hX, hbl⟩ := E
  obtain ⟨hW, hI, hJ, hO, hV⟩ := Z
  have i1 : vp_in (nI (5 * x) + 1) LL := sc_in (k := 1) hx hL (by decide)
  obtain ⟨x1, hy1⟩ : ∃ v, xs (nI (5 * x) + 1).toNatClampNeg = v := ⟨_, rfl⟩
  refine lv_aload_n S.1 S.2.1 dW_732 rfl (lv_at hl 2 rfl) ?_
  refine lv_aload_n S.1 S.2.1 dW_733 rfl (lv_at hl 1 rfl) ?_
  refine lv_iload S.1 S.2.1 dW_734 (lv_at hl 0 rfl) ?_
  refine lv_iconst (v := 1) S.1 S.2.1 dW_736 (by decide) ?_
  refine lv_iadd S.1 S.2.1 dW_737 ?_
  refine pk_sld S hX hbl hW i1 hy1 dW_738 ?_
  refine lv_aload_n S.1 S.2.1 dW_739 rfl (lv_at hl 4 rfl) ?_
  obtain ⟨res, res2, hf, hk, hg, hV2, hag⟩ := sx_pop hV x1
  refine pk_cLI (As := [.ref (A 0), .int x1, .ref q]) (rest := []) S hK hST hW hN (c_L_pop hst hI hO x1 hf hk) mw_L_pop wd_3013 wd_512 np_L_pop rfl hl.1 rfl (Nat.le_of_ble_eq_true rfl) dW_740 ⟨Nat.le_of_ble_eq_true rfl, Nat.le_of_ble_eq_true rfl⟩ ⟨by show cells + 1 ≤ 765322; omega, by show slots + 6 ≤ 6800139; omega⟩ (fun r L1 F1 H1 l1 hp hW => ?_)
  obtain ⟨hs1, hI1, ⟨w0, w1, e_q1, ha1⟩, hf1⟩ := hp
  have hJ1 := hJ.keepC hI hO hs1 hf1 (noE hW hST)
  have hO1 : OUT q L1 F1 := ⟨hs1 _ hO.1, w0, w1, e_q1⟩
  refine lv_istore (lv' := [(5, .int r), (4, .int (nI (5 * x))), (0, .ref b), (1, .ref (A 0)), (2, .ref (B 0)), (3, .ref q)]) S.1 S.2.1 dW_743 hl (Nat.le_of_ble_eq_true rfl) rfl (fun ls hl => ?_)
  refine lv_aload_n S.1 S.2.1 dW_745 rfl (lv_at hl 4 rfl) ?_
  refine lv_aload_n S.1 S.2.1 dW_746 rfl (lv_at hl 2 rfl) ?_
  refine lv_iload S.1 S.2.1 dW_747 (lv_at hl 1 rfl) ?_
  refine lv_iconst (v := 1) S.1 S.2.1 dW_749 (by decide) ?_
  refine lv_iadd S.1 S.2.1 dW_750 ?_
  refine pk_sld S hX hbl hW i1 hy1 dW_751 ?_
  refine pk_cVI (As := [.int x1]) (rest := []) S hK hST hW (c_X6_pop hJ1 x1 hg) mc_X6_pop wd_3058 wd_1338 wd_1339 rfl np_X6_pop (hJ1.mem (by decide)) hJ1.this rfl rfl hl.1 rfl (Nat.le_of_ble_eq_true rfl) dW_752 ⟨Nat.le_of_ble_eq_true rfl, Nat.le_of_ble_eq_true rfl⟩ ⟨by show cells + 1 + 2 ≤ 765322; omega, by show slots + 6 + 66 ≤ 6800139; omega⟩ (fun r2 L2 F2 H2 l2 hp hW => ?_)
  obtain ⟨rfl, hJ2, hM2⟩ := hp
  have hI2 := hI1.keepM hM2
  have hO2 := hO1.keepM hM2
  refine lv_istore (lv' := [(6, .int res2.1), (5, .int r), (4, .int (nI (5 * x))), (0, .ref b), (1, .ref (A 0)), (2, .ref (B 0)), (3, .ref q)]) S.1 S.2.1 dW_755 hl (Nat.le_of_ble_eq_true rfl) rfl (fun ls hl => ?_)
  refine lv_goto (tgt := 2363) S.1 S.2.1 dW_757 (by decide) ?_
  refine W.widen (k := cells + 256) (n := slots + 8192) (by omega) (by omega) ?_
  exact T _ _ _ _ _ _ _ ⟨hW, hI2, hJ2, hO2, hV2⟩ (lv_sub hl [2, 3, 4, 5, 6] rfl)
set_option maxHeartbeats 4000000 in
set_option maxRecDepth 100000 in
theorem cs_8 {p : Program} {l : Launch} {e : Env} {s : State} {m : MethodId} {b : Nat} {below : List Frame} {meth : Method} {c : Code} {D : va_G} {κ : Nat → ClassId} {ζ : Nat → Nat} {A B : Nat → Nat} {q LL x : Nat} {xs : Nat → Int32} {cells slots : Nat} {H : Heap} {locs : List Loc} {L : List Nat} {F : Nat → va_E} {σ : CS} {τ : MS} {ls : Array Slot} (E : LWE p l e s m b below meth c D κ ζ LL xs) (hx : 5 * x + 5 ≤ LL) (hL : LL ≤ 2560) (hc : cells + 256 ≤ 765322) (hs : slots + 8192 ≤ 6800139) (T : TL p l e s m b below meth c D κ ζ A B q x (cells + 256) (slots + 8192)) (Z : LST D κ ζ A B q s H locs L F σ τ) (hl : lv_has ls 7 [(4, .int (nI (5 * x))), (0, .ref b), (1, .ref (A 0)), (2, .ref (B 0)), (3, .ref q)]) : W p l e room_1 s m #[Value.ref b] below meth c H locs cells slots (lw_Z below #[Value.ref b] s) (F0 m 760 ls []) := by
  obtain ⟨hst, S, hr, hlk, hN, hK, hST, hX, hbl⟩ := E
  obtain ⟨hW, hI, hJ, hO, hV⟩ := Z
  have i1 : vp_in (nI (5 * x) + 1) LL := sc_in (k := 1) hx hL (by decide)
  obtain ⟨x1, hy1⟩ : ∃ v, xs (nI (5 * x) + 1).toNatClampNeg = v := ⟨_, rfl⟩
  have i2 : vp_in (nI (5 * x) + 2) LL := sc_in (k := 2) hx hL (by decide)
  obtain ⟨x2, hy2⟩ : ∃ v, xs (nI (5 * x) + 2).toNatClampNeg = v := ⟨_, rfl⟩
  obtain ⟨y2, hz2⟩ : ∃ v, (if x2 = 0 then (0 : Int32) else 1) = v := ⟨_, rfl⟩
  have hq2 := nz01 hz2
  refine lv_aload_n S.1 S.2.1 dW_760 rfl (lv_at hl 2 rfl) ?_
  refine lv_aload_n S.1 S.2.1 dW_761 rfl (lv_at hl 1 rfl) ?_
  refine lv_iload S.1 S.2.1 dW_762 (lv_at hl 0 rfl) ?_
  refine lv_iconst (v := 1) S.1 S.2.1 dW_764 (by decide) ?_
  refine lv_iadd S.1 S.2.1 dW_765 ?_
  refine pk_sld S hX hbl hW i1 hy1 dW_766 ?_
  refine lv_aload_n S.1 S.2.1 dW_767 rfl (lv_at hl 1 rfl) ?_
  refine lv_iload S.1 S.2.1 dW_768 (lv_at hl 0 rfl) ?_
  refine lv_iconst (v := 2) S.1 S.2.1 dW_770 (by decide) ?_
  refine lv_iadd S.1 S.2.1 dW_771 ?_
  refine pk_sld S hX hbl hW i2 hy2 dW_772 ?_
  refine pk_nz S.1 S.2.1 hz2 dW_773 dW_776 dW_777 dW_780 ?_
  refine lv_aload_n S.1 S.2.1 dW_781 rfl (lv_at hl 4 rfl) ?_
  obtain ⟨res, res2, hf, hk, hg, hV2, hag⟩ := sx_serve hV x1 y2 hq2
  refine pk_cLI (As := [.ref (A 0), .int x1, .int y2, .ref q]) (rest := []) S hK hST hW hN (c_L_serve hst hI hO x1 y2 hf hk) mw_L_serve wd_3014 wd_518 np_L_serve rfl hl.1 rfl (Nat.le_of_ble_eq_true rfl) dW_782 ⟨Nat.le_of_ble_eq_true rfl, Nat.le_of_ble_eq_true rfl⟩ ⟨by show cells + 1 ≤ 765322; omega, by show slots + 6 ≤ 6800139; omega⟩ (fun r L1 F1 H1 l1 hp hW => ?_)
  obtain ⟨hs1, hI1, ⟨w0, w1, e_q1, ha1⟩, hf1⟩ := hp
  have hJ1 := hJ.keepC hI hO hs1 hf1 (noE hW hST)
  have hO1 : OUT q L1 F1 := ⟨hs1 _ hO.1, w0, w1, e_q1⟩
  refine lv_istore (lv' := [(5, .int r), (4, .int (nI (5 * x))), (0, .ref b), (1, .ref (A 0)), (2, .ref (B 0)), (3, .ref q)]) S.1 S.2.1 dW_785 hl (Nat.le_of_ble_eq_true rfl) rfl (fun ls hl => ?_)
  refine lv_aload_n S.1 S.2.1 dW_787 rfl (lv_at hl 4 rfl) ?_
  refine lv_aload_n S.1 S.2.1 dW_788 rfl (lv_at hl 2 rfl) ?_
  refine lv_iload S.1 S.2.1 dW_789 (lv_at hl 1 rfl) ?_
  refine lv_iconst (v := 1) S.1 S.2.1 dW_791 (by decide) ?_
  refine lv_iadd S.1 S.2.1 dW_792 ?_
  refine pk_sld S hX hbl hW i1 hy1 dW_793 ?_
  refine lv_aload_n S.1 S.2.1 dW_794 rfl (lv_at hl 2 rfl) ?_
  refine lv_iload S.1 S.2.1 dW_795 (lv_at hl 1 rfl) ?_
  refine lv_iconst (v := 2) S.1 S.2.1 dW_797 (by decide) ?_
  refine lv_iadd S.1 S.2.1 dW_798 ?_
  refine pk_sld S hX hbl hW i2 hy2 dW_799 ?_
  refine pk_nz S.1 S.2.1 hz2 dW_800 dW_803 dW_804 dW_807 ?_
  refine pk_cVI (As := [.int x1, .int y2]) (rest := []) S hK hST hW (c_X6_serve hJ1 x1 y2 hg) mc_X6_serve wd_3059 wd_1342 wd_1343 rfl np_X6_serve (hJ1.mem (by decide)) hJ1.this rfl rfl hl.1 rfl (Nat.le_of_ble_eq_true rfl) dW_808 ⟨Nat.le_of_ble_eq_true rfl, Nat.le_of_ble_eq_true rfl⟩ ⟨by show cells + 1 + 2 ≤ 765322; omega, by show slots + 6 + 66 ≤ 6800139; omega⟩ (fun r2 L2 F2 H2 l2 hp hW => ?_)
  obtain ⟨rfl, hJ2, hM2⟩ := hp
  have hI2 := hI1.keepM hM2
  have hO2 := hO1.keepM hM2
  refine lv_istore (lv' := [(6, .int res2.1), (5, .int r), (4, .int (nI (5 * x))), (0, .ref b), (1, .ref (A 0)), (2, .ref (B 0)), (3, .ref q)]) S.1 S.2.1 dW_811 hl (Nat.le_of_ble_eq_true rfl) rfl (fun ls hl => ?_)
  refine lv_goto (tgt := 2363) S.1 S.2.1 dW_813 (by decide) ?_
  refine W.widen (k := cells + 256) (n := slots + 8192) (by omega) (by omega) ?_
  exact T _ _ _ _ _ _ _ ⟨hW, hI2, hJ2, hO2, hV2⟩ (lv_sub hl [2, 3, 4, 5, 6] rfl)
set_option maxHeartbeats 4000000 in
set_option maxRecDepth 100000 in
theorem cs_9 {p : Program} {l : Launch} {e : Env} {s : State} {m : MethodId} {b : Nat} {below : List Frame} {meth : Method} {c : Code} {D : va_G} {κ : Nat → ClassId} {ζ : Nat → Nat} {A B : Nat → Nat} {q LL x : Nat} {xs : Nat → Int32} {cells slots : Nat} {H : Heap} {locs : List Loc} {L : List Nat} {F : Nat → va_E} {σ : CS} {τ : MS} {ls : Array Slot} (E : LWE p l e s m b below meth c D κ ζ LL xs) (hx : 5 * x + 5 ≤ LL) (hL : LL ≤ 2560) (hc : cells + 256 ≤ 765322) (hs : slots + 8192 ≤ 6800139) (T : TL p l e s m b below meth c D κ ζ A B q x (cells + 256) (slots + 8192)) (Z : LST D κ ζ A B q s H locs L F σ τ) (hl : lv_has ls 7 [(4, .int (nI (5 * x))), (0, .ref b), (1, .ref (A 0)), (2, .ref (B 0)), (3, .ref q)]) : W p l e room_1 s m #[Value.ref b] below meth c H locs cells slots (lw_Z below #[Value.ref b] s) (F0 m 816 ls []) := by
  obtain ⟨hst, S, hr, hlk, hN, hK, hST, hX, hbl⟩ := E
  obtain ⟨hW, hI, hJ, hO, hV⟩ := Z
  have i1 : vp_in (nI (5 * x) + 1) LL := sc_in (k := 1) hx hL (by decide)
  obtain ⟨x1, hy1⟩ : ∃ v, xs (nI (5 * x) + 1).toNatClampNeg = v := ⟨_, rfl⟩
  have i2 : vp_in (nI (5 * x) + 2) LL := sc_in (k := 2) hx hL (by decide)
  obtain ⟨x2, hy2⟩ : ∃ v, xs (nI (5 * x) + 2).toNatClampNeg = v := ⟨_, rfl⟩
  refine lv_aload_n S.1 S.2.1 dW_816 rfl (lv_at hl 2 rfl) ?_
  refine lv_aload_n S.1 S.2.1 dW_817 rfl (lv_at hl 1 rfl) ?_
  refine lv_iload S.1 S.2.1 dW_818 (lv_at hl 0 rfl) ?_
  refine lv_iconst (v := 1) S.1 S.2.1 dW_820 (by decide) ?_
  refine lv_iadd S.1 S.2.1 dW_821 ?_
  refine pk_sld S hX hbl hW i1 hy1 dW_822 ?_
  refine lv_aload_n S.1 S.2.1 dW_823 rfl (lv_at hl 1 rfl) ?_
  refine lv_iload S.1 S.2.1 dW_824 (lv_at hl 0 rfl) ?_
  refine lv_iconst (v := 2) S.1 S.2.1 dW_826 (by decide) ?_
  refine lv_iadd S.1 S.2.1 dW_827 ?_
  refine pk_sld S hX hbl hW i2 hy2 dW_828 ?_
  refine lv_aload_n S.1 S.2.1 dW_829 rfl (lv_at hl 4 rfl) ?_
  obtain ⟨res, res2, hf, hk, hg, hV2, hag⟩ := sx_rotate hV x1 x2
  refine pk_cLI (As := [.ref (A 0), .int x1, .int x2, .ref q]) (rest := []) S hK hST hW hN (c_L_rotate hst hI hO x1 x2 hf hk) mw_L_rotate wd_3015 wd_524 np_L_rotate rfl hl.1 rfl (Nat.le_of_ble_eq_true rfl) dW_830 ⟨Nat.le_of_ble_eq_true rfl, Nat.le_of_ble_eq_true rfl⟩ ⟨by show cells + 2 ≤ 765322; omega, by show slots + 12 ≤ 6800139; omega⟩ (fun r L1 F1 H1 l1 hp hW => ?_)
  obtain ⟨hs1, hI1, ⟨w0, w1, e_q1, ha1⟩, hf1⟩ := hp
  have hJ1 := hJ.keepC hI hO hs1 hf1 (noE hW hST)
  have hO1 : OUT q L1 F1 := ⟨hs1 _ hO.1, w0, w1, e_q1⟩
  refine lv_istore (lv' := [(5, .int r), (4, .int (nI (5 * x))), (0, .ref b), (1, .ref (A 0)), (2, .ref (B 0)), (3, .ref q)]) S.1 S.2.1 dW_833 hl (Nat.le_of_ble_eq_true rfl) rfl (fun ls hl => ?_)
  refine lv_aload_n S.1 S.2.1 dW_835 rfl (lv_at hl 4 rfl) ?_
  refine lv_aload_n S.1 S.2.1 dW_836 rfl (lv_at hl 2 rfl) ?_
  refine lv_iload S.1 S.2.1 dW_837 (lv_at hl 1 rfl) ?_
  refine lv_iconst (v := 1) S.1 S.2.1 dW_839 (by decide) ?_
  refine lv_iadd S.1 S.2.1 dW_840 ?_
  refine pk_sld S hX hbl hW i1 hy1 dW_841 ?_
  refine lv_aload_n S.1 S.2.1 dW_842 rfl (lv_at hl 2 rfl) ?_
  refine lv_iload S.1 S.2.1 dW_843 (lv_at hl 1 rfl) ?_
  refine lv_iconst (v := 2) S.1 S.2.1 dW_845 (by decide) ?_
  refine lv_iadd S.1 S.2.1 dW_846 ?_
  refine pk_sld S hX hbl hW i2 hy2 dW_847 ?_
  refine pk_cVI (As := [.int x1, .int x2]) (rest := []) S hK hST hW (c_X6_rotate hJ1 x1 x2 hg) mc_X6_rotate wd_3060 wd_1346 wd_1347 rfl np_X6_rotate (hJ1.mem (by decide)) hJ1.this rfl rfl hl.1 rfl (Nat.le_of_ble_eq_true rfl) dW_848 ⟨Nat.le_of_ble_eq_true rfl, Nat.le_of_ble_eq_true rfl⟩ ⟨by show cells + 2 + 144 ≤ 765322; omega, by show slots + 12 + 4752 ≤ 6800139; omega⟩ (fun r2 L2 F2 H2 l2 hp hW => ?_)
  obtain ⟨rfl, hJ2, hM2⟩ := hp
  have hI2 := hI1.keepM hM2
  have hO2 := hO1.keepM hM2
  refine lv_istore (lv' := [(6, .int res2.1), (5, .int r), (4, .int (nI (5 * x))), (0, .ref b), (1, .ref (A 0)), (2, .ref (B 0)), (3, .ref q)]) S.1 S.2.1 dW_851 hl (Nat.le_of_ble_eq_true rfl) rfl (fun ls hl => ?_)
  refine lv_goto (tgt := 2363) S.1 S.2.1 dW_853 (by decide) ?_
  refine W.widen (k := cells + 256) (n := slots + 8192) (by omega) (by omega) ?_
  exact T _ _ _ _ _ _ _ ⟨hW, hI2, hJ2, hO2, hV2⟩ (lv_sub hl [2, 3, 4, 5, 6] rfl)
set_option maxHeartbeats 4000000 in
set_option maxRecDepth 100000 in
theorem cs_10 {p : Program} {l : Launch} {e : Env} {s : State} {m : MethodId} {b : Nat} {below : List Frame} {meth : Method} {c : Code} {D : va_G} {κ : Nat → ClassId} {ζ : Nat → Nat} {A B : Nat → Nat} {q LL x : Nat} {xs : Nat → Int32} {cells slots : Nat} {H : Heap} {locs : List Loc} {L : List Nat} {F : Nat → va_E} {σ : CS} {τ : MS} {ls : Array Slot} (E : LWE p l e s m b below meth c D κ ζ LL xs) (hx : 5 * x + 5 ≤ LL) (hL : LL ≤ 2560) (hc : cells + 256 ≤ 765322) (hs : slots + 8192 ≤ 6800139) (T : TL p l e s m b below meth c D κ ζ A B q x (cells + 256) (slots + 8192)) (Z : LST D κ ζ A B q s H locs L F σ τ) (hl : lv_has ls 7 [(4, .int (nI (5 * x))), (0, .ref b), (1, .ref (A 0)), (2, .ref (B 0)), (3, .ref q)]) : W p l e room_1 s m #[Value.ref b] below meth c H locs cells slots (lw_Z below #[Value.ref b] s) (F0 m 856 ls []) := by
  obtain ⟨hst, S, hr, hlk, hN, hK, hST, hX, hbl⟩ := E
  obtain ⟨hW, hI, hJ, hO, hV⟩ := Z
  refine lv_aload_n S.1 S.2.1 dW_856 rfl (lv_at hl 2 rfl) ?_
  obtain ⟨res, res2, hf, hg, hV2, hag⟩ := sx_undo hV 
  refine pk_cVI (As := []) (rest := []) S hK hST hW (c_X3_undo hI  hf) mc_X3_undo wd_3001 wd_104 wd_105 rfl np_X3_undo (hI.mem 0 (by decide)) hI.this rfl rfl hl.1 rfl (Nat.le_of_ble_eq_true rfl) dW_857 ⟨Nat.le_of_ble_eq_true rfl, Nat.le_of_ble_eq_true rfl⟩ ⟨by show cells + 0 ≤ 765322; omega, by show slots + 0 ≤ 6800139; omega⟩ (fun r L1 F1 H1 l1 hp hW => ?_)
  obtain ⟨rfl, rfl, hI1, hf1⟩ := hp
  have hJ1 := hJ.keepC hI hO (fun _ h => h) (fun x _ h _ => hf1 x h) (noE hW hST)
  have hO1 := hO.keepA hI hf1
  refine lv_pop S.1 S.2.1 dW_860 rfl ?_
  refine lv_aload_n S.1 S.2.1 dW_861 rfl (lv_at hl 3 rfl) ?_
  refine pk_cVI (As := []) (rest := []) S hK hST hW (c_X6_undo hJ1  hg) mc_X6_undo wd_3061 wd_1351 wd_1352 rfl np_X6_undo (hJ1.mem (by decide)) hJ1.this rfl rfl hl.1 rfl (Nat.le_of_ble_eq_true rfl) dW_862 ⟨Nat.le_of_ble_eq_true rfl, Nat.le_of_ble_eq_true rfl⟩ ⟨by show cells + 0 + 2 ≤ 765322; omega, by show slots + 0 + 66 ≤ 6800139; omega⟩ (fun r2 L2 F2 H2 l2 hp hW => ?_)
  obtain ⟨rfl, hJ2, hM2⟩ := hp
  have hI2 := hI1.keepM hM2
  have hO2 := hO1.keepM hM2
  refine lv_pop S.1 S.2.1 dW_865 rfl ?_
  refine lv_goto (tgt := 2363) S.1 S.2.1 dW_866 (by decide) ?_
  refine W.widen (k := cells + 256) (n := slots + 8192) (by omega) (by omega) ?_
  exact T _ _ _ _ _ _ _ ⟨hW, hI2, hJ2, hO2, hV2⟩ (lv_sub hl [0, 1, 2, 3, 4] rfl)
set_option maxHeartbeats 4000000 in
set_option maxRecDepth 100000 in
theorem cs_11 {p : Program} {l : Launch} {e : Env} {s : State} {m : MethodId} {b : Nat} {below : List Frame} {meth : Method} {c : Code} {D : va_G} {κ : Nat → ClassId} {ζ : Nat → Nat} {A B : Nat → Nat} {q LL x : Nat} {xs : Nat → Int32} {cells slots : Nat} {H : Heap} {locs : List Loc} {L : List Nat} {F : Nat → va_E} {σ : CS} {τ : MS} {ls : Array Slot} (E : LWE p l e s m b below meth c D κ ζ LL xs) (hx : 5 * x + 5 ≤ LL) (hL : LL ≤ 2560) (hc : cells + 256 ≤ 765322) (hs : slots + 8192 ≤ 6800139) (T : TL p l e s m b below meth c D κ ζ A B q x (cells + 256) (slots + 8192)) (Z : LST D κ ζ A B q s H locs L F σ τ) (hl : lv_has ls 7 [(4, .int (nI (5 * x))), (0, .ref b), (1, .ref (A 0)), (2, .ref (B 0)), (3, .ref q)]) : W p l e room_1 s m #[Value.ref b] below meth c H locs cells slots (lw_Z below #[Value.ref b] s) (F0 m 869 ls []) := by
  obtain ⟨hst, S, hr, hlk, hN, hK, hST, hX, hbl⟩ := E
  obtain ⟨hW, hI, hJ, hO, hV⟩ := Z
  have i1 : vp_in (nI (5 * x) + 1) LL := sc_in (k := 1) hx hL (by decide)
  obtain ⟨x1, hy1⟩ : ∃ v, xs (nI (5 * x) + 1).toNatClampNeg = v := ⟨_, rfl⟩
  have i2 : vp_in (nI (5 * x) + 2) LL := sc_in (k := 2) hx hL (by decide)
  obtain ⟨x2, hy2⟩ : ∃ v, xs (nI (5 * x) + 2).toNatClampNeg = v := ⟨_, rfl⟩
  have i3 : vp_in (nI (5 * x) + 3) LL := sc_in (k := 3) hx hL (by decide)
  obtain ⟨x3, hy3⟩ : ∃ v, xs (nI (5 * x) + 3).toNatClampNeg = v := ⟨_, rfl⟩
  obtain ⟨y3, hz3⟩ : ∃ v, (if x3 = 0 then (0 : Int32) else 1) = v := ⟨_, rfl⟩
  have hq3 := nz01 hz3
  refine lv_aload_n S.1 S.2.1 dW_869 rfl (lv_at hl 2 rfl) ?_
  refine lv_aload_n S.1 S.2.1 dW_870 rfl (lv_at hl 1 rfl) ?_
  refine lv_iload S.1 S.2.1 dW_871 (lv_at hl 0 rfl) ?_
  refine lv_iconst (v := 1) S.1 S.2.1 dW_873 (by decide) ?_
  refine lv_iadd S.1 S.2.1 dW_874 ?_
  refine pk_sld S hX hbl hW i1 hy1 dW_875 ?_
  refine lv_aload_n S.1 S.2.1 dW_876 rfl (lv_at hl 1 rfl) ?_
  refine lv_iload S.1 S.2.1 dW_877 (lv_at hl 0 rfl) ?_
  refine lv_iconst (v := 2) S.1 S.2.1 dW_879 (by decide) ?_
  refine lv_iadd S.1 S.2.1 dW_880 ?_
  refine pk_sld S hX hbl hW i2 hy2 dW_881 ?_
  refine lv_aload_n S.1 S.2.1 dW_882 rfl (lv_at hl 1 rfl) ?_
  refine lv_iload S.1 S.2.1 dW_883 (lv_at hl 0 rfl) ?_
  refine lv_iconst (v := 3) S.1 S.2.1 dW_885 (by decide) ?_
  refine lv_iadd S.1 S.2.1 dW_886 ?_
  refine pk_sld S hX hbl hW i3 hy3 dW_887 ?_
  refine pk_nz S.1 S.2.1 hz3 dW_888 dW_891 dW_892 dW_895 ?_
  refine lv_aload_n S.1 S.2.1 dW_896 rfl (lv_at hl 4 rfl) ?_
  obtain ⟨res, res2, hf, hk, hg, hV2, hag⟩ := sx_drop hV x1 x2 y3 hq3
  refine pk_cLI (As := [.ref (A 0), .int x1, .int x2, .int y3, .ref q]) (rest := []) S hK hST hW hN (c_L_drop hst hI hO x1 x2 y3 hf hk) mw_L_drop wd_3016 wd_533 np_L_drop rfl hl.1 rfl (Nat.le_of_ble_eq_true rfl) dW_897 ⟨Nat.le_of_ble_eq_true rfl, Nat.le_of_ble_eq_true rfl⟩ ⟨by show cells + 2 ≤ 765322; omega, by show slots + 12 ≤ 6800139; omega⟩ (fun r L1 F1 H1 l1 hp hW => ?_)
  obtain ⟨hs1, hI1, ⟨w0, w1, e_q1, ha1⟩, hf1⟩ := hp
  have hJ1 := hJ.keepC hI hO hs1 hf1 (noE hW hST)
  have hO1 : OUT q L1 F1 := ⟨hs1 _ hO.1, w0, w1, e_q1⟩
  refine lv_istore (lv' := [(5, .int r), (4, .int (nI (5 * x))), (0, .ref b), (1, .ref (A 0)), (2, .ref (B 0)), (3, .ref q)]) S.1 S.2.1 dW_900 hl (Nat.le_of_ble_eq_true rfl) rfl (fun ls hl => ?_)
  refine lv_aload_n S.1 S.2.1 dW_902 rfl (lv_at hl 4 rfl) ?_
  refine lv_aload_n S.1 S.2.1 dW_903 rfl (lv_at hl 2 rfl) ?_
  refine lv_iload S.1 S.2.1 dW_904 (lv_at hl 1 rfl) ?_
  refine lv_iconst (v := 1) S.1 S.2.1 dW_906 (by decide) ?_
  refine lv_iadd S.1 S.2.1 dW_907 ?_
  refine pk_sld S hX hbl hW i1 hy1 dW_908 ?_
  refine lv_aload_n S.1 S.2.1 dW_909 rfl (lv_at hl 2 rfl) ?_
  refine lv_iload S.1 S.2.1 dW_910 (lv_at hl 1 rfl) ?_
  refine lv_iconst (v := 2) S.1 S.2.1 dW_912 (by decide) ?_
  refine lv_iadd S.1 S.2.1 dW_913 ?_
  refine pk_sld S hX hbl hW i2 hy2 dW_914 ?_
  refine lv_aload_n S.1 S.2.1 dW_915 rfl (lv_at hl 2 rfl) ?_
  refine lv_iload S.1 S.2.1 dW_916 (lv_at hl 1 rfl) ?_
  refine lv_iconst (v := 3) S.1 S.2.1 dW_918 (by decide) ?_
  refine lv_iadd S.1 S.2.1 dW_919 ?_
  refine pk_sld S hX hbl hW i3 hy3 dW_920 ?_
  refine pk_nz S.1 S.2.1 hz3 dW_921 dW_924 dW_925 dW_928 ?_
  refine pk_cVI (As := [.int x1, .int x2, .int y3]) (rest := []) S hK hST hW (c_X6_drop hJ1 x1 x2 y3 hg) mc_X6_drop wd_3062 wd_1359 wd_1360 rfl np_X6_drop (hJ1.mem (by decide)) hJ1.this rfl rfl hl.1 rfl (Nat.le_of_ble_eq_true rfl) dW_929 ⟨Nat.le_of_ble_eq_true rfl, Nat.le_of_ble_eq_true rfl⟩ ⟨by show cells + 2 + 0 ≤ 765322; omega, by show slots + 12 + 0 ≤ 6800139; omega⟩ (fun r2 L2 F2 H2 l2 hp hW => ?_)
  obtain ⟨rfl, hJ2, hM2⟩ := hp
  have hI2 := hI1.keepM hM2
  have hO2 := hO1.keepM hM2
  refine lv_istore (lv' := [(6, .int res2.1), (5, .int r), (4, .int (nI (5 * x))), (0, .ref b), (1, .ref (A 0)), (2, .ref (B 0)), (3, .ref q)]) S.1 S.2.1 dW_932 hl (Nat.le_of_ble_eq_true rfl) rfl (fun ls hl => ?_)
  refine lv_goto (tgt := 2363) S.1 S.2.1 dW_934 (by decide) ?_
  refine W.widen (k := cells + 256) (n := slots + 8192) (by omega) (by omega) ?_
  exact T _ _ _ _ _ _ _ ⟨hW, hI2, hJ2, hO2, hV2⟩ (lv_sub hl [2, 3, 4, 5, 6] rfl)
set_option maxHeartbeats 4000000 in
set_option maxRecDepth 100000 in
theorem cs_12 {p : Program} {l : Launch} {e : Env} {s : State} {m : MethodId} {b : Nat} {below : List Frame} {meth : Method} {c : Code} {D : va_G} {κ : Nat → ClassId} {ζ : Nat → Nat} {A B : Nat → Nat} {q LL x : Nat} {xs : Nat → Int32} {cells slots : Nat} {H : Heap} {locs : List Loc} {L : List Nat} {F : Nat → va_E} {σ : CS} {τ : MS} {ls : Array Slot} (E : LWE p l e s m b below meth c D κ ζ LL xs) (hx : 5 * x + 5 ≤ LL) (hL : LL ≤ 2560) (hc : cells + 256 ≤ 765322) (hs : slots + 8192 ≤ 6800139) (T : TL p l e s m b below meth c D κ ζ A B q x (cells + 256) (slots + 8192)) (Z : LST D κ ζ A B q s H locs L F σ τ) (hl : lv_has ls 7 [(4, .int (nI (5 * x))), (0, .ref b), (1, .ref (A 0)), (2, .ref (B 0)), (3, .ref q)]) : W p l e room_1 s m #[Value.ref b] below meth c H locs cells slots (lw_Z below #[Value.ref b] s) (F0 m 937 ls []) := by
  obtain ⟨hst, S, hr, hlk, hN, hK, hST, hX, hbl⟩ := E
  obtain ⟨hW, hI, hJ, hO, hV⟩ := Z
  have i1 : vp_in (nI (5 * x) + 1) LL := sc_in (k := 1) hx hL (by decide)
  obtain ⟨x1, hy1⟩ : ∃ v, xs (nI (5 * x) + 1).toNatClampNeg = v := ⟨_, rfl⟩
  have i2 : vp_in (nI (5 * x) + 2) LL := sc_in (k := 2) hx hL (by decide)
  obtain ⟨x2, hy2⟩ : ∃ v, xs (nI (5 * x) + 2).toNatClampNeg = v := ⟨_, rfl⟩
  refine lv_aload_n S.1 S.2.1 dW_937 rfl (lv_at hl 2 rfl) ?_
  refine lv_aload_n S.1 S.2.1 dW_938 rfl (lv_at hl 1 rfl) ?_
  refine lv_iload S.1 S.2.1 dW_939 (lv_at hl 0 rfl) ?_
  refine lv_iconst (v := 1) S.1 S.2.1 dW_941 (by decide) ?_
  refine lv_iadd S.1 S.2.1 dW_942 ?_
  refine pk_sld S hX hbl hW i1 hy1 dW_943 ?_
  refine lv_aload_n S.1 S.2.1 dW_944 rfl (lv_at hl 1 rfl) ?_
  refine lv_iload S.1 S.2.1 dW_945 (lv_at hl 0 rfl) ?_
  refine lv_iconst (v := 2) S.1 S.2.1 dW_947 (by decide) ?_
  refine lv_iadd S.1 S.2.1 dW_948 ?_
  refine pk_sld S hX hbl hW i2 hy2 dW_949 ?_
  refine lv_aload_n S.1 S.2.1 dW_950 rfl (lv_at hl 4 rfl) ?_
  obtain ⟨res, res2, hf, hk, hg, hV2, hag⟩ := sx_dropAll hV x1 x2
  refine pk_cLI (As := [.ref (A 0), .int x1, .int x2, .ref q]) (rest := []) S hK hST hW hN (c_L_dropAll hst hI hO x1 x2 hf hk) mw_L_dropAll wd_3017 wd_542 np_L_dropAll rfl hl.1 rfl (Nat.le_of_ble_eq_true rfl) dW_951 ⟨Nat.le_of_ble_eq_true rfl, Nat.le_of_ble_eq_true rfl⟩ ⟨by show cells + 2 ≤ 765322; omega, by show slots + 12 ≤ 6800139; omega⟩ (fun r L1 F1 H1 l1 hp hW => ?_)
  obtain ⟨hs1, hI1, ⟨w0, w1, e_q1, ha1⟩, hf1⟩ := hp
  have hJ1 := hJ.keepC hI hO hs1 hf1 (noE hW hST)
  have hO1 : OUT q L1 F1 := ⟨hs1 _ hO.1, w0, w1, e_q1⟩
  refine lv_istore (lv' := [(5, .int r), (4, .int (nI (5 * x))), (0, .ref b), (1, .ref (A 0)), (2, .ref (B 0)), (3, .ref q)]) S.1 S.2.1 dW_954 hl (Nat.le_of_ble_eq_true rfl) rfl (fun ls hl => ?_)
  refine lv_aload_n S.1 S.2.1 dW_956 rfl (lv_at hl 4 rfl) ?_
  refine lv_aload_n S.1 S.2.1 dW_957 rfl (lv_at hl 2 rfl) ?_
  refine lv_iload S.1 S.2.1 dW_958 (lv_at hl 1 rfl) ?_
  refine lv_iconst (v := 1) S.1 S.2.1 dW_960 (by decide) ?_
  refine lv_iadd S.1 S.2.1 dW_961 ?_
  refine pk_sld S hX hbl hW i1 hy1 dW_962 ?_
  refine lv_aload_n S.1 S.2.1 dW_963 rfl (lv_at hl 2 rfl) ?_
  refine lv_iload S.1 S.2.1 dW_964 (lv_at hl 1 rfl) ?_
  refine lv_iconst (v := 2) S.1 S.2.1 dW_966 (by decide) ?_
  refine lv_iadd S.1 S.2.1 dW_967 ?_
  refine pk_sld S hX hbl hW i2 hy2 dW_968 ?_
  refine pk_cVI (As := [.int x1, .int x2]) (rest := []) S hK hST hW (c_X6_dropAll hJ1 x1 x2 hg) mc_X6_dropAll wd_3063 wd_1382 wd_1383 rfl np_X6_dropAll (hJ1.mem (by decide)) hJ1.this rfl rfl hl.1 rfl (Nat.le_of_ble_eq_true rfl) dW_969 ⟨Nat.le_of_ble_eq_true rfl, Nat.le_of_ble_eq_true rfl⟩ ⟨by show cells + 2 + 1 ≤ 765322; omega, by show slots + 12 + 33 ≤ 6800139; omega⟩ (fun r2 L2 F2 H2 l2 hp hW => ?_)
  obtain ⟨rfl, hJ2, hM2⟩ := hp
  have hI2 := hI1.keepM hM2
  have hO2 := hO1.keepM hM2
  refine lv_istore (lv' := [(6, .int res2.1), (5, .int r), (4, .int (nI (5 * x))), (0, .ref b), (1, .ref (A 0)), (2, .ref (B 0)), (3, .ref q)]) S.1 S.2.1 dW_972 hl (Nat.le_of_ble_eq_true rfl) rfl (fun ls hl => ?_)
  refine lv_goto (tgt := 2363) S.1 S.2.1 dW_974 (by decide) ?_
  refine W.widen (k := cells + 256) (n := slots + 8192) (by omega) (by omega) ?_
  exact T _ _ _ _ _ _ _ ⟨hW, hI2, hJ2, hO2, hV2⟩ (lv_sub hl [2, 3, 4, 5, 6] rfl)
set_option maxHeartbeats 4000000 in
set_option maxRecDepth 100000 in
theorem cs_13 {p : Program} {l : Launch} {e : Env} {s : State} {m : MethodId} {b : Nat} {below : List Frame} {meth : Method} {c : Code} {D : va_G} {κ : Nat → ClassId} {ζ : Nat → Nat} {A B : Nat → Nat} {q LL x : Nat} {xs : Nat → Int32} {cells slots : Nat} {H : Heap} {locs : List Loc} {L : List Nat} {F : Nat → va_E} {σ : CS} {τ : MS} {ls : Array Slot} (E : LWE p l e s m b below meth c D κ ζ LL xs) (hx : 5 * x + 5 ≤ LL) (hL : LL ≤ 2560) (hc : cells + 256 ≤ 765322) (hs : slots + 8192 ≤ 6800139) (T : TL p l e s m b below meth c D κ ζ A B q x (cells + 256) (slots + 8192)) (Z : LST D κ ζ A B q s H locs L F σ τ) (hl : lv_has ls 7 [(4, .int (nI (5 * x))), (0, .ref b), (1, .ref (A 0)), (2, .ref (B 0)), (3, .ref q)]) : W p l e room_1 s m #[Value.ref b] below meth c H locs cells slots (lw_Z below #[Value.ref b] s) (F0 m 977 ls []) := by
  obtain ⟨hst, S, hr, hlk, hN, hK, hST, hX, hbl⟩ := E
  obtain ⟨hW, hI, hJ, hO, hV⟩ := Z
  have i1 : vp_in (nI (5 * x) + 1) LL := sc_in (k := 1) hx hL (by decide)
  obtain ⟨x1, hy1⟩ : ∃ v, xs (nI (5 * x) + 1).toNatClampNeg = v := ⟨_, rfl⟩
  have i2 : vp_in (nI (5 * x) + 2) LL := sc_in (k := 2) hx hL (by decide)
  obtain ⟨x2, hy2⟩ : ∃ v, xs (nI (5 * x) + 2).toNatClampNeg = v := ⟨_, rfl⟩
  have i3 : vp_in (nI (5 * x) + 3) LL := sc_in (k := 3) hx hL (by decide)
  obtain ⟨x3, hy3⟩ : ∃ v, xs (nI (5 * x) + 3).toNatClampNeg = v := ⟨_, rfl⟩
  have i4 : vp_in (nI (5 * x) + 4) LL := sc_in (k := 4) hx hL (by decide)
  obtain ⟨x4, hy4⟩ : ∃ v, xs (nI (5 * x) + 4).toNatClampNeg = v := ⟨_, rfl⟩
  obtain ⟨y2, hz2⟩ : ∃ v, (if x2 = 0 then (0 : Int32) else 1) = v := ⟨_, rfl⟩
  have hq2 := nz01 hz2
  refine lv_aload_n S.1 S.2.1 dW_977 rfl (lv_at hl 2 rfl) ?_
  refine lv_aload_n S.1 S.2.1 dW_978 rfl (lv_at hl 1 rfl) ?_
  refine lv_iload S.1 S.2.1 dW_979 (lv_at hl 0 rfl) ?_
  refine lv_iconst (v := 1) S.1 S.2.1 dW_981 (by decide) ?_
  refine lv_iadd S.1 S.2.1 dW_982 ?_
  refine pk_sld S hX hbl hW i1 hy1 dW_983 ?_
  refine lv_aload_n S.1 S.2.1 dW_984 rfl (lv_at hl 1 rfl) ?_
  refine lv_iload S.1 S.2.1 dW_985 (lv_at hl 0 rfl) ?_
  refine lv_iconst (v := 2) S.1 S.2.1 dW_987 (by decide) ?_
  refine lv_iadd S.1 S.2.1 dW_988 ?_
  refine pk_sld S hX hbl hW i2 hy2 dW_989 ?_
  refine pk_nz S.1 S.2.1 hz2 dW_990 dW_993 dW_994 dW_997 ?_
  refine lv_aload_n S.1 S.2.1 dW_998 rfl (lv_at hl 1 rfl) ?_
  refine lv_iload S.1 S.2.1 dW_999 (lv_at hl 0 rfl) ?_
  refine lv_iconst (v := 3) S.1 S.2.1 dW_1001 (by decide) ?_
  refine lv_iadd S.1 S.2.1 dW_1002 ?_
  refine pk_sld S hX hbl hW i3 hy3 dW_1003 ?_
  refine lv_aload_n S.1 S.2.1 dW_1004 rfl (lv_at hl 1 rfl) ?_
  refine lv_iload S.1 S.2.1 dW_1005 (lv_at hl 0 rfl) ?_
  refine lv_iconst (v := 4) S.1 S.2.1 dW_1007 (by decide) ?_
  refine lv_iadd S.1 S.2.1 dW_1008 ?_
  refine pk_sld S hX hbl hW i4 hy4 dW_1009 ?_
  refine lv_aload_n S.1 S.2.1 dW_1010 rfl (lv_at hl 4 rfl) ?_
  obtain ⟨res, res2, hf, hk, hg, hV2, hag⟩ := sx_shed hV x1 y2 hq2 x3 x4
  refine pk_cLI (As := [.ref (A 0), .int x1, .int y2, .int x3, .int x4, .ref q]) (rest := []) S hK hST hW hN (c_L_shed hst hI hO x1 y2 x3 x4 hf hk) mw_L_shed wd_3018 wd_548 np_L_shed rfl hl.1 rfl (Nat.le_of_ble_eq_true rfl) dW_1011 ⟨Nat.le_of_ble_eq_true rfl, Nat.le_of_ble_eq_true rfl⟩ ⟨by show cells + 3 ≤ 765322; omega, by show slots + 18 ≤ 6800139; omega⟩ (fun r L1 F1 H1 l1 hp hW => ?_)
  obtain ⟨hs1, hI1, ⟨w0, w1, e_q1, ha1⟩, hf1⟩ := hp
  have hJ1 := hJ.keepC hI hO hs1 hf1 (noE hW hST)
  have hO1 : OUT q L1 F1 := ⟨hs1 _ hO.1, w0, w1, e_q1⟩
  refine lv_istore (lv' := [(5, .int r), (4, .int (nI (5 * x))), (0, .ref b), (1, .ref (A 0)), (2, .ref (B 0)), (3, .ref q)]) S.1 S.2.1 dW_1014 hl (Nat.le_of_ble_eq_true rfl) rfl (fun ls hl => ?_)
  refine lv_aload_n S.1 S.2.1 dW_1016 rfl (lv_at hl 4 rfl) ?_
  refine lv_aload_n S.1 S.2.1 dW_1017 rfl (lv_at hl 2 rfl) ?_
  refine lv_iload S.1 S.2.1 dW_1018 (lv_at hl 1 rfl) ?_
  refine lv_iconst (v := 1) S.1 S.2.1 dW_1020 (by decide) ?_
  refine lv_iadd S.1 S.2.1 dW_1021 ?_
  refine pk_sld S hX hbl hW i1 hy1 dW_1022 ?_
  refine lv_aload_n S.1 S.2.1 dW_1023 rfl (lv_at hl 2 rfl) ?_
  refine lv_iload S.1 S.2.1 dW_1024 (lv_at hl 1 rfl) ?_
  refine lv_iconst (v := 2) S.1 S.2.1 dW_1026 (by decide) ?_
  refine lv_iadd S.1 S.2.1 dW_1027 ?_
  refine pk_sld S hX hbl hW i2 hy2 dW_1028 ?_
  refine pk_nz S.1 S.2.1 hz2 dW_1029 dW_1032 dW_1033 dW_1036 ?_
  refine lv_aload_n S.1 S.2.1 dW_1037 rfl (lv_at hl 2 rfl) ?_
  refine lv_iload S.1 S.2.1 dW_1038 (lv_at hl 1 rfl) ?_
  refine lv_iconst (v := 3) S.1 S.2.1 dW_1040 (by decide) ?_
  refine lv_iadd S.1 S.2.1 dW_1041 ?_
  refine pk_sld S hX hbl hW i3 hy3 dW_1042 ?_
  refine lv_aload_n S.1 S.2.1 dW_1043 rfl (lv_at hl 2 rfl) ?_
  refine lv_iload S.1 S.2.1 dW_1044 (lv_at hl 1 rfl) ?_
  refine lv_iconst (v := 4) S.1 S.2.1 dW_1046 (by decide) ?_
  refine lv_iadd S.1 S.2.1 dW_1047 ?_
  refine pk_sld S hX hbl hW i4 hy4 dW_1048 ?_
  refine pk_cVI (As := [.int x1, .int y2, .int x3, .int x4]) (rest := []) S hK hST hW (c_X6_shed hJ1 x1 y2 x3 x4 hg) mc_X6_shed wd_3064 wd_1391 wd_1392 rfl np_X6_shed (hJ1.mem (by decide)) hJ1.this rfl rfl hl.1 rfl (Nat.le_of_ble_eq_true rfl) dW_1049 ⟨Nat.le_of_ble_eq_true rfl, Nat.le_of_ble_eq_true rfl⟩ ⟨by show cells + 3 + 1 ≤ 765322; omega, by show slots + 18 + 33 ≤ 6800139; omega⟩ (fun r2 L2 F2 H2 l2 hp hW => ?_)
  obtain ⟨rfl, hJ2, hM2⟩ := hp
  have hI2 := hI1.keepM hM2
  have hO2 := hO1.keepM hM2
  refine lv_istore (lv' := [(6, .int res2.1), (5, .int r), (4, .int (nI (5 * x))), (0, .ref b), (1, .ref (A 0)), (2, .ref (B 0)), (3, .ref q)]) S.1 S.2.1 dW_1052 hl (Nat.le_of_ble_eq_true rfl) rfl (fun ls hl => ?_)
  refine lv_goto (tgt := 2363) S.1 S.2.1 dW_1054 (by decide) ?_
  refine W.widen (k := cells + 256) (n := slots + 8192) (by omega) (by omega) ?_
  exact T _ _ _ _ _ _ _ ⟨hW, hI2, hJ2, hO2, hV2⟩ (lv_sub hl [2, 3, 4, 5, 6] rfl)
set_option maxHeartbeats 4000000 in
set_option maxRecDepth 100000 in
theorem cs_14 {p : Program} {l : Launch} {e : Env} {s : State} {m : MethodId} {b : Nat} {below : List Frame} {meth : Method} {c : Code} {D : va_G} {κ : Nat → ClassId} {ζ : Nat → Nat} {A B : Nat → Nat} {q LL x : Nat} {xs : Nat → Int32} {cells slots : Nat} {H : Heap} {locs : List Loc} {L : List Nat} {F : Nat → va_E} {σ : CS} {τ : MS} {ls : Array Slot} (E : LWE p l e s m b below meth c D κ ζ LL xs) (hx : 5 * x + 5 ≤ LL) (hL : LL ≤ 2560) (hc : cells + 256 ≤ 765322) (hs : slots + 8192 ≤ 6800139) (T : TL p l e s m b below meth c D κ ζ A B q x (cells + 256) (slots + 8192)) (Z : LST D κ ζ A B q s H locs L F σ τ) (hl : lv_has ls 7 [(4, .int (nI (5 * x))), (0, .ref b), (1, .ref (A 0)), (2, .ref (B 0)), (3, .ref q)]) : W p l e room_1 s m #[Value.ref b] below meth c H locs cells slots (lw_Z below #[Value.ref b] s) (F0 m 1057 ls []) := by
  obtain ⟨hst, S, hr, hlk, hN, hK, hST, hX, hbl⟩ := E
  obtain ⟨hW, hI, hJ, hO, hV⟩ := Z
  have i1 : vp_in (nI (5 * x) + 1) LL := sc_in (k := 1) hx hL (by decide)
  obtain ⟨x1, hy1⟩ : ∃ v, xs (nI (5 * x) + 1).toNatClampNeg = v := ⟨_, rfl⟩
  have i2 : vp_in (nI (5 * x) + 2) LL := sc_in (k := 2) hx hL (by decide)
  obtain ⟨x2, hy2⟩ : ∃ v, xs (nI (5 * x) + 2).toNatClampNeg = v := ⟨_, rfl⟩
  have i3 : vp_in (nI (5 * x) + 3) LL := sc_in (k := 3) hx hL (by decide)
  obtain ⟨x3, hy3⟩ : ∃ v, xs (nI (5 * x) + 3).toNatClampNeg = v := ⟨_, rfl⟩
  obtain ⟨y2, hz2⟩ : ∃ v, (if x2 = 0 then (0 : Int32) else 1) = v := ⟨_, rfl⟩
  have hq2 := nz01 hz2
  refine lv_aload_n S.1 S.2.1 dW_1057 rfl (lv_at hl 2 rfl) ?_
  refine lv_aload_n S.1 S.2.1 dW_1058 rfl (lv_at hl 1 rfl) ?_
  refine lv_iload S.1 S.2.1 dW_1059 (lv_at hl 0 rfl) ?_
  refine lv_iconst (v := 1) S.1 S.2.1 dW_1061 (by decide) ?_
  refine lv_iadd S.1 S.2.1 dW_1062 ?_
  refine pk_sld S hX hbl hW i1 hy1 dW_1063 ?_
  refine lv_aload_n S.1 S.2.1 dW_1064 rfl (lv_at hl 1 rfl) ?_
  refine lv_iload S.1 S.2.1 dW_1065 (lv_at hl 0 rfl) ?_
  refine lv_iconst (v := 2) S.1 S.2.1 dW_1067 (by decide) ?_
  refine lv_iadd S.1 S.2.1 dW_1068 ?_
  refine pk_sld S hX hbl hW i2 hy2 dW_1069 ?_
  refine pk_nz S.1 S.2.1 hz2 dW_1070 dW_1073 dW_1074 dW_1077 ?_
  refine lv_aload_n S.1 S.2.1 dW_1078 rfl (lv_at hl 1 rfl) ?_
  refine lv_iload S.1 S.2.1 dW_1079 (lv_at hl 0 rfl) ?_
  refine lv_iconst (v := 3) S.1 S.2.1 dW_1081 (by decide) ?_
  refine lv_iadd S.1 S.2.1 dW_1082 ?_
  refine pk_sld S hX hbl hW i3 hy3 dW_1083 ?_
  refine lv_aload_n S.1 S.2.1 dW_1084 rfl (lv_at hl 4 rfl) ?_
  obtain ⟨res, res2, hf, hk, hg, hV2, hag⟩ := sx_thin hV x1 y2 hq2 x3
  refine pk_cLI (As := [.ref (A 0), .int x1, .int y2, .int x3, .ref q]) (rest := []) S hK hST hW hN (c_L_thin hst hI hO x1 y2 x3 hf hk) mw_L_thin wd_3019 wd_554 np_L_thin rfl hl.1 rfl (Nat.le_of_ble_eq_true rfl) dW_1085 ⟨Nat.le_of_ble_eq_true rfl, Nat.le_of_ble_eq_true rfl⟩ ⟨by show cells + 2 ≤ 765322; omega, by show slots + 12 ≤ 6800139; omega⟩ (fun r L1 F1 H1 l1 hp hW => ?_)
  obtain ⟨hs1, hI1, ⟨w0, w1, e_q1, ha1⟩, hf1⟩ := hp
  have hJ1 := hJ.keepC hI hO hs1 hf1 (noE hW hST)
  have hO1 : OUT q L1 F1 := ⟨hs1 _ hO.1, w0, w1, e_q1⟩
  refine lv_istore (lv' := [(5, .int r), (4, .int (nI (5 * x))), (0, .ref b), (1, .ref (A 0)), (2, .ref (B 0)), (3, .ref q)]) S.1 S.2.1 dW_1088 hl (Nat.le_of_ble_eq_true rfl) rfl (fun ls hl => ?_)
  refine lv_aload_n S.1 S.2.1 dW_1090 rfl (lv_at hl 4 rfl) ?_
  refine lv_aload_n S.1 S.2.1 dW_1091 rfl (lv_at hl 2 rfl) ?_
  refine lv_iload S.1 S.2.1 dW_1092 (lv_at hl 1 rfl) ?_
  refine lv_iconst (v := 1) S.1 S.2.1 dW_1094 (by decide) ?_
  refine lv_iadd S.1 S.2.1 dW_1095 ?_
  refine pk_sld S hX hbl hW i1 hy1 dW_1096 ?_
  refine lv_aload_n S.1 S.2.1 dW_1097 rfl (lv_at hl 2 rfl) ?_
  refine lv_iload S.1 S.2.1 dW_1098 (lv_at hl 1 rfl) ?_
  refine lv_iconst (v := 2) S.1 S.2.1 dW_1100 (by decide) ?_
  refine lv_iadd S.1 S.2.1 dW_1101 ?_
  refine pk_sld S hX hbl hW i2 hy2 dW_1102 ?_
  refine pk_nz S.1 S.2.1 hz2 dW_1103 dW_1106 dW_1107 dW_1110 ?_
  refine lv_aload_n S.1 S.2.1 dW_1111 rfl (lv_at hl 2 rfl) ?_
  refine lv_iload S.1 S.2.1 dW_1112 (lv_at hl 1 rfl) ?_
  refine lv_iconst (v := 3) S.1 S.2.1 dW_1114 (by decide) ?_
  refine lv_iadd S.1 S.2.1 dW_1115 ?_
  refine pk_sld S hX hbl hW i3 hy3 dW_1116 ?_
  refine pk_cVI (As := [.int x1, .int y2, .int x3]) (rest := []) S hK hST hW (c_X6_thin hJ1 x1 y2 x3 hg) mc_X6_thin wd_3065 wd_1398 wd_1399 rfl np_X6_thin (hJ1.mem (by decide)) hJ1.this rfl rfl hl.1 rfl (Nat.le_of_ble_eq_true rfl) dW_1117 ⟨Nat.le_of_ble_eq_true rfl, Nat.le_of_ble_eq_true rfl⟩ ⟨by show cells + 2 + 1 ≤ 765322; omega, by show slots + 12 + 33 ≤ 6800139; omega⟩ (fun r2 L2 F2 H2 l2 hp hW => ?_)
  obtain ⟨rfl, hJ2, hM2⟩ := hp
  have hI2 := hI1.keepM hM2
  have hO2 := hO1.keepM hM2
  refine lv_istore (lv' := [(6, .int res2.1), (5, .int r), (4, .int (nI (5 * x))), (0, .ref b), (1, .ref (A 0)), (2, .ref (B 0)), (3, .ref q)]) S.1 S.2.1 dW_1120 hl (Nat.le_of_ble_eq_true rfl) rfl (fun ls hl => ?_)
  refine lv_goto (tgt := 2363) S.1 S.2.1 dW_1122 (by decide) ?_
  refine W.widen (k := cells + 256) (n := slots + 8192) (by omega) (by omega) ?_
  exact T _ _ _ _ _ _ _ ⟨hW, hI2, hJ2, hO2, hV2⟩ (lv_sub hl [2, 3, 4, 5, 6] rfl)
set_option maxHeartbeats 4000000 in
set_option maxRecDepth 100000 in
theorem cs_15 {p : Program} {l : Launch} {e : Env} {s : State} {m : MethodId} {b : Nat} {below : List Frame} {meth : Method} {c : Code} {D : va_G} {κ : Nat → ClassId} {ζ : Nat → Nat} {A B : Nat → Nat} {q LL x : Nat} {xs : Nat → Int32} {cells slots : Nat} {H : Heap} {locs : List Loc} {L : List Nat} {F : Nat → va_E} {σ : CS} {τ : MS} {ls : Array Slot} (E : LWE p l e s m b below meth c D κ ζ LL xs) (hx : 5 * x + 5 ≤ LL) (hL : LL ≤ 2560) (hc : cells + 256 ≤ 765322) (hs : slots + 8192 ≤ 6800139) (T : TL p l e s m b below meth c D κ ζ A B q x (cells + 256) (slots + 8192)) (Z : LST D κ ζ A B q s H locs L F σ τ) (hl : lv_has ls 7 [(4, .int (nI (5 * x))), (0, .ref b), (1, .ref (A 0)), (2, .ref (B 0)), (3, .ref q)]) : W p l e room_1 s m #[Value.ref b] below meth c H locs cells slots (lw_Z below #[Value.ref b] s) (F0 m 1125 ls []) := by
  obtain ⟨hst, S, hr, hlk, hN, hK, hST, hX, hbl⟩ := E
  obtain ⟨hW, hI, hJ, hO, hV⟩ := Z
  have i1 : vp_in (nI (5 * x) + 1) LL := sc_in (k := 1) hx hL (by decide)
  obtain ⟨x1, hy1⟩ : ∃ v, xs (nI (5 * x) + 1).toNatClampNeg = v := ⟨_, rfl⟩
  refine lv_aload_n S.1 S.2.1 dW_1125 rfl (lv_at hl 2 rfl) ?_
  refine lv_aload_n S.1 S.2.1 dW_1126 rfl (lv_at hl 1 rfl) ?_
  refine lv_iload S.1 S.2.1 dW_1127 (lv_at hl 0 rfl) ?_
  refine lv_iconst (v := 1) S.1 S.2.1 dW_1129 (by decide) ?_
  refine lv_iadd S.1 S.2.1 dW_1130 ?_
  refine pk_sld S hX hbl hW i1 hy1 dW_1131 ?_
  refine lv_aload_n S.1 S.2.1 dW_1132 rfl (lv_at hl 4 rfl) ?_
  obtain ⟨res, res2, hf, hk, hg, hV2, hag⟩ := sx_turn hV x1
  refine pk_cLI (As := [.ref (A 0), .int x1, .ref q]) (rest := []) S hK hST hW hN (c_L_turn hst hI hO x1 hf hk) mw_L_turn wd_3020 wd_560 np_L_turn rfl hl.1 rfl (Nat.le_of_ble_eq_true rfl) dW_1133 ⟨Nat.le_of_ble_eq_true rfl, Nat.le_of_ble_eq_true rfl⟩ ⟨by show cells + 1 ≤ 765322; omega, by show slots + 6 ≤ 6800139; omega⟩ (fun r L1 F1 H1 l1 hp hW => ?_)
  obtain ⟨hs1, hI1, ⟨w0, w1, e_q1, ha1⟩, hf1⟩ := hp
  have hJ1 := hJ.keepC hI hO hs1 hf1 (noE hW hST)
  have hO1 : OUT q L1 F1 := ⟨hs1 _ hO.1, w0, w1, e_q1⟩
  refine lv_istore (lv' := [(5, .int r), (4, .int (nI (5 * x))), (0, .ref b), (1, .ref (A 0)), (2, .ref (B 0)), (3, .ref q)]) S.1 S.2.1 dW_1136 hl (Nat.le_of_ble_eq_true rfl) rfl (fun ls hl => ?_)
  refine lv_aload_n S.1 S.2.1 dW_1138 rfl (lv_at hl 4 rfl) ?_
  refine lv_aload_n S.1 S.2.1 dW_1139 rfl (lv_at hl 2 rfl) ?_
  refine lv_iload S.1 S.2.1 dW_1140 (lv_at hl 1 rfl) ?_
  refine lv_iconst (v := 1) S.1 S.2.1 dW_1142 (by decide) ?_
  refine lv_iadd S.1 S.2.1 dW_1143 ?_
  refine pk_sld S hX hbl hW i1 hy1 dW_1144 ?_
  refine pk_cVI (As := [.int x1]) (rest := []) S hK hST hW (c_X6_turn hJ1 x1 hg) mc_X6_turn wd_3066 wd_1402 wd_1403 rfl np_X6_turn (hJ1.mem (by decide)) hJ1.this rfl rfl hl.1 rfl (Nat.le_of_ble_eq_true rfl) dW_1145 ⟨Nat.le_of_ble_eq_true rfl, Nat.le_of_ble_eq_true rfl⟩ ⟨by show cells + 1 + 24 ≤ 765322; omega, by show slots + 6 + 792 ≤ 6800139; omega⟩ (fun r2 L2 F2 H2 l2 hp hW => ?_)
  obtain ⟨rfl, hJ2, hM2⟩ := hp
  have hI2 := hI1.keepM hM2
  have hO2 := hO1.keepM hM2
  refine lv_istore (lv' := [(6, .int res2.1), (5, .int r), (4, .int (nI (5 * x))), (0, .ref b), (1, .ref (A 0)), (2, .ref (B 0)), (3, .ref q)]) S.1 S.2.1 dW_1148 hl (Nat.le_of_ble_eq_true rfl) rfl (fun ls hl => ?_)
  refine lv_goto (tgt := 2363) S.1 S.2.1 dW_1150 (by decide) ?_
  refine W.widen (k := cells + 256) (n := slots + 8192) (by omega) (by omega) ?_
  exact T _ _ _ _ _ _ _ ⟨hW, hI2, hJ2, hO2, hV2⟩ (lv_sub hl [2, 3, 4, 5, 6] rfl)
set_option maxHeartbeats 4000000 in
set_option maxRecDepth 100000 in
theorem cs_16 {p : Program} {l : Launch} {e : Env} {s : State} {m : MethodId} {b : Nat} {below : List Frame} {meth : Method} {c : Code} {D : va_G} {κ : Nat → ClassId} {ζ : Nat → Nat} {A B : Nat → Nat} {q LL x : Nat} {xs : Nat → Int32} {cells slots : Nat} {H : Heap} {locs : List Loc} {L : List Nat} {F : Nat → va_E} {σ : CS} {τ : MS} {ls : Array Slot} (E : LWE p l e s m b below meth c D κ ζ LL xs) (hx : 5 * x + 5 ≤ LL) (hL : LL ≤ 2560) (hc : cells + 256 ≤ 765322) (hs : slots + 8192 ≤ 6800139) (T : TL p l e s m b below meth c D κ ζ A B q x (cells + 256) (slots + 8192)) (Z : LST D κ ζ A B q s H locs L F σ τ) (hl : lv_has ls 7 [(4, .int (nI (5 * x))), (0, .ref b), (1, .ref (A 0)), (2, .ref (B 0)), (3, .ref q)]) : W p l e room_1 s m #[Value.ref b] below meth c H locs cells slots (lw_Z below #[Value.ref b] s) (F0 m 1153 ls []) := by
  obtain ⟨hst, S, hr, hlk, hN, hK, hST, hX, hbl⟩ := E
  obtain ⟨hW, hI, hJ, hO, hV⟩ := Z
  have i1 : vp_in (nI (5 * x) + 1) LL := sc_in (k := 1) hx hL (by decide)
  obtain ⟨x1, hy1⟩ : ∃ v, xs (nI (5 * x) + 1).toNatClampNeg = v := ⟨_, rfl⟩
  refine lv_aload_n S.1 S.2.1 dW_1153 rfl (lv_at hl 2 rfl) ?_
  refine lv_aload_n S.1 S.2.1 dW_1154 rfl (lv_at hl 1 rfl) ?_
  refine lv_iload S.1 S.2.1 dW_1155 (lv_at hl 0 rfl) ?_
  refine lv_iconst (v := 1) S.1 S.2.1 dW_1157 (by decide) ?_
  refine lv_iadd S.1 S.2.1 dW_1158 ?_
  refine pk_sld S hX hbl hW i1 hy1 dW_1159 ?_
  refine lv_aload_n S.1 S.2.1 dW_1160 rfl (lv_at hl 4 rfl) ?_
  obtain ⟨res, res2, hf, hk, hg, hV2, hag⟩ := sx_clear hV x1
  refine pk_cLI (As := [.ref (A 0), .int x1, .ref q]) (rest := []) S hK hST hW hN (c_L_clear hst hI hO x1 hf hk) mw_L_clear wd_3021 wd_567 np_L_clear rfl hl.1 rfl (Nat.le_of_ble_eq_true rfl) dW_1161 ⟨Nat.le_of_ble_eq_true rfl, Nat.le_of_ble_eq_true rfl⟩ ⟨by show cells + 1 ≤ 765322; omega, by show slots + 6 ≤ 6800139; omega⟩ (fun r L1 F1 H1 l1 hp hW => ?_)
  obtain ⟨hs1, hI1, ⟨w0, w1, e_q1, ha1⟩, hf1⟩ := hp
  have hJ1 := hJ.keepC hI hO hs1 hf1 (noE hW hST)
  have hO1 : OUT q L1 F1 := ⟨hs1 _ hO.1, w0, w1, e_q1⟩
  refine lv_istore (lv' := [(5, .int r), (4, .int (nI (5 * x))), (0, .ref b), (1, .ref (A 0)), (2, .ref (B 0)), (3, .ref q)]) S.1 S.2.1 dW_1164 hl (Nat.le_of_ble_eq_true rfl) rfl (fun ls hl => ?_)
  refine lv_aload_n S.1 S.2.1 dW_1166 rfl (lv_at hl 4 rfl) ?_
  refine lv_aload_n S.1 S.2.1 dW_1167 rfl (lv_at hl 2 rfl) ?_
  refine lv_iload S.1 S.2.1 dW_1168 (lv_at hl 1 rfl) ?_
  refine lv_iconst (v := 1) S.1 S.2.1 dW_1170 (by decide) ?_
  refine lv_iadd S.1 S.2.1 dW_1171 ?_
  refine pk_sld S hX hbl hW i1 hy1 dW_1172 ?_
  refine pk_cVI (As := [.int x1]) (rest := []) S hK hST hW (c_X6_clear hJ1 x1 hg) mc_X6_clear wd_3067 wd_1406 wd_1407 rfl np_X6_clear (hJ1.mem (by decide)) hJ1.this rfl rfl hl.1 rfl (Nat.le_of_ble_eq_true rfl) dW_1173 ⟨Nat.le_of_ble_eq_true rfl, Nat.le_of_ble_eq_true rfl⟩ ⟨by show cells + 1 + 1 ≤ 765322; omega, by show slots + 6 + 33 ≤ 6800139; omega⟩ (fun r2 L2 F2 H2 l2 hp hW => ?_)
  obtain ⟨rfl, hJ2, hM2⟩ := hp
  have hI2 := hI1.keepM hM2
  have hO2 := hO1.keepM hM2
  refine lv_istore (lv' := [(6, .int res2.1), (5, .int r), (4, .int (nI (5 * x))), (0, .ref b), (1, .ref (A 0)), (2, .ref (B 0)), (3, .ref q)]) S.1 S.2.1 dW_1176 hl (Nat.le_of_ble_eq_true rfl) rfl (fun ls hl => ?_)
  refine lv_goto (tgt := 2363) S.1 S.2.1 dW_1178 (by decide) ?_
  refine W.widen (k := cells + 256) (n := slots + 8192) (by omega) (by omega) ?_
  exact T _ _ _ _ _ _ _ ⟨hW, hI2, hJ2, hO2, hV2⟩ (lv_sub hl [2, 3, 4, 5, 6] rfl)
