/-! the law: what each order of the script comes to -/
set_option maxHeartbeats 4000000 in
set_option maxRecDepth 100000 in
theorem cs_0 {p : Program} {l : Launch} {e : Env} {s : State} {m : MethodId} {b : Nat} {below : List Frame} {meth : Method} {c : Code} {D : va_G} {κ : Nat → ClassId} {ζ : Nat → Nat} {A B : Nat → Nat} {q LL x : Nat} {xs : Nat → Int32} {cells slots : Nat} {H : Heap} {locs : List Loc} {L : List Nat} {F : Nat → va_E} {σ : CS} {τ : MS} {ls : Array Slot} (E : LWE p l e s m b below meth c D κ ζ LL xs) (hx : 5 * x + 5 ≤ LL) (hL : LL ≤ 2560) (hc : cells + 256 ≤ 697565) (hs : slots + 8192 ≤ 7003408) (T : TL p l e s m b below meth c D κ ζ A B q x (cells + 256) (slots + 8192)) (Z : LST D κ ζ A B q s H locs L F σ τ) (hl : lv_has ls 7 [(4, .int (nI (5 * x))), (0, .ref b), (1, .ref (A 0)), (2, .ref (B 0)), (3, .ref q)]) : W p l e room_1 s m #[Value.ref b] below meth c H locs cells slots (lw_Z below #[Value.ref b] s) (F0 m 256 ls []) := by
  obtain ⟨hst, S, hr, hlk, hN, hK, hST, hX, hbl⟩ := E
  obtain ⟨hW, hI, hJ, hO, hV⟩ := Z
  have i1 : vp_in (nI (5 * x) + 1) LL := sc_in (k := 1) hx hL (by decide)
  obtain ⟨x1, hy1⟩ : ∃ v, xs (nI (5 * x) + 1).toNatClampNeg = v := ⟨_, rfl⟩
  have i2 : vp_in (nI (5 * x) + 2) LL := sc_in (k := 2) hx hL (by decide)
  obtain ⟨x2, hy2⟩ : ∃ v, xs (nI (5 * x) + 2).toNatClampNeg = v := ⟨_, rfl⟩
  have i3 : vp_in (nI (5 * x) + 3) LL := sc_in (k := 3) hx hL (by decide)
  obtain ⟨x3, hy3⟩ : ∃ v, xs (nI (5 * x) + 3).toNatClampNeg = v := ⟨_, rfl⟩
  have i4 : vp_in (nI (5 * x) + 4) LL := sc_in (k := 4) hx hL (by decide)
  obtain ⟨x4, hy4⟩ : ∃ v, xs (nI (5 * x) + 4).toNatClampNeg = v := ⟨_, rfl⟩
  obtain ⟨y2, hz2⟩ : ∃ v, (if x2 = 0 then (0 : Int32) else 1) = v := ⟨_, rfl⟩
  have hq2 := nz01 hz2
  refine lv_aload_n S.1 S.2.1 dW_256 rfl (lv_at hl 2 rfl) ?_
  refine lv_aload_n S.1 S.2.1 dW_257 rfl (lv_at hl 1 rfl) ?_
  refine lv_iload S.1 S.2.1 dW_258 (lv_at hl 0 rfl) ?_
  refine lv_iconst (v := 1) S.1 S.2.1 dW_260 (by decide) ?_
  refine lv_iadd S.1 S.2.1 dW_261 ?_
  refine pk_sld S hX hbl hW i1 hy1 dW_262 ?_
  refine lv_aload_n S.1 S.2.1 dW_263 rfl (lv_at hl 1 rfl) ?_
  refine lv_iload S.1 S.2.1 dW_264 (lv_at hl 0 rfl) ?_
  refine lv_iconst (v := 2) S.1 S.2.1 dW_266 (by decide) ?_
  refine lv_iadd S.1 S.2.1 dW_267 ?_
  refine pk_sld S hX hbl hW i2 hy2 dW_268 ?_
  refine pk_nz S.1 S.2.1 hz2 dW_269 dW_272 dW_273 dW_276 ?_
  refine lv_aload_n S.1 S.2.1 dW_277 rfl (lv_at hl 1 rfl) ?_
  refine lv_iload S.1 S.2.1 dW_278 (lv_at hl 0 rfl) ?_
  refine lv_iconst (v := 3) S.1 S.2.1 dW_280 (by decide) ?_
  refine lv_iadd S.1 S.2.1 dW_281 ?_
  refine pk_sld S hX hbl hW i3 hy3 dW_282 ?_
  refine lv_aload_n S.1 S.2.1 dW_283 rfl (lv_at hl 1 rfl) ?_
  refine lv_iload S.1 S.2.1 dW_284 (lv_at hl 0 rfl) ?_
  refine lv_iconst (v := 4) S.1 S.2.1 dW_286 (by decide) ?_
  refine lv_iadd S.1 S.2.1 dW_287 ?_
  refine pk_sld S hX hbl hW i4 hy4 dW_288 ?_
  refine lv_aload_n S.1 S.2.1 dW_289 rfl (lv_at hl 4 rfl) ?_
  obtain ⟨res, res2, hf, hk, hg, hV2, hag⟩ := sx_join hV x1 y2 hq2 x3 x4
  refine pk_cLI (As := [.ref (A 0), .int x1, .int y2, .int x3, .int x4, .ref q]) (rest := []) S hK hST hW hN (c_L_join hst hI hO x1 y2 x3 x4 hf hk) mw_L_join wd_346 wd_347 np_L_join rfl hl.1 rfl (Nat.le_of_ble_eq_true rfl) dW_290 ⟨Nat.le_of_ble_eq_true rfl, Nat.le_of_ble_eq_true rfl⟩ ⟨by show cells + 4 ≤ 697565; omega, by show slots + 24 ≤ 7003408; omega⟩ (fun r L1 F1 H1 l1 hp hW => ?_)
  obtain ⟨hs1, hI1, ⟨w0, w1, e_q1, ha1⟩, hf1⟩ := hp
  have hJ1 := hJ.keepC hI hO hs1 hf1 (noE hW hST)
  have hO1 : OUT q L1 F1 := ⟨hs1 _ hO.1, w0, w1, e_q1⟩
  refine lv_istore (lv' := [(5, .int r), (4, .int (nI (5 * x))), (0, .ref b), (1, .ref (A 0)), (2, .ref (B 0)), (3, .ref q)]) S.1 S.2.1 dW_293 hl (Nat.le_of_ble_eq_true rfl) rfl (fun ls hl => ?_)
  refine lv_aload_n S.1 S.2.1 dW_295 rfl (lv_at hl 4 rfl) ?_
  refine lv_aload_n S.1 S.2.1 dW_296 rfl (lv_at hl 2 rfl) ?_
  refine lv_iload S.1 S.2.1 dW_297 (lv_at hl 1 rfl) ?_
  refine lv_iconst (v := 1) S.1 S.2.1 dW_299 (by decide) ?_
  refine lv_iadd S.1 S.2.1 dW_300 ?_
  refine pk_sld S hX hbl hW i1 hy1 dW_301 ?_
  refine lv_aload_n S.1 S.2.1 dW_302 rfl (lv_at hl 2 rfl) ?_
  refine lv_iload S.1 S.2.1 dW_303 (lv_at hl 1 rfl) ?_
  refine lv_iconst (v := 2) S.1 S.2.1 dW_305 (by decide) ?_
  refine lv_iadd S.1 S.2.1 dW_306 ?_
  refine pk_sld S hX hbl hW i2 hy2 dW_307 ?_
  refine pk_nz S.1 S.2.1 hz2 dW_308 dW_311 dW_312 dW_315 ?_
  refine lv_aload_n S.1 S.2.1 dW_316 rfl (lv_at hl 2 rfl) ?_
  refine lv_iload S.1 S.2.1 dW_317 (lv_at hl 1 rfl) ?_
  refine lv_iconst (v := 3) S.1 S.2.1 dW_319 (by decide) ?_
  refine lv_iadd S.1 S.2.1 dW_320 ?_
  refine pk_sld S hX hbl hW i3 hy3 dW_321 ?_
  refine lv_aload_n S.1 S.2.1 dW_322 rfl (lv_at hl 2 rfl) ?_
  refine lv_iload S.1 S.2.1 dW_323 (lv_at hl 1 rfl) ?_
  refine lv_iconst (v := 4) S.1 S.2.1 dW_325 (by decide) ?_
  refine lv_iadd S.1 S.2.1 dW_326 ?_
  refine pk_sld S hX hbl hW i4 hy4 dW_327 ?_
  refine pk_cVI (As := [.int x1, .int y2, .int x3, .int x4]) (rest := []) S hK hST hW (c_X6_join hJ1 x1 y2 x3 x4 hg) mc_X6_join wd_1174 wd_1175 wd_1176 rfl np_X6_join (hJ1.mem (by decide)) hJ1.this rfl rfl hl.1 rfl (Nat.le_of_ble_eq_true rfl) dW_328 ⟨Nat.le_of_ble_eq_true rfl, Nat.le_of_ble_eq_true rfl⟩ ⟨by show cells + 4 + 4 ≤ 697565; omega, by show slots + 24 + 132 ≤ 7003408; omega⟩ (fun r2 L2 F2 H2 l2 hp hW => ?_)
  obtain ⟨rfl, hJ2, hM2⟩ := hp
  have hI2 := hI1.keepM hM2
  have hO2 := hO1.keepM hM2
  refine lv_istore (lv' := [(6, .int res2.1), (5, .int r), (4, .int (nI (5 * x))), (0, .ref b), (1, .ref (A 0)), (2, .ref (B 0)), (3, .ref q)]) S.1 S.2.1 dW_331 hl (Nat.le_of_ble_eq_true rfl) rfl (fun ls hl => ?_)
  refine lv_goto (tgt := 2356) S.1 S.2.1 dW_333 (by decide) ?_
  refine W.widen (k := cells + 256) (n := slots + 8192) (by omega) (by omega) ?_
  exact T _ _ _ _ _ _ _ ⟨hW, hI2, hJ2, hO2, hV2⟩ (lv_sub hl [2, 3, 4, 5, 6] rfl)
set_option maxHeartbeats 4000000 in
set_option maxRecDepth 100000 in
theorem cs_1 {p : Program} {l : Launch} {e : Env} {s : State} {m : MethodId} {b : Nat} {below : List Frame} {meth : Method} {c : Code} {D : va_G} {κ : Nat → ClassId} {ζ : Nat → Nat} {A B : Nat → Nat} {q LL x : Nat} {xs : Nat → Int32} {cells slots : Nat} {H : Heap} {locs : List Loc} {L : List Nat} {F : Nat → va_E} {σ : CS} {τ : MS} {ls : Array Slot} (E : LWE p l e s m b below meth c D κ ζ LL xs) (hx : 5 * x + 5 ≤ LL) (hL : LL ≤ 2560) (hc : cells + 256 ≤ 697565) (hs : slots + 8192 ≤ 7003408) (T : TL p l e s m b below meth c D κ ζ A B q x (cells + 256) (slots + 8192)) (Z : LST D κ ζ A B q s H locs L F σ τ) (hl : lv_has ls 7 [(4, .int (nI (5 * x))), (0, .ref b), (1, .ref (A 0)), (2, .ref (B 0)), (3, .ref q)]) : W p l e room_1 s m #[Value.ref b] below meth c H locs cells slots (lw_Z below #[Value.ref b] s) (F0 m 336 ls []) := by
  obtain ⟨hst, S, hr, hlk, hN, hK, hST, hX, hbl⟩ := E
  obtain ⟨hW, hI, hJ, hO, hV⟩ := Z
  have i1 : vp_in (nI (5 * x) + 1) LL := sc_in (k := 1) hx hL (by decide)
  obtain ⟨x1, hy1⟩ : ∃ v, xs (nI (5 * x) + 1).toNatClampNeg = v := ⟨_, rfl⟩
  have i2 : vp_in (nI (5 * x) + 2) LL := sc_in (k := 2) hx hL (by decide)
  obtain ⟨x2, hy2⟩ : ∃ v, xs (nI (5 * x) + 2).toNatClampNeg = v := ⟨_, rfl⟩
  have i3 : vp_in (nI (5 * x) + 3) LL := sc_in (k := 3) hx hL (by decide)
  obtain ⟨x3, hy3⟩ : ∃ v, xs (nI (5 * x) + 3).toNatClampNeg = v := ⟨_, rfl⟩
  have i4 : vp_in (nI (5 * x) + 4) LL := sc_in (k := 4) hx hL (by decide)
  obtain ⟨x4, hy4⟩ : ∃ v, xs (nI (5 * x) + 4).toNatClampNeg = v := ⟨_, rfl⟩
  obtain ⟨y2, hz2⟩ : ∃ v, (if x2 = 0 then (0 : Int32) else 1) = v := ⟨_, rfl⟩
  have hq2 := nz01 hz2
  refine lv_aload_n S.1 S.2.1 dW_336 rfl (lv_at hl 2 rfl) ?_
  refine lv_aload_n S.1 S.2.1 dW_337 rfl (lv_at hl 1 rfl) ?_
  refine lv_iload S.1 S.2.1 dW_338 (lv_at hl 0 rfl) ?_
  refine lv_iconst (v := 1) S.1 S.2.1 dW_340 (by decide) ?_
  refine lv_iadd S.1 S.2.1 dW_341 ?_
  refine pk_sld S hX hbl hW i1 hy1 dW_342 ?_
  refine lv_aload_n S.1 S.2.1 dW_343 rfl (lv_at hl 1 rfl) ?_
  refine lv_iload S.1 S.2.1 dW_344 (lv_at hl 0 rfl) ?_
  refine lv_iconst (v := 2) S.1 S.2.1 dW_346 (by decide) ?_
  refine lv_iadd S.1 S.2.1 dW_347 ?_
  refine pk_sld S hX hbl hW i2 hy2 dW_348 ?_
  refine pk_nz S.1 S.2.1 hz2 dW_349 dW_352 dW_353 dW_356 ?_
  refine lv_aload_n S.1 S.2.1 dW_357 rfl (lv_at hl 1 rfl) ?_
  refine lv_iload S.1 S.2.1 dW_358 (lv_at hl 0 rfl) ?_
  refine lv_iconst (v := 3) S.1 S.2.1 dW_360 (by decide) ?_
  refine lv_iadd S.1 S.2.1 dW_361 ?_
  refine pk_sld S hX hbl hW i3 hy3 dW_362 ?_
  refine lv_aload_n S.1 S.2.1 dW_363 rfl (lv_at hl 1 rfl) ?_
  refine lv_iload S.1 S.2.1 dW_364 (lv_at hl 0 rfl) ?_
  refine lv_iconst (v := 4) S.1 S.2.1 dW_366 (by decide) ?_
  refine lv_iadd S.1 S.2.1 dW_367 ?_
  refine pk_sld S hX hbl hW i4 hy4 dW_368 ?_
  refine lv_aload_n S.1 S.2.1 dW_369 rfl (lv_at hl 4 rfl) ?_
  obtain ⟨res, res2, hf, hk, hg, hV2, hag⟩ := sx_offer hV x1 y2 hq2 x3 x4
  refine pk_cLI (As := [.ref (A 0), .int x1, .int y2, .int x3, .int x4, .ref q]) (rest := []) S hK hST hW hN (c_L_offer hst hI hO x1 y2 x3 x4 hf hk) mw_L_offer wd_467 wd_468 np_L_offer rfl hl.1 rfl (Nat.le_of_ble_eq_true rfl) dW_370 ⟨Nat.le_of_ble_eq_true rfl, Nat.le_of_ble_eq_true rfl⟩ ⟨by show cells + 4 ≤ 697565; omega, by show slots + 24 ≤ 7003408; omega⟩ (fun r L1 F1 H1 l1 hp hW => ?_)
  obtain ⟨hs1, hI1, ⟨w0, w1, e_q1, ha1⟩, hf1⟩ := hp
  have hJ1 := hJ.keepC hI hO hs1 hf1 (noE hW hST)
  have hO1 : OUT q L1 F1 := ⟨hs1 _ hO.1, w0, w1, e_q1⟩
  refine lv_istore (lv' := [(5, .int r), (4, .int (nI (5 * x))), (0, .ref b), (1, .ref (A 0)), (2, .ref (B 0)), (3, .ref q)]) S.1 S.2.1 dW_373 hl (Nat.le_of_ble_eq_true rfl) rfl (fun ls hl => ?_)
  refine lv_aload_n S.1 S.2.1 dW_375 rfl (lv_at hl 4 rfl) ?_
  refine lv_aload_n S.1 S.2.1 dW_376 rfl (lv_at hl 2 rfl) ?_
  refine lv_iload S.1 S.2.1 dW_377 (lv_at hl 1 rfl) ?_
  refine lv_iconst (v := 1) S.1 S.2.1 dW_379 (by decide) ?_
  refine lv_iadd S.1 S.2.1 dW_380 ?_
  refine pk_sld S hX hbl hW i1 hy1 dW_381 ?_
  refine lv_aload_n S.1 S.2.1 dW_382 rfl (lv_at hl 2 rfl) ?_
  refine lv_iload S.1 S.2.1 dW_383 (lv_at hl 1 rfl) ?_
  refine lv_iconst (v := 2) S.1 S.2.1 dW_385 (by decide) ?_
  refine lv_iadd S.1 S.2.1 dW_386 ?_
  refine pk_sld S hX hbl hW i2 hy2 dW_387 ?_
  refine pk_nz S.1 S.2.1 hz2 dW_388 dW_391 dW_392 dW_395 ?_
  refine lv_aload_n S.1 S.2.1 dW_396 rfl (lv_at hl 2 rfl) ?_
  refine lv_iload S.1 S.2.1 dW_397 (lv_at hl 1 rfl) ?_
  refine lv_iconst (v := 3) S.1 S.2.1 dW_399 (by decide) ?_
  refine lv_iadd S.1 S.2.1 dW_400 ?_
  refine pk_sld S hX hbl hW i3 hy3 dW_401 ?_
  refine lv_aload_n S.1 S.2.1 dW_402 rfl (lv_at hl 2 rfl) ?_
  refine lv_iload S.1 S.2.1 dW_403 (lv_at hl 1 rfl) ?_
  refine lv_iconst (v := 4) S.1 S.2.1 dW_405 (by decide) ?_
  refine lv_iadd S.1 S.2.1 dW_406 ?_
  refine pk_sld S hX hbl hW i4 hy4 dW_407 ?_
  refine pk_cVI (As := [.int x1, .int y2, .int x3, .int x4]) (rest := []) S hK hST hW (c_X6_offer hJ1 x1 y2 x3 x4 hg) mc_X6_offer wd_1291 wd_1292 wd_1293 rfl np_X6_offer (hJ1.mem (by decide)) hJ1.this rfl rfl hl.1 rfl (Nat.le_of_ble_eq_true rfl) dW_408 ⟨Nat.le_of_ble_eq_true rfl, Nat.le_of_ble_eq_true rfl⟩ ⟨by show cells + 4 + 4 ≤ 697565; omega, by show slots + 24 + 132 ≤ 7003408; omega⟩ (fun r2 L2 F2 H2 l2 hp hW => ?_)
  obtain ⟨rfl, hJ2, hM2⟩ := hp
  have hI2 := hI1.keepM hM2
  have hO2 := hO1.keepM hM2
  refine lv_istore (lv' := [(6, .int res2.1), (5, .int r), (4, .int (nI (5 * x))), (0, .ref b), (1, .ref (A 0)), (2, .ref (B 0)), (3, .ref q)]) S.1 S.2.1 dW_411 hl (Nat.le_of_ble_eq_true rfl) rfl (fun ls hl => ?_)
  refine lv_goto (tgt := 2356) S.1 S.2.1 dW_413 (by decide) ?_
  refine W.widen (k := cells + 256) (n := slots + 8192) (by omega) (by omega) ?_
  exact T _ _ _ _ _ _ _ ⟨hW, hI2, hJ2, hO2, hV2⟩ (lv_sub hl [2, 3, 4, 5, 6] rfl)
set_option maxHeartbeats 4000000 in
set_option maxRecDepth 100000 in
theorem cs_2 {p : Program} {l : Launch} {e : Env} {s : State} {m : MethodId} {b : Nat} {below : List Frame} {meth : Method} {c : Code} {D : va_G} {κ : Nat → ClassId} {ζ : Nat → Nat} {A B : Nat → Nat} {q LL x : Nat} {xs : Nat → Int32} {cells slots : Nat} {H : Heap} {locs : List Loc} {L : List Nat} {F : Nat → va_E} {σ : CS} {τ : MS} {ls : Array Slot} (E : LWE p l e s m b below meth c D κ ζ LL xs) (hx : 5 * x + 5 ≤ LL) (hL : LL ≤ 2560) (hc : cells + 256 ≤ 697565) (hs : slots + 8192 ≤ 7003408) (T : TL p l e s m b below meth c D κ ζ A B q x (cells + 256) (slots + 8192)) (Z : LST D κ ζ A B q s H locs L F σ τ) (hl : lv_has ls 7 [(4, .int (nI (5 * x))), (0, .ref b), (1, .ref (A 0)), (2, .ref (B 0)), (3, .ref q)]) : W p l e room_1 s m #[Value.ref b] below meth c H locs cells slots (lw_Z below #[Value.ref b] s) (F0 m 416 ls []) := by
  obtain ⟨hst, S, hr, hlk, hN, hK, hST, hX, hbl⟩ := E
  obtain ⟨hW, hI, hJ, hO, hV⟩ := Z
  have i1 : vp_in (nI (5 * x) + 1) LL := sc_in (k := 1) hx hL (by decide)
  obtain ⟨x1, hy1⟩ : ∃ v, xs (nI (5 * x) + 1).toNatClampNeg = v := ⟨_, rfl⟩
  have i2 : vp_in (nI (5 * x) + 2) LL := sc_in (k := 2) hx hL (by decide)
  obtain ⟨x2, hy2⟩ : ∃ v, xs (nI (5 * x) + 2).toNatClampNeg = v := ⟨_, rfl⟩
  have i3 : vp_in (nI (5 * x) + 3) LL := sc_in (k := 3) hx hL (by decide)
  obtain ⟨x3, hy3⟩ : ∃ v, xs (nI (5 * x) + 3).toNatClampNeg = v := ⟨_, rfl⟩
  refine lv_aload_n S.1 S.2.1 dW_416 rfl (lv_at hl 2 rfl) ?_
  refine lv_aload_n S.1 S.2.1 dW_417 rfl (lv_at hl 1 rfl) ?_
  refine lv_iload S.1 S.2.1 dW_418 (lv_at hl 0 rfl) ?_
  refine lv_iconst (v := 1) S.1 S.2.1 dW_420 (by decide) ?_
  refine lv_iadd S.1 S.2.1 dW_421 ?_
  refine pk_sld S hX hbl hW i1 hy1 dW_422 ?_
  refine lv_aload_n S.1 S.2.1 dW_423 rfl (lv_at hl 1 rfl) ?_
  refine lv_iload S.1 S.2.1 dW_424 (lv_at hl 0 rfl) ?_
  refine lv_iconst (v := 2) S.1 S.2.1 dW_426 (by decide) ?_
  refine lv_iadd S.1 S.2.1 dW_427 ?_
  refine pk_sld S hX hbl hW i2 hy2 dW_428 ?_
  refine lv_aload_n S.1 S.2.1 dW_429 rfl (lv_at hl 1 rfl) ?_
  refine lv_iload S.1 S.2.1 dW_430 (lv_at hl 0 rfl) ?_
  refine lv_iconst (v := 3) S.1 S.2.1 dW_432 (by decide) ?_
  refine lv_iadd S.1 S.2.1 dW_433 ?_
  refine pk_sld S hX hbl hW i3 hy3 dW_434 ?_
  refine lv_aload_n S.1 S.2.1 dW_435 rfl (lv_at hl 4 rfl) ?_
  obtain ⟨res, res2, hf, hk, hg, hV2, hag⟩ := sx_push hV x1 x2 x3
  refine pk_cLI (As := [.ref (A 0), .int x1, .int x2, .int x3, .ref q]) (rest := []) S hK hST hW hN (c_L_push hst hI hO x1 x2 x3 hf hk) mw_L_push wd_473 wd_474 np_L_push rfl hl.1 rfl (Nat.le_of_ble_eq_true rfl) dW_436 ⟨Nat.le_of_ble_eq_true rfl, Nat.le_of_ble_eq_true rfl⟩ ⟨by show cells + 5 ≤ 697565; omega, by show slots + 30 ≤ 7003408; omega⟩ (fun r L1 F1 H1 l1 hp hW => ?_)
  obtain ⟨hs1, hI1, ⟨w0, w1, e_q1, ha1⟩, hf1⟩ := hp
  have hJ1 := hJ.keepC hI hO hs1 hf1 (noE hW hST)
  have hO1 : OUT q L1 F1 := ⟨hs1 _ hO.1, w0, w1, e_q1⟩
  refine lv_istore (lv' := [(5, .int r), (4, .int (nI (5 * x))), (0, .ref b), (1, .ref (A 0)), (2, .ref (B 0)), (3, .ref q)]) S.1 S.2.1 dW_439 hl (Nat.le_of_ble_eq_true rfl) rfl (fun ls hl => ?_)
  refine lv_aload_n S.1 S.2.1 dW_441 rfl (lv_at hl 4 rfl) ?_
  refine lv_aload_n S.1 S.2.1 dW_442 rfl (lv_at hl 2 rfl) ?_
  refine lv_iload S.1 S.2.1 dW_443 (lv_at hl 1 rfl) ?_
  refine lv_iconst (v := 1) S.1 S.2.1 dW_445 (by decide) ?_
  refine lv_iadd S.1 S.2.1 dW_446 ?_
  refine pk_sld S hX hbl hW i1 hy1 dW_447 ?_
  refine lv_aload_n S.1 S.2.1 dW_448 rfl (lv_at hl 2 rfl) ?_
  refine lv_iload S.1 S.2.1 dW_449 (lv_at hl 1 rfl) ?_
  refine lv_iconst (v := 2) S.1 S.2.1 dW_451 (by decide) ?_
  refine lv_iadd S.1 S.2.1 dW_452 ?_
  refine pk_sld S hX hbl hW i2 hy2 dW_453 ?_
  refine lv_aload_n S.1 S.2.1 dW_454 rfl (lv_at hl 2 rfl) ?_
  refine lv_iload S.1 S.2.1 dW_455 (lv_at hl 1 rfl) ?_
  refine lv_iconst (v := 3) S.1 S.2.1 dW_457 (by decide) ?_
  refine lv_iadd S.1 S.2.1 dW_458 ?_
  refine pk_sld S hX hbl hW i3 hy3 dW_459 ?_
  refine pk_cVI (As := [.int x1, .int x2, .int x3]) (rest := []) S hK hST hW (c_X6_push hJ1 x1 x2 x3 hg) mc_X6_push wd_1295 wd_1296 wd_1297 rfl np_X6_push (hJ1.mem (by decide)) hJ1.this rfl rfl hl.1 rfl (Nat.le_of_ble_eq_true rfl) dW_460 ⟨Nat.le_of_ble_eq_true rfl, Nat.le_of_ble_eq_true rfl⟩ ⟨by show cells + 5 + 4 ≤ 697565; omega, by show slots + 30 + 132 ≤ 7003408; omega⟩ (fun r2 L2 F2 H2 l2 hp hW => ?_)
  obtain ⟨rfl, hJ2, hM2⟩ := hp
  have hI2 := hI1.keepM hM2
  have hO2 := hO1.keepM hM2
  refine lv_istore (lv' := [(6, .int res2.1), (5, .int r), (4, .int (nI (5 * x))), (0, .ref b), (1, .ref (A 0)), (2, .ref (B 0)), (3, .ref q)]) S.1 S.2.1 dW_463 hl (Nat.le_of_ble_eq_true rfl) rfl (fun ls hl => ?_)
  refine lv_goto (tgt := 2356) S.1 S.2.1 dW_465 (by decide) ?_
  refine W.widen (k := cells + 256) (n := slots + 8192) (by omega) (by omega) ?_
  exact T _ _ _ _ _ _ _ ⟨hW, hI2, hJ2, hO2, hV2⟩ (lv_sub hl [2, 3, 4, 5, 6] rfl)
set_option maxHeartbeats 4000000 in
set_option maxRecDepth 100000 in
theorem cs_3 {p : Program} {l : Launch} {e : Env} {s : State} {m : MethodId} {b : Nat} {below : List Frame} {meth : Method} {c : Code} {D : va_G} {κ : Nat → ClassId} {ζ : Nat → Nat} {A B : Nat → Nat} {q LL x : Nat} {xs : Nat → Int32} {cells slots : Nat} {H : Heap} {locs : List Loc} {L : List Nat} {F : Nat → va_E} {σ : CS} {τ : MS} {ls : Array Slot} (E : LWE p l e s m b below meth c D κ ζ LL xs) (hx : 5 * x + 5 ≤ LL) (hL : LL ≤ 2560) (hc : cells + 256 ≤ 697565) (hs : slots + 8192 ≤ 7003408) (T : TL p l e s m b below meth c D κ ζ A B q x (cells + 256) (slots + 8192)) (Z : LST D κ ζ A B q s H locs L F σ τ) (hl : lv_has ls 7 [(4, .int (nI (5 * x))), (0, .ref b), (1, .ref (A 0)), (2, .ref (B 0)), (3, .ref q)]) : W p l e room_1 s m #[Value.ref b] below meth c H locs cells slots (lw_Z below #[Value.ref b] s) (F0 m 468 ls []) := by
  obtain ⟨hst, S, hr, hlk, hN, hK, hST, hX, hbl⟩ := E
  obtain ⟨hW, hI, hJ, hO, hV⟩ := Z
  have i1 : vp_in (nI (5 * x) + 1) LL := sc_in (k := 1) hx hL (by decide)
  obtain ⟨x1, hy1⟩ : ∃ v, xs (nI (5 * x) + 1).toNatClampNeg = v := ⟨_, rfl⟩
  have i2 : vp_in (nI (5 * x) + 2) LL := sc_in (k := 2) hx hL (by decide)
  obtain ⟨x2, hy2⟩ : ∃ v, xs (nI (5 * x) + 2).toNatClampNeg = v := ⟨_, rfl⟩
  have i3 : vp_in (nI (5 * x) + 3) LL := sc_in (k := 3) hx hL (by decide)
  obtain ⟨x3, hy3⟩ : ∃ v, xs (nI (5 * x) + 3).toNatClampNeg = v := ⟨_, rfl⟩
  refine lv_aload_n S.1 S.2.1 dW_468 rfl (lv_at hl 2 rfl) ?_
  refine lv_aload_n S.1 S.2.1 dW_469 rfl (lv_at hl 1 rfl) ?_
  refine lv_iload S.1 S.2.1 dW_470 (lv_at hl 0 rfl) ?_
  refine lv_iconst (v := 1) S.1 S.2.1 dW_472 (by decide) ?_
  refine lv_iadd S.1 S.2.1 dW_473 ?_
  refine pk_sld S hX hbl hW i1 hy1 dW_474 ?_
  refine lv_aload_n S.1 S.2.1 dW_475 rfl (lv_at hl 1 rfl) ?_
  refine lv_iload S.1 S.2.1 dW_476 (lv_at hl 0 rfl) ?_
  refine lv_iconst (v := 2) S.1 S.2.1 dW_478 (by decide) ?_
  refine lv_iadd S.1 S.2.1 dW_479 ?_
  refine pk_sld S hX hbl hW i2 hy2 dW_480 ?_
  refine lv_aload_n S.1 S.2.1 dW_481 rfl (lv_at hl 1 rfl) ?_
  refine lv_iload S.1 S.2.1 dW_482 (lv_at hl 0 rfl) ?_
  refine lv_iconst (v := 3) S.1 S.2.1 dW_484 (by decide) ?_
  refine lv_iadd S.1 S.2.1 dW_485 ?_
  refine pk_sld S hX hbl hW i3 hy3 dW_486 ?_
  refine lv_aload_n S.1 S.2.1 dW_487 rfl (lv_at hl 4 rfl) ?_
  obtain ⟨res, res2, hf, hk, hg, hV2, hag⟩ := sx_append hV x1 x2 x3
  refine pk_cLI (As := [.ref (A 0), .int x1, .int x2, .int x3, .ref q]) (rest := []) S hK hST hW hN (c_L_append hst hI hO x1 x2 x3 hf hk) mw_L_append wd_479 wd_480 np_L_append rfl hl.1 rfl (Nat.le_of_ble_eq_true rfl) dW_488 ⟨Nat.le_of_ble_eq_true rfl, Nat.le_of_ble_eq_true rfl⟩ ⟨by show cells + 4 ≤ 697565; omega, by show slots + 24 ≤ 7003408; omega⟩ (fun r L1 F1 H1 l1 hp hW => ?_)
  obtain ⟨hs1, hI1, ⟨w0, w1, e_q1, ha1⟩, hf1⟩ := hp
  have hJ1 := hJ.keepC hI hO hs1 hf1 (noE hW hST)
  have hO1 : OUT q L1 F1 := ⟨hs1 _ hO.1, w0, w1, e_q1⟩
  refine lv_istore (lv' := [(5, .int r), (4, .int (nI (5 * x))), (0, .ref b), (1, .ref (A 0)), (2, .ref (B 0)), (3, .ref q)]) S.1 S.2.1 dW_491 hl (Nat.le_of_ble_eq_true rfl) rfl (fun ls hl => ?_)
  refine lv_aload_n S.1 S.2.1 dW_493 rfl (lv_at hl 4 rfl) ?_
  refine lv_aload_n S.1 S.2.1 dW_494 rfl (lv_at hl 2 rfl) ?_
  refine lv_iload S.1 S.2.1 dW_495 (lv_at hl 1 rfl) ?_
  refine lv_iconst (v := 1) S.1 S.2.1 dW_497 (by decide) ?_
  refine lv_iadd S.1 S.2.1 dW_498 ?_
  refine pk_sld S hX hbl hW i1 hy1 dW_499 ?_
  refine lv_aload_n S.1 S.2.1 dW_500 rfl (lv_at hl 2 rfl) ?_
  refine lv_iload S.1 S.2.1 dW_501 (lv_at hl 1 rfl) ?_
  refine lv_iconst (v := 2) S.1 S.2.1 dW_503 (by decide) ?_
  refine lv_iadd S.1 S.2.1 dW_504 ?_
  refine pk_sld S hX hbl hW i2 hy2 dW_505 ?_
  refine lv_aload_n S.1 S.2.1 dW_506 rfl (lv_at hl 2 rfl) ?_
  refine lv_iload S.1 S.2.1 dW_507 (lv_at hl 1 rfl) ?_
  refine lv_iconst (v := 3) S.1 S.2.1 dW_509 (by decide) ?_
  refine lv_iadd S.1 S.2.1 dW_510 ?_
  refine pk_sld S hX hbl hW i3 hy3 dW_511 ?_
  refine pk_cVI (As := [.int x1, .int x2, .int x3]) (rest := []) S hK hST hW (c_X6_append hJ1 x1 x2 x3 hg) mc_X6_append wd_1308 wd_1309 wd_1310 rfl np_X6_append (hJ1.mem (by decide)) hJ1.this rfl rfl hl.1 rfl (Nat.le_of_ble_eq_true rfl) dW_512 ⟨Nat.le_of_ble_eq_true rfl, Nat.le_of_ble_eq_true rfl⟩ ⟨by show cells + 4 + 4 ≤ 697565; omega, by show slots + 24 + 132 ≤ 7003408; omega⟩ (fun r2 L2 F2 H2 l2 hp hW => ?_)
  obtain ⟨rfl, hJ2, hM2⟩ := hp
  have hI2 := hI1.keepM hM2
  have hO2 := hO1.keepM hM2
  refine lv_istore (lv' := [(6, .int res2.1), (5, .int r), (4, .int (nI (5 * x))), (0, .ref b), (1, .ref (A 0)), (2, .ref (B 0)), (3, .ref q)]) S.1 S.2.1 dW_515 hl (Nat.le_of_ble_eq_true rfl) rfl (fun ls hl => ?_)
  refine lv_goto (tgt := 2356) S.1 S.2.1 dW_517 (by decide) ?_
  refine W.widen (k := cells + 256) (n := slots + 8192) (by omega) (by omega) ?_
  exact T _ _ _ _ _ _ _ ⟨hW, hI2, hJ2, hO2, hV2⟩ (lv_sub hl [2, 3, 4, 5, 6] rfl)
set_option maxHeartbeats 4000000 in
set_option maxRecDepth 100000 in
theorem cs_4 {p : Program} {l : Launch} {e : Env} {s : State} {m : MethodId} {b : Nat} {below : List Frame} {meth : Method} {c : Code} {D : va_G} {κ : Nat → ClassId} {ζ : Nat → Nat} {A B : Nat → Nat} {q LL x : Nat} {xs : Nat → Int32} {cells slots : Nat} {H : Heap} {locs : List Loc} {L : List Nat} {F : Nat → va_E} {σ : CS} {τ : MS} {ls : Array Slot} (E : LWE p l e s m b below meth c D κ ζ LL xs) (hx : 5 * x + 5 ≤ LL) (hL : LL ≤ 2560) (hc : cells + 256 ≤ 697565) (hs : slots + 8192 ≤ 7003408) (T : TL p l e s m b below meth c D κ ζ A B q x (cells + 256) (slots + 8192)) (Z : LST D κ ζ A B q s H locs L F σ τ) (hl : lv_has ls 7 [(4, .int (nI (5 * x))), (0, .ref b), (1, .ref (A 0)), (2, .ref (B 0)), (3, .ref q)]) : W p l e room_1 s m #[Value.ref b] below meth c H locs cells slots (lw_Z below #[Value.ref b] s) (F0 m 520 ls []) := by
  obtain ⟨hst, S, hr, hlk, hN, hK, hST, hX, hbl⟩ := E
  obtain ⟨hW, hI, hJ, hO, hV⟩ := Z
  have i1 : vp_in (nI (5 * x) + 1) LL := sc_in (k := 1) hx hL (by decide)
  obtain ⟨x1, hy1⟩ : ∃ v, xs (nI (5 * x) + 1).toNatClampNeg = v := ⟨_, rfl⟩
  have i2 : vp_in (nI (5 * x) + 2) LL := sc_in (k := 2) hx hL (by decide)
  obtain ⟨x2, hy2⟩ : ∃ v, xs (nI (5 * x) + 2).toNatClampNeg = v := ⟨_, rfl⟩
  have i3 : vp_in (nI (5 * x) + 3) LL := sc_in (k := 3) hx hL (by decide)
  obtain ⟨x3, hy3⟩ : ∃ v, xs (nI (5 * x) + 3).toNatClampNeg = v := ⟨_, rfl⟩
  have i4 : vp_in (nI (5 * x) + 4) LL := sc_in (k := 4) hx hL (by decide)
  obtain ⟨x4, hy4⟩ : ∃ v, xs (nI (5 * x) + 4).toNatClampNeg = v := ⟨_, rfl⟩
  refine lv_aload_n S.1 S.2.1 dW_520 rfl (lv_at hl 2 rfl) ?_
  refine lv_aload_n S.1 S.2.1 dW_521 rfl (lv_at hl 1 rfl) ?_
  refine lv_iload S.1 S.2.1 dW_522 (lv_at hl 0 rfl) ?_
  refine lv_iconst (v := 1) S.1 S.2.1 dW_524 (by decide) ?_
  refine lv_iadd S.1 S.2.1 dW_525 ?_
  refine pk_sld S hX hbl hW i1 hy1 dW_526 ?_
  refine lv_aload_n S.1 S.2.1 dW_527 rfl (lv_at hl 1 rfl) ?_
  refine lv_iload S.1 S.2.1 dW_528 (lv_at hl 0 rfl) ?_
  refine lv_iconst (v := 2) S.1 S.2.1 dW_530 (by decide) ?_
  refine lv_iadd S.1 S.2.1 dW_531 ?_
  refine pk_sld S hX hbl hW i2 hy2 dW_532 ?_
  refine lv_aload_n S.1 S.2.1 dW_533 rfl (lv_at hl 1 rfl) ?_
  refine lv_iload S.1 S.2.1 dW_534 (lv_at hl 0 rfl) ?_
  refine lv_iconst (v := 3) S.1 S.2.1 dW_536 (by decide) ?_
  refine lv_iadd S.1 S.2.1 dW_537 ?_
  refine pk_sld S hX hbl hW i3 hy3 dW_538 ?_
  refine lv_aload_n S.1 S.2.1 dW_539 rfl (lv_at hl 1 rfl) ?_
  refine lv_iload S.1 S.2.1 dW_540 (lv_at hl 0 rfl) ?_
  refine lv_iconst (v := 4) S.1 S.2.1 dW_542 (by decide) ?_
  refine lv_iadd S.1 S.2.1 dW_543 ?_
  refine pk_sld S hX hbl hW i4 hy4 dW_544 ?_
  refine lv_aload_n S.1 S.2.1 dW_545 rfl (lv_at hl 4 rfl) ?_
  obtain ⟨res, res2, hf, hk, hg, hV2, hag⟩ := sx_train hV x1 x2 x3 x4
  refine pk_cLI (As := [.ref (A 0), .int x1, .int x2, .int x3, .int x4, .ref q]) (rest := []) S hK hST hW hN (c_L_train hst hI hO x1 x2 x3 x4 hf hk) mw_L_train wd_485 wd_486 np_L_train rfl hl.1 rfl (Nat.le_of_ble_eq_true rfl) dW_546 ⟨Nat.le_of_ble_eq_true rfl, Nat.le_of_ble_eq_true rfl⟩ ⟨by show cells + 5 ≤ 697565; omega, by show slots + 30 ≤ 7003408; omega⟩ (fun r L1 F1 H1 l1 hp hW => ?_)
  obtain ⟨hs1, hI1, ⟨w0, w1, e_q1, ha1⟩, hf1⟩ := hp
  have hJ1 := hJ.keepC hI hO hs1 hf1 (noE hW hST)
  have hO1 : OUT q L1 F1 := ⟨hs1 _ hO.1, w0, w1, e_q1⟩
  refine lv_istore (lv' := [(5, .int r), (4, .int (nI (5 * x))), (0, .ref b), (1, .ref (A 0)), (2, .ref (B 0)), (3, .ref q)]) S.1 S.2.1 dW_549 hl (Nat.le_of_ble_eq_true rfl) rfl (fun ls hl => ?_)
  refine lv_aload_n S.1 S.2.1 dW_551 rfl (lv_at hl 4 rfl) ?_
  refine lv_aload_n S.1 S.2.1 dW_552 rfl (lv_at hl 2 rfl) ?_
  refine lv_iload S.1 S.2.1 dW_553 (lv_at hl 1 rfl) ?_
  refine lv_iconst (v := 1) S.1 S.2.1 dW_555 (by decide) ?_
  refine lv_iadd S.1 S.2.1 dW_556 ?_
  refine pk_sld S hX hbl hW i1 hy1 dW_557 ?_
  refine lv_aload_n S.1 S.2.1 dW_558 rfl (lv_at hl 2 rfl) ?_
  refine lv_iload S.1 S.2.1 dW_559 (lv_at hl 1 rfl) ?_
  refine lv_iconst (v := 2) S.1 S.2.1 dW_561 (by decide) ?_
  refine lv_iadd S.1 S.2.1 dW_562 ?_
  refine pk_sld S hX hbl hW i2 hy2 dW_563 ?_
  refine lv_aload_n S.1 S.2.1 dW_564 rfl (lv_at hl 2 rfl) ?_
  refine lv_iload S.1 S.2.1 dW_565 (lv_at hl 1 rfl) ?_
  refine lv_iconst (v := 3) S.1 S.2.1 dW_567 (by decide) ?_
  refine lv_iadd S.1 S.2.1 dW_568 ?_
  refine pk_sld S hX hbl hW i3 hy3 dW_569 ?_
  refine lv_aload_n S.1 S.2.1 dW_570 rfl (lv_at hl 2 rfl) ?_
  refine lv_iload S.1 S.2.1 dW_571 (lv_at hl 1 rfl) ?_
  refine lv_iconst (v := 4) S.1 S.2.1 dW_573 (by decide) ?_
  refine lv_iadd S.1 S.2.1 dW_574 ?_
  refine pk_sld S hX hbl hW i4 hy4 dW_575 ?_
  refine pk_cVI (As := [.int x1, .int x2, .int x3, .int x4]) (rest := []) S hK hST hW (c_X6_train hJ1 x1 x2 x3 x4 hg) mc_X6_train wd_1313 wd_1314 wd_1315 rfl np_X6_train (hJ1.mem (by decide)) hJ1.this rfl rfl hl.1 rfl (Nat.le_of_ble_eq_true rfl) dW_576 ⟨Nat.le_of_ble_eq_true rfl, Nat.le_of_ble_eq_true rfl⟩ ⟨by show cells + 5 + 96 ≤ 697565; omega, by show slots + 30 + 3168 ≤ 7003408; omega⟩ (fun r2 L2 F2 H2 l2 hp hW => ?_)
  obtain ⟨rfl, hJ2, hM2⟩ := hp
  have hI2 := hI1.keepM hM2
  have hO2 := hO1.keepM hM2
  refine lv_istore (lv' := [(6, .int res2.1), (5, .int r), (4, .int (nI (5 * x))), (0, .ref b), (1, .ref (A 0)), (2, .ref (B 0)), (3, .ref q)]) S.1 S.2.1 dW_579 hl (Nat.le_of_ble_eq_true rfl) rfl (fun ls hl => ?_)
  refine lv_goto (tgt := 2356) S.1 S.2.1 dW_581 (by decide) ?_
  refine W.widen (k := cells + 256) (n := slots + 8192) (by omega) (by omega) ?_
  exact T _ _ _ _ _ _ _ ⟨hW, hI2, hJ2, hO2, hV2⟩ (lv_sub hl [2, 3, 4, 5, 6] rfl)
set_option maxHeartbeats 4000000 in
set_option maxRecDepth 100000 in
theorem cs_5 {p : Program} {l : Launch} {e : Env} {s : State} {m : MethodId} {b : Nat} {below : List Frame} {meth : Method} {c : Code} {D : va_G} {κ : Nat → ClassId} {ζ : Nat → Nat} {A B : Nat → Nat} {q LL x : Nat} {xs : Nat → Int32} {cells slots : Nat} {H : Heap} {locs : List Loc} {L : List Nat} {F : Nat → va_E} {σ : CS} {τ : MS} {ls : Array Slot} (E : LWE p l e s m b below meth c D κ ζ LL xs) (hx : 5 * x + 5 ≤ LL) (hL : LL ≤ 2560) (hc : cells + 256 ≤ 697565) (hs : slots + 8192 ≤ 7003408) (T : TL p l e s m b below meth c D κ ζ A B q x (cells + 256) (slots + 8192)) (Z : LST D κ ζ A B q s H locs L F σ τ) (hl : lv_has ls 7 [(4, .int (nI (5 * x))), (0, .ref b), (1, .ref (A 0)), (2, .ref (B 0)), (3, .ref q)]) : W p l e room_1 s m #[Value.ref b] below meth c H locs cells slots (lw_Z below #[Value.ref b] s) (F0 m 584 ls []) := by
  obtain ⟨hst, S, hr, hlk, hN, hK, hST, hX, hbl⟩ := E
  obtain ⟨hW, hI, hJ, hO, hV⟩ := Z
  have i1 : vp_in (nI (5 * x) + 1) LL := sc_in (k := 1) hx hL (by decide)
  obtain ⟨x1, hy1⟩ : ∃ v, xs (nI (5 * x) + 1).toNatClampNeg = v := ⟨_, rfl⟩
  have i2 : vp_in (nI (5 * x) + 2) LL := sc_in (k := 2) hx hL (by decide)
  obtain ⟨x2, hy2⟩ : ∃ v, xs (nI (5 * x) + 2).toNatClampNeg = v := ⟨_, rfl⟩
  obtain ⟨y2, hz2⟩ : ∃ v, (if x2 = 0 then (0 : Int32) else 1) = v := ⟨_, rfl⟩
  have hq2 := nz01 hz2
  refine lv_aload_n S.1 S.2.1 dW_584 rfl (lv_at hl 2 rfl) ?_
  refine lv_aload_n S.1 S.2.1 dW_585 rfl (lv_at hl 1 rfl) ?_
  refine lv_iload S.1 S.2.1 dW_586 (lv_at hl 0 rfl) ?_
  refine lv_iconst (v := 1) S.1 S.2.1 dW_588 (by decide) ?_
  refine lv_iadd S.1 S.2.1 dW_589 ?_
  refine pk_sld S hX hbl hW i1 hy1 dW_590 ?_
  refine lv_aload_n S.1 S.2.1 dW_591 rfl (lv_at hl 1 rfl) ?_
  refine lv_iload S.1 S.2.1 dW_592 (lv_at hl 0 rfl) ?_
  refine lv_iconst (v := 2) S.1 S.2.1 dW_594 (by decide) ?_
  refine lv_iadd S.1 S.2.1 dW_595 ?_
  refine pk_sld S hX hbl hW i2 hy2 dW_596 ?_
  refine pk_nz S.1 S.2.1 hz2 dW_597 dW_600 dW_601 dW_604 ?_
  refine lv_aload_n S.1 S.2.1 dW_605 rfl (lv_at hl 4 rfl) ?_
  obtain ⟨res, res2, hf, hk, hg, hV2, hag⟩ := sx_take hV x1 y2 hq2
  refine pk_cLI (As := [.ref (A 0), .int x1, .int y2, .ref q]) (rest := []) S hK hST hW hN (c_L_take hst hI hO x1 y2 hf hk) mw_L_take wd_491 wd_492 np_L_take rfl hl.1 rfl (Nat.le_of_ble_eq_true rfl) dW_606 ⟨Nat.le_of_ble_eq_true rfl, Nat.le_of_ble_eq_true rfl⟩ ⟨by show cells + 1 ≤ 697565; omega, by show slots + 6 ≤ 7003408; omega⟩ (fun r L1 F1 H1 l1 hp hW => ?_)
  obtain ⟨hs1, hI1, ⟨w0, w1, e_q1, ha1⟩, hf1⟩ := hp
  have hJ1 := hJ.keepC hI hO hs1 hf1 (noE hW hST)
  have hO1 : OUT q L1 F1 := ⟨hs1 _ hO.1, w0, w1, e_q1⟩
  refine lv_istore (lv' := [(5, .int r), (4, .int (nI (5 * x))), (0, .ref b), (1, .ref (A 0)), (2, .ref (B 0)), (3, .ref q)]) S.1 S.2.1 dW_609 hl (Nat.le_of_ble_eq_true rfl) rfl (fun ls hl => ?_)
  refine lv_aload_n S.1 S.2.1 dW_611 rfl (lv_at hl 4 rfl) ?_
  refine lv_aload_n S.1 S.2.1 dW_612 rfl (lv_at hl 2 rfl) ?_
  refine lv_iload S.1 S.2.1 dW_613 (lv_at hl 1 rfl) ?_
  refine lv_iconst (v := 1) S.1 S.2.1 dW_615 (by decide) ?_
  refine lv_iadd S.1 S.2.1 dW_616 ?_
  refine pk_sld S hX hbl hW i1 hy1 dW_617 ?_
  refine lv_aload_n S.1 S.2.1 dW_618 rfl (lv_at hl 2 rfl) ?_
  refine lv_iload S.1 S.2.1 dW_619 (lv_at hl 1 rfl) ?_
  refine lv_iconst (v := 2) S.1 S.2.1 dW_621 (by decide) ?_
  refine lv_iadd S.1 S.2.1 dW_622 ?_
  refine pk_sld S hX hbl hW i2 hy2 dW_623 ?_
  refine pk_nz S.1 S.2.1 hz2 dW_624 dW_627 dW_628 dW_631 ?_
  refine pk_cVI (As := [.int x1, .int y2]) (rest := []) S hK hST hW (c_X6_take hJ1 x1 y2 hg) mc_X6_take wd_1317 wd_1318 wd_1319 rfl np_X6_take (hJ1.mem (by decide)) hJ1.this rfl rfl hl.1 rfl (Nat.le_of_ble_eq_true rfl) dW_632 ⟨Nat.le_of_ble_eq_true rfl, Nat.le_of_ble_eq_true rfl⟩ ⟨by show cells + 1 + 2 ≤ 697565; omega, by show slots + 6 + 66 ≤ 7003408; omega⟩ (fun r2 L2 F2 H2 l2 hp hW => ?_)
  obtain ⟨rfl, hJ2, hM2⟩ := hp
  have hI2 := hI1.keepM hM2
  have hO2 := hO1.keepM hM2
  refine lv_istore (lv' := [(6, .int res2.1), (5, .int r), (4, .int (nI (5 * x))), (0, .ref b), (1, .ref (A 0)), (2, .ref (B 0)), (3, .ref q)]) S.1 S.2.1 dW_635 hl (Nat.le_of_ble_eq_true rfl) rfl (fun ls hl => ?_)
  refine lv_goto (tgt := 2356) S.1 S.2.1 dW_637 (by decide) ?_
  refine W.widen (k := cells + 256) (n := slots + 8192) (by omega) (by omega) ?_
  exact T _ _ _ _ _ _ _ ⟨hW, hI2, hJ2, hO2, hV2⟩ (lv_sub hl [2, 3, 4, 5, 6] rfl)
set_option maxHeartbeats 4000000 in
set_option maxRecDepth 100000 in
theorem cs_6 {p : Program} {l : Launch} {e : Env} {s : State} {m : MethodId} {b : Nat} {below : List Frame} {meth : Method} {c : Code} {D : va_G} {κ : Nat → ClassId} {ζ : Nat → Nat} {A B : Nat → Nat} {q LL x : Nat} {xs : Nat → Int32} {cells slots : Nat} {H : Heap} {locs : List Loc} {L : List Nat} {F : Nat → va_E} {σ : CS} {τ : MS} {ls : Array Slot} (E : LWE p l e s m b below meth c D κ ζ LL xs) (hx : 5 * x + 5 ≤ LL) (hL : LL ≤ 2560) (hc : cells + 256 ≤ 697565) (hs : slots + 8192 ≤ 7003408) (T : TL p l e s m b below meth c D κ ζ A B q x (cells + 256) (slots + 8192)) (Z : LST D κ ζ A B q s H locs L F σ τ) (hl : lv_has ls 7 [(4, .int (nI (5 * x))), (0, .ref b), (1, .ref (A 0)), (2, .ref (B 0)), (3, .ref q)]) : W p l e room_1 s m #[Value.ref b] below meth c H locs cells slots (lw_Z below #[Value.ref b] s) (F0 m 640 ls []) := by
  obtain ⟨hst, S, hr, hlk, hN, hK, hST, hX, hbl⟩ := E
  obtain ⟨hW, hI, hJ, hO, hV⟩ := Z
  have i1 : vp_in (nI (5 * x) + 1) LL := sc_in (k := 1) hx hL (by decide)
  obtain ⟨x1, hy1⟩ : ∃ v, xs (nI (5 * x) + 1).toNatClampNeg = v := ⟨_, rfl⟩
  have i2 : vp_in (nI (5 * x) + 2) LL := sc_in (k := 2) hx hL (by decide)
  obtain ⟨x2, hy2⟩ : ∃ v, xs (nI (5 * x) + 2).toNatClampNeg = v := ⟨_, rfl⟩
  obtain ⟨y2, hz2⟩ : ∃ v, (if x2 = 0 then (0 : Int32) else 1) = v := ⟨_, rfl⟩
  have hq2 := nz01 hz2
  refine lv_aload_n S.1 S.2.1 dW_640 rfl (lv_at hl 2 rfl) ?_
  refine lv_aload_n S.1 S.2.1 dW_641 rfl (lv_at hl 1 rfl) ?_
  refine lv_iload S.1 S.2.1 dW_642 (lv_at hl 0 rfl) ?_
  refine lv_iconst (v := 1) S.1 S.2.1 dW_644 (by decide) ?_
  refine lv_iadd S.1 S.2.1 dW_645 ?_
  refine pk_sld S hX hbl hW i1 hy1 dW_646 ?_
  refine lv_aload_n S.1 S.2.1 dW_647 rfl (lv_at hl 1 rfl) ?_
  refine lv_iload S.1 S.2.1 dW_648 (lv_at hl 0 rfl) ?_
  refine lv_iconst (v := 2) S.1 S.2.1 dW_650 (by decide) ?_
  refine lv_iadd S.1 S.2.1 dW_651 ?_
  refine pk_sld S hX hbl hW i2 hy2 dW_652 ?_
  refine pk_nz S.1 S.2.1 hz2 dW_653 dW_656 dW_657 dW_660 ?_
  refine lv_aload_n S.1 S.2.1 dW_661 rfl (lv_at hl 4 rfl) ?_
  obtain ⟨res, res2, hf, hk, hg, hV2, hag⟩ := sx_poll hV x1 y2 hq2
  refine pk_cLI (As := [.ref (A 0), .int x1, .int y2, .ref q]) (rest := []) S hK hST hW hN (c_L_poll hst hI hO x1 y2 hf hk) mw_L_poll wd_505 wd_506 np_L_poll rfl hl.1 rfl (Nat.le_of_ble_eq_true rfl) dW_662 ⟨Nat.le_of_ble_eq_true rfl, Nat.le_of_ble_eq_true rfl⟩ ⟨by show cells + 1 ≤ 697565; omega, by show slots + 6 ≤ 7003408; omega⟩ (fun r L1 F1 H1 l1 hp hW => ?_)
  obtain ⟨hs1, hI1, ⟨w0, w1, e_q1, ha1⟩, hf1⟩ := hp
  have hJ1 := hJ.keepC hI hO hs1 hf1 (noE hW hST)
  have hO1 : OUT q L1 F1 := ⟨hs1 _ hO.1, w0, w1, e_q1⟩
  refine lv_istore (lv' := [(5, .int r), (4, .int (nI (5 * x))), (0, .ref b), (1, .ref (A 0)), (2, .ref (B 0)), (3, .ref q)]) S.1 S.2.1 dW_665 hl (Nat.le_of_ble_eq_true rfl) rfl (fun ls hl => ?_)
  refine lv_aload_n S.1 S.2.1 dW_667 rfl (lv_at hl 4 rfl) ?_
  refine lv_aload_n S.1 S.2.1 dW_668 rfl (lv_at hl 2 rfl) ?_
  refine lv_iload S.1 S.2.1 dW_669 (lv_at hl 1 rfl) ?_
  refine lv_iconst (v := 1) S.1 S.2.1 dW_671 (by decide) ?_
  refine lv_iadd S.1 S.2.1 dW_672 ?_
  refine pk_sld S hX hbl hW i1 hy1 dW_673 ?_
  refine lv_aload_n S.1 S.2.1 dW_674 rfl (lv_at hl 2 rfl) ?_
  refine lv_iload S.1 S.2.1 dW_675 (lv_at hl 1 rfl) ?_
  refine lv_iconst (v := 2) S.1 S.2.1 dW_677 (by decide) ?_
  refine lv_iadd S.1 S.2.1 dW_678 ?_
  refine pk_sld S hX hbl hW i2 hy2 dW_679 ?_
  refine pk_nz S.1 S.2.1 hz2 dW_680 dW_683 dW_684 dW_687 ?_
  refine pk_cVI (As := [.int x1, .int y2]) (rest := []) S hK hST hW (c_X6_poll hJ1 x1 y2 hg) mc_X6_poll wd_1333 wd_1334 wd_1335 rfl np_X6_poll (hJ1.mem (by decide)) hJ1.this rfl rfl hl.1 rfl (Nat.le_of_ble_eq_true rfl) dW_688 ⟨Nat.le_of_ble_eq_true rfl, Nat.le_of_ble_eq_true rfl⟩ ⟨by show cells + 1 + 2 ≤ 697565; omega, by show slots + 6 + 66 ≤ 7003408; omega⟩ (fun r2 L2 F2 H2 l2 hp hW => ?_)
  obtain ⟨rfl, hJ2, hM2⟩ := hp
  have hI2 := hI1.keepM hM2
  have hO2 := hO1.keepM hM2
  refine lv_istore (lv' := [(6, .int res2.1), (5, .int r), (4, .int (nI (5 * x))), (0, .ref b), (1, .ref (A 0)), (2, .ref (B 0)), (3, .ref q)]) S.1 S.2.1 dW_691 hl (Nat.le_of_ble_eq_true rfl) rfl (fun ls hl => ?_)
  refine lv_goto (tgt := 2356) S.1 S.2.1 dW_693 (by decide) ?_
  refine W.widen (k := cells + 256) (n := slots + 8192) (by omega) (by omega) ?_
  exact T _ _ _ _ _ _ _ ⟨hW, hI2, hJ2, hO2, hV2⟩ (lv_sub hl [2, 3, 4, 5, 6] rfl)
set_option maxHeartbeats 4000000 in
set_option maxRecDepth 100000 in
theorem cs_7 {p : Program} {l : Launch} {e : Env} {s : State} {m : MethodId} {b : Nat} {below : List Frame} {meth : Method} {c : Code} {D : va_G} {κ : Nat → ClassId} {ζ : Nat → Nat} {A B : Nat → Nat} {q LL x : Nat} {xs : Nat → Int32} {cells slots : Nat} {H : Heap} {locs : List Loc} {L : List Nat} {F : Nat → va_E} {σ : CS} {τ : MS} {ls : Array Slot} (E : LWE p l e s m b below meth c D κ ζ LL xs) (hx : 5 * x + 5 ≤ LL) (hL : LL ≤ 2560) (hc : cells + 256 ≤ 697565) (hs : slots + 8192 ≤ 7003408) (T : TL p l e s m b below meth c D κ ζ A B q x (cells + 256) (slots + 8192)) (Z : LST D κ ζ A B q s H locs L F σ τ) (hl : lv_has ls 7 [(4, .int (nI (5 * x))), (0, .ref b), (1, .ref (A 0)), (2, .ref (B 0)), (3, .ref q)]) : W p l e room_1 s m #[Value.ref b] below meth c H locs cells slots (lw_Z below #[Value.ref b] s) (F0 m 696 ls []) := by
  obtain ⟨hst, S, hr, hlk, hN, hK, hST, hX, hbl⟩ := E
  obtain ⟨hW, hI, hJ, hO, hV⟩ := Z
  have i1 : vp_in (nI (5 * x) + 1) LL := sc_in (k := 1) hx hL (by decide)
  obtain ⟨x1, hy1⟩ : ∃ v, xs (nI (5 * x) + 1).toNatClampNeg = v := ⟨_, rfl⟩
  refine lv_aload_n S.1 S.2.1 dW_696 rfl (lv_at hl 2 rfl) ?_
  refine lv_aload_n S.1 S.2.1 dW_697 rfl (lv_at hl 1 rfl) ?_
  refine lv_iload S.1 S.2.1 dW_698 (lv_at hl 0 rfl) ?_
  refine lv_iconst (v := 1) S.1 S.2.1 dW_700 (by decide) ?_
  refine lv_iadd S.1 S.2.1 dW_701 ?_
  refine pk_sld S hX hbl hW i1 hy1 dW_702 ?_
  refine lv_aload_n S.1 S.2.1 dW_703 rfl (lv_at hl 4 rfl) ?_
  obtain ⟨res, res2, hf, hk, hg, hV2, hag⟩ := sx_pop hV x1
  refine pk_cLI (As := [.ref (A 0), .int x1, .ref q]) (rest := []) S hK hST hW hN (c_L_pop hst hI hO x1 hf hk) mw_L_pop wd_511 wd_512 np_L_pop rfl hl.1 rfl (Nat.le_of_ble_eq_true rfl) dW_704 ⟨Nat.le_of_ble_eq_true rfl, Nat.le_of_ble_eq_true rfl⟩ ⟨by show cells + 1 ≤ 697565; omega, by show slots + 6 ≤ 7003408; omega⟩ (fun r L1 F1 H1 l1 hp hW => ?_)
  obtain ⟨hs1, hI1, ⟨w0, w1, e_q1, ha1⟩, hf1⟩ := hp
  have hJ1 := hJ.keepC hI hO hs1 hf1 (noE hW hST)
  have hO1 : OUT q L1 F1 := ⟨hs1 _ hO.1, w0, w1, e_q1⟩
  refine lv_istore (lv' := [(5, .int r), (4, .int (nI (5 * x))), (0, .ref b), (1, .ref (A 0)), (2, .ref (B 0)), (3, .ref q)]) S.1 S.2.1 dW_707 hl (Nat.le_of_ble_eq_true rfl) rfl (fun ls hl => ?_)
  refine lv_aload_n S.1 S.2.1 dW_709 rfl (lv_at hl 4 rfl) ?_
  refine lv_aload_n S.1 S.2.1 dW_710 rfl (lv_at hl 2 rfl) ?_
  refine lv_iload S.1 S.2.1 dW_711 (lv_at hl 1 rfl) ?_
  refine lv_iconst (v := 1) S.1 S.2.1 dW_713 (by decide) ?_
  refine lv_iadd S.1 S.2.1 dW_714 ?_
  refine pk_sld S hX hbl hW i1 hy1 dW_715 ?_
  refine pk_cVI (As := [.int x1]) (rest := []) S hK hST hW (c_X6_pop hJ1 x1 hg) mc_X6_pop wd_1337 wd_1338 wd_1339 rfl np_X6_pop (hJ1.mem (by decide)) hJ1.this rfl rfl hl.1 rfl (Nat.le_of_ble_eq_true rfl) dW_716 ⟨Nat.le_of_ble_eq_true rfl, Nat.le_of_ble_eq_true rfl⟩ ⟨by show cells + 1 + 2 ≤ 697565; omega, by show slots + 6 + 66 ≤ 7003408; omega⟩ (fun r2 L2 F2 H2 l2 hp hW => ?_)
  obtain ⟨rfl, hJ2, hM2⟩ := hp
  have hI2 := hI1.keepM hM2
  have hO2 := hO1.keepM hM2
  refine lv_istore (lv' := [(6, .int res2.1), (5, .int r), (4, .int (nI (5 * x))), (0, .ref b), (1, .ref (A 0)), (2, .ref (B 0)), (3, .ref q)]) S.1 S.2.1 dW_719 hl (Nat.le_of_ble_eq_true rfl) rfl (fun ls hl => ?_)
  refine lv_goto (tgt := 2356) S.1 S.2.1 dW_721 (by decide) ?_
  refine W.widen (k := cells + 256) (n := slots + 8192) (by omega) (by omega) ?_
  exact T _ _ _ _ _ _ _ ⟨hW, hI2, hJ2, hO2, hV2⟩ (lv_sub hl [2, 3, 4, 5, 6] rfl)
set_option maxHeartbeats 4000000 in
set_option maxRecDepth 100000 in
theorem cs_8 {p : Program} {l : Launch} {e : Env} {s : State} {m : MethodId} {b : Nat} {below : List Frame} {meth : Method} {c : Code} {D : va_G} {κ : Nat → ClassId} {ζ : Nat → Nat} {A B : Nat → Nat} {q LL x : Nat} {xs : Nat → Int32} {cells slots : Nat} {H : Heap} {locs : List Loc} {L : List Nat} {F : Nat → va_E} {σ : CS} {τ : MS} {ls : Array Slot} (E : LWE p l e s m b below meth c D κ ζ LL xs) (hx : 5 * x + 5 ≤ LL) (hL : LL ≤ 2560) (hc : cells + 256 ≤ 697565) (hs : slots + 8192 ≤ 7003408) (T : TL p l e s m b below meth c D κ ζ A B q x (cells + 256) (slots + 8192)) (Z : LST D κ ζ A B q s H locs L F σ τ) (hl : lv_has ls 7 [(4, .int (nI (5 * x))), (0, .ref b), (1, .ref (A 0)), (2, .ref (B 0)), (3, .ref q)]) : W p l e room_1 s m #[Value.ref b] below meth c H locs cells slots (lw_Z below #[Value.ref b] s) (F0 m 724 ls []) := by
  obtain ⟨hst, S, hr, hlk, hN, hK, hST, hX, hbl⟩ := E
  obtain ⟨hW, hI, hJ, hO, hV⟩ := Z
  have i1 : vp_in (nI (5 * x) + 1) LL := sc_in (k := 1) hx hL (by decide)
  obtain ⟨x1, hy1⟩ : ∃ v, xs (nI (5 * x) + 1).toNatClampNeg = v := ⟨_, rfl⟩
  have i2 : vp_in (nI (5 * x) + 2) LL := sc_in (k := 2) hx hL (by decide)
  obtain ⟨x2, hy2⟩ : ∃ v, xs (nI (5 * x) + 2).toNatClampNeg = v := ⟨_, rfl⟩
  obtain ⟨y2, hz2⟩ : ∃ v, (if x2 = 0 then (0 : Int32) else 1) = v := ⟨_, rfl⟩
  have hq2 := nz01 hz2
  refine lv_aload_n S.1 S.2.1 dW_724 rfl (lv_at hl 2 rfl) ?_
  refine lv_aload_n S.1 S.2.1 dW_725 rfl (lv_at hl 1 rfl) ?_
  refine lv_iload S.1 S.2.1 dW_726 (lv_at hl 0 rfl) ?_
  refine lv_iconst (v := 1) S.1 S.2.1 dW_728 (by decide) ?_
  refine lv_iadd S.1 S.2.1 dW_729 ?_
  refine pk_sld S hX hbl hW i1 hy1 dW_730 ?_
  refine lv_aload_n S.1 S.2.1 dW_731 rfl (lv_at hl 1 rfl) ?_
  refine lv_iload S.1 S.2.1 dW_732 (lv_at hl 0 rfl) ?_
  refine lv_iconst (v := 2) S.1 S.2.1 dW_734 (by decide) ?_
  refine lv_iadd S.1 S.2.1 dW_735 ?_
  refine pk_sld S hX hbl hW i2 hy2 dW_736 ?_
  refine pk_nz S.1 S.2.1 hz2 dW_737 dW_740 dW_741 dW_744 ?_
  refine lv_aload_n S.1 S.2.1 dW_745 rfl (lv_at hl 4 rfl) ?_
  obtain ⟨res, res2, hf, hk, hg, hV2, hag⟩ := sx_serve hV x1 y2 hq2
  refine pk_cLI (As := [.ref (A 0), .int x1, .int y2, .ref q]) (rest := []) S hK hST hW hN (c_L_serve hst hI hO x1 y2 hf hk) mw_L_serve wd_517 wd_518 np_L_serve rfl hl.1 rfl (Nat.le_of_ble_eq_true rfl) dW_746 ⟨Nat.le_of_ble_eq_true rfl, Nat.le_of_ble_eq_true rfl⟩ ⟨by show cells + 1 ≤ 697565; omega, by show slots + 6 ≤ 7003408; omega⟩ (fun r L1 F1 H1 l1 hp hW => ?_)
  obtain ⟨hs1, hI1, ⟨w0, w1, e_q1, ha1⟩, hf1⟩ := hp
  have hJ1 := hJ.keepC hI hO hs1 hf1 (noE hW hST)
  have hO1 : OUT q L1 F1 := ⟨hs1 _ hO.1, w0, w1, e_q1⟩
  refine lv_istore (lv' := [(5, .int r), (4, .int (nI (5 * x))), (0, .ref b), (1, .ref (A 0)), (2, .ref (B 0)), (3, .ref q)]) S.1 S.2.1 dW_749 hl (Nat.le_of_ble_eq_true rfl) rfl (fun ls hl => ?_)
  refine lv_aload_n S.1 S.2.1 dW_751 rfl (lv_at hl 4 rfl) ?_
  refine lv_aload_n S.1 S.2.1 dW_752 rfl (lv_at hl 2 rfl) ?_
  refine lv_iload S.1 S.2.1 dW_753 (lv_at hl 1 rfl) ?_
  refine lv_iconst (v := 1) S.1 S.2.1 dW_755 (by decide) ?_
  refine lv_iadd S.1 S.2.1 dW_756 ?_
  refine pk_sld S hX hbl hW i1 hy1 dW_757 ?_
  refine lv_aload_n S.1 S.2.1 dW_758 rfl (lv_at hl 2 rfl) ?_
  refine lv_iload S.1 S.2.1 dW_759 (lv_at hl 1 rfl) ?_
  refine lv_iconst (v := 2) S.1 S.2.1 dW_761 (by decide) ?_
  refine lv_iadd S.1 S.2.1 dW_762 ?_
  refine pk_sld S hX hbl hW i2 hy2 dW_763 ?_
  refine pk_nz S.1 S.2.1 hz2 dW_764 dW_767 dW_768 dW_771 ?_
  refine pk_cVI (As := [.int x1, .int y2]) (rest := []) S hK hST hW (c_X6_serve hJ1 x1 y2 hg) mc_X6_serve wd_1341 wd_1342 wd_1343 rfl np_X6_serve (hJ1.mem (by decide)) hJ1.this rfl rfl hl.1 rfl (Nat.le_of_ble_eq_true rfl) dW_772 ⟨Nat.le_of_ble_eq_true rfl, Nat.le_of_ble_eq_true rfl⟩ ⟨by show cells + 1 + 2 ≤ 697565; omega, by show slots + 6 + 66 ≤ 7003408; omega⟩ (fun r2 L2 F2 H2 l2 hp hW => ?_)
  obtain ⟨rfl, hJ2, hM2⟩ := hp
  have hI2 := hI1.keepM hM2
  have hO2 := hO1.keepM hM2
  refine lv_istore (lv' := [(6, .int res2.1), (5, .int r), (4, .int (nI (5 * x))), (0, .ref b), (1, .ref (A 0)), (2, .ref (B 0)), (3, .ref q)]) S.1 S.2.1 dW_775 hl (Nat.le_of_ble_eq_true rfl) rfl (fun ls hl => ?_)
  refine lv_goto (tgt := 2356) S.1 S.2.1 dW_777 (by decide) ?_
  refine W.widen (k := cells + 256) (n := slots + 8192) (by omega) (by omega) ?_
  exact T _ _ _ _ _ _ _ ⟨hW, hI2, hJ2, hO2, hV2⟩ (lv_sub hl [2, 3, 4, 5, 6] rfl)
set_option maxHeartbeats 4000000 in
set_option maxRecDepth 100000 in
theorem cs_9 {p : Program} {l : Launch} {e : Env} {s : State} {m : MethodId} {b : Nat} {below : List Frame} {meth : Method} {c : Code} {D : va_G} {κ : Nat → ClassId} {ζ : Nat → Nat} {A B : Nat → Nat} {q LL x : Nat} {xs : Nat → Int32} {cells slots : Nat} {H : Heap} {locs : List Loc} {L : List Nat} {F : Nat → va_E} {σ : CS} {τ : MS} {ls : Array Slot} (E : LWE p l e s m b below meth c D κ ζ LL xs) (hx : 5 * x + 5 ≤ LL) (hL : LL ≤ 2560) (hc : cells + 256 ≤ 697565) (hs : slots + 8192 ≤ 7003408) (T : TL p l e s m b below meth c D κ ζ A B q x (cells + 256) (slots + 8192)) (Z : LST D κ ζ A B q s H locs L F σ τ) (hl : lv_has ls 7 [(4, .int (nI (5 * x))), (0, .ref b), (1, .ref (A 0)), (2, .ref (B 0)), (3, .ref q)]) : W p l e room_1 s m #[Value.ref b] below meth c H locs cells slots (lw_Z below #[Value.ref b] s) (F0 m 780 ls []) := by
  obtain ⟨hst, S, hr, hlk, hN, hK, hST, hX, hbl⟩ := E
  obtain ⟨hW, hI, hJ, hO, hV⟩ := Z
  have i1 : vp_in (nI (5 * x) + 1) LL := sc_in (k := 1) hx hL (by decide)
  obtain ⟨x1, hy1⟩ : ∃ v, xs (nI (5 * x) + 1).toNatClampNeg = v := ⟨_, rfl⟩
  have i2 : vp_in (nI (5 * x) + 2) LL := sc_in (k := 2) hx hL (by decide)
  obtain ⟨x2, hy2⟩ : ∃ v, xs (nI (5 * x) + 2).toNatClampNeg = v := ⟨_, rfl⟩
  refine lv_aload_n S.1 S.2.1 dW_780 rfl (lv_at hl 2 rfl) ?_
  refine lv_aload_n S.1 S.2.1 dW_781 rfl (lv_at hl 1 rfl) ?_
  refine lv_iload S.1 S.2.1 dW_782 (lv_at hl 0 rfl) ?_
  refine lv_iconst (v := 1) S.1 S.2.1 dW_784 (by decide) ?_
  refine lv_iadd S.1 S.2.1 dW_785 ?_
  refine pk_sld S hX hbl hW i1 hy1 dW_786 ?_
  refine lv_aload_n S.1 S.2.1 dW_787 rfl (lv_at hl 1 rfl) ?_
  refine lv_iload S.1 S.2.1 dW_788 (lv_at hl 0 rfl) ?_
  refine lv_iconst (v := 2) S.1 S.2.1 dW_790 (by decide) ?_
  refine lv_iadd S.1 S.2.1 dW_791 ?_
  refine pk_sld S hX hbl hW i2 hy2 dW_792 ?_
  refine lv_aload_n S.1 S.2.1 dW_793 rfl (lv_at hl 4 rfl) ?_
  obtain ⟨res, res2, hf, hk, hg, hV2, hag⟩ := sx_rotate hV x1 x2
  refine pk_cLI (As := [.ref (A 0), .int x1, .int x2, .ref q]) (rest := []) S hK hST hW hN (c_L_rotate hst hI hO x1 x2 hf hk) mw_L_rotate wd_523 wd_524 np_L_rotate rfl hl.1 rfl (Nat.le_of_ble_eq_true rfl) dW_794 ⟨Nat.le_of_ble_eq_true rfl, Nat.le_of_ble_eq_true rfl⟩ ⟨by show cells + 2 ≤ 697565; omega, by show slots + 12 ≤ 7003408; omega⟩ (fun r L1 F1 H1 l1 hp hW => ?_)
  obtain ⟨hs1, hI1, ⟨w0, w1, e_q1, ha1⟩, hf1⟩ := hp
  have hJ1 := hJ.keepC hI hO hs1 hf1 (noE hW hST)
  have hO1 : OUT q L1 F1 := ⟨hs1 _ hO.1, w0, w1, e_q1⟩
  refine lv_istore (lv' := [(5, .int r), (4, .int (nI (5 * x))), (0, .ref b), (1, .ref (A 0)), (2, .ref (B 0)), (3, .ref q)]) S.1 S.2.1 dW_797 hl (Nat.le_of_ble_eq_true rfl) rfl (fun ls hl => ?_)
  refine lv_aload_n S.1 S.2.1 dW_799 rfl (lv_at hl 4 rfl) ?_
  refine lv_aload_n S.1 S.2.1 dW_800 rfl (lv_at hl 2 rfl) ?_
  refine lv_iload S.1 S.2.1 dW_801 (lv_at hl 1 rfl) ?_
  refine lv_iconst (v := 1) S.1 S.2.1 dW_803 (by decide) ?_
  refine lv_iadd S.1 S.2.1 dW_804 ?_
  refine pk_sld S hX hbl hW i1 hy1 dW_805 ?_
  refine lv_aload_n S.1 S.2.1 dW_806 rfl (lv_at hl 2 rfl) ?_
  refine lv_iload S.1 S.2.1 dW_807 (lv_at hl 1 rfl) ?_
  refine lv_iconst (v := 2) S.1 S.2.1 dW_809 (by decide) ?_
  refine lv_iadd S.1 S.2.1 dW_810 ?_
  refine pk_sld S hX hbl hW i2 hy2 dW_811 ?_
  refine pk_cVI (As := [.int x1, .int x2]) (rest := []) S hK hST hW (c_X6_rotate hJ1 x1 x2 hg) mc_X6_rotate wd_1345 wd_1346 wd_1347 rfl np_X6_rotate (hJ1.mem (by decide)) hJ1.this rfl rfl hl.1 rfl (Nat.le_of_ble_eq_true rfl) dW_812 ⟨Nat.le_of_ble_eq_true rfl, Nat.le_of_ble_eq_true rfl⟩ ⟨by show cells + 2 + 144 ≤ 697565; omega, by show slots + 12 + 4752 ≤ 7003408; omega⟩ (fun r2 L2 F2 H2 l2 hp hW => ?_)
  obtain ⟨rfl, hJ2, hM2⟩ := hp
  have hI2 := hI1.keepM hM2
  have hO2 := hO1.keepM hM2
  refine lv_istore (lv' := [(6, .int res2.1), (5, .int r), (4, .int (nI (5 * x))), (0, .ref b), (1, .ref (A 0)), (2, .ref (B 0)), (3, .ref q)]) S.1 S.2.1 dW_815 hl (Nat.le_of_ble_eq_true rfl) rfl (fun ls hl => ?_)
  refine lv_goto (tgt := 2356) S.1 S.2.1 dW_817 (by decide) ?_
  refine W.widen (k := cells + 256) (n := slots + 8192) (by omega) (by omega) ?_
  exact T _ _ _ _ _ _ _ ⟨hW, hI2, hJ2, hO2, hV2⟩ (lv_sub hl [2, 3, 4, 5, 6] rfl)
set_option maxHeartbeats 4000000 in
set_option maxRecDepth 100000 in
theorem cs_10 {p : Program} {l : Launch} {e : Env} {s : State} {m : MethodId} {b : Nat} {below : List Frame} {meth : Method} {c : Code} {D : va_G} {κ : Nat → ClassId} {ζ : Nat → Nat} {A B : Nat → Nat} {q LL x : Nat} {xs : Nat → Int32} {cells slots : Nat} {H : Heap} {locs : List Loc} {L : List Nat} {F : Nat → va_E} {σ : CS} {τ : MS} {ls : Array Slot} (E : LWE p l e s m b below meth c D κ ζ LL xs) (hx : 5 * x + 5 ≤ LL) (hL : LL ≤ 2560) (hc : cells + 256 ≤ 697565) (hs : slots + 8192 ≤ 7003408) (T : TL p l e s m b below meth c D κ ζ A B q x (cells + 256) (slots + 8192)) (Z : LST D κ ζ A B q s H locs L F σ τ) (hl : lv_has ls 7 [(4, .int (nI (5 * x))), (0, .ref b), (1, .ref (A 0)), (2, .ref (B 0)), (3, .ref q)]) : W p l e room_1 s m #[Value.ref b] below meth c H locs cells slots (lw_Z below #[Value.ref b] s) (F0 m 820 ls []) := by
  obtain ⟨hst, S, hr, hlk, hN, hK, hST, hX, hbl⟩ := E
  obtain ⟨hW, hI, hJ, hO, hV⟩ := Z
  refine lv_aload_n S.1 S.2.1 dW_820 rfl (lv_at hl 2 rfl) ?_
  obtain ⟨res, res2, hf, hg, hV2, hag⟩ := sx_undo hV 
  refine pk_cVI (As := []) (rest := []) S hK hST hW (c_X3_undo hI  hf) mc_X3_undo wd_103 wd_104 wd_105 rfl np_X3_undo (hI.mem 0 (by decide)) hI.this rfl rfl hl.1 rfl (Nat.le_of_ble_eq_true rfl) dW_821 ⟨Nat.le_of_ble_eq_true rfl, Nat.le_of_ble_eq_true rfl⟩ ⟨by show cells + 0 ≤ 697565; omega, by show slots + 0 ≤ 7003408; omega⟩ (fun r L1 F1 H1 l1 hp hW => ?_)
  obtain ⟨rfl, rfl, hI1, hf1⟩ := hp
  have hJ1 := hJ.keepC hI hO (fun _ h => h) (fun x _ h _ => hf1 x h) (noE hW hST)
  have hO1 := hO.keepA hI hf1
  refine lv_pop S.1 S.2.1 dW_824 rfl ?_
  refine lv_aload_n S.1 S.2.1 dW_825 rfl (lv_at hl 3 rfl) ?_
  refine pk_cVI (As := []) (rest := []) S hK hST hW (c_X6_undo hJ1  hg) mc_X6_undo wd_1350 wd_1351 wd_1352 rfl np_X6_undo (hJ1.mem (by decide)) hJ1.this rfl rfl hl.1 rfl (Nat.le_of_ble_eq_true rfl) dW_826 ⟨Nat.le_of_ble_eq_true rfl, Nat.le_of_ble_eq_true rfl⟩ ⟨by show cells + 0 + 2 ≤ 697565; omega, by show slots + 0 + 66 ≤ 7003408; omega⟩ (fun r2 L2 F2 H2 l2 hp hW => ?_)
  obtain ⟨rfl, hJ2, hM2⟩ := hp
  have hI2 := hI1.keepM hM2
  have hO2 := hO1.keepM hM2
  refine lv_pop S.1 S.2.1 dW_829 rfl ?_
  refine lv_goto (tgt := 2356) S.1 S.2.1 dW_830 (by decide) ?_
  refine W.widen (k := cells + 256) (n := slots + 8192) (by omega) (by omega) ?_
  exact T _ _ _ _ _ _ _ ⟨hW, hI2, hJ2, hO2, hV2⟩ (lv_sub hl [0, 1, 2, 3, 4] rfl)
set_option maxHeartbeats 4000000 in
set_option maxRecDepth 100000 in
theorem cs_11 {p : Program} {l : Launch} {e : Env} {s : State} {m : MethodId} {b : Nat} {below : List Frame} {meth : Method} {c : Code} {D : va_G} {κ : Nat → ClassId} {ζ : Nat → Nat} {A B : Nat → Nat} {q LL x : Nat} {xs : Nat → Int32} {cells slots : Nat} {H : Heap} {locs : List Loc} {L : List Nat} {F : Nat → va_E} {σ : CS} {τ : MS} {ls : Array Slot} (E : LWE p l e s m b below meth c D κ ζ LL xs) (hx : 5 * x + 5 ≤ LL) (hL : LL ≤ 2560) (hc : cells + 256 ≤ 697565) (hs : slots + 8192 ≤ 7003408) (T : TL p l e s m b below meth c D κ ζ A B q x (cells + 256) (slots + 8192)) (Z : LST D κ ζ A B q s H locs L F σ τ) (hl : lv_has ls 7 [(4, .int (nI (5 * x))), (0, .ref b), (1, .ref (A 0)), (2, .ref (B 0)), (3, .ref q)]) : W p l e room_1 s m #[Value.ref b] below meth c H locs cells slots (lw_Z below #[Value.ref b] s) (F0 m 833 ls []) := by
  obtain ⟨hst, S, hr, hlk, hN, hK, hST, hX, hbl⟩ := E
  obtain ⟨hW, hI, hJ, hO, hV⟩ := Z
  have i1 : vp_in (nI (5 * x) + 1) LL := sc_in (k := 1) hx hL (by decide)
  obtain ⟨x1, hy1⟩ : ∃ v, xs (nI (5 * x) + 1).toNatClampNeg = v := ⟨_, rfl⟩
  have i2 : vp_in (nI (5 * x) + 2) LL := sc_in (k := 2) hx hL (by decide)
  obtain ⟨x2, hy2⟩ : ∃ v, xs (nI (5 * x) + 2).toNatClampNeg = v := ⟨_, rfl⟩
  have i3 : vp_in (nI (5 * x) + 3) LL := sc_in (k := 3) hx hL (by decide)
  obtain ⟨x3, hy3⟩ : ∃ v, xs (nI (5 * x) + 3).toNatClampNeg = v := ⟨_, rfl⟩
  obtain ⟨y3, hz3⟩ : ∃ v, (if x3 = 0 then (0 : Int32) else 1) = v := ⟨_, rfl⟩
  have hq3 := nz01 hz3
  refine lv_aload_n S.1 S.2.1 dW_833 rfl (lv_at hl 2 rfl) ?_
  refine lv_aload_n S.1 S.2.1 dW_834 rfl (lv_at hl 1 rfl) ?_
  refine lv_iload S.1 S.2.1 dW_835 (lv_at hl 0 rfl) ?_
  refine lv_iconst (v := 1) S.1 S.2.1 dW_837 (by decide) ?_
  refine lv_iadd S.1 S.2.1 dW_838 ?_
  refine pk_sld S hX hbl hW i1 hy1 dW_839 ?_
  refine lv_aload_n S.1 S.2.1 dW_840 rfl (lv_at hl 1 rfl) ?_
  refine lv_iload S.1 S.2.1 dW_841 (lv_at hl 0 rfl) ?_
  refine lv_iconst (v := 2) S.1 S.2.1 dW_843 (by decide) ?_
  refine lv_iadd S.1 S.2.1 dW_844 ?_
  refine pk_sld S hX hbl hW i2 hy2 dW_845 ?_
  refine lv_aload_n S.1 S.2.1 dW_846 rfl (lv_at hl 1 rfl) ?_
  refine lv_iload S.1 S.2.1 dW_847 (lv_at hl 0 rfl) ?_
  refine lv_iconst (v := 3) S.1 S.2.1 dW_849 (by decide) ?_
  refine lv_iadd S.1 S.2.1 dW_850 ?_
  refine pk_sld S hX hbl hW i3 hy3 dW_851 ?_
  refine pk_nz S.1 S.2.1 hz3 dW_852 dW_855 dW_856 dW_859 ?_
  refine lv_aload_n S.1 S.2.1 dW_860 rfl (lv_at hl 4 rfl) ?_
  obtain ⟨res, res2, hf, hk, hg, hV2, hag⟩ := sx_drop hV x1 x2 y3 hq3
  refine pk_cLI (As := [.ref (A 0), .int x1, .int x2, .int y3, .ref q]) (rest := []) S hK hST hW hN (c_L_drop hst hI hO x1 x2 y3 hf hk) mw_L_drop wd_532 wd_533 np_L_drop rfl hl.1 rfl (Nat.le_of_ble_eq_true rfl) dW_861 ⟨Nat.le_of_ble_eq_true rfl, Nat.le_of_ble_eq_true rfl⟩ ⟨by show cells + 2 ≤ 697565; omega, by show slots + 12 ≤ 7003408; omega⟩ (fun r L1 F1 H1 l1 hp hW => ?_)
  obtain ⟨hs1, hI1, ⟨w0, w1, e_q1, ha1⟩, hf1⟩ := hp
  have hJ1 := hJ.keepC hI hO hs1 hf1 (noE hW hST)
  have hO1 : OUT q L1 F1 := ⟨hs1 _ hO.1, w0, w1, e_q1⟩
  refine lv_istore (lv' := [(5, .int r), (4, .int (nI (5 * x))), (0, .ref b), (1, .ref (A 0)), (2, .ref (B 0)), (3, .ref q)]) S.1 S.2.1 dW_864 hl (Nat.le_of_ble_eq_true rfl) rfl (fun ls hl => ?_)
  refine lv_aload_n S.1 S.2.1 dW_866 rfl (lv_at hl 4 rfl) ?_
  refine lv_aload_n S.1 S.2.1 dW_867 rfl (lv_at hl 2 rfl) ?_
  refine lv_iload S.1 S.2.1 dW_868 (lv_at hl 1 rfl) ?_
  refine lv_iconst (v := 1) S.1 S.2.1 dW_870 (by decide) ?_
  refine lv_iadd S.1 S.2.1 dW_871 ?_
  refine pk_sld S hX hbl hW i1 hy1 dW_872 ?_
  refine lv_aload_n S.1 S.2.1 dW_873 rfl (lv_at hl 2 rfl) ?_
  refine lv_iload S.1 S.2.1 dW_874 (lv_at hl 1 rfl) ?_
  refine lv_iconst (v := 2) S.1 S.2.1 dW_876 (by decide) ?_
  refine lv_iadd S.1 S.2.1 dW_877 ?_
  refine pk_sld S hX hbl hW i2 hy2 dW_878 ?_
  refine lv_aload_n S.1 S.2.1 dW_879 rfl (lv_at hl 2 rfl) ?_
  refine lv_iload S.1 S.2.1 dW_880 (lv_at hl 1 rfl) ?_
  refine lv_iconst (v := 3) S.1 S.2.1 dW_882 (by decide) ?_
  refine lv_iadd S.1 S.2.1 dW_883 ?_
  refine pk_sld S hX hbl hW i3 hy3 dW_884 ?_
  refine pk_nz S.1 S.2.1 hz3 dW_885 dW_888 dW_889 dW_892 ?_
  refine pk_cVI (As := [.int x1, .int x2, .int y3]) (rest := []) S hK hST hW (c_X6_drop hJ1 x1 x2 y3 hg) mc_X6_drop wd_1358 wd_1359 wd_1360 rfl np_X6_drop (hJ1.mem (by decide)) hJ1.this rfl rfl hl.1 rfl (Nat.le_of_ble_eq_true rfl) dW_893 ⟨Nat.le_of_ble_eq_true rfl, Nat.le_of_ble_eq_true rfl⟩ ⟨by show cells + 2 + 0 ≤ 697565; omega, by show slots + 12 + 0 ≤ 7003408; omega⟩ (fun r2 L2 F2 H2 l2 hp hW => ?_)
  obtain ⟨rfl, hJ2, hM2⟩ := hp
  have hI2 := hI1.keepM hM2
  have hO2 := hO1.keepM hM2
  refine lv_istore (lv' := [(6, .int res2.1), (5, .int r), (4, .int (nI (5 * x))), (0, .ref b), (1, .ref (A 0)), (2, .ref (B 0)), (3, .ref q)]) S.1 S.2.1 dW_896 hl (Nat.le_of_ble_eq_true rfl) rfl (fun ls hl => ?_)
  refine lv_goto (tgt := 2356) S.1 S.2.1 dW_898 (by decide) ?_
  refine W.widen (k := cells + 256) (n := slots + 8192) (by omega) (by omega) ?_
  exact T _ _ _ _ _ _ _ ⟨hW, hI2, hJ2, hO2, hV2⟩ (lv_sub hl [2, 3, 4, 5, 6] rfl)
set_option maxHeartbeats 4000000 in
set_option maxRecDepth 100000 in
theorem cs_12 {p : Program} {l : Launch} {e : Env} {s : State} {m : MethodId} {b : Nat} {below : List Frame} {meth : Method} {c : Code} {D : va_G} {κ : Nat → ClassId} {ζ : Nat → Nat} {A B : Nat → Nat} {q LL x : Nat} {xs : Nat → Int32} {cells slots : Nat} {H : Heap} {locs : List Loc} {L : List Nat} {F : Nat → va_E} {σ : CS} {τ : MS} {ls : Array Slot} (E : LWE p l e s m b below meth c D κ ζ LL xs) (hx : 5 * x + 5 ≤ LL) (hL : LL ≤ 2560) (hc : cells + 256 ≤ 697565) (hs : slots + 8192 ≤ 7003408) (T : TL p l e s m b below meth c D κ ζ A B q x (cells + 256) (slots + 8192)) (Z : LST D κ ζ A B q s H locs L F σ τ) (hl : lv_has ls 7 [(4, .int (nI (5 * x))), (0, .ref b), (1, .ref (A 0)), (2, .ref (B 0)), (3, .ref q)]) : W p l e room_1 s m #[Value.ref b] below meth c H locs cells slots (lw_Z below #[Value.ref b] s) (F0 m 901 ls []) := by
  obtain ⟨hst, S, hr, hlk, hN, hK, hST, hX, hbl⟩ := E
  obtain ⟨hW, hI, hJ, hO, hV⟩ := Z
  have i1 : vp_in (nI (5 * x) + 1) LL := sc_in (k := 1) hx hL (by decide)
  obtain ⟨x1, hy1⟩ : ∃ v, xs (nI (5 * x) + 1).toNatClampNeg = v := ⟨_, rfl⟩
  have i2 : vp_in (nI (5 * x) + 2) LL := sc_in (k := 2) hx hL (by decide)
  obtain ⟨x2, hy2⟩ : ∃ v, xs (nI (5 * x) + 2).toNatClampNeg = v := ⟨_, rfl⟩
  refine lv_aload_n S.1 S.2.1 dW_901 rfl (lv_at hl 2 rfl) ?_
  refine lv_aload_n S.1 S.2.1 dW_902 rfl (lv_at hl 1 rfl) ?_
  refine lv_iload S.1 S.2.1 dW_903 (lv_at hl 0 rfl) ?_
  refine lv_iconst (v := 1) S.1 S.2.1 dW_905 (by decide) ?_
  refine lv_iadd S.1 S.2.1 dW_906 ?_
  refine pk_sld S hX hbl hW i1 hy1 dW_907 ?_
  refine lv_aload_n S.1 S.2.1 dW_908 rfl (lv_at hl 1 rfl) ?_
  refine lv_iload S.1 S.2.1 dW_909 (lv_at hl 0 rfl) ?_
  refine lv_iconst (v := 2) S.1 S.2.1 dW_911 (by decide) ?_
  refine lv_iadd S.1 S.2.1 dW_912 ?_
  refine pk_sld S hX hbl hW i2 hy2 dW_913 ?_
  refine lv_aload_n S.1 S.2.1 dW_914 rfl (lv_at hl 4 rfl) ?_
  obtain ⟨res, res2, hf, hk, hg, hV2, hag⟩ := sx_dropAll hV x1 x2
  refine pk_cLI (As := [.ref (A 0), .int x1, .int x2, .ref q]) (rest := []) S hK hST hW hN (c_L_dropAll hst hI hO x1 x2 hf hk) mw_L_dropAll wd_541 wd_542 np_L_dropAll rfl hl.1 rfl (Nat.le_of_ble_eq_true rfl) dW_915 ⟨Nat.le_of_ble_eq_true rfl, Nat.le_of_ble_eq_true rfl⟩ ⟨by show cells + 2 ≤ 697565; omega, by show slots + 12 ≤ 7003408; omega⟩ (fun r L1 F1 H1 l1 hp hW => ?_)
  obtain ⟨hs1, hI1, ⟨w0, w1, e_q1, ha1⟩, hf1⟩ := hp
  have hJ1 := hJ.keepC hI hO hs1 hf1 (noE hW hST)
  have hO1 : OUT q L1 F1 := ⟨hs1 _ hO.1, w0, w1, e_q1⟩
  refine lv_istore (lv' := [(5, .int r), (4, .int (nI (5 * x))), (0, .ref b), (1, .ref (A 0)), (2, .ref (B 0)), (3, .ref q)]) S.1 S.2.1 dW_918 hl (Nat.le_of_ble_eq_true rfl) rfl (fun ls hl => ?_)
  refine lv_aload_n S.1 S.2.1 dW_920 rfl (lv_at hl 4 rfl) ?_
  refine lv_aload_n S.1 S.2.1 dW_921 rfl (lv_at hl 2 rfl) ?_
  refine lv_iload S.1 S.2.1 dW_922 (lv_at hl 1 rfl) ?_
  refine lv_iconst (v := 1) S.1 S.2.1 dW_924 (by decide) ?_
  refine lv_iadd S.1 S.2.1 dW_925 ?_
  refine pk_sld S hX hbl hW i1 hy1 dW_926 ?_
  refine lv_aload_n S.1 S.2.1 dW_927 rfl (lv_at hl 2 rfl) ?_
  refine lv_iload S.1 S.2.1 dW_928 (lv_at hl 1 rfl) ?_
  refine lv_iconst (v := 2) S.1 S.2.1 dW_930 (by decide) ?_
  refine lv_iadd S.1 S.2.1 dW_931 ?_
  refine pk_sld S hX hbl hW i2 hy2 dW_932 ?_
  refine pk_cVI (As := [.int x1, .int x2]) (rest := []) S hK hST hW (c_X6_dropAll hJ1 x1 x2 hg) mc_X6_dropAll wd_1381 wd_1382 wd_1383 rfl np_X6_dropAll (hJ1.mem (by decide)) hJ1.this rfl rfl hl.1 rfl (Nat.le_of_ble_eq_true rfl) dW_933 ⟨Nat.le_of_ble_eq_true rfl, Nat.le_of_ble_eq_true rfl⟩ ⟨by show cells + 2 + 1 ≤ 697565; omega, by show slots + 12 + 33 ≤ 7003408; omega⟩ (fun r2 L2 F2 H2 l2 hp hW => ?_)
  obtain ⟨rfl, hJ2, hM2⟩ := hp
  have hI2 := hI1.keepM hM2
  have hO2 := hO1.keepM hM2
  refine lv_istore (lv' := [(6, .int res2.1), (5, .int r), (4, .int (nI (5 * x))), (0, .ref b), (1, .ref (A 0)), (2, .ref (B 0)), (3, .ref q)]) S.1 S.2.1 dW_936 hl (Nat.le_of_ble_eq_true rfl) rfl (fun ls hl => ?_)
  refine lv_goto (tgt := 2356) S.1 S.2.1 dW_938 (by decide) ?_
  refine W.widen (k := cells + 256) (n := slots + 8192) (by omega) (by omega) ?_
  exact T _ _ _ _ _ _ _ ⟨hW, hI2, hJ2, hO2, hV2⟩ (lv_sub hl [2, 3, 4, 5, 6] rfl)
set_option maxHeartbeats 4000000 in
set_option maxRecDepth 100000 in
theorem cs_13 {p : Program} {l : Launch} {e : Env} {s : State} {m : MethodId} {b : Nat} {below : List Frame} {meth : Method} {c : Code} {D : va_G} {κ : Nat → ClassId} {ζ : Nat → Nat} {A B : Nat → Nat} {q LL x : Nat} {xs : Nat → Int32} {cells slots : Nat} {H : Heap} {locs : List Loc} {L : List Nat} {F : Nat → va_E} {σ : CS} {τ : MS} {ls : Array Slot} (E : LWE p l e s m b below meth c D κ ζ LL xs) (hx : 5 * x + 5 ≤ LL) (hL : LL ≤ 2560) (hc : cells + 256 ≤ 697565) (hs : slots + 8192 ≤ 7003408) (T : TL p l e s m b below meth c D κ ζ A B q x (cells + 256) (slots + 8192)) (Z : LST D κ ζ A B q s H locs L F σ τ) (hl : lv_has ls 7 [(4, .int (nI (5 * x))), (0, .ref b), (1, .ref (A 0)), (2, .ref (B 0)), (3, .ref q)]) : W p l e room_1 s m #[Value.ref b] below meth c H locs cells slots (lw_Z below #[Value.ref b] s) (F0 m 941 ls []) := by
  obtain ⟨hst, S, hr, hlk, hN, hK, hST, hX, hbl⟩ := E
  obtain ⟨hW, hI, hJ, hO, hV⟩ := Z
  have i1 : vp_in (nI (5 * x) + 1) LL := sc_in (k := 1) hx hL (by decide)
  obtain ⟨x1, hy1⟩ : ∃ v, xs (nI (5 * x) + 1).toNatClampNeg = v := ⟨_, rfl⟩
  have i2 : vp_in (nI (5 * x) + 2) LL := sc_in (k := 2) hx hL (by decide)
  obtain ⟨x2, hy2⟩ : ∃ v, xs (nI (5 * x) + 2).toNatClampNeg = v := ⟨_, rfl⟩
  have i3 : vp_in (nI (5 * x) + 3) LL := sc_in (k := 3) hx hL (by decide)
  obtain ⟨x3, hy3⟩ : ∃ v, xs (nI (5 * x) + 3).toNatClampNeg = v := ⟨_, rfl⟩
  have i4 : vp_in (nI (5 * x) + 4) LL := sc_in (k := 4) hx hL (by decide)
  obtain ⟨x4, hy4⟩ : ∃ v, xs (nI (5 * x) + 4).toNatClampNeg = v := ⟨_, rfl⟩
  obtain ⟨y2, hz2⟩ : ∃ v, (if x2 = 0 then (0 : Int32) else 1) = v := ⟨_, rfl⟩
  have hq2 := nz01 hz2
  refine lv_aload_n S.1 S.2.1 dW_941 rfl (lv_at hl 2 rfl) ?_
  refine lv_aload_n S.1 S.2.1 dW_942 rfl (lv_at hl 1 rfl) ?_
  refine lv_iload S.1 S.2.1 dW_943 (lv_at hl 0 rfl) ?_
  refine lv_iconst (v := 1) S.1 S.2.1 dW_945 (by decide) ?_
  refine lv_iadd S.1 S.2.1 dW_946 ?_
  refine pk_sld S hX hbl hW i1 hy1 dW_947 ?_
  refine lv_aload_n S.1 S.2.1 dW_948 rfl (lv_at hl 1 rfl) ?_
  refine lv_iload S.1 S.2.1 dW_949 (lv_at hl 0 rfl) ?_
  refine lv_iconst (v := 2) S.1 S.2.1 dW_951 (by decide) ?_
  refine lv_iadd S.1 S.2.1 dW_952 ?_
  refine pk_sld S hX hbl hW i2 hy2 dW_953 ?_
  refine pk_nz S.1 S.2.1 hz2 dW_954 dW_957 dW_958 dW_961 ?_
  refine lv_aload_n S.1 S.2.1 dW_962 rfl (lv_at hl 1 rfl) ?_
  refine lv_iload S.1 S.2.1 dW_963 (lv_at hl 0 rfl) ?_
  refine lv_iconst (v := 3) S.1 S.2.1 dW_965 (by decide) ?_
  refine lv_iadd S.1 S.2.1 dW_966 ?_
  refine pk_sld S hX hbl hW i3 hy3 dW_967 ?_
  refine lv_aload_n S.1 S.2.1 dW_968 rfl (lv_at hl 1 rfl) ?_
  refine lv_iload S.1 S.2.1 dW_969 (lv_at hl 0 rfl) ?_
  refine lv_iconst (v := 4) S.1 S.2.1 dW_971 (by decide) ?_
  refine lv_iadd S.1 S.2.1 dW_972 ?_
  refine pk_sld S hX hbl hW i4 hy4 dW_973 ?_
  refine lv_aload_n S.1 S.2.1 dW_974 rfl (lv_at hl 4 rfl) ?_
  obtain ⟨res, res2, hf, hk, hg, hV2, hag⟩ := sx_shed hV x1 y2 hq2 x3 x4
  refine pk_cLI (As := [.ref (A 0), .int x1, .int y2, .int x3, .int x4, .ref q]) (rest := []) S hK hST hW hN (c_L_shed hst hI hO x1 y2 x3 x4 hf hk) mw_L_shed wd_547 wd_548 np_L_shed rfl hl.1 rfl (Nat.le_of_ble_eq_true rfl) dW_975 ⟨Nat.le_of_ble_eq_true rfl, Nat.le_of_ble_eq_true rfl⟩ ⟨by show cells + 3 ≤ 697565; omega, by show slots + 18 ≤ 7003408; omega⟩ (fun r L1 F1 H1 l1 hp hW => ?_)
  obtain ⟨hs1, hI1, ⟨w0, w1, e_q1, ha1⟩, hf1⟩ := hp
  have hJ1 := hJ.keepC hI hO hs1 hf1 (noE hW hST)
  have hO1 : OUT q L1 F1 := ⟨hs1 _ hO.1, w0, w1, e_q1⟩
  refine lv_istore (lv' := [(5, .int r), (4, .int (nI (5 * x))), (0, .ref b), (1, .ref (A 0)), (2, .ref (B 0)), (3, .ref q)]) S.1 S.2.1 dW_978 hl (Nat.le_of_ble_eq_true rfl) rfl (fun ls hl => ?_)
  refine lv_aload_n S.1 S.2.1 dW_980 rfl (lv_at hl 4 rfl) ?_
  refine lv_aload_n S.1 S.2.1 dW_981 rfl (lv_at hl 2 rfl) ?_
  refine lv_iload S.1 S.2.1 dW_982 (lv_at hl 1 rfl) ?_
  refine lv_iconst (v := 1) S.1 S.2.1 dW_984 (by decide) ?_
  refine lv_iadd S.1 S.2.1 dW_985 ?_
  refine pk_sld S hX hbl hW i1 hy1 dW_986 ?_
  refine lv_aload_n S.1 S.2.1 dW_987 rfl (lv_at hl 2 rfl) ?_
  refine lv_iload S.1 S.2.1 dW_988 (lv_at hl 1 rfl) ?_
  refine lv_iconst (v := 2) S.1 S.2.1 dW_990 (by decide) ?_
  refine lv_iadd S.1 S.2.1 dW_991 ?_
  refine pk_sld S hX hbl hW i2 hy2 dW_992 ?_
  refine pk_nz S.1 S.2.1 hz2 dW_993 dW_996 dW_997 dW_1000 ?_
  refine lv_aload_n S.1 S.2.1 dW_1001 rfl (lv_at hl 2 rfl) ?_
  refine lv_iload S.1 S.2.1 dW_1002 (lv_at hl 1 rfl) ?_
  refine lv_iconst (v := 3) S.1 S.2.1 dW_1004 (by decide) ?_
  refine lv_iadd S.1 S.2.1 dW_1005 ?_
  refine pk_sld S hX hbl hW i3 hy3 dW_1006 ?_
  refine lv_aload_n S.1 S.2.1 dW_1007 rfl (lv_at hl 2 rfl) ?_
  refine lv_iload S.1 S.2.1 dW_1008 (lv_at hl 1 rfl) ?_
  refine lv_iconst (v := 4) S.1 S.2.1 dW_1010 (by decide) ?_
  refine lv_iadd S.1 S.2.1 dW_1011 ?_
  refine pk_sld S hX hbl hW i4 hy4 dW_1012 ?_
  refine pk_cVI (As := [.int x1, .int y2, .int x3, .int x4]) (rest := []) S hK hST hW (c_X6_shed hJ1 x1 y2 x3 x4 hg) mc_X6_shed wd_1390 wd_1391 wd_1392 rfl np_X6_shed (hJ1.mem (by decide)) hJ1.this rfl rfl hl.1 rfl (Nat.le_of_ble_eq_true rfl) dW_1013 ⟨Nat.le_of_ble_eq_true rfl, Nat.le_of_ble_eq_true rfl⟩ ⟨by show cells + 3 + 1 ≤ 697565; omega, by show slots + 18 + 33 ≤ 7003408; omega⟩ (fun r2 L2 F2 H2 l2 hp hW => ?_)
  obtain ⟨rfl, hJ2, hM2⟩ := hp
  have hI2 := hI1.keepM hM2
  have hO2 := hO1.keepM hM2
  refine lv_istore (lv' := [(6, .int res2.1), (5, .int r), (4, .int (nI (5 * x))), (0, .ref b), (1, .ref (A 0)), (2, .ref (B 0)), (3, .ref q)]) S.1 S.2.1 dW_1016 hl (Nat.le_of_ble_eq_true rfl) rfl (fun ls hl => ?_)
  refine lv_goto (tgt := 2356) S.1 S.2.1 dW_1018 (by decide) ?_
  refine W.widen (k := cells + 256) (n := slots + 8192) (by omega) (by omega) ?_
  exact T _ _ _ _ _ _ _ ⟨hW, hI2, hJ2, hO2, hV2⟩ (lv_sub hl [2, 3, 4, 5, 6] rfl)
set_option maxHeartbeats 4000000 in
set_option maxRecDepth 100000 in
theorem cs_14 {p : Program} {l : Launch} {e : Env} {s : State} {m : MethodId} {b : Nat} {below : List Frame} {meth : Method} {c : Code} {D : va_G} {κ : Nat → ClassId} {ζ : Nat → Nat} {A B : Nat → Nat} {q LL x : Nat} {xs : Nat → Int32} {cells slots : Nat} {H : Heap} {locs : List Loc} {L : List Nat} {F : Nat → va_E} {σ : CS} {τ : MS} {ls : Array Slot} (E : LWE p l e s m b below meth c D κ ζ LL xs) (hx : 5 * x + 5 ≤ LL) (hL : LL ≤ 2560) (hc : cells + 256 ≤ 697565) (hs : slots + 8192 ≤ 7003408) (T : TL p l e s m b below meth c D κ ζ A B q x (cells + 256) (slots + 8192)) (Z : LST D κ ζ A B q s H locs L F σ τ) (hl : lv_has ls 7 [(4, .int (nI (5 * x))), (0, .ref b), (1, .ref (A 0)), (2, .ref (B 0)), (3, .ref q)]) : W p l e room_1 s m #[Value.ref b] below meth c H locs cells slots (lw_Z below #[Value.ref b] s) (F0 m 1021 ls []) := by
  obtain ⟨hst, S, hr, hlk, hN, hK, hST, hX, hbl⟩ := E
  obtain ⟨hW, hI, hJ, hO, hV⟩ := Z
  have i1 : vp_in (nI (5 * x) + 1) LL := sc_in (k := 1) hx hL (by decide)
  obtain ⟨x1, hy1⟩ : ∃ v, xs (nI (5 * x) + 1).toNatClampNeg = v := ⟨_, rfl⟩
  have i2 : vp_in (nI (5 * x) + 2) LL := sc_in (k := 2) hx hL (by decide)
  obtain ⟨x2, hy2⟩ : ∃ v, xs (nI (5 * x) + 2).toNatClampNeg = v := ⟨_, rfl⟩
  have i3 : vp_in (nI (5 * x) + 3) LL := sc_in (k := 3) hx hL (by decide)
  obtain ⟨x3, hy3⟩ : ∃ v, xs (nI (5 * x) + 3).toNatClampNeg = v := ⟨_, rfl⟩
  obtain ⟨y2, hz2⟩ : ∃ v, (if x2 = 0 then (0 : Int32) else 1) = v := ⟨_, rfl⟩
  have hq2 := nz01 hz2
  refine lv_aload_n S.1 S.2.1 dW_1021 rfl (lv_at hl 2 rfl) ?_
  refine lv_aload_n S.1 S.2.1 dW_1022 rfl (lv_at hl 1 rfl) ?_
  refine lv_iload S.1 S.2.1 dW_1023 (lv_at hl 0 rfl) ?_
  refine lv_iconst (v := 1) S.1 S.2.1 dW_1025 (by decide) ?_
  refine lv_iadd S.1 S.2.1 dW_1026 ?_
  refine pk_sld S hX hbl hW i1 hy1 dW_1027 ?_
  refine lv_aload_n S.1 S.2.1 dW_1028 rfl (lv_at hl 1 rfl) ?_
  refine lv_iload S.1 S.2.1 dW_1029 (lv_at hl 0 rfl) ?_
  refine lv_iconst (v := 2) S.1 S.2.1 dW_1031 (by decide) ?_
  refine lv_iadd S.1 S.2.1 dW_1032 ?_
  refine pk_sld S hX hbl hW i2 hy2 dW_1033 ?_
  refine pk_nz S.1 S.2.1 hz2 dW_1034 dW_1037 dW_1038 dW_1041 ?_
  refine lv_aload_n S.1 S.2.1 dW_1042 rfl (lv_at hl 1 rfl) ?_
  refine lv_iload S.1 S.2.1 dW_1043 (lv_at hl 0 rfl) ?_
  refine lv_iconst (v := 3) S.1 S.2.1 dW_1045 (by decide) ?_
  refine lv_iadd S.1 S.2.1 dW_1046 ?_
  refine pk_sld S hX hbl hW i3 hy3 dW_1047 ?_
  refine lv_aload_n S.1 S.2.1 dW_1048 rfl (lv_at hl 4 rfl) ?_
  obtain ⟨res, res2, hf, hk, hg, hV2, hag⟩ := sx_thin hV x1 y2 hq2 x3
  refine pk_cLI (As := [.ref (A 0), .int x1, .int y2, .int x3, .ref q]) (rest := []) S hK hST hW hN (c_L_thin hst hI hO x1 y2 x3 hf hk) mw_L_thin wd_553 wd_554 np_L_thin rfl hl.1 rfl (Nat.le_of_ble_eq_true rfl) dW_1049 ⟨Nat.le_of_ble_eq_true rfl, Nat.le_of_ble_eq_true rfl⟩ ⟨by show cells + 2 ≤ 697565; omega, by show slots + 12 ≤ 7003408; omega⟩ (fun r L1 F1 H1 l1 hp hW => ?_)
  obtain ⟨hs1, hI1, ⟨w0, w1, e_q1, ha1⟩, hf1⟩ := hp
  have hJ1 := hJ.keepC hI hO hs1 hf1 (noE hW hST)
  have hO1 : OUT q L1 F1 := ⟨hs1 _ hO.1, w0, w1, e_q1⟩
  refine lv_istore (lv' := [(5, .int r), (4, .int (nI (5 * x))), (0, .ref b), (1, .ref (A 0)), (2, .ref (B 0)), (3, .ref q)]) S.1 S.2.1 dW_1052 hl (Nat.le_of_ble_eq_true rfl) rfl (fun ls hl => ?_)
  refine lv_aload_n S.1 S.2.1 dW_1054 rfl (lv_at hl 4 rfl) ?_
  refine lv_aload_n S.1 S.2.1 dW_1055 rfl (lv_at hl 2 rfl) ?_
  refine lv_iload S.1 S.2.1 dW_1056 (lv_at hl 1 rfl) ?_
  refine lv_iconst (v := 1) S.1 S.2.1 dW_1058 (by decide) ?_
  refine lv_iadd S.1 S.2.1 dW_1059 ?_
  refine pk_sld S hX hbl hW i1 hy1 dW_1060 ?_
  refine lv_aload_n S.1 S.2.1 dW_1061 rfl (lv_at hl 2 rfl) ?_
  refine lv_iload S.1 S.2.1 dW_1062 (lv_at hl 1 rfl) ?_
  refine lv_iconst (v := 2) S.1 S.2.1 dW_1064 (by decide) ?_
  refine lv_iadd S.1 S.2.1 dW_1065 ?_
  refine pk_sld S hX hbl hW i2 hy2 dW_1066 ?_
  refine pk_nz S.1 S.2.1 hz2 dW_1067 dW_1070 dW_1071 dW_1074 ?_
  refine lv_aload_n S.1 S.2.1 dW_1075 rfl (lv_at hl 2 rfl) ?_
  refine lv_iload S.1 S.2.1 dW_1076 (lv_at hl 1 rfl) ?_
  refine lv_iconst (v := 3) S.1 S.2.1 dW_1078 (by decide) ?_
  refine lv_iadd S.1 S.2.1 dW_1079 ?_
  refine pk_sld S hX hbl hW i3 hy3 dW_1080 ?_
  refine pk_cVI (As := [.int x1, .int y2, .int x3]) (rest := []) S hK hST hW (c_X6_thin hJ1 x1 y2 x3 hg) mc_X6_thin wd_1397 wd_1398 wd_1399 rfl np_X6_thin (hJ1.mem (by decide)) hJ1.this rfl rfl hl.1 rfl (Nat.le_of_ble_eq_true rfl) dW_1081 ⟨Nat.le_of_ble_eq_true rfl, Nat.le_of_ble_eq_true rfl⟩ ⟨by show cells + 2 + 1 ≤ 697565; omega, by show slots + 12 + 33 ≤ 7003408; omega⟩ (fun r2 L2 F2 H2 l2 hp hW => ?_)
  obtain ⟨rfl, hJ2, hM2⟩ := hp
  have hI2 := hI1.keepM hM2
  have hO2 := hO1.keepM hM2
  refine lv_istore (lv' := [(6, .int res2.1), (5, .int r), (4, .int (nI (5 * x))), (0, .ref b), (1, .ref (A 0)), (2, .ref (B 0)), (3, .ref q)]) S.1 S.2.1 dW_1084 hl (Nat.le_of_ble_eq_true rfl) rfl (fun ls hl => ?_)
  refine lv_goto (tgt := 2356) S.1 S.2.1 dW_1086 (by decide) ?_
  refine W.widen (k := cells + 256) (n := slots + 8192) (by omega) (by omega) ?_
  exact T _ _ _ _ _ _ _ ⟨hW, hI2, hJ2, hO2, hV2⟩ (lv_sub hl [2, 3, 4, 5, 6] rfl)
set_option maxHeartbeats 4000000 in
set_option maxRecDepth 100000 in
theorem cs_15 {p : Program} {l : Launch} {e : Env} {s : State} {m : MethodId} {b : Nat} {below : List Frame} {meth : Method} {c : Code} {D : va_G} {κ : Nat → ClassId} {ζ : Nat → Nat} {A B : Nat → Nat} {q LL x : Nat} {xs : Nat → Int32} {cells slots : Nat} {H : Heap} {locs : List Loc} {L : List Nat} {F : Nat → va_E} {σ : CS} {τ : MS} {ls : Array Slot} (E : LWE p l e s m b below meth c D κ ζ LL xs) (hx : 5 * x + 5 ≤ LL) (hL : LL ≤ 2560) (hc : cells + 256 ≤ 697565) (hs : slots + 8192 ≤ 7003408) (T : TL p l e s m b below meth c D κ ζ A B q x (cells + 256) (slots + 8192)) (Z : LST D κ ζ A B q s H locs L F σ τ) (hl : lv_has ls 7 [(4, .int (nI (5 * x))), (0, .ref b), (1, .ref (A 0)), (2, .ref (B 0)), (3, .ref q)]) : W p l e room_1 s m #[Value.ref b] below meth c H locs cells slots (lw_Z below #[Value.ref b] s) (F0 m 1089 ls []) := by
  obtain ⟨hst, S, hr, hlk, hN, hK, hST, hX, hbl⟩ := E
  obtain ⟨hW, hI, hJ, hO, hV⟩ := Z
  have i1 : vp_in (nI (5 * x) + 1) LL := sc_in (k := 1) hx hL (by decide)
  obtain ⟨x1, hy1⟩ : ∃ v, xs (nI (5 * x) + 1).toNatClampNeg = v := ⟨_, rfl⟩
  refine lv_aload_n S.1 S.2.1 dW_1089 rfl (lv_at hl 2 rfl) ?_
  refine lv_aload_n S.1 S.2.1 dW_1090 rfl (lv_at hl 1 rfl) ?_
  refine lv_iload S.1 S.2.1 dW_1091 (lv_at hl 0 rfl) ?_
  refine lv_iconst (v := 1) S.1 S.2.1 dW_1093 (by decide) ?_
  refine lv_iadd S.1 S.2.1 dW_1094 ?_
  refine pk_sld S hX hbl hW i1 hy1 dW_1095 ?_
  refine lv_aload_n S.1 S.2.1 dW_1096 rfl (lv_at hl 4 rfl) ?_
  obtain ⟨res, res2, hf, hk, hg, hV2, hag⟩ := sx_turn hV x1
  refine pk_cLI (As := [.ref (A 0), .int x1, .ref q]) (rest := []) S hK hST hW hN (c_L_turn hst hI hO x1 hf hk) mw_L_turn wd_559 wd_560 np_L_turn rfl hl.1 rfl (Nat.le_of_ble_eq_true rfl) dW_1097 ⟨Nat.le_of_ble_eq_true rfl, Nat.le_of_ble_eq_true rfl⟩ ⟨by show cells + 1 ≤ 697565; omega, by show slots + 6 ≤ 7003408; omega⟩ (fun r L1 F1 H1 l1 hp hW => ?_)
  obtain ⟨hs1, hI1, ⟨w0, w1, e_q1, ha1⟩, hf1⟩ := hp
  have hJ1 := hJ.keepC hI hO hs1 hf1 (noE hW hST)
  have hO1 : OUT q L1 F1 := ⟨hs1 _ hO.1, w0, w1, e_q1⟩
  refine lv_istore (lv' := [(5, .int r), (4, .int (nI (5 * x))), (0, .ref b), (1, .ref (A 0)), (2, .ref (B 0)), (3, .ref q)]) S.1 S.2.1 dW_1100 hl (Nat.le_of_ble_eq_true rfl) rfl (fun ls hl => ?_)
  refine lv_aload_n S.1 S.2.1 dW_1102 rfl (lv_at hl 4 rfl) ?_
  refine lv_aload_n S.1 S.2.1 dW_1103 rfl (lv_at hl 2 rfl) ?_
  refine lv_iload S.1 S.2.1 dW_1104 (lv_at hl 1 rfl) ?_
  refine lv_iconst (v := 1) S.1 S.2.1 dW_1106 (by decide) ?_
  refine lv_iadd S.1 S.2.1 dW_1107 ?_
  refine pk_sld S hX hbl hW i1 hy1 dW_1108 ?_
  refine pk_cVI (As := [.int x1]) (rest := []) S hK hST hW (c_X6_turn hJ1 x1 hg) mc_X6_turn wd_1401 wd_1402 wd_1403 rfl np_X6_turn (hJ1.mem (by decide)) hJ1.this rfl rfl hl.1 rfl (Nat.le_of_ble_eq_true rfl) dW_1109 ⟨Nat.le_of_ble_eq_true rfl, Nat.le_of_ble_eq_true rfl⟩ ⟨by show cells + 1 + 24 ≤ 697565; omega, by show slots + 6 + 792 ≤ 7003408; omega⟩ (fun r2 L2 F2 H2 l2 hp hW => ?_)
  obtain ⟨rfl, hJ2, hM2⟩ := hp
  have hI2 := hI1.keepM hM2
  have hO2 := hO1.keepM hM2
  refine lv_istore (lv' := [(6, .int res2.1), (5, .int r), (4, .int (nI (5 * x))), (0, .ref b), (1, .ref (A 0)), (2, .ref (B 0)), (3, .ref q)]) S.1 S.2.1 dW_1112 hl (Nat.le_of_ble_eq_true rfl) rfl (fun ls hl => ?_)
  refine lv_goto (tgt := 2356) S.1 S.2.1 dW_1114 (by decide) ?_
  refine W.widen (k := cells + 256) (n := slots + 8192) (by omega) (by omega) ?_
  exact T _ _ _ _ _ _ _ ⟨hW, hI2, hJ2, hO2, hV2⟩ (lv_sub hl [2, 3, 4, 5, 6] rfl)
set_option maxHeartbeats 4000000 in
set_option maxRecDepth 100000 in
theorem cs_16 {p : Program} {l : Launch} {e : Env} {s : State} {m : MethodId} {b : Nat} {below : List Frame} {meth : Method} {c : Code} {D : va_G} {κ : Nat → ClassId} {ζ : Nat → Nat} {A B : Nat → Nat} {q LL x : Nat} {xs : Nat → Int32} {cells slots : Nat} {H : Heap} {locs : List Loc} {L : List Nat} {F : Nat → va_E} {σ : CS} {τ : MS} {ls : Array Slot} (E : LWE p l e s m b below meth c D κ ζ LL xs) (hx : 5 * x + 5 ≤ LL) (hL : LL ≤ 2560) (hc : cells + 256 ≤ 697565) (hs : slots + 8192 ≤ 7003408) (T : TL p l e s m b below meth c D κ ζ A B q x (cells + 256) (slots + 8192)) (Z : LST D κ ζ A B q s H locs L F σ τ) (hl : lv_has ls 7 [(4, .int (nI (5 * x))), (0, .ref b), (1, .ref (A 0)), (2, .ref (B 0)), (3, .ref q)]) : W p l e room_1 s m #[Value.ref b] below meth c H locs cells slots (lw_Z below #[Value.ref b] s) (F0 m 1117 ls []) := by
  obtain ⟨hst, S, hr, hlk, hN, hK, hST, hX, hbl⟩ := E
  obtain ⟨hW, hI, hJ, hO, hV⟩ := Z
  have i1 : vp_in (nI (5 * x) + 1) LL := sc_in (k := 1) hx hL (by decide)
  obtain ⟨x1, hy1⟩ : ∃ v, xs (nI (5 * x) + 1).toNatClampNeg = v := ⟨_, rfl⟩
  refine lv_aload_n S.1 S.2.1 dW_1117 rfl (lv_at hl 2 rfl) ?_
  refine lv_aload_n S.1 S.2.1 dW_1118 rfl (lv_at hl 1 rfl) ?_
  refine lv_iload S.1 S.2.1 dW_1119 (lv_at hl 0 rfl) ?_
  refine lv_iconst (v := 1) S.1 S.2.1 dW_1121 (by decide) ?_
  refine lv_iadd S.1 S.2.1 dW_1122 ?_
  refine pk_sld S hX hbl hW i1 hy1 dW_1123 ?_
  refine lv_aload_n S.1 S.2.1 dW_1124 rfl (lv_at hl 4 rfl) ?_
  obtain ⟨res, res2, hf, hk, hg, hV2, hag⟩ := sx_clear hV x1
  refine pk_cLI (As := [.ref (A 0), .int x1, .ref q]) (rest := []) S hK hST hW hN (c_L_clear hst hI hO x1 hf hk) mw_L_clear wd_566 wd_567 np_L_clear rfl hl.1 rfl (Nat.le_of_ble_eq_true rfl) dW_1125 ⟨Nat.le_of_ble_eq_true rfl, Nat.le_of_ble_eq_true rfl⟩ ⟨by show cells + 1 ≤ 697565; omega, by show slots + 6 ≤ 7003408; omega⟩ (fun r L1 F1 H1 l1 hp hW => ?_)
  obtain ⟨hs1, hI1, ⟨w0, w1, e_q1, ha1⟩, hf1⟩ := hp
  have hJ1 := hJ.keepC hI hO hs1 hf1 (noE hW hST)
  have hO1 : OUT q L1 F1 := ⟨hs1 _ hO.1, w0, w1, e_q1⟩
  refine lv_istore (lv' := [(5, .int r), (4, .int (nI (5 * x))), (0, .ref b), (1, .ref (A 0)), (2, .ref (B 0)), (3, .ref q)]) S.1 S.2.1 dW_1128 hl (Nat.le_of_ble_eq_true rfl) rfl (fun ls hl => ?_)
  refine lv_aload_n S.1 S.2.1 dW_1130 rfl (lv_at hl 4 rfl) ?_
  refine lv_aload_n S.1 S.2.1 dW_1131 rfl (lv_at hl 2 rfl) ?_
  refine lv_iload S.1 S.2.1 dW_1132 (lv_at hl 1 rfl) ?_
  refine lv_iconst (v := 1) S.1 S.2.1 dW_1134 (by decide) ?_
  refine lv_iadd S.1 S.2.1 dW_1135 ?_
  refine pk_sld S hX hbl hW i1 hy1 dW_1136 ?_
  refine pk_cVI (As := [.int x1]) (rest := []) S hK hST hW (c_X6_clear hJ1 x1 hg) mc_X6_clear wd_1405 wd_1406 wd_1407 rfl np_X6_clear (hJ1.mem (by decide)) hJ1.this rfl rfl hl.1 rfl (Nat.le_of_ble_eq_true rfl) dW_1137 ⟨Nat.le_of_ble_eq_true rfl, Nat.le_of_ble_eq_true rfl⟩ ⟨by show cells + 1 + 1 ≤ 697565; omega, by show slots + 6 + 33 ≤ 7003408; omega⟩ (fun r2 L2 F2 H2 l2 hp hW => ?_)
  obtain ⟨rfl, hJ2, hM2⟩ := hp
  have hI2 := hI1.keepM hM2
  have hO2 := hO1.keepM hM2
  refine lv_istore (lv' := [(6, .int res2.1), (5, .int r), (4, .int (nI (5 * x))), (0, .ref b), (1, .ref (A 0)), (2, .ref (B 0)), (3, .ref q)]) S.1 S.2.1 dW_1140 hl (Nat.le_of_ble_eq_true rfl) rfl (fun ls hl => ?_)
  refine lv_goto (tgt := 2356) S.1 S.2.1 dW_1142 (by decide) ?_
  refine W.widen (k := cells + 256) (n := slots + 8192) (by omega) (by omega) ?_
  exact T _ _ _ _ _ _ _ ⟨hW, hI2, hJ2, hO2, hV2⟩ (lv_sub hl [2, 3, 4, 5, 6] rfl)
