/-! the law: what each order of the script comes to -/
set_option maxHeartbeats 4000000 in
set_option maxRecDepth 100000 in
theorem cs_17 {p : Program} {l : Launch} {e : Env} {s : State} {m : MethodId} {b : Nat} {below : List Frame} {meth : Method} {c : Code} {D : va_G} {κ : Nat → ClassId} {ζ : Nat → Nat} {A B : Nat → Nat} {q LL x : Nat} {xs : Nat → Int32} {cells slots : Nat} {H : Heap} {locs : List Loc} {L : List Nat} {F : Nat → va_E} {σ : CS} {τ : MS} {ls : Array Slot} (E : LWE p l e s m b below meth c D κ ζ LL xs) (hx : 5 * x + 5 ≤ LL) (hL : LL ≤ 2560) (hc : cells + 256 ≤ 697565) (hs : slots + 8192 ≤ 7003408) (T : TL p l e s m b below meth c D κ ζ A B q x (cells + 256) (slots + 8192)) (Z : LST D κ ζ A B q s H locs L F σ τ) (hl : lv_has ls 7 [(4, .int (nI (5 * x))), (0, .ref b), (1, .ref (A 0)), (2, .ref (B 0)), (3, .ref q)]) : W p l e room_1 s m #[Value.ref b] below meth c H locs cells slots (lw_Z below #[Value.ref b] s) (F0 m 1181 ls []) := by
  obtain ⟨hst, S, hr, hlk, hN, hK, hST, hX, hbl⟩ := E
  obtain ⟨hW, hI, hJ, hO, hV⟩ := Z
  have i1 : vp_in (nI (5 * x) + 1) LL := sc_in (k := 1) hx hL (by decide)
  obtain ⟨x1, hy1⟩ : ∃ v, xs (nI (5 * x) + 1).toNatClampNeg = v := ⟨_, rfl⟩
  obtain ⟨y1, hz1⟩ : ∃ v, (if x1 = 0 then (0 : Int32) else 1) = v := ⟨_, rfl⟩
  have hq1 := nz01 hz1
  refine lv_aload_n S.1 S.2.1 dW_1181 rfl (lv_at hl 2 rfl) ?_
  refine lv_aload_n S.1 S.2.1 dW_1182 rfl (lv_at hl 1 rfl) ?_
  refine lv_iload S.1 S.2.1 dW_1183 (lv_at hl 0 rfl) ?_
  refine lv_iconst (v := 1) S.1 S.2.1 dW_1185 (by decide) ?_
  refine lv_iadd S.1 S.2.1 dW_1186 ?_
  refine pk_sld S hX hbl hW i1 hy1 dW_1187 ?_
  refine pk_nz S.1 S.2.1 hz1 dW_1188 dW_1191 dW_1192 dW_1195 ?_
  obtain ⟨res, res2, hf, hg, hV2, hag⟩ := sx_purge hV y1 hq1
  refine pk_cVI (As := [.int y1]) (rest := []) S hK hST hW (c_X3_purge hI y1 hf) mc_X3_purge wd_3001 wd_168 wd_169 rfl np_X3_purge (hI.mem 0 (by decide)) hI.this rfl rfl hl.1 rfl (Nat.le_of_ble_eq_true rfl) dW_1196 ⟨Nat.le_of_ble_eq_true rfl, Nat.le_of_ble_eq_true rfl⟩ ⟨by show cells + 0 ≤ 697565; omega, by show slots + 0 ≤ 7003408; omega⟩ (fun r L1 F1 H1 l1 hp hW => ?_)
  obtain ⟨rfl, rfl, hI1, hf1⟩ := hp
  have hJ1 := hJ.keepC hI hO (fun _ h => h) (fun x _ h _ => hf1 x h) (noE hW hST)
  have hO1 := hO.keepA hI hf1
  refine lv_pop S.1 S.2.1 dW_1199 rfl ?_
  refine lv_aload_n S.1 S.2.1 dW_1200 rfl (lv_at hl 3 rfl) ?_
  refine lv_aload_n S.1 S.2.1 dW_1201 rfl (lv_at hl 1 rfl) ?_
  refine lv_iload S.1 S.2.1 dW_1202 (lv_at hl 0 rfl) ?_
  refine lv_iconst (v := 1) S.1 S.2.1 dW_1204 (by decide) ?_
  refine lv_iadd S.1 S.2.1 dW_1205 ?_
  refine pk_sld S hX hbl hW i1 hy1 dW_1206 ?_
  refine pk_nz S.1 S.2.1 hz1 dW_1207 dW_1210 dW_1211 dW_1214 ?_
  refine pk_cVI (As := [.int y1]) (rest := []) S hK hST hW (c_X6_purge hJ1 y1 hg) mc_X6_purge wd_3048 wd_1410 wd_1411 rfl np_X6_purge (hJ1.mem (by decide)) hJ1.this rfl rfl hl.1 rfl (Nat.le_of_ble_eq_true rfl) dW_1215 ⟨Nat.le_of_ble_eq_true rfl, Nat.le_of_ble_eq_true rfl⟩ ⟨by show cells + 0 + 1 ≤ 697565; omega, by show slots + 0 + 33 ≤ 7003408; omega⟩ (fun r2 L2 F2 H2 l2 hp hW => ?_)
  obtain ⟨rfl, hJ2, hM2⟩ := hp
  have hI2 := hI1.keepM hM2
  have hO2 := hO1.keepM hM2
  refine lv_pop S.1 S.2.1 dW_1218 rfl ?_
  refine lv_goto (tgt := 2363) S.1 S.2.1 dW_1219 (by decide) ?_
  refine W.widen (k := cells + 256) (n := slots + 8192) (by omega) (by omega) ?_
  exact T _ _ _ _ _ _ _ ⟨hW, hI2, hJ2, hO2, hV2⟩ (lv_sub hl [0, 1, 2, 3, 4] rfl)
set_option maxHeartbeats 4000000 in
set_option maxRecDepth 100000 in
theorem cs_18 {p : Program} {l : Launch} {e : Env} {s : State} {m : MethodId} {b : Nat} {below : List Frame} {meth : Method} {c : Code} {D : va_G} {κ : Nat → ClassId} {ζ : Nat → Nat} {A B : Nat → Nat} {q LL x : Nat} {xs : Nat → Int32} {cells slots : Nat} {H : Heap} {locs : List Loc} {L : List Nat} {F : Nat → va_E} {σ : CS} {τ : MS} {ls : Array Slot} (E : LWE p l e s m b below meth c D κ ζ LL xs) (hx : 5 * x + 5 ≤ LL) (hL : LL ≤ 2560) (hc : cells + 256 ≤ 697565) (hs : slots + 8192 ≤ 7003408) (T : TL p l e s m b below meth c D κ ζ A B q x (cells + 256) (slots + 8192)) (Z : LST D κ ζ A B q s H locs L F σ τ) (hl : lv_has ls 7 [(4, .int (nI (5 * x))), (0, .ref b), (1, .ref (A 0)), (2, .ref (B 0)), (3, .ref q)]) : W p l e room_1 s m #[Value.ref b] below meth c H locs cells slots (lw_Z below #[Value.ref b] s) (F0 m 1222 ls []) := by
  obtain ⟨hst, S, hr, hlk, hN, hK, hST, hX, hbl⟩ := E
  obtain ⟨hW, hI, hJ, hO, hV⟩ := Z
  have i1 : vp_in (nI (5 * x) + 1) LL := sc_in (k := 1) hx hL (by decide)
  obtain ⟨x1, hy1⟩ : ∃ v, xs (nI (5 * x) + 1).toNatClampNeg = v := ⟨_, rfl⟩
  obtain ⟨y1, hz1⟩ : ∃ v, (if x1 = 0 then (0 : Int32) else 1) = v := ⟨_, rfl⟩
  have hq1 := nz01 hz1
  refine lv_aload_n S.1 S.2.1 dW_1222 rfl (lv_at hl 2 rfl) ?_
  refine lv_aload_n S.1 S.2.1 dW_1223 rfl (lv_at hl 1 rfl) ?_
  refine lv_iload S.1 S.2.1 dW_1224 (lv_at hl 0 rfl) ?_
  refine lv_iconst (v := 1) S.1 S.2.1 dW_1226 (by decide) ?_
  refine lv_iadd S.1 S.2.1 dW_1227 ?_
  refine pk_sld S hX hbl hW i1 hy1 dW_1228 ?_
  refine pk_nz S.1 S.2.1 hz1 dW_1229 dW_1232 dW_1233 dW_1236 ?_
  obtain ⟨res, res2, hf, hg, hV2, hag⟩ := sx_walk hV y1 hq1
  refine pk_cVI (As := [.int y1]) (rest := []) S hK hST hW (c_X3_walk hI y1 hf) mc_X3_walk wd_3002 wd_195 wd_196 rfl np_X3_walk (hI.mem 0 (by decide)) hI.this rfl rfl hl.1 rfl (Nat.le_of_ble_eq_true rfl) dW_1237 ⟨Nat.le_of_ble_eq_true rfl, Nat.le_of_ble_eq_true rfl⟩ ⟨by show cells + 0 ≤ 697565; omega, by show slots + 0 ≤ 7003408; omega⟩ (fun r L1 F1 H1 l1 hp hW => ?_)
  obtain ⟨rfl, rfl, hI1, hf1⟩ := hp
  have hJ1 := hJ.keepC hI hO (fun _ h => h) (fun x _ h _ => hf1 x h) (noE hW hST)
  have hO1 := hO.keepA hI hf1
  refine lv_pop S.1 S.2.1 dW_1240 rfl ?_
  refine lv_aload_n S.1 S.2.1 dW_1241 rfl (lv_at hl 3 rfl) ?_
  refine lv_aload_n S.1 S.2.1 dW_1242 rfl (lv_at hl 1 rfl) ?_
  refine lv_iload S.1 S.2.1 dW_1243 (lv_at hl 0 rfl) ?_
  refine lv_iconst (v := 1) S.1 S.2.1 dW_1245 (by decide) ?_
  refine lv_iadd S.1 S.2.1 dW_1246 ?_
  refine pk_sld S hX hbl hW i1 hy1 dW_1247 ?_
  refine pk_nz S.1 S.2.1 hz1 dW_1248 dW_1251 dW_1252 dW_1255 ?_
  refine pk_cVI (As := [.int y1]) (rest := []) S hK hST hW (c_X6_walk hJ1 y1 hg) mc_X6_walk wd_3049 wd_1414 wd_1415 rfl np_X6_walk (hJ1.mem (by decide)) hJ1.this rfl rfl hl.1 rfl (Nat.le_of_ble_eq_true rfl) dW_1256 ⟨Nat.le_of_ble_eq_true rfl, Nat.le_of_ble_eq_true rfl⟩ ⟨by show cells + 0 + 0 ≤ 697565; omega, by show slots + 0 + 0 ≤ 7003408; omega⟩ (fun r2 L2 F2 H2 l2 hp hW => ?_)
  obtain ⟨rfl, hJ2, hM2⟩ := hp
  have hI2 := hI1.keepM hM2
  have hO2 := hO1.keepM hM2
  refine lv_pop S.1 S.2.1 dW_1259 rfl ?_
  refine lv_goto (tgt := 2363) S.1 S.2.1 dW_1260 (by decide) ?_
  refine W.widen (k := cells + 256) (n := slots + 8192) (by omega) (by omega) ?_
  exact T _ _ _ _ _ _ _ ⟨hW, hI2, hJ2, hO2, hV2⟩ (lv_sub hl [0, 1, 2, 3, 4] rfl)
set_option maxHeartbeats 4000000 in
set_option maxRecDepth 100000 in
theorem cs_19 {p : Program} {l : Launch} {e : Env} {s : State} {m : MethodId} {b : Nat} {below : List Frame} {meth : Method} {c : Code} {D : va_G} {κ : Nat → ClassId} {ζ : Nat → Nat} {A B : Nat → Nat} {q LL x : Nat} {xs : Nat → Int32} {cells slots : Nat} {H : Heap} {locs : List Loc} {L : List Nat} {F : Nat → va_E} {σ : CS} {τ : MS} {ls : Array Slot} (E : LWE p l e s m b below meth c D κ ζ LL xs) (hx : 5 * x + 5 ≤ LL) (hL : LL ≤ 2560) (hc : cells + 256 ≤ 697565) (hs : slots + 8192 ≤ 7003408) (T : TL p l e s m b below meth c D κ ζ A B q x (cells + 256) (slots + 8192)) (Z : LST D κ ζ A B q s H locs L F σ τ) (hl : lv_has ls 7 [(4, .int (nI (5 * x))), (0, .ref b), (1, .ref (A 0)), (2, .ref (B 0)), (3, .ref q)]) : W p l e room_1 s m #[Value.ref b] below meth c H locs cells slots (lw_Z below #[Value.ref b] s) (F0 m 1263 ls []) := by
  obtain ⟨hst, S, hr, hlk, hN, hK, hST, hX, hbl⟩ := E
  obtain ⟨hW, hI, hJ, hO, hV⟩ := Z
  refine lv_aload_n S.1 S.2.1 dW_1263 rfl (lv_at hl 2 rfl) ?_
  refine lv_aload_n S.1 S.2.1 dW_1264 rfl (lv_at hl 4 rfl) ?_
  obtain ⟨res, res2, hf, hk, hg, hV2, hag⟩ := sx_step hV 
  refine pk_cLI (As := [.ref (A 0), .ref q]) (rest := []) S hK hST hW hN (c_L_step hst hI hO hf hk) mw_L_step wd_3012 wd_573 np_L_step rfl hl.1 rfl (Nat.le_of_ble_eq_true rfl) dW_1265 ⟨Nat.le_of_ble_eq_true rfl, Nat.le_of_ble_eq_true rfl⟩ ⟨by show cells + 1 ≤ 697565; omega, by show slots + 6 ≤ 7003408; omega⟩ (fun r L1 F1 H1 l1 hp hW => ?_)
  obtain ⟨hs1, hI1, ⟨w0, w1, e_q1, ha1⟩, hf1⟩ := hp
  have hJ1 := hJ.keepC hI hO hs1 hf1 (noE hW hST)
  have hO1 : OUT q L1 F1 := ⟨hs1 _ hO.1, w0, w1, e_q1⟩
  refine lv_istore (lv' := [(5, .int r), (4, .int (nI (5 * x))), (0, .ref b), (1, .ref (A 0)), (2, .ref (B 0)), (3, .ref q)]) S.1 S.2.1 dW_1268 hl (Nat.le_of_ble_eq_true rfl) rfl (fun ls hl => ?_)
  refine lv_aload_n S.1 S.2.1 dW_1270 rfl (lv_at hl 4 rfl) ?_
  refine pk_cVI (As := []) (rest := []) S hK hST hW (c_X6_step hJ1  hg) mc_X6_step wd_3050 wd_1418 wd_1419 rfl np_X6_step (hJ1.mem (by decide)) hJ1.this rfl rfl hl.1 rfl (Nat.le_of_ble_eq_true rfl) dW_1271 ⟨Nat.le_of_ble_eq_true rfl, Nat.le_of_ble_eq_true rfl⟩ ⟨by show cells + 1 + 0 ≤ 697565; omega, by show slots + 6 + 0 ≤ 7003408; omega⟩ (fun r2 L2 F2 H2 l2 hp hW => ?_)
  obtain ⟨rfl, hJ2, hM2⟩ := hp
  have hI2 := hI1.keepM hM2
  have hO2 := hO1.keepM hM2
  refine lv_istore (lv' := [(6, .int res2.1), (5, .int r), (4, .int (nI (5 * x))), (0, .ref b), (1, .ref (A 0)), (2, .ref (B 0)), (3, .ref q)]) S.1 S.2.1 dW_1274 hl (Nat.le_of_ble_eq_true rfl) rfl (fun ls hl => ?_)
  refine lv_goto (tgt := 2363) S.1 S.2.1 dW_1276 (by decide) ?_
  refine W.widen (k := cells + 256) (n := slots + 8192) (by omega) (by omega) ?_
  exact T _ _ _ _ _ _ _ ⟨hW, hI2, hJ2, hO2, hV2⟩ (lv_sub hl [2, 3, 4, 5, 6] rfl)
set_option maxHeartbeats 4000000 in
set_option maxRecDepth 100000 in
theorem cs_20 {p : Program} {l : Launch} {e : Env} {s : State} {m : MethodId} {b : Nat} {below : List Frame} {meth : Method} {c : Code} {D : va_G} {κ : Nat → ClassId} {ζ : Nat → Nat} {A B : Nat → Nat} {q LL x : Nat} {xs : Nat → Int32} {cells slots : Nat} {H : Heap} {locs : List Loc} {L : List Nat} {F : Nat → va_E} {σ : CS} {τ : MS} {ls : Array Slot} (E : LWE p l e s m b below meth c D κ ζ LL xs) (hx : 5 * x + 5 ≤ LL) (hL : LL ≤ 2560) (hc : cells + 256 ≤ 697565) (hs : slots + 8192 ≤ 7003408) (T : TL p l e s m b below meth c D κ ζ A B q x (cells + 256) (slots + 8192)) (Z : LST D κ ζ A B q s H locs L F σ τ) (hl : lv_has ls 7 [(4, .int (nI (5 * x))), (0, .ref b), (1, .ref (A 0)), (2, .ref (B 0)), (3, .ref q)]) : W p l e room_1 s m #[Value.ref b] below meth c H locs cells slots (lw_Z below #[Value.ref b] s) (F0 m 1279 ls []) := by
  obtain ⟨hst, S, hr, hlk, hN, hK, hST, hX, hbl⟩ := E
  obtain ⟨hW, hI, hJ, hO, hV⟩ := Z
  refine lv_aload_n S.1 S.2.1 dW_1279 rfl (lv_at hl 2 rfl) ?_
  refine lv_aload_n S.1 S.2.1 dW_1280 rfl (lv_at hl 4 rfl) ?_
  obtain ⟨res, res2, hf, hk, hg, hV2, hag⟩ := sx_pluck hV 
  refine pk_cLI (As := [.ref (A 0), .ref q]) (rest := []) S hK hST hW hN (c_L_pluck hst hI hO hf hk) mw_L_pluck wd_3013 wd_588 np_L_pluck rfl hl.1 rfl (Nat.le_of_ble_eq_true rfl) dW_1281 ⟨Nat.le_of_ble_eq_true rfl, Nat.le_of_ble_eq_true rfl⟩ ⟨by show cells + 1 ≤ 697565; omega, by show slots + 6 ≤ 7003408; omega⟩ (fun r L1 F1 H1 l1 hp hW => ?_)
  obtain ⟨hs1, hI1, ⟨w0, w1, e_q1, ha1⟩, hf1⟩ := hp
  have hJ1 := hJ.keepC hI hO hs1 hf1 (noE hW hST)
  have hO1 : OUT q L1 F1 := ⟨hs1 _ hO.1, w0, w1, e_q1⟩
  refine lv_istore (lv' := [(5, .int r), (4, .int (nI (5 * x))), (0, .ref b), (1, .ref (A 0)), (2, .ref (B 0)), (3, .ref q)]) S.1 S.2.1 dW_1284 hl (Nat.le_of_ble_eq_true rfl) rfl (fun ls hl => ?_)
  refine lv_aload_n S.1 S.2.1 dW_1286 rfl (lv_at hl 4 rfl) ?_
  refine pk_cVI (As := []) (rest := []) S hK hST hW (c_X6_pluck hJ1  hg) mc_X6_pluck wd_3051 wd_1426 wd_1427 rfl np_X6_pluck (hJ1.mem (by decide)) hJ1.this rfl rfl hl.1 rfl (Nat.le_of_ble_eq_true rfl) dW_1287 ⟨Nat.le_of_ble_eq_true rfl, Nat.le_of_ble_eq_true rfl⟩ ⟨by show cells + 1 + 0 ≤ 697565; omega, by show slots + 6 + 0 ≤ 7003408; omega⟩ (fun r2 L2 F2 H2 l2 hp hW => ?_)
  obtain ⟨rfl, hJ2, hM2⟩ := hp
  have hI2 := hI1.keepM hM2
  have hO2 := hO1.keepM hM2
  refine lv_istore (lv' := [(6, .int res2.1), (5, .int r), (4, .int (nI (5 * x))), (0, .ref b), (1, .ref (A 0)), (2, .ref (B 0)), (3, .ref q)]) S.1 S.2.1 dW_1290 hl (Nat.le_of_ble_eq_true rfl) rfl (fun ls hl => ?_)
  refine lv_goto (tgt := 2363) S.1 S.2.1 dW_1292 (by decide) ?_
  refine W.widen (k := cells + 256) (n := slots + 8192) (by omega) (by omega) ?_
  exact T _ _ _ _ _ _ _ ⟨hW, hI2, hJ2, hO2, hV2⟩ (lv_sub hl [2, 3, 4, 5, 6] rfl)
set_option maxHeartbeats 4000000 in
set_option maxRecDepth 100000 in
theorem cs_21 {p : Program} {l : Launch} {e : Env} {s : State} {m : MethodId} {b : Nat} {below : List Frame} {meth : Method} {c : Code} {D : va_G} {κ : Nat → ClassId} {ζ : Nat → Nat} {A B : Nat → Nat} {q LL x : Nat} {xs : Nat → Int32} {cells slots : Nat} {H : Heap} {locs : List Loc} {L : List Nat} {F : Nat → va_E} {σ : CS} {τ : MS} {ls : Array Slot} (E : LWE p l e s m b below meth c D κ ζ LL xs) (hx : 5 * x + 5 ≤ LL) (hL : LL ≤ 2560) (hc : cells + 256 ≤ 697565) (hs : slots + 8192 ≤ 7003408) (T : TL p l e s m b below meth c D κ ζ A B q x (cells + 256) (slots + 8192)) (Z : LST D κ ζ A B q s H locs L F σ τ) (hl : lv_has ls 7 [(4, .int (nI (5 * x))), (0, .ref b), (1, .ref (A 0)), (2, .ref (B 0)), (3, .ref q)]) : W p l e room_1 s m #[Value.ref b] below meth c H locs cells slots (lw_Z below #[Value.ref b] s) (F0 m 1295 ls []) := by
  obtain ⟨hst, S, hr, hlk, hN, hK, hST, hX, hbl⟩ := E
  obtain ⟨hW, hI, hJ, hO, hV⟩ := Z
  have i1 : vp_in (nI (5 * x) + 1) LL := sc_in (k := 1) hx hL (by decide)
  obtain ⟨x1, hy1⟩ : ∃ v, xs (nI (5 * x) + 1).toNatClampNeg = v := ⟨_, rfl⟩
  have i2 : vp_in (nI (5 * x) + 2) LL := sc_in (k := 2) hx hL (by decide)
  obtain ⟨x2, hy2⟩ : ∃ v, xs (nI (5 * x) + 2).toNatClampNeg = v := ⟨_, rfl⟩
  have i3 : vp_in (nI (5 * x) + 3) LL := sc_in (k := 3) hx hL (by decide)
  obtain ⟨x3, hy3⟩ : ∃ v, xs (nI (5 * x) + 3).toNatClampNeg = v := ⟨_, rfl⟩
  refine lv_aload_n S.1 S.2.1 dW_1295 rfl (lv_at hl 2 rfl) ?_
  refine lv_aload_n S.1 S.2.1 dW_1296 rfl (lv_at hl 1 rfl) ?_
  refine lv_iload S.1 S.2.1 dW_1297 (lv_at hl 0 rfl) ?_
  refine lv_iconst (v := 1) S.1 S.2.1 dW_1299 (by decide) ?_
  refine lv_iadd S.1 S.2.1 dW_1300 ?_
  refine pk_sld S hX hbl hW i1 hy1 dW_1301 ?_
  refine lv_aload_n S.1 S.2.1 dW_1302 rfl (lv_at hl 1 rfl) ?_
  refine lv_iload S.1 S.2.1 dW_1303 (lv_at hl 0 rfl) ?_
  refine lv_iconst (v := 2) S.1 S.2.1 dW_1305 (by decide) ?_
  refine lv_iadd S.1 S.2.1 dW_1306 ?_
  refine pk_sld S hX hbl hW i2 hy2 dW_1307 ?_
  refine lv_aload_n S.1 S.2.1 dW_1308 rfl (lv_at hl 1 rfl) ?_
  refine lv_iload S.1 S.2.1 dW_1309 (lv_at hl 0 rfl) ?_
  refine lv_iconst (v := 3) S.1 S.2.1 dW_1311 (by decide) ?_
  refine lv_iadd S.1 S.2.1 dW_1312 ?_
  refine pk_sld S hX hbl hW i3 hy3 dW_1313 ?_
  refine lv_aload_n S.1 S.2.1 dW_1314 rfl (lv_at hl 4 rfl) ?_
  obtain ⟨res, res2, hf, hk, hg, hV2, hag⟩ := sx_insert hV x1 x2 x3
  refine pk_cLI (As := [.ref (A 0), .int x1, .int x2, .int x3, .ref q]) (rest := []) S hK hST hW hN (c_L_insert hst hI hO x1 x2 x3 hf hk) mw_L_insert wd_3014 wd_598 np_L_insert rfl hl.1 rfl (Nat.le_of_ble_eq_true rfl) dW_1315 ⟨Nat.le_of_ble_eq_true rfl, Nat.le_of_ble_eq_true rfl⟩ ⟨by show cells + 4 ≤ 697565; omega, by show slots + 24 ≤ 7003408; omega⟩ (fun r L1 F1 H1 l1 hp hW => ?_)
  obtain ⟨hs1, hI1, ⟨w0, w1, e_q1, ha1⟩, hf1⟩ := hp
  have hJ1 := hJ.keepC hI hO hs1 hf1 (noE hW hST)
  have hO1 : OUT q L1 F1 := ⟨hs1 _ hO.1, w0, w1, e_q1⟩
  refine lv_istore (lv' := [(5, .int r), (4, .int (nI (5 * x))), (0, .ref b), (1, .ref (A 0)), (2, .ref (B 0)), (3, .ref q)]) S.1 S.2.1 dW_1318 hl (Nat.le_of_ble_eq_true rfl) rfl (fun ls hl => ?_)
  refine lv_aload_n S.1 S.2.1 dW_1320 rfl (lv_at hl 4 rfl) ?_
  refine lv_aload_n S.1 S.2.1 dW_1321 rfl (lv_at hl 2 rfl) ?_
  refine lv_iload S.1 S.2.1 dW_1322 (lv_at hl 1 rfl) ?_
  refine lv_iconst (v := 1) S.1 S.2.1 dW_1324 (by decide) ?_
  refine lv_iadd S.1 S.2.1 dW_1325 ?_
  refine pk_sld S hX hbl hW i1 hy1 dW_1326 ?_
  refine lv_aload_n S.1 S.2.1 dW_1327 rfl (lv_at hl 2 rfl) ?_
  refine lv_iload S.1 S.2.1 dW_1328 (lv_at hl 1 rfl) ?_
  refine lv_iconst (v := 2) S.1 S.2.1 dW_1330 (by decide) ?_
  refine lv_iadd S.1 S.2.1 dW_1331 ?_
  refine pk_sld S hX hbl hW i2 hy2 dW_1332 ?_
  refine lv_aload_n S.1 S.2.1 dW_1333 rfl (lv_at hl 2 rfl) ?_
  refine lv_iload S.1 S.2.1 dW_1334 (lv_at hl 1 rfl) ?_
  refine lv_iconst (v := 3) S.1 S.2.1 dW_1336 (by decide) ?_
  refine lv_iadd S.1 S.2.1 dW_1337 ?_
  refine pk_sld S hX hbl hW i3 hy3 dW_1338 ?_
  refine pk_cVI (As := [.int x1, .int x2, .int x3]) (rest := []) S hK hST hW (c_X6_insert hJ1 x1 x2 x3 hg) mc_X6_insert wd_3052 wd_1430 wd_1431 rfl np_X6_insert (hJ1.mem (by decide)) hJ1.this rfl rfl hl.1 rfl (Nat.le_of_ble_eq_true rfl) dW_1339 ⟨Nat.le_of_ble_eq_true rfl, Nat.le_of_ble_eq_true rfl⟩ ⟨by show cells + 4 + 2 ≤ 697565; omega, by show slots + 24 + 66 ≤ 7003408; omega⟩ (fun r2 L2 F2 H2 l2 hp hW => ?_)
  obtain ⟨rfl, hJ2, hM2⟩ := hp
  have hI2 := hI1.keepM hM2
  have hO2 := hO1.keepM hM2
  refine lv_istore (lv' := [(6, .int res2.1), (5, .int r), (4, .int (nI (5 * x))), (0, .ref b), (1, .ref (A 0)), (2, .ref (B 0)), (3, .ref q)]) S.1 S.2.1 dW_1342 hl (Nat.le_of_ble_eq_true rfl) rfl (fun ls hl => ?_)
  refine lv_goto (tgt := 2363) S.1 S.2.1 dW_1344 (by decide) ?_
  refine W.widen (k := cells + 256) (n := slots + 8192) (by omega) (by omega) ?_
  exact T _ _ _ _ _ _ _ ⟨hW, hI2, hJ2, hO2, hV2⟩ (lv_sub hl [2, 3, 4, 5, 6] rfl)
set_option maxHeartbeats 4000000 in
set_option maxRecDepth 100000 in
theorem cs_22 {p : Program} {l : Launch} {e : Env} {s : State} {m : MethodId} {b : Nat} {below : List Frame} {meth : Method} {c : Code} {D : va_G} {κ : Nat → ClassId} {ζ : Nat → Nat} {A B : Nat → Nat} {q LL x : Nat} {xs : Nat → Int32} {cells slots : Nat} {H : Heap} {locs : List Loc} {L : List Nat} {F : Nat → va_E} {σ : CS} {τ : MS} {ls : Array Slot} (E : LWE p l e s m b below meth c D κ ζ LL xs) (hx : 5 * x + 5 ≤ LL) (hL : LL ≤ 2560) (hc : cells + 256 ≤ 697565) (hs : slots + 8192 ≤ 7003408) (T : TL p l e s m b below meth c D κ ζ A B q x (cells + 256) (slots + 8192)) (Z : LST D κ ζ A B q s H locs L F σ τ) (hl : lv_has ls 7 [(4, .int (nI (5 * x))), (0, .ref b), (1, .ref (A 0)), (2, .ref (B 0)), (3, .ref q)]) : W p l e room_1 s m #[Value.ref b] below meth c H locs cells slots (lw_Z below #[Value.ref b] s) (F0 m 1347 ls []) := by
  obtain ⟨hst, S, hr, hlk, hN, hK, hST, hX, hbl⟩ := E
  obtain ⟨hW, hI, hJ, hO, hV⟩ := Z
  have i1 : vp_in (nI (5 * x) + 1) LL := sc_in (k := 1) hx hL (by decide)
  obtain ⟨x1, hy1⟩ : ∃ v, xs (nI (5 * x) + 1).toNatClampNeg = v := ⟨_, rfl⟩
  refine lv_aload_n S.1 S.2.1 dW_1347 rfl (lv_at hl 2 rfl) ?_
  refine lv_aload_n S.1 S.2.1 dW_1348 rfl (lv_at hl 1 rfl) ?_
  refine lv_iload S.1 S.2.1 dW_1349 (lv_at hl 0 rfl) ?_
  refine lv_iconst (v := 1) S.1 S.2.1 dW_1351 (by decide) ?_
  refine lv_iadd S.1 S.2.1 dW_1352 ?_
  refine pk_sld S hX hbl hW i1 hy1 dW_1353 ?_
  refine lv_aload_n S.1 S.2.1 dW_1354 rfl (lv_at hl 4 rfl) ?_
  obtain ⟨res, res2, hf, hk, hg, hV2, hag⟩ := sx_cut hV x1
  refine pk_cLI (As := [.ref (A 0), .int x1, .ref q]) (rest := []) S hK hST hW hN (c_L_cut hst hI hO x1 hf hk) mw_L_cut wd_3015 wd_608 np_L_cut rfl hl.1 rfl (Nat.le_of_ble_eq_true rfl) dW_1355 ⟨Nat.le_of_ble_eq_true rfl, Nat.le_of_ble_eq_true rfl⟩ ⟨by show cells + 1 ≤ 697565; omega, by show slots + 6 ≤ 7003408; omega⟩ (fun r L1 F1 H1 l1 hp hW => ?_)
  obtain ⟨hs1, hI1, ⟨w0, w1, e_q1, ha1⟩, hf1⟩ := hp
  have hJ1 := hJ.keepC hI hO hs1 hf1 (noE hW hST)
  have hO1 : OUT q L1 F1 := ⟨hs1 _ hO.1, w0, w1, e_q1⟩
  refine lv_istore (lv' := [(5, .int r), (4, .int (nI (5 * x))), (0, .ref b), (1, .ref (A 0)), (2, .ref (B 0)), (3, .ref q)]) S.1 S.2.1 dW_1358 hl (Nat.le_of_ble_eq_true rfl) rfl (fun ls hl => ?_)
  refine lv_aload_n S.1 S.2.1 dW_1360 rfl (lv_at hl 4 rfl) ?_
  refine lv_aload_n S.1 S.2.1 dW_1361 rfl (lv_at hl 2 rfl) ?_
  refine lv_iload S.1 S.2.1 dW_1362 (lv_at hl 1 rfl) ?_
  refine lv_iconst (v := 1) S.1 S.2.1 dW_1364 (by decide) ?_
  refine lv_iadd S.1 S.2.1 dW_1365 ?_
  refine pk_sld S hX hbl hW i1 hy1 dW_1366 ?_
  refine pk_cVI (As := [.int x1]) (rest := []) S hK hST hW (c_X6_cut hJ1 x1 hg) mc_X6_cut wd_3053 wd_1434 wd_1435 rfl np_X6_cut (hJ1.mem (by decide)) hJ1.this rfl rfl hl.1 rfl (Nat.le_of_ble_eq_true rfl) dW_1367 ⟨Nat.le_of_ble_eq_true rfl, Nat.le_of_ble_eq_true rfl⟩ ⟨by show cells + 1 + 0 ≤ 697565; omega, by show slots + 6 + 0 ≤ 7003408; omega⟩ (fun r2 L2 F2 H2 l2 hp hW => ?_)
  obtain ⟨rfl, hJ2, hM2⟩ := hp
  have hI2 := hI1.keepM hM2
  have hO2 := hO1.keepM hM2
  refine lv_istore (lv' := [(6, .int res2.1), (5, .int r), (4, .int (nI (5 * x))), (0, .ref b), (1, .ref (A 0)), (2, .ref (B 0)), (3, .ref q)]) S.1 S.2.1 dW_1370 hl (Nat.le_of_ble_eq_true rfl) rfl (fun ls hl => ?_)
  refine lv_goto (tgt := 2363) S.1 S.2.1 dW_1372 (by decide) ?_
  refine W.widen (k := cells + 256) (n := slots + 8192) (by omega) (by omega) ?_
  exact T _ _ _ _ _ _ _ ⟨hW, hI2, hJ2, hO2, hV2⟩ (lv_sub hl [2, 3, 4, 5, 6] rfl)
set_option maxHeartbeats 4000000 in
set_option maxRecDepth 100000 in
theorem cs_23 {p : Program} {l : Launch} {e : Env} {s : State} {m : MethodId} {b : Nat} {below : List Frame} {meth : Method} {c : Code} {D : va_G} {κ : Nat → ClassId} {ζ : Nat → Nat} {A B : Nat → Nat} {q LL x : Nat} {xs : Nat → Int32} {cells slots : Nat} {H : Heap} {locs : List Loc} {L : List Nat} {F : Nat → va_E} {σ : CS} {τ : MS} {ls : Array Slot} (E : LWE p l e s m b below meth c D κ ζ LL xs) (hx : 5 * x + 5 ≤ LL) (hL : LL ≤ 2560) (hc : cells + 256 ≤ 697565) (hs : slots + 8192 ≤ 7003408) (T : TL p l e s m b below meth c D κ ζ A B q x (cells + 256) (slots + 8192)) (Z : LST D κ ζ A B q s H locs L F σ τ) (hl : lv_has ls 7 [(4, .int (nI (5 * x))), (0, .ref b), (1, .ref (A 0)), (2, .ref (B 0)), (3, .ref q)]) : W p l e room_1 s m #[Value.ref b] below meth c H locs cells slots (lw_Z below #[Value.ref b] s) (F0 m 1375 ls []) := by
  obtain ⟨hst, S, hr, hlk, hN, hK, hST, hX, hbl⟩ := E
  obtain ⟨hW, hI, hJ, hO, hV⟩ := Z
  have i1 : vp_in (nI (5 * x) + 1) LL := sc_in (k := 1) hx hL (by decide)
  obtain ⟨x1, hy1⟩ : ∃ v, xs (nI (5 * x) + 1).toNatClampNeg = v := ⟨_, rfl⟩
  have i2 : vp_in (nI (5 * x) + 2) LL := sc_in (k := 2) hx hL (by decide)
  obtain ⟨x2, hy2⟩ : ∃ v, xs (nI (5 * x) + 2).toNatClampNeg = v := ⟨_, rfl⟩
  have i3 : vp_in (nI (5 * x) + 3) LL := sc_in (k := 3) hx hL (by decide)
  obtain ⟨x3, hy3⟩ : ∃ v, xs (nI (5 * x) + 3).toNatClampNeg = v := ⟨_, rfl⟩
  refine lv_aload_n S.1 S.2.1 dW_1375 rfl (lv_at hl 2 rfl) ?_
  refine lv_aload_n S.1 S.2.1 dW_1376 rfl (lv_at hl 1 rfl) ?_
  refine lv_iload S.1 S.2.1 dW_1377 (lv_at hl 0 rfl) ?_
  refine lv_iconst (v := 1) S.1 S.2.1 dW_1379 (by decide) ?_
  refine lv_iadd S.1 S.2.1 dW_1380 ?_
  refine pk_sld S hX hbl hW i1 hy1 dW_1381 ?_
  refine lv_aload_n S.1 S.2.1 dW_1382 rfl (lv_at hl 1 rfl) ?_
  refine lv_iload S.1 S.2.1 dW_1383 (lv_at hl 0 rfl) ?_
  refine lv_iconst (v := 2) S.1 S.2.1 dW_1385 (by decide) ?_
  refine lv_iadd S.1 S.2.1 dW_1386 ?_
  refine pk_sld S hX hbl hW i2 hy2 dW_1387 ?_
  refine lv_aload_n S.1 S.2.1 dW_1388 rfl (lv_at hl 1 rfl) ?_
  refine lv_iload S.1 S.2.1 dW_1389 (lv_at hl 0 rfl) ?_
  refine lv_iconst (v := 3) S.1 S.2.1 dW_1391 (by decide) ?_
  refine lv_iadd S.1 S.2.1 dW_1392 ?_
  refine pk_sld S hX hbl hW i3 hy3 dW_1393 ?_
  refine lv_aload_n S.1 S.2.1 dW_1394 rfl (lv_at hl 4 rfl) ?_
  obtain ⟨res, res2, hf, hk, hg, hV2, hag⟩ := sx_replace hV x1 x2 x3
  refine pk_cLI (As := [.ref (A 0), .int x1, .int x2, .int x3, .ref q]) (rest := []) S hK hST hW hN (c_L_replace hst hI hO x1 x2 x3 hf hk) mw_L_replace wd_3016 wd_614 np_L_replace rfl hl.1 rfl (Nat.le_of_ble_eq_true rfl) dW_1395 ⟨Nat.le_of_ble_eq_true rfl, Nat.le_of_ble_eq_true rfl⟩ ⟨by show cells + 3 ≤ 697565; omega, by show slots + 18 ≤ 7003408; omega⟩ (fun r L1 F1 H1 l1 hp hW => ?_)
  obtain ⟨hs1, hI1, ⟨w0, w1, e_q1, ha1⟩, hf1⟩ := hp
  have hJ1 := hJ.keepC hI hO hs1 hf1 (noE hW hST)
  have hO1 : OUT q L1 F1 := ⟨hs1 _ hO.1, w0, w1, e_q1⟩
  refine lv_istore (lv' := [(5, .int r), (4, .int (nI (5 * x))), (0, .ref b), (1, .ref (A 0)), (2, .ref (B 0)), (3, .ref q)]) S.1 S.2.1 dW_1398 hl (Nat.le_of_ble_eq_true rfl) rfl (fun ls hl => ?_)
  refine lv_aload_n S.1 S.2.1 dW_1400 rfl (lv_at hl 4 rfl) ?_
  refine lv_aload_n S.1 S.2.1 dW_1401 rfl (lv_at hl 2 rfl) ?_
  refine lv_iload S.1 S.2.1 dW_1402 (lv_at hl 1 rfl) ?_
  refine lv_iconst (v := 1) S.1 S.2.1 dW_1404 (by decide) ?_
  refine lv_iadd S.1 S.2.1 dW_1405 ?_
  refine pk_sld S hX hbl hW i1 hy1 dW_1406 ?_
  refine lv_aload_n S.1 S.2.1 dW_1407 rfl (lv_at hl 2 rfl) ?_
  refine lv_iload S.1 S.2.1 dW_1408 (lv_at hl 1 rfl) ?_
  refine lv_iconst (v := 2) S.1 S.2.1 dW_1410 (by decide) ?_
  refine lv_iadd S.1 S.2.1 dW_1411 ?_
  refine pk_sld S hX hbl hW i2 hy2 dW_1412 ?_
  refine lv_aload_n S.1 S.2.1 dW_1413 rfl (lv_at hl 2 rfl) ?_
  refine lv_iload S.1 S.2.1 dW_1414 (lv_at hl 1 rfl) ?_
  refine lv_iconst (v := 3) S.1 S.2.1 dW_1416 (by decide) ?_
  refine lv_iadd S.1 S.2.1 dW_1417 ?_
  refine pk_sld S hX hbl hW i3 hy3 dW_1418 ?_
  refine pk_cVI (As := [.int x1, .int x2, .int x3]) (rest := []) S hK hST hW (c_X6_replace hJ1 x1 x2 x3 hg) mc_X6_replace wd_3054 wd_1442 wd_1443 rfl np_X6_replace (hJ1.mem (by decide)) hJ1.this rfl rfl hl.1 rfl (Nat.le_of_ble_eq_true rfl) dW_1419 ⟨Nat.le_of_ble_eq_true rfl, Nat.le_of_ble_eq_true rfl⟩ ⟨by show cells + 3 + 1 ≤ 697565; omega, by show slots + 18 + 33 ≤ 7003408; omega⟩ (fun r2 L2 F2 H2 l2 hp hW => ?_)
  obtain ⟨rfl, hJ2, hM2⟩ := hp
  have hI2 := hI1.keepM hM2
  have hO2 := hO1.keepM hM2
  refine lv_istore (lv' := [(6, .int res2.1), (5, .int r), (4, .int (nI (5 * x))), (0, .ref b), (1, .ref (A 0)), (2, .ref (B 0)), (3, .ref q)]) S.1 S.2.1 dW_1422 hl (Nat.le_of_ble_eq_true rfl) rfl (fun ls hl => ?_)
  refine lv_goto (tgt := 2363) S.1 S.2.1 dW_1424 (by decide) ?_
  refine W.widen (k := cells + 256) (n := slots + 8192) (by omega) (by omega) ?_
  exact T _ _ _ _ _ _ _ ⟨hW, hI2, hJ2, hO2, hV2⟩ (lv_sub hl [2, 3, 4, 5, 6] rfl)
set_option maxHeartbeats 4000000 in
set_option maxRecDepth 100000 in
theorem cs_24 {p : Program} {l : Launch} {e : Env} {s : State} {m : MethodId} {b : Nat} {below : List Frame} {meth : Method} {c : Code} {D : va_G} {κ : Nat → ClassId} {ζ : Nat → Nat} {A B : Nat → Nat} {q LL x : Nat} {xs : Nat → Int32} {cells slots : Nat} {H : Heap} {locs : List Loc} {L : List Nat} {F : Nat → va_E} {σ : CS} {τ : MS} {ls : Array Slot} (E : LWE p l e s m b below meth c D κ ζ LL xs) (hx : 5 * x + 5 ≤ LL) (hL : LL ≤ 2560) (hc : cells + 256 ≤ 697565) (hs : slots + 8192 ≤ 7003408) (T : TL p l e s m b below meth c D κ ζ A B q x (cells + 256) (slots + 8192)) (Z : LST D κ ζ A B q s H locs L F σ τ) (hl : lv_has ls 7 [(4, .int (nI (5 * x))), (0, .ref b), (1, .ref (A 0)), (2, .ref (B 0)), (3, .ref q)]) : W p l e room_1 s m #[Value.ref b] below meth c H locs cells slots (lw_Z below #[Value.ref b] s) (F0 m 1427 ls []) := by
  obtain ⟨hst, S, hr, hlk, hN, hK, hST, hX, hbl⟩ := E
  obtain ⟨hW, hI, hJ, hO, hV⟩ := Z
  have i1 : vp_in (nI (5 * x) + 1) LL := sc_in (k := 1) hx hL (by decide)
  obtain ⟨x1, hy1⟩ : ∃ v, xs (nI (5 * x) + 1).toNatClampNeg = v := ⟨_, rfl⟩
  refine lv_aload_n S.1 S.2.1 dW_1427 rfl (lv_at hl 2 rfl) ?_
  refine lv_aload_n S.1 S.2.1 dW_1428 rfl (lv_at hl 1 rfl) ?_
  refine lv_iload S.1 S.2.1 dW_1429 (lv_at hl 0 rfl) ?_
  refine lv_iconst (v := 1) S.1 S.2.1 dW_1431 (by decide) ?_
  refine lv_iadd S.1 S.2.1 dW_1432 ?_
  refine pk_sld S hX hbl hW i1 hy1 dW_1433 ?_
  refine lv_aload_n S.1 S.2.1 dW_1434 rfl (lv_at hl 4 rfl) ?_
  obtain ⟨res, res2, hf, hk, hg, hV2, hag⟩ := sx_at hV x1
  refine pk_cLI (As := [.ref (A 0), .int x1, .ref q]) (rest := []) S hK hST hW hN (c_L_at hst hI hO x1 hf hk) mw_L_at wd_3017 wd_624 np_L_at rfl hl.1 rfl (Nat.le_of_ble_eq_true rfl) dW_1435 ⟨Nat.le_of_ble_eq_true rfl, Nat.le_of_ble_eq_true rfl⟩ ⟨by show cells + 1 ≤ 697565; omega, by show slots + 6 ≤ 7003408; omega⟩ (fun r L1 F1 H1 l1 hp hW => ?_)
  obtain ⟨hs1, hI1, ⟨w0, w1, e_q1, ha1⟩, hf1⟩ := hp
  have hJ1 := hJ.keepC hI hO hs1 hf1 (noE hW hST)
  have hO1 : OUT q L1 F1 := ⟨hs1 _ hO.1, w0, w1, e_q1⟩
  refine lv_istore (lv' := [(5, .int r), (4, .int (nI (5 * x))), (0, .ref b), (1, .ref (A 0)), (2, .ref (B 0)), (3, .ref q)]) S.1 S.2.1 dW_1438 hl (Nat.le_of_ble_eq_true rfl) rfl (fun ls hl => ?_)
  refine lv_aload_n S.1 S.2.1 dW_1440 rfl (lv_at hl 4 rfl) ?_
  refine lv_aload_n S.1 S.2.1 dW_1441 rfl (lv_at hl 2 rfl) ?_
  refine lv_iload S.1 S.2.1 dW_1442 (lv_at hl 1 rfl) ?_
  refine lv_iconst (v := 1) S.1 S.2.1 dW_1444 (by decide) ?_
  refine lv_iadd S.1 S.2.1 dW_1445 ?_
  refine pk_sld S hX hbl hW i1 hy1 dW_1446 ?_
  refine pk_cVI (As := [.int x1]) (rest := []) S hK hST hW (c_X6_at hJ1 x1 hg) mc_X6_at wd_3055 wd_1450 wd_1451 rfl np_X6_at (hJ1.mem (by decide)) hJ1.this rfl rfl hl.1 rfl (Nat.le_of_ble_eq_true rfl) dW_1447 ⟨Nat.le_of_ble_eq_true rfl, Nat.le_of_ble_eq_true rfl⟩ ⟨by show cells + 1 + 0 ≤ 697565; omega, by show slots + 6 + 0 ≤ 7003408; omega⟩ (fun r2 L2 F2 H2 l2 hp hW => ?_)
  obtain ⟨rfl, hJ2, hM2⟩ := hp
  have hI2 := hI1.keepM hM2
  have hO2 := hO1.keepM hM2
  refine lv_istore (lv' := [(6, .int res2.1), (5, .int r), (4, .int (nI (5 * x))), (0, .ref b), (1, .ref (A 0)), (2, .ref (B 0)), (3, .ref q)]) S.1 S.2.1 dW_1450 hl (Nat.le_of_ble_eq_true rfl) rfl (fun ls hl => ?_)
  refine lv_goto (tgt := 2363) S.1 S.2.1 dW_1452 (by decide) ?_
  refine W.widen (k := cells + 256) (n := slots + 8192) (by omega) (by omega) ?_
  exact T _ _ _ _ _ _ _ ⟨hW, hI2, hJ2, hO2, hV2⟩ (lv_sub hl [2, 3, 4, 5, 6] rfl)
set_option maxHeartbeats 4000000 in
set_option maxRecDepth 100000 in
theorem cs_25 {p : Program} {l : Launch} {e : Env} {s : State} {m : MethodId} {b : Nat} {below : List Frame} {meth : Method} {c : Code} {D : va_G} {κ : Nat → ClassId} {ζ : Nat → Nat} {A B : Nat → Nat} {q LL x : Nat} {xs : Nat → Int32} {cells slots : Nat} {H : Heap} {locs : List Loc} {L : List Nat} {F : Nat → va_E} {σ : CS} {τ : MS} {ls : Array Slot} (E : LWE p l e s m b below meth c D κ ζ LL xs) (hx : 5 * x + 5 ≤ LL) (hL : LL ≤ 2560) (hc : cells + 256 ≤ 697565) (hs : slots + 8192 ≤ 7003408) (T : TL p l e s m b below meth c D κ ζ A B q x (cells + 256) (slots + 8192)) (Z : LST D κ ζ A B q s H locs L F σ τ) (hl : lv_has ls 7 [(4, .int (nI (5 * x))), (0, .ref b), (1, .ref (A 0)), (2, .ref (B 0)), (3, .ref q)]) : W p l e room_1 s m #[Value.ref b] below meth c H locs cells slots (lw_Z below #[Value.ref b] s) (F0 m 1455 ls []) := by
  obtain ⟨hst, S, hr, hlk, hN, hK, hST, hX, hbl⟩ := E
  obtain ⟨hW, hI, hJ, hO, hV⟩ := Z
  have i1 : vp_in (nI (5 * x) + 1) LL := sc_in (k := 1) hx hL (by decide)
  obtain ⟨x1, hy1⟩ : ∃ v, xs (nI (5 * x) + 1).toNatClampNeg = v := ⟨_, rfl⟩
  have i2 : vp_in (nI (5 * x) + 2) LL := sc_in (k := 2) hx hL (by decide)
  obtain ⟨x2, hy2⟩ : ∃ v, xs (nI (5 * x) + 2).toNatClampNeg = v := ⟨_, rfl⟩
  obtain ⟨y2, hz2⟩ : ∃ v, (if x2 = 0 then (0 : Int32) else 1) = v := ⟨_, rfl⟩
  have hq2 := nz01 hz2
  refine lv_aload_n S.1 S.2.1 dW_1455 rfl (lv_at hl 2 rfl) ?_
  refine lv_aload_n S.1 S.2.1 dW_1456 rfl (lv_at hl 1 rfl) ?_
  refine lv_iload S.1 S.2.1 dW_1457 (lv_at hl 0 rfl) ?_
  refine lv_iconst (v := 1) S.1 S.2.1 dW_1459 (by decide) ?_
  refine lv_iadd S.1 S.2.1 dW_1460 ?_
  refine pk_sld S hX hbl hW i1 hy1 dW_1461 ?_
  refine lv_aload_n S.1 S.2.1 dW_1462 rfl (lv_at hl 1 rfl) ?_
  refine lv_iload S.1 S.2.1 dW_1463 (lv_at hl 0 rfl) ?_
  refine lv_iconst (v := 2) S.1 S.2.1 dW_1465 (by decide) ?_
  refine lv_iadd S.1 S.2.1 dW_1466 ?_
  refine pk_sld S hX hbl hW i2 hy2 dW_1467 ?_
  refine pk_nz S.1 S.2.1 hz2 dW_1468 dW_1471 dW_1472 dW_1475 ?_
  refine lv_aload_n S.1 S.2.1 dW_1476 rfl (lv_at hl 4 rfl) ?_
  obtain ⟨res, res2, hf, hk, hg, hV2, hag⟩ := sx_find hV x1 y2 hq2
  refine pk_cLI (As := [.ref (A 0), .int x1, .int y2, .ref q]) (rest := []) S hK hST hW hN (c_L_find hst hI hO x1 y2 hf hk) mw_L_find wd_3018 wd_630 np_L_find rfl hl.1 rfl (Nat.le_of_ble_eq_true rfl) dW_1477 ⟨Nat.le_of_ble_eq_true rfl, Nat.le_of_ble_eq_true rfl⟩ ⟨by show cells + 1 ≤ 697565; omega, by show slots + 6 ≤ 7003408; omega⟩ (fun r L1 F1 H1 l1 hp hW => ?_)
  obtain ⟨hs1, hI1, ⟨w0, w1, e_q1, ha1⟩, hf1⟩ := hp
  have hJ1 := hJ.keepC hI hO hs1 hf1 (noE hW hST)
  have hO1 : OUT q L1 F1 := ⟨hs1 _ hO.1, w0, w1, e_q1⟩
  refine lv_istore (lv' := [(5, .int r), (4, .int (nI (5 * x))), (0, .ref b), (1, .ref (A 0)), (2, .ref (B 0)), (3, .ref q)]) S.1 S.2.1 dW_1480 hl (Nat.le_of_ble_eq_true rfl) rfl (fun ls hl => ?_)
  refine lv_aload_n S.1 S.2.1 dW_1482 rfl (lv_at hl 4 rfl) ?_
  refine lv_aload_n S.1 S.2.1 dW_1483 rfl (lv_at hl 2 rfl) ?_
  refine lv_iload S.1 S.2.1 dW_1484 (lv_at hl 1 rfl) ?_
  refine lv_iconst (v := 1) S.1 S.2.1 dW_1486 (by decide) ?_
  refine lv_iadd S.1 S.2.1 dW_1487 ?_
  refine pk_sld S hX hbl hW i1 hy1 dW_1488 ?_
  refine lv_aload_n S.1 S.2.1 dW_1489 rfl (lv_at hl 2 rfl) ?_
  refine lv_iload S.1 S.2.1 dW_1490 (lv_at hl 1 rfl) ?_
  refine lv_iconst (v := 2) S.1 S.2.1 dW_1492 (by decide) ?_
  refine lv_iadd S.1 S.2.1 dW_1493 ?_
  refine pk_sld S hX hbl hW i2 hy2 dW_1494 ?_
  refine pk_nz S.1 S.2.1 hz2 dW_1495 dW_1498 dW_1499 dW_1502 ?_
  refine pk_cVI (As := [.int x1, .int y2]) (rest := []) S hK hST hW (c_X6_find hJ1 x1 y2 hg) mc_X6_find wd_3056 wd_1454 wd_1455 rfl np_X6_find (hJ1.mem (by decide)) hJ1.this rfl rfl hl.1 rfl (Nat.le_of_ble_eq_true rfl) dW_1503 ⟨Nat.le_of_ble_eq_true rfl, Nat.le_of_ble_eq_true rfl⟩ ⟨by show cells + 1 + 0 ≤ 697565; omega, by show slots + 6 + 0 ≤ 7003408; omega⟩ (fun r2 L2 F2 H2 l2 hp hW => ?_)
  obtain ⟨rfl, hJ2, hM2⟩ := hp
  have hI2 := hI1.keepM hM2
  have hO2 := hO1.keepM hM2
  refine lv_istore (lv' := [(6, .int res2.1), (5, .int r), (4, .int (nI (5 * x))), (0, .ref b), (1, .ref (A 0)), (2, .ref (B 0)), (3, .ref q)]) S.1 S.2.1 dW_1506 hl (Nat.le_of_ble_eq_true rfl) rfl (fun ls hl => ?_)
  refine lv_goto (tgt := 2363) S.1 S.2.1 dW_1508 (by decide) ?_
  refine W.widen (k := cells + 256) (n := slots + 8192) (by omega) (by omega) ?_
  exact T _ _ _ _ _ _ _ ⟨hW, hI2, hJ2, hO2, hV2⟩ (lv_sub hl [2, 3, 4, 5, 6] rfl)
set_option maxHeartbeats 4000000 in
set_option maxRecDepth 100000 in
theorem cs_26 {p : Program} {l : Launch} {e : Env} {s : State} {m : MethodId} {b : Nat} {below : List Frame} {meth : Method} {c : Code} {D : va_G} {κ : Nat → ClassId} {ζ : Nat → Nat} {A B : Nat → Nat} {q LL x : Nat} {xs : Nat → Int32} {cells slots : Nat} {H : Heap} {locs : List Loc} {L : List Nat} {F : Nat → va_E} {σ : CS} {τ : MS} {ls : Array Slot} (E : LWE p l e s m b below meth c D κ ζ LL xs) (hx : 5 * x + 5 ≤ LL) (hL : LL ≤ 2560) (hc : cells + 256 ≤ 697565) (hs : slots + 8192 ≤ 7003408) (T : TL p l e s m b below meth c D κ ζ A B q x (cells + 256) (slots + 8192)) (Z : LST D κ ζ A B q s H locs L F σ τ) (hl : lv_has ls 7 [(4, .int (nI (5 * x))), (0, .ref b), (1, .ref (A 0)), (2, .ref (B 0)), (3, .ref q)]) : W p l e room_1 s m #[Value.ref b] below meth c H locs cells slots (lw_Z below #[Value.ref b] s) (F0 m 1511 ls []) := by
  obtain ⟨hst, S, hr, hlk, hN, hK, hST, hX, hbl⟩ := E
  obtain ⟨hW, hI, hJ, hO, hV⟩ := Z
  have i1 : vp_in (nI (5 * x) + 1) LL := sc_in (k := 1) hx hL (by decide)
  obtain ⟨x1, hy1⟩ : ∃ v, xs (nI (5 * x) + 1).toNatClampNeg = v := ⟨_, rfl⟩
  refine lv_aload_n S.1 S.2.1 dW_1511 rfl (lv_at hl 2 rfl) ?_
  refine lv_aload_n S.1 S.2.1 dW_1512 rfl (lv_at hl 1 rfl) ?_
  refine lv_iload S.1 S.2.1 dW_1513 (lv_at hl 0 rfl) ?_
  refine lv_iconst (v := 1) S.1 S.2.1 dW_1515 (by decide) ?_
  refine lv_iadd S.1 S.2.1 dW_1516 ?_
  refine pk_sld S hX hbl hW i1 hy1 dW_1517 ?_
  refine lv_aload_n S.1 S.2.1 dW_1518 rfl (lv_at hl 4 rfl) ?_
  obtain ⟨res, res2, hf, hk, hg, hV2, hag⟩ := sx_splice hV x1
  refine pk_cLI (As := [.ref (A 0), .int x1, .ref q]) (rest := []) S hK hST hW hN (c_L_splice hst hI hO x1 hf hk) mw_L_splice wd_3019 wd_636 np_L_splice rfl hl.1 rfl (Nat.le_of_ble_eq_true rfl) dW_1519 ⟨Nat.le_of_ble_eq_true rfl, Nat.le_of_ble_eq_true rfl⟩ ⟨by show cells + 2 ≤ 697565; omega, by show slots + 12 ≤ 7003408; omega⟩ (fun r L1 F1 H1 l1 hp hW => ?_)
  obtain ⟨hs1, hI1, ⟨w0, w1, e_q1, ha1⟩, hf1⟩ := hp
  have hJ1 := hJ.keepC hI hO hs1 hf1 (noE hW hST)
  have hO1 : OUT q L1 F1 := ⟨hs1 _ hO.1, w0, w1, e_q1⟩
  refine lv_istore (lv' := [(5, .int r), (4, .int (nI (5 * x))), (0, .ref b), (1, .ref (A 0)), (2, .ref (B 0)), (3, .ref q)]) S.1 S.2.1 dW_1522 hl (Nat.le_of_ble_eq_true rfl) rfl (fun ls hl => ?_)
  refine lv_aload_n S.1 S.2.1 dW_1524 rfl (lv_at hl 4 rfl) ?_
  refine lv_aload_n S.1 S.2.1 dW_1525 rfl (lv_at hl 2 rfl) ?_
  refine lv_iload S.1 S.2.1 dW_1526 (lv_at hl 1 rfl) ?_
  refine lv_iconst (v := 1) S.1 S.2.1 dW_1528 (by decide) ?_
  refine lv_iadd S.1 S.2.1 dW_1529 ?_
  refine pk_sld S hX hbl hW i1 hy1 dW_1530 ?_
  refine pk_cVI (As := [.int x1]) (rest := []) S hK hST hW (c_X6_splice hJ1 x1 hg) mc_X6_splice wd_3057 wd_1458 wd_1459 rfl np_X6_splice (hJ1.mem (by decide)) hJ1.this rfl rfl hl.1 rfl (Nat.le_of_ble_eq_true rfl) dW_1531 ⟨Nat.le_of_ble_eq_true rfl, Nat.le_of_ble_eq_true rfl⟩ ⟨by show cells + 2 + 48 ≤ 697565; omega, by show slots + 12 + 1584 ≤ 7003408; omega⟩ (fun r2 L2 F2 H2 l2 hp hW => ?_)
  obtain ⟨rfl, hJ2, hM2⟩ := hp
  have hI2 := hI1.keepM hM2
  have hO2 := hO1.keepM hM2
  refine lv_istore (lv' := [(6, .int res2.1), (5, .int r), (4, .int (nI (5 * x))), (0, .ref b), (1, .ref (A 0)), (2, .ref (B 0)), (3, .ref q)]) S.1 S.2.1 dW_1534 hl (Nat.le_of_ble_eq_true rfl) rfl (fun ls hl => ?_)
  refine lv_goto (tgt := 2363) S.1 S.2.1 dW_1536 (by decide) ?_
  refine W.widen (k := cells + 256) (n := slots + 8192) (by omega) (by omega) ?_
  exact T _ _ _ _ _ _ _ ⟨hW, hI2, hJ2, hO2, hV2⟩ (lv_sub hl [2, 3, 4, 5, 6] rfl)
set_option maxHeartbeats 4000000 in
set_option maxRecDepth 100000 in
theorem cs_27 {p : Program} {l : Launch} {e : Env} {s : State} {m : MethodId} {b : Nat} {below : List Frame} {meth : Method} {c : Code} {D : va_G} {κ : Nat → ClassId} {ζ : Nat → Nat} {A B : Nat → Nat} {q LL x : Nat} {xs : Nat → Int32} {cells slots : Nat} {H : Heap} {locs : List Loc} {L : List Nat} {F : Nat → va_E} {σ : CS} {τ : MS} {ls : Array Slot} (E : LWE p l e s m b below meth c D κ ζ LL xs) (hx : 5 * x + 5 ≤ LL) (hL : LL ≤ 2560) (hc : cells + 256 ≤ 697565) (hs : slots + 8192 ≤ 7003408) (T : TL p l e s m b below meth c D κ ζ A B q x (cells + 256) (slots + 8192)) (Z : LST D κ ζ A B q s H locs L F σ τ) (hl : lv_has ls 7 [(4, .int (nI (5 * x))), (0, .ref b), (1, .ref (A 0)), (2, .ref (B 0)), (3, .ref q)]) : W p l e room_1 s m #[Value.ref b] below meth c H locs cells slots (lw_Z below #[Value.ref b] s) (F0 m 1539 ls []) := by
  obtain ⟨hst, S, hr, hlk, hN, hK, hST, hX, hbl⟩ := E
  obtain ⟨hW, hI, hJ, hO, hV⟩ := Z
  have i1 : vp_in (nI (5 * x) + 1) LL := sc_in (k := 1) hx hL (by decide)
  obtain ⟨x1, hy1⟩ : ∃ v, xs (nI (5 * x) + 1).toNatClampNeg = v := ⟨_, rfl⟩
  have i2 : vp_in (nI (5 * x) + 2) LL := sc_in (k := 2) hx hL (by decide)
  obtain ⟨x2, hy2⟩ : ∃ v, xs (nI (5 * x) + 2).toNatClampNeg = v := ⟨_, rfl⟩
  refine lv_aload_n S.1 S.2.1 dW_1539 rfl (lv_at hl 2 rfl) ?_
  refine lv_aload_n S.1 S.2.1 dW_1540 rfl (lv_at hl 1 rfl) ?_
  refine lv_iload S.1 S.2.1 dW_1541 (lv_at hl 0 rfl) ?_
  refine lv_iconst (v := 1) S.1 S.2.1 dW_1543 (by decide) ?_
  refine lv_iadd S.1 S.2.1 dW_1544 ?_
  refine pk_sld S hX hbl hW i1 hy1 dW_1545 ?_
  refine lv_aload_n S.1 S.2.1 dW_1546 rfl (lv_at hl 1 rfl) ?_
  refine lv_iload S.1 S.2.1 dW_1547 (lv_at hl 0 rfl) ?_
  refine lv_iconst (v := 2) S.1 S.2.1 dW_1549 (by decide) ?_
  refine lv_iadd S.1 S.2.1 dW_1550 ?_
  refine pk_sld S hX hbl hW i2 hy2 dW_1551 ?_
  refine lv_aload_n S.1 S.2.1 dW_1552 rfl (lv_at hl 4 rfl) ?_
  obtain ⟨res, res2, hf, hk, hg, hV2, hag⟩ := sx_shunt hV x1 x2
  refine pk_cLI (As := [.ref (A 0), .int x1, .int x2, .ref q]) (rest := []) S hK hST hW hN (c_L_shunt hst hI hO x1 x2 hf hk) mw_L_shunt wd_3020 wd_642 np_L_shunt rfl hl.1 rfl (Nat.le_of_ble_eq_true rfl) dW_1553 ⟨Nat.le_of_ble_eq_true rfl, Nat.le_of_ble_eq_true rfl⟩ ⟨by show cells + 3 ≤ 697565; omega, by show slots + 18 ≤ 7003408; omega⟩ (fun r L1 F1 H1 l1 hp hW => ?_)
  obtain ⟨hs1, hI1, ⟨w0, w1, e_q1, ha1⟩, hf1⟩ := hp
  have hJ1 := hJ.keepC hI hO hs1 hf1 (noE hW hST)
  have hO1 : OUT q L1 F1 := ⟨hs1 _ hO.1, w0, w1, e_q1⟩
  refine lv_istore (lv' := [(5, .int r), (4, .int (nI (5 * x))), (0, .ref b), (1, .ref (A 0)), (2, .ref (B 0)), (3, .ref q)]) S.1 S.2.1 dW_1556 hl (Nat.le_of_ble_eq_true rfl) rfl (fun ls hl => ?_)
  refine lv_aload_n S.1 S.2.1 dW_1558 rfl (lv_at hl 4 rfl) ?_
  refine lv_aload_n S.1 S.2.1 dW_1559 rfl (lv_at hl 2 rfl) ?_
  refine lv_iload S.1 S.2.1 dW_1560 (lv_at hl 1 rfl) ?_
  refine lv_iconst (v := 1) S.1 S.2.1 dW_1562 (by decide) ?_
  refine lv_iadd S.1 S.2.1 dW_1563 ?_
  refine pk_sld S hX hbl hW i1 hy1 dW_1564 ?_
  refine lv_aload_n S.1 S.2.1 dW_1565 rfl (lv_at hl 2 rfl) ?_
  refine lv_iload S.1 S.2.1 dW_1566 (lv_at hl 1 rfl) ?_
  refine lv_iconst (v := 2) S.1 S.2.1 dW_1568 (by decide) ?_
  refine lv_iadd S.1 S.2.1 dW_1569 ?_
  refine pk_sld S hX hbl hW i2 hy2 dW_1570 ?_
  refine pk_cVI (As := [.int x1, .int x2]) (rest := []) S hK hST hW (c_X6_shunt hJ1 x1 x2 hg) mc_X6_shunt wd_3058 wd_1462 wd_1463 rfl np_X6_shunt (hJ1.mem (by decide)) hJ1.this rfl rfl hl.1 rfl (Nat.le_of_ble_eq_true rfl) dW_1571 ⟨Nat.le_of_ble_eq_true rfl, Nat.le_of_ble_eq_true rfl⟩ ⟨by show cells + 3 + 48 ≤ 697565; omega, by show slots + 18 + 1584 ≤ 7003408; omega⟩ (fun r2 L2 F2 H2 l2 hp hW => ?_)
  obtain ⟨rfl, hJ2, hM2⟩ := hp
  have hI2 := hI1.keepM hM2
  have hO2 := hO1.keepM hM2
  refine lv_istore (lv' := [(6, .int res2.1), (5, .int r), (4, .int (nI (5 * x))), (0, .ref b), (1, .ref (A 0)), (2, .ref (B 0)), (3, .ref q)]) S.1 S.2.1 dW_1574 hl (Nat.le_of_ble_eq_true rfl) rfl (fun ls hl => ?_)
  refine lv_goto (tgt := 2363) S.1 S.2.1 dW_1576 (by decide) ?_
  refine W.widen (k := cells + 256) (n := slots + 8192) (by omega) (by omega) ?_
  exact T _ _ _ _ _ _ _ ⟨hW, hI2, hJ2, hO2, hV2⟩ (lv_sub hl [2, 3, 4, 5, 6] rfl)
set_option maxHeartbeats 4000000 in
set_option maxRecDepth 100000 in
theorem cs_28 {p : Program} {l : Launch} {e : Env} {s : State} {m : MethodId} {b : Nat} {below : List Frame} {meth : Method} {c : Code} {D : va_G} {κ : Nat → ClassId} {ζ : Nat → Nat} {A B : Nat → Nat} {q LL x : Nat} {xs : Nat → Int32} {cells slots : Nat} {H : Heap} {locs : List Loc} {L : List Nat} {F : Nat → va_E} {σ : CS} {τ : MS} {ls : Array Slot} (E : LWE p l e s m b below meth c D κ ζ LL xs) (hx : 5 * x + 5 ≤ LL) (hL : LL ≤ 2560) (hc : cells + 256 ≤ 697565) (hs : slots + 8192 ≤ 7003408) (T : TL p l e s m b below meth c D κ ζ A B q x (cells + 256) (slots + 8192)) (Z : LST D κ ζ A B q s H locs L F σ τ) (hl : lv_has ls 7 [(4, .int (nI (5 * x))), (0, .ref b), (1, .ref (A 0)), (2, .ref (B 0)), (3, .ref q)]) : W p l e room_1 s m #[Value.ref b] below meth c H locs cells slots (lw_Z below #[Value.ref b] s) (F0 m 1579 ls []) := by
  obtain ⟨hst, S, hr, hlk, hN, hK, hST, hX, hbl⟩ := E
  obtain ⟨hW, hI, hJ, hO, hV⟩ := Z
  have i1 : vp_in (nI (5 * x) + 1) LL := sc_in (k := 1) hx hL (by decide)
  obtain ⟨x1, hy1⟩ : ∃ v, xs (nI (5 * x) + 1).toNatClampNeg = v := ⟨_, rfl⟩
  have i2 : vp_in (nI (5 * x) + 2) LL := sc_in (k := 2) hx hL (by decide)
  obtain ⟨x2, hy2⟩ : ∃ v, xs (nI (5 * x) + 2).toNatClampNeg = v := ⟨_, rfl⟩
  refine lv_aload_n S.1 S.2.1 dW_1579 rfl (lv_at hl 2 rfl) ?_
  refine lv_aload_n S.1 S.2.1 dW_1580 rfl (lv_at hl 1 rfl) ?_
  refine lv_iload S.1 S.2.1 dW_1581 (lv_at hl 0 rfl) ?_
  refine lv_iconst (v := 1) S.1 S.2.1 dW_1583 (by decide) ?_
  refine lv_iadd S.1 S.2.1 dW_1584 ?_
  refine pk_sld S hX hbl hW i1 hy1 dW_1585 ?_
  refine lv_aload_n S.1 S.2.1 dW_1586 rfl (lv_at hl 1 rfl) ?_
  refine lv_iload S.1 S.2.1 dW_1587 (lv_at hl 0 rfl) ?_
  refine lv_iconst (v := 2) S.1 S.2.1 dW_1589 (by decide) ?_
  refine lv_iadd S.1 S.2.1 dW_1590 ?_
  refine pk_sld S hX hbl hW i2 hy2 dW_1591 ?_
  refine lv_aload_n S.1 S.2.1 dW_1592 rfl (lv_at hl 4 rfl) ?_
  obtain ⟨res, res2, hf, hk, hg, hV2, hag⟩ := sx_stand hV x1 x2
  refine pk_cLI (As := [.ref (A 0), .int x1, .int x2, .ref q]) (rest := []) S hK hST hW hN (c_L_stand hst hI hO x1 x2 hf hk) mw_L_stand wd_3021 wd_651 np_L_stand rfl hl.1 rfl (Nat.le_of_ble_eq_true rfl) dW_1593 ⟨Nat.le_of_ble_eq_true rfl, Nat.le_of_ble_eq_true rfl⟩ ⟨by show cells + 2 ≤ 697565; omega, by show slots + 12 ≤ 7003408; omega⟩ (fun r L1 F1 H1 l1 hp hW => ?_)
  obtain ⟨hs1, hI1, ⟨w0, w1, e_q1, ha1⟩, hf1⟩ := hp
  have hJ1 := hJ.keepC hI hO hs1 hf1 (noE hW hST)
  have hO1 : OUT q L1 F1 := ⟨hs1 _ hO.1, w0, w1, e_q1⟩
  refine lv_istore (lv' := [(5, .int r), (4, .int (nI (5 * x))), (0, .ref b), (1, .ref (A 0)), (2, .ref (B 0)), (3, .ref q)]) S.1 S.2.1 dW_1596 hl (Nat.le_of_ble_eq_true rfl) rfl (fun ls hl => ?_)
  refine lv_aload_n S.1 S.2.1 dW_1598 rfl (lv_at hl 4 rfl) ?_
  refine lv_aload_n S.1 S.2.1 dW_1599 rfl (lv_at hl 2 rfl) ?_
  refine lv_iload S.1 S.2.1 dW_1600 (lv_at hl 1 rfl) ?_
  refine lv_iconst (v := 1) S.1 S.2.1 dW_1602 (by decide) ?_
  refine lv_iadd S.1 S.2.1 dW_1603 ?_
  refine pk_sld S hX hbl hW i1 hy1 dW_1604 ?_
  refine lv_aload_n S.1 S.2.1 dW_1605 rfl (lv_at hl 2 rfl) ?_
  refine lv_iload S.1 S.2.1 dW_1606 (lv_at hl 1 rfl) ?_
  refine lv_iconst (v := 2) S.1 S.2.1 dW_1608 (by decide) ?_
  refine lv_iadd S.1 S.2.1 dW_1609 ?_
  refine pk_sld S hX hbl hW i2 hy2 dW_1610 ?_
  refine pk_cVI (As := [.int x1, .int x2]) (rest := []) S hK hST hW (c_X6_stand hJ1 x1 x2 hg) mc_X6_stand wd_3059 wd_1467 wd_1468 rfl np_X6_stand (hJ1.mem (by decide)) hJ1.this rfl rfl hl.1 rfl (Nat.le_of_ble_eq_true rfl) dW_1611 ⟨Nat.le_of_ble_eq_true rfl, Nat.le_of_ble_eq_true rfl⟩ ⟨by show cells + 2 + 0 ≤ 697565; omega, by show slots + 12 + 0 ≤ 7003408; omega⟩ (fun r2 L2 F2 H2 l2 hp hW => ?_)
  obtain ⟨rfl, hJ2, hM2⟩ := hp
  have hI2 := hI1.keepM hM2
  have hO2 := hO1.keepM hM2
  refine lv_istore (lv' := [(6, .int res2.1), (5, .int r), (4, .int (nI (5 * x))), (0, .ref b), (1, .ref (A 0)), (2, .ref (B 0)), (3, .ref q)]) S.1 S.2.1 dW_1614 hl (Nat.le_of_ble_eq_true rfl) rfl (fun ls hl => ?_)
  refine lv_goto (tgt := 2363) S.1 S.2.1 dW_1616 (by decide) ?_
  refine W.widen (k := cells + 256) (n := slots + 8192) (by omega) (by omega) ?_
  exact T _ _ _ _ _ _ _ ⟨hW, hI2, hJ2, hO2, hV2⟩ (lv_sub hl [2, 3, 4, 5, 6] rfl)
set_option maxHeartbeats 4000000 in
set_option maxRecDepth 100000 in
theorem cs_29 {p : Program} {l : Launch} {e : Env} {s : State} {m : MethodId} {b : Nat} {below : List Frame} {meth : Method} {c : Code} {D : va_G} {κ : Nat → ClassId} {ζ : Nat → Nat} {A B : Nat → Nat} {q LL x : Nat} {xs : Nat → Int32} {cells slots : Nat} {H : Heap} {locs : List Loc} {L : List Nat} {F : Nat → va_E} {σ : CS} {τ : MS} {ls : Array Slot} (E : LWE p l e s m b below meth c D κ ζ LL xs) (hx : 5 * x + 5 ≤ LL) (hL : LL ≤ 2560) (hc : cells + 256 ≤ 697565) (hs : slots + 8192 ≤ 7003408) (T : TL p l e s m b below meth c D κ ζ A B q x (cells + 256) (slots + 8192)) (Z : LST D κ ζ A B q s H locs L F σ τ) (hl : lv_has ls 7 [(4, .int (nI (5 * x))), (0, .ref b), (1, .ref (A 0)), (2, .ref (B 0)), (3, .ref q)]) : W p l e room_1 s m #[Value.ref b] below meth c H locs cells slots (lw_Z below #[Value.ref b] s) (F0 m 1619 ls []) := by
  obtain ⟨hst, S, hr, hlk, hN, hK, hST, hX, hbl⟩ := E
  obtain ⟨hW, hI, hJ, hO, hV⟩ := Z
  have i1 : vp_in (nI (5 * x) + 1) LL := sc_in (k := 1) hx hL (by decide)
  obtain ⟨x1, hy1⟩ : ∃ v, xs (nI (5 * x) + 1).toNatClampNeg = v := ⟨_, rfl⟩
  refine lv_aload_n S.1 S.2.1 dW_1619 rfl (lv_at hl 2 rfl) ?_
  refine lv_aload_n S.1 S.2.1 dW_1620 rfl (lv_at hl 1 rfl) ?_
  refine lv_iload S.1 S.2.1 dW_1621 (lv_at hl 0 rfl) ?_
  refine lv_iconst (v := 1) S.1 S.2.1 dW_1623 (by decide) ?_
  refine lv_iadd S.1 S.2.1 dW_1624 ?_
  refine pk_sld S hX hbl hW i1 hy1 dW_1625 ?_
  refine lv_aload_n S.1 S.2.1 dW_1626 rfl (lv_at hl 4 rfl) ?_
  obtain ⟨res, res2, hf, hk, hg, hV2, hag⟩ := sx_forth hV x1
  refine pk_cLI (As := [.ref (A 0), .int x1, .ref q]) (rest := []) S hK hST hW hN (c_L_forth hst hI hO x1 hf hk) mw_L_forth wd_3022 wd_665 np_L_forth rfl hl.1 rfl (Nat.le_of_ble_eq_true rfl) dW_1627 ⟨Nat.le_of_ble_eq_true rfl, Nat.le_of_ble_eq_true rfl⟩ ⟨by show cells + 2 ≤ 697565; omega, by show slots + 12 ≤ 7003408; omega⟩ (fun r L1 F1 H1 l1 hp hW => ?_)
  obtain ⟨hs1, hI1, ⟨w0, w1, e_q1, ha1⟩, hf1⟩ := hp
  have hJ1 := hJ.keepC hI hO hs1 hf1 (noE hW hST)
  have hO1 : OUT q L1 F1 := ⟨hs1 _ hO.1, w0, w1, e_q1⟩
  refine lv_istore (lv' := [(5, .int r), (4, .int (nI (5 * x))), (0, .ref b), (1, .ref (A 0)), (2, .ref (B 0)), (3, .ref q)]) S.1 S.2.1 dW_1630 hl (Nat.le_of_ble_eq_true rfl) rfl (fun ls hl => ?_)
  refine lv_aload_n S.1 S.2.1 dW_1632 rfl (lv_at hl 4 rfl) ?_
  refine lv_aload_n S.1 S.2.1 dW_1633 rfl (lv_at hl 2 rfl) ?_
  refine lv_iload S.1 S.2.1 dW_1634 (lv_at hl 1 rfl) ?_
  refine lv_iconst (v := 1) S.1 S.2.1 dW_1636 (by decide) ?_
  refine lv_iadd S.1 S.2.1 dW_1637 ?_
  refine pk_sld S hX hbl hW i1 hy1 dW_1638 ?_
  refine pk_cVI (As := [.int x1]) (rest := []) S hK hST hW (c_X6_forth hJ1 x1 hg) mc_X6_forth wd_3060 wd_1474 wd_1475 rfl np_X6_forth (hJ1.mem (by decide)) hJ1.this rfl rfl hl.1 rfl (Nat.le_of_ble_eq_true rfl) dW_1639 ⟨Nat.le_of_ble_eq_true rfl, Nat.le_of_ble_eq_true rfl⟩ ⟨by show cells + 2 + 0 ≤ 697565; omega, by show slots + 12 + 0 ≤ 7003408; omega⟩ (fun r2 L2 F2 H2 l2 hp hW => ?_)
  obtain ⟨rfl, hJ2, hM2⟩ := hp
  have hI2 := hI1.keepM hM2
  have hO2 := hO1.keepM hM2
  refine lv_istore (lv' := [(6, .int res2.1), (5, .int r), (4, .int (nI (5 * x))), (0, .ref b), (1, .ref (A 0)), (2, .ref (B 0)), (3, .ref q)]) S.1 S.2.1 dW_1642 hl (Nat.le_of_ble_eq_true rfl) rfl (fun ls hl => ?_)
  refine lv_goto (tgt := 2363) S.1 S.2.1 dW_1644 (by decide) ?_
  refine W.widen (k := cells + 256) (n := slots + 8192) (by omega) (by omega) ?_
  exact T _ _ _ _ _ _ _ ⟨hW, hI2, hJ2, hO2, hV2⟩ (lv_sub hl [2, 3, 4, 5, 6] rfl)
set_option maxHeartbeats 4000000 in
set_option maxRecDepth 100000 in
theorem cs_30 {p : Program} {l : Launch} {e : Env} {s : State} {m : MethodId} {b : Nat} {below : List Frame} {meth : Method} {c : Code} {D : va_G} {κ : Nat → ClassId} {ζ : Nat → Nat} {A B : Nat → Nat} {q LL x : Nat} {xs : Nat → Int32} {cells slots : Nat} {H : Heap} {locs : List Loc} {L : List Nat} {F : Nat → va_E} {σ : CS} {τ : MS} {ls : Array Slot} (E : LWE p l e s m b below meth c D κ ζ LL xs) (hx : 5 * x + 5 ≤ LL) (hL : LL ≤ 2560) (hc : cells + 256 ≤ 697565) (hs : slots + 8192 ≤ 7003408) (T : TL p l e s m b below meth c D κ ζ A B q x (cells + 256) (slots + 8192)) (Z : LST D κ ζ A B q s H locs L F σ τ) (hl : lv_has ls 7 [(4, .int (nI (5 * x))), (0, .ref b), (1, .ref (A 0)), (2, .ref (B 0)), (3, .ref q)]) : W p l e room_1 s m #[Value.ref b] below meth c H locs cells slots (lw_Z below #[Value.ref b] s) (F0 m 1647 ls []) := by
  obtain ⟨hst, S, hr, hlk, hN, hK, hST, hX, hbl⟩ := E
  obtain ⟨hW, hI, hJ, hO, hV⟩ := Z
  have i1 : vp_in (nI (5 * x) + 1) LL := sc_in (k := 1) hx hL (by decide)
  obtain ⟨x1, hy1⟩ : ∃ v, xs (nI (5 * x) + 1).toNatClampNeg = v := ⟨_, rfl⟩
  refine lv_aload_n S.1 S.2.1 dW_1647 rfl (lv_at hl 2 rfl) ?_
  refine lv_aload_n S.1 S.2.1 dW_1648 rfl (lv_at hl 1 rfl) ?_
  refine lv_iload S.1 S.2.1 dW_1649 (lv_at hl 0 rfl) ?_
  refine lv_iconst (v := 1) S.1 S.2.1 dW_1651 (by decide) ?_
  refine lv_iadd S.1 S.2.1 dW_1652 ?_
  refine pk_sld S hX hbl hW i1 hy1 dW_1653 ?_
  refine lv_aload_n S.1 S.2.1 dW_1654 rfl (lv_at hl 4 rfl) ?_
  obtain ⟨res, res2, hf, hk, hg, hV2, hag⟩ := sx_back hV x1
  refine pk_cLI (As := [.ref (A 0), .int x1, .ref q]) (rest := []) S hK hST hW hN (c_L_back hst hI hO x1 hf hk) mw_L_back wd_3023 wd_680 np_L_back rfl hl.1 rfl (Nat.le_of_ble_eq_true rfl) dW_1655 ⟨Nat.le_of_ble_eq_true rfl, Nat.le_of_ble_eq_true rfl⟩ ⟨by show cells + 2 ≤ 697565; omega, by show slots + 12 ≤ 7003408; omega⟩ (fun r L1 F1 H1 l1 hp hW => ?_)
  obtain ⟨hs1, hI1, ⟨w0, w1, e_q1, ha1⟩, hf1⟩ := hp
  have hJ1 := hJ.keepC hI hO hs1 hf1 (noE hW hST)
  have hO1 : OUT q L1 F1 := ⟨hs1 _ hO.1, w0, w1, e_q1⟩
  refine lv_istore (lv' := [(5, .int r), (4, .int (nI (5 * x))), (0, .ref b), (1, .ref (A 0)), (2, .ref (B 0)), (3, .ref q)]) S.1 S.2.1 dW_1658 hl (Nat.le_of_ble_eq_true rfl) rfl (fun ls hl => ?_)
  refine lv_aload_n S.1 S.2.1 dW_1660 rfl (lv_at hl 4 rfl) ?_
  refine lv_aload_n S.1 S.2.1 dW_1661 rfl (lv_at hl 2 rfl) ?_
  refine lv_iload S.1 S.2.1 dW_1662 (lv_at hl 1 rfl) ?_
  refine lv_iconst (v := 1) S.1 S.2.1 dW_1664 (by decide) ?_
  refine lv_iadd S.1 S.2.1 dW_1665 ?_
  refine pk_sld S hX hbl hW i1 hy1 dW_1666 ?_
  refine pk_cVI (As := [.int x1]) (rest := []) S hK hST hW (c_X6_back hJ1 x1 hg) mc_X6_back wd_3061 wd_1482 wd_1483 rfl np_X6_back (hJ1.mem (by decide)) hJ1.this rfl rfl hl.1 rfl (Nat.le_of_ble_eq_true rfl) dW_1667 ⟨Nat.le_of_ble_eq_true rfl, Nat.le_of_ble_eq_true rfl⟩ ⟨by show cells + 2 + 0 ≤ 697565; omega, by show slots + 12 + 0 ≤ 7003408; omega⟩ (fun r2 L2 F2 H2 l2 hp hW => ?_)
  obtain ⟨rfl, hJ2, hM2⟩ := hp
  have hI2 := hI1.keepM hM2
  have hO2 := hO1.keepM hM2
  refine lv_istore (lv' := [(6, .int res2.1), (5, .int r), (4, .int (nI (5 * x))), (0, .ref b), (1, .ref (A 0)), (2, .ref (B 0)), (3, .ref q)]) S.1 S.2.1 dW_1670 hl (Nat.le_of_ble_eq_true rfl) rfl (fun ls hl => ?_)
  refine lv_goto (tgt := 2363) S.1 S.2.1 dW_1672 (by decide) ?_
  refine W.widen (k := cells + 256) (n := slots + 8192) (by omega) (by omega) ?_
  exact T _ _ _ _ _ _ _ ⟨hW, hI2, hJ2, hO2, hV2⟩ (lv_sub hl [2, 3, 4, 5, 6] rfl)
set_option maxHeartbeats 4000000 in
set_option maxRecDepth 100000 in
theorem cs_31 {p : Program} {l : Launch} {e : Env} {s : State} {m : MethodId} {b : Nat} {below : List Frame} {meth : Method} {c : Code} {D : va_G} {κ : Nat → ClassId} {ζ : Nat → Nat} {A B : Nat → Nat} {q LL x : Nat} {xs : Nat → Int32} {cells slots : Nat} {H : Heap} {locs : List Loc} {L : List Nat} {F : Nat → va_E} {σ : CS} {τ : MS} {ls : Array Slot} (E : LWE p l e s m b below meth c D κ ζ LL xs) (hx : 5 * x + 5 ≤ LL) (hL : LL ≤ 2560) (hc : cells + 256 ≤ 697565) (hs : slots + 8192 ≤ 7003408) (T : TL p l e s m b below meth c D κ ζ A B q x (cells + 256) (slots + 8192)) (Z : LST D κ ζ A B q s H locs L F σ τ) (hl : lv_has ls 7 [(4, .int (nI (5 * x))), (0, .ref b), (1, .ref (A 0)), (2, .ref (B 0)), (3, .ref q)]) : W p l e room_1 s m #[Value.ref b] below meth c H locs cells slots (lw_Z below #[Value.ref b] s) (F0 m 1675 ls []) := by
  obtain ⟨hst, S, hr, hlk, hN, hK, hST, hX, hbl⟩ := E
  obtain ⟨hW, hI, hJ, hO, hV⟩ := Z
  have i1 : vp_in (nI (5 * x) + 1) LL := sc_in (k := 1) hx hL (by decide)
  obtain ⟨x1, hy1⟩ : ∃ v, xs (nI (5 * x) + 1).toNatClampNeg = v := ⟨_, rfl⟩
  refine lv_aload_n S.1 S.2.1 dW_1675 rfl (lv_at hl 2 rfl) ?_
  refine lv_aload_n S.1 S.2.1 dW_1676 rfl (lv_at hl 1 rfl) ?_
  refine lv_iload S.1 S.2.1 dW_1677 (lv_at hl 0 rfl) ?_
  refine lv_iconst (v := 1) S.1 S.2.1 dW_1679 (by decide) ?_
  refine lv_iadd S.1 S.2.1 dW_1680 ?_
  refine pk_sld S hX hbl hW i1 hy1 dW_1681 ?_
  refine lv_aload_n S.1 S.2.1 dW_1682 rfl (lv_at hl 4 rfl) ?_
  obtain ⟨res, res2, hf, hk, hg, hV2, hag⟩ := sx_takeHeld hV x1
  refine pk_cLI (As := [.ref (A 0), .int x1, .ref q]) (rest := []) S hK hST hW hN (c_L_takeHeld hst hI hO x1 hf hk) mw_L_takeHeld wd_3024 wd_690 np_L_takeHeld rfl hl.1 rfl (Nat.le_of_ble_eq_true rfl) dW_1683 ⟨Nat.le_of_ble_eq_true rfl, Nat.le_of_ble_eq_true rfl⟩ ⟨by show cells + 2 ≤ 697565; omega, by show slots + 12 ≤ 7003408; omega⟩ (fun r L1 F1 H1 l1 hp hW => ?_)
  obtain ⟨hs1, hI1, ⟨w0, w1, e_q1, ha1⟩, hf1⟩ := hp
  have hJ1 := hJ.keepC hI hO hs1 hf1 (noE hW hST)
  have hO1 : OUT q L1 F1 := ⟨hs1 _ hO.1, w0, w1, e_q1⟩
  refine lv_istore (lv' := [(5, .int r), (4, .int (nI (5 * x))), (0, .ref b), (1, .ref (A 0)), (2, .ref (B 0)), (3, .ref q)]) S.1 S.2.1 dW_1686 hl (Nat.le_of_ble_eq_true rfl) rfl (fun ls hl => ?_)
  refine lv_aload_n S.1 S.2.1 dW_1688 rfl (lv_at hl 4 rfl) ?_
  refine lv_aload_n S.1 S.2.1 dW_1689 rfl (lv_at hl 2 rfl) ?_
  refine lv_iload S.1 S.2.1 dW_1690 (lv_at hl 1 rfl) ?_
  refine lv_iconst (v := 1) S.1 S.2.1 dW_1692 (by decide) ?_
  refine lv_iadd S.1 S.2.1 dW_1693 ?_
  refine pk_sld S hX hbl hW i1 hy1 dW_1694 ?_
  refine pk_cVI (As := [.int x1]) (rest := []) S hK hST hW (c_X6_takeHeld hJ1 x1 hg) mc_X6_takeHeld wd_3062 wd_1486 wd_1487 rfl np_X6_takeHeld (hJ1.mem (by decide)) hJ1.this rfl rfl hl.1 rfl (Nat.le_of_ble_eq_true rfl) dW_1695 ⟨Nat.le_of_ble_eq_true rfl, Nat.le_of_ble_eq_true rfl⟩ ⟨by show cells + 2 + 0 ≤ 697565; omega, by show slots + 12 + 0 ≤ 7003408; omega⟩ (fun r2 L2 F2 H2 l2 hp hW => ?_)
  obtain ⟨rfl, hJ2, hM2⟩ := hp
  have hI2 := hI1.keepM hM2
  have hO2 := hO1.keepM hM2
  refine lv_istore (lv' := [(6, .int res2.1), (5, .int r), (4, .int (nI (5 * x))), (0, .ref b), (1, .ref (A 0)), (2, .ref (B 0)), (3, .ref q)]) S.1 S.2.1 dW_1698 hl (Nat.le_of_ble_eq_true rfl) rfl (fun ls hl => ?_)
  refine lv_goto (tgt := 2363) S.1 S.2.1 dW_1700 (by decide) ?_
  refine W.widen (k := cells + 256) (n := slots + 8192) (by omega) (by omega) ?_
  exact T _ _ _ _ _ _ _ ⟨hW, hI2, hJ2, hO2, hV2⟩ (lv_sub hl [2, 3, 4, 5, 6] rfl)
set_option maxHeartbeats 4000000 in
set_option maxRecDepth 100000 in
theorem cs_32 {p : Program} {l : Launch} {e : Env} {s : State} {m : MethodId} {b : Nat} {below : List Frame} {meth : Method} {c : Code} {D : va_G} {κ : Nat → ClassId} {ζ : Nat → Nat} {A B : Nat → Nat} {q LL x : Nat} {xs : Nat → Int32} {cells slots : Nat} {H : Heap} {locs : List Loc} {L : List Nat} {F : Nat → va_E} {σ : CS} {τ : MS} {ls : Array Slot} (E : LWE p l e s m b below meth c D κ ζ LL xs) (hx : 5 * x + 5 ≤ LL) (hL : LL ≤ 2560) (hc : cells + 256 ≤ 697565) (hs : slots + 8192 ≤ 7003408) (T : TL p l e s m b below meth c D κ ζ A B q x (cells + 256) (slots + 8192)) (Z : LST D κ ζ A B q s H locs L F σ τ) (hl : lv_has ls 7 [(4, .int (nI (5 * x))), (0, .ref b), (1, .ref (A 0)), (2, .ref (B 0)), (3, .ref q)]) : W p l e room_1 s m #[Value.ref b] below meth c H locs cells slots (lw_Z below #[Value.ref b] s) (F0 m 1703 ls []) := by
  obtain ⟨hst, S, hr, hlk, hN, hK, hST, hX, hbl⟩ := E
  obtain ⟨hW, hI, hJ, hO, hV⟩ := Z
  have i1 : vp_in (nI (5 * x) + 1) LL := sc_in (k := 1) hx hL (by decide)
  obtain ⟨x1, hy1⟩ : ∃ v, xs (nI (5 * x) + 1).toNatClampNeg = v := ⟨_, rfl⟩
  have i2 : vp_in (nI (5 * x) + 2) LL := sc_in (k := 2) hx hL (by decide)
  obtain ⟨x2, hy2⟩ : ∃ v, xs (nI (5 * x) + 2).toNatClampNeg = v := ⟨_, rfl⟩
  have i3 : vp_in (nI (5 * x) + 3) LL := sc_in (k := 3) hx hL (by decide)
  obtain ⟨x3, hy3⟩ : ∃ v, xs (nI (5 * x) + 3).toNatClampNeg = v := ⟨_, rfl⟩
  refine lv_aload_n S.1 S.2.1 dW_1703 rfl (lv_at hl 2 rfl) ?_
  refine lv_aload_n S.1 S.2.1 dW_1704 rfl (lv_at hl 1 rfl) ?_
  refine lv_iload S.1 S.2.1 dW_1705 (lv_at hl 0 rfl) ?_
  refine lv_iconst (v := 1) S.1 S.2.1 dW_1707 (by decide) ?_
  refine lv_iadd S.1 S.2.1 dW_1708 ?_
  refine pk_sld S hX hbl hW i1 hy1 dW_1709 ?_
  refine lv_aload_n S.1 S.2.1 dW_1710 rfl (lv_at hl 1 rfl) ?_
  refine lv_iload S.1 S.2.1 dW_1711 (lv_at hl 0 rfl) ?_
  refine lv_iconst (v := 2) S.1 S.2.1 dW_1713 (by decide) ?_
  refine lv_iadd S.1 S.2.1 dW_1714 ?_
  refine pk_sld S hX hbl hW i2 hy2 dW_1715 ?_
  refine lv_aload_n S.1 S.2.1 dW_1716 rfl (lv_at hl 1 rfl) ?_
  refine lv_iload S.1 S.2.1 dW_1717 (lv_at hl 0 rfl) ?_
  refine lv_iconst (v := 3) S.1 S.2.1 dW_1719 (by decide) ?_
  refine lv_iadd S.1 S.2.1 dW_1720 ?_
  refine pk_sld S hX hbl hW i3 hy3 dW_1721 ?_
  refine lv_aload_n S.1 S.2.1 dW_1722 rfl (lv_at hl 4 rfl) ?_
  obtain ⟨res, res2, hf, hk, hg, hV2, hag⟩ := sx_setHeld hV x1 x2 x3
  refine pk_cLI (As := [.ref (A 0), .int x1, .int x2, .int x3, .ref q]) (rest := []) S hK hST hW hN (c_L_setHeld hst hI hO x1 x2 x3 hf hk) mw_L_setHeld wd_3025 wd_709 np_L_setHeld rfl hl.1 rfl (Nat.le_of_ble_eq_true rfl) dW_1723 ⟨Nat.le_of_ble_eq_true rfl, Nat.le_of_ble_eq_true rfl⟩ ⟨by show cells + 4 ≤ 697565; omega, by show slots + 24 ≤ 7003408; omega⟩ (fun r L1 F1 H1 l1 hp hW => ?_)
  obtain ⟨hs1, hI1, ⟨w0, w1, e_q1, ha1⟩, hf1⟩ := hp
  have hJ1 := hJ.keepC hI hO hs1 hf1 (noE hW hST)
  have hO1 : OUT q L1 F1 := ⟨hs1 _ hO.1, w0, w1, e_q1⟩
  refine lv_istore (lv' := [(5, .int r), (4, .int (nI (5 * x))), (0, .ref b), (1, .ref (A 0)), (2, .ref (B 0)), (3, .ref q)]) S.1 S.2.1 dW_1726 hl (Nat.le_of_ble_eq_true rfl) rfl (fun ls hl => ?_)
  refine lv_aload_n S.1 S.2.1 dW_1728 rfl (lv_at hl 4 rfl) ?_
  refine lv_aload_n S.1 S.2.1 dW_1729 rfl (lv_at hl 2 rfl) ?_
  refine lv_iload S.1 S.2.1 dW_1730 (lv_at hl 1 rfl) ?_
  refine lv_iconst (v := 1) S.1 S.2.1 dW_1732 (by decide) ?_
  refine lv_iadd S.1 S.2.1 dW_1733 ?_
  refine pk_sld S hX hbl hW i1 hy1 dW_1734 ?_
  refine lv_aload_n S.1 S.2.1 dW_1735 rfl (lv_at hl 2 rfl) ?_
  refine lv_iload S.1 S.2.1 dW_1736 (lv_at hl 1 rfl) ?_
  refine lv_iconst (v := 2) S.1 S.2.1 dW_1738 (by decide) ?_
  refine lv_iadd S.1 S.2.1 dW_1739 ?_
  refine pk_sld S hX hbl hW i2 hy2 dW_1740 ?_
  refine lv_aload_n S.1 S.2.1 dW_1741 rfl (lv_at hl 2 rfl) ?_
  refine lv_iload S.1 S.2.1 dW_1742 (lv_at hl 1 rfl) ?_
  refine lv_iconst (v := 3) S.1 S.2.1 dW_1744 (by decide) ?_
  refine lv_iadd S.1 S.2.1 dW_1745 ?_
  refine pk_sld S hX hbl hW i3 hy3 dW_1746 ?_
  refine pk_cVI (As := [.int x1, .int x2, .int x3]) (rest := []) S hK hST hW (c_X6_setHeld hJ1 x1 x2 x3 hg) mc_X6_setHeld wd_3063 wd_1490 wd_1491 rfl np_X6_setHeld (hJ1.mem (by decide)) hJ1.this rfl rfl hl.1 rfl (Nat.le_of_ble_eq_true rfl) dW_1747 ⟨Nat.le_of_ble_eq_true rfl, Nat.le_of_ble_eq_true rfl⟩ ⟨by show cells + 4 + 1 ≤ 697565; omega, by show slots + 24 + 33 ≤ 7003408; omega⟩ (fun r2 L2 F2 H2 l2 hp hW => ?_)
  obtain ⟨rfl, hJ2, hM2⟩ := hp
  have hI2 := hI1.keepM hM2
  have hO2 := hO1.keepM hM2
  refine lv_istore (lv' := [(6, .int res2.1), (5, .int r), (4, .int (nI (5 * x))), (0, .ref b), (1, .ref (A 0)), (2, .ref (B 0)), (3, .ref q)]) S.1 S.2.1 dW_1750 hl (Nat.le_of_ble_eq_true rfl) rfl (fun ls hl => ?_)
  refine lv_goto (tgt := 2363) S.1 S.2.1 dW_1752 (by decide) ?_
  refine W.widen (k := cells + 256) (n := slots + 8192) (by omega) (by omega) ?_
  exact T _ _ _ _ _ _ _ ⟨hW, hI2, hJ2, hO2, hV2⟩ (lv_sub hl [2, 3, 4, 5, 6] rfl)
set_option maxHeartbeats 4000000 in
set_option maxRecDepth 100000 in
theorem cs_33 {p : Program} {l : Launch} {e : Env} {s : State} {m : MethodId} {b : Nat} {below : List Frame} {meth : Method} {c : Code} {D : va_G} {κ : Nat → ClassId} {ζ : Nat → Nat} {A B : Nat → Nat} {q LL x : Nat} {xs : Nat → Int32} {cells slots : Nat} {H : Heap} {locs : List Loc} {L : List Nat} {F : Nat → va_E} {σ : CS} {τ : MS} {ls : Array Slot} (E : LWE p l e s m b below meth c D κ ζ LL xs) (hx : 5 * x + 5 ≤ LL) (hL : LL ≤ 2560) (hc : cells + 256 ≤ 697565) (hs : slots + 8192 ≤ 7003408) (T : TL p l e s m b below meth c D κ ζ A B q x (cells + 256) (slots + 8192)) (Z : LST D κ ζ A B q s H locs L F σ τ) (hl : lv_has ls 7 [(4, .int (nI (5 * x))), (0, .ref b), (1, .ref (A 0)), (2, .ref (B 0)), (3, .ref q)]) : W p l e room_1 s m #[Value.ref b] below meth c H locs cells slots (lw_Z below #[Value.ref b] s) (F0 m 1755 ls []) := by
  obtain ⟨hst, S, hr, hlk, hN, hK, hST, hX, hbl⟩ := E
  obtain ⟨hW, hI, hJ, hO, hV⟩ := Z
  have i1 : vp_in (nI (5 * x) + 1) LL := sc_in (k := 1) hx hL (by decide)
  obtain ⟨x1, hy1⟩ : ∃ v, xs (nI (5 * x) + 1).toNatClampNeg = v := ⟨_, rfl⟩
  have i2 : vp_in (nI (5 * x) + 2) LL := sc_in (k := 2) hx hL (by decide)
  obtain ⟨x2, hy2⟩ : ∃ v, xs (nI (5 * x) + 2).toNatClampNeg = v := ⟨_, rfl⟩
  have i3 : vp_in (nI (5 * x) + 3) LL := sc_in (k := 3) hx hL (by decide)
  obtain ⟨x3, hy3⟩ : ∃ v, xs (nI (5 * x) + 3).toNatClampNeg = v := ⟨_, rfl⟩
  refine lv_aload_n S.1 S.2.1 dW_1755 rfl (lv_at hl 2 rfl) ?_
  refine lv_aload_n S.1 S.2.1 dW_1756 rfl (lv_at hl 1 rfl) ?_
  refine lv_iload S.1 S.2.1 dW_1757 (lv_at hl 0 rfl) ?_
  refine lv_iconst (v := 1) S.1 S.2.1 dW_1759 (by decide) ?_
  refine lv_iadd S.1 S.2.1 dW_1760 ?_
  refine pk_sld S hX hbl hW i1 hy1 dW_1761 ?_
  refine lv_aload_n S.1 S.2.1 dW_1762 rfl (lv_at hl 1 rfl) ?_
  refine lv_iload S.1 S.2.1 dW_1763 (lv_at hl 0 rfl) ?_
  refine lv_iconst (v := 2) S.1 S.2.1 dW_1765 (by decide) ?_
  refine lv_iadd S.1 S.2.1 dW_1766 ?_
  refine pk_sld S hX hbl hW i2 hy2 dW_1767 ?_
  refine lv_aload_n S.1 S.2.1 dW_1768 rfl (lv_at hl 1 rfl) ?_
  refine lv_iload S.1 S.2.1 dW_1769 (lv_at hl 0 rfl) ?_
  refine lv_iconst (v := 3) S.1 S.2.1 dW_1771 (by decide) ?_
  refine lv_iadd S.1 S.2.1 dW_1772 ?_
  refine pk_sld S hX hbl hW i3 hy3 dW_1773 ?_
  refine lv_aload_n S.1 S.2.1 dW_1774 rfl (lv_at hl 4 rfl) ?_
  obtain ⟨res, res2, hf, hk, hg, hV2, hag⟩ := sx_put hV x1 x2 x3
  refine pk_cLI (As := [.ref (A 0), .int x1, .int x2, .int x3, .ref q]) (rest := []) S hK hST hW hN (c_L_put hst hI hO x1 x2 x3 hf hk) mw_L_put wd_3026 wd_715 np_L_put rfl hl.1 rfl (Nat.le_of_ble_eq_true rfl) dW_1775 ⟨Nat.le_of_ble_eq_true rfl, Nat.le_of_ble_eq_true rfl⟩ ⟨by show cells + 5 ≤ 697565; omega, by show slots + 30 ≤ 7003408; omega⟩ (fun r L1 F1 H1 l1 hp hW => ?_)
  obtain ⟨hs1, hI1, ⟨w0, w1, e_q1, ha1⟩, hf1⟩ := hp
  have hJ1 := hJ.keepC hI hO hs1 hf1 (noE hW hST)
  have hO1 : OUT q L1 F1 := ⟨hs1 _ hO.1, w0, w1, e_q1⟩
  refine lv_istore (lv' := [(5, .int r), (4, .int (nI (5 * x))), (0, .ref b), (1, .ref (A 0)), (2, .ref (B 0)), (3, .ref q)]) S.1 S.2.1 dW_1778 hl (Nat.le_of_ble_eq_true rfl) rfl (fun ls hl => ?_)
  refine lv_aload_n S.1 S.2.1 dW_1780 rfl (lv_at hl 4 rfl) ?_
  refine lv_aload_n S.1 S.2.1 dW_1781 rfl (lv_at hl 2 rfl) ?_
  refine lv_iload S.1 S.2.1 dW_1782 (lv_at hl 1 rfl) ?_
  refine lv_iconst (v := 1) S.1 S.2.1 dW_1784 (by decide) ?_
  refine lv_iadd S.1 S.2.1 dW_1785 ?_
  refine pk_sld S hX hbl hW i1 hy1 dW_1786 ?_
  refine lv_aload_n S.1 S.2.1 dW_1787 rfl (lv_at hl 2 rfl) ?_
  refine lv_iload S.1 S.2.1 dW_1788 (lv_at hl 1 rfl) ?_
  refine lv_iconst (v := 2) S.1 S.2.1 dW_1790 (by decide) ?_
  refine lv_iadd S.1 S.2.1 dW_1791 ?_
  refine pk_sld S hX hbl hW i2 hy2 dW_1792 ?_
  refine lv_aload_n S.1 S.2.1 dW_1793 rfl (lv_at hl 2 rfl) ?_
  refine lv_iload S.1 S.2.1 dW_1794 (lv_at hl 1 rfl) ?_
  refine lv_iconst (v := 3) S.1 S.2.1 dW_1796 (by decide) ?_
  refine lv_iadd S.1 S.2.1 dW_1797 ?_
  refine pk_sld S hX hbl hW i3 hy3 dW_1798 ?_
  refine pk_cVI (As := [.int x1, .int x2, .int x3]) (rest := []) S hK hST hW (c_X6_put hJ1 x1 x2 x3 hg) mc_X6_put wd_3064 wd_1494 wd_1495 rfl np_X6_put (hJ1.mem (by decide)) hJ1.this rfl rfl hl.1 rfl (Nat.le_of_ble_eq_true rfl) dW_1799 ⟨Nat.le_of_ble_eq_true rfl, Nat.le_of_ble_eq_true rfl⟩ ⟨by show cells + 5 + 2 ≤ 697565; omega, by show slots + 30 + 66 ≤ 7003408; omega⟩ (fun r2 L2 F2 H2 l2 hp hW => ?_)
  obtain ⟨rfl, hJ2, hM2⟩ := hp
  have hI2 := hI1.keepM hM2
  have hO2 := hO1.keepM hM2
  refine lv_istore (lv' := [(6, .int res2.1), (5, .int r), (4, .int (nI (5 * x))), (0, .ref b), (1, .ref (A 0)), (2, .ref (B 0)), (3, .ref q)]) S.1 S.2.1 dW_1802 hl (Nat.le_of_ble_eq_true rfl) rfl (fun ls hl => ?_)
  refine lv_goto (tgt := 2363) S.1 S.2.1 dW_1804 (by decide) ?_
  refine W.widen (k := cells + 256) (n := slots + 8192) (by omega) (by omega) ?_
  exact T _ _ _ _ _ _ _ ⟨hW, hI2, hJ2, hO2, hV2⟩ (lv_sub hl [2, 3, 4, 5, 6] rfl)
