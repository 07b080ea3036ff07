/-! the law: what each order of the script comes to -/
set_option maxHeartbeats 4000000 in
set_option maxRecDepth 100000 in
theorem cs_17 {p : Program} {l : Launch} {e : Env} {s : State} {m : MethodId} {b : Nat} {below : List Frame} {meth : Method} {c : Code} {D : va_G} {κ : Nat → ClassId} {ζ : Nat → Nat} {A B : Nat → Nat} {q LL x : Nat} {xs : Nat → Int32} {cells slots : Nat} {H : Heap} {locs : List Loc} {L : List Nat} {F : Nat → va_E} {σ : CS} {τ : MS} {ls : Array Slot} (E : LWE p l e s m b below meth c D κ ζ LL xs) (hx : 5 * x + 5 ≤ LL) (hL : LL ≤ 2560) (hc : cells + 256 ≤ 697565) (hs : slots + 8192 ≤ 7003408) (T : TL p l e s m b below meth c D κ ζ A B q x (cells + 256) (slots + 8192)) (Z : LST D κ ζ A B q s H locs L F σ τ) (hl : lv_has ls 7 [(4, .int (nI (5 * x))), (0, .ref b), (1, .ref (A 0)), (2, .ref (B 0)), (3, .ref q)]) : W p l e room_1 s m #[Value.ref b] below meth c H locs cells slots (lw_Z below #[Value.ref b] s) (F0 m 1145 ls []) := by
  obtain ⟨hst, S, hr, hlk, hN, hK, hST, hX, hbl⟩ := E
  obtain ⟨hW, hI, hJ, hO, hV⟩ := Z
  have i1 : vp_in (nI (5 * x) + 1) LL := sc_in (k := 1) hx hL (by decide)
  obtain ⟨x1, hy1⟩ : ∃ v, xs (nI (5 * x) + 1).toNatClampNeg = v := ⟨_, rfl⟩
  obtain ⟨y1, hz1⟩ : ∃ v, (if x1 = 0 then (0 : Int32) else 1) = v := ⟨_, rfl⟩
  have hq1 := nz01 hz1
  refine lv_aload_n S.1 S.2.1 dW_1145 rfl (lv_at hl 2 rfl) ?_
  refine lv_aload_n S.1 S.2.1 dW_1146 rfl (lv_at hl 1 rfl) ?_
  refine lv_iload S.1 S.2.1 dW_1147 (lv_at hl 0 rfl) ?_
  refine lv_iconst (v := 1) S.1 S.2.1 dW_1149 (by decide) ?_
  refine lv_iadd S.1 S.2.1 dW_1150 ?_
  refine pk_sld S hX hbl hW i1 hy1 dW_1151 ?_
  refine pk_nz S.1 S.2.1 hz1 dW_1152 dW_1155 dW_1156 dW_1159 ?_
  obtain ⟨res, res2, hf, hg, hV2, hag⟩ := sx_purge hV y1 hq1
  refine pk_cVI (As := [.int y1]) (rest := []) S hK hST hW (c_X3_purge hI y1 hf) mc_X3_purge wd_167 wd_168 wd_169 rfl np_X3_purge (hI.mem 0 (by decide)) hI.this rfl rfl hl.1 rfl (Nat.le_of_ble_eq_true rfl) dW_1160 ⟨Nat.le_of_ble_eq_true rfl, Nat.le_of_ble_eq_true rfl⟩ ⟨by show cells + 0 ≤ 697565; omega, by show slots + 0 ≤ 7003408; omega⟩ (fun r L1 F1 H1 l1 hp hW => ?_)
  obtain ⟨rfl, rfl, hI1, hf1⟩ := hp
  have hJ1 := hJ.keepC hI hO (fun _ h => h) (fun x _ h _ => hf1 x h) (noE hW hST)
  have hO1 := hO.keepA hI hf1
  refine lv_pop S.1 S.2.1 dW_1163 rfl ?_
  refine lv_aload_n S.1 S.2.1 dW_1164 rfl (lv_at hl 3 rfl) ?_
  refine lv_aload_n S.1 S.2.1 dW_1165 rfl (lv_at hl 1 rfl) ?_
  refine lv_iload S.1 S.2.1 dW_1166 (lv_at hl 0 rfl) ?_
  refine lv_iconst (v := 1) S.1 S.2.1 dW_1168 (by decide) ?_
  refine lv_iadd S.1 S.2.1 dW_1169 ?_
  refine pk_sld S hX hbl hW i1 hy1 dW_1170 ?_
  refine pk_nz S.1 S.2.1 hz1 dW_1171 dW_1174 dW_1175 dW_1178 ?_
  refine pk_cVI (As := [.int y1]) (rest := []) S hK hST hW (c_X6_purge hJ1 y1 hg) mc_X6_purge wd_1409 wd_1410 wd_1411 rfl np_X6_purge (hJ1.mem (by decide)) hJ1.this rfl rfl hl.1 rfl (Nat.le_of_ble_eq_true rfl) dW_1179 ⟨Nat.le_of_ble_eq_true rfl, Nat.le_of_ble_eq_true rfl⟩ ⟨by show cells + 0 + 1 ≤ 697565; omega, by show slots + 0 + 33 ≤ 7003408; omega⟩ (fun r2 L2 F2 H2 l2 hp hW => ?_)
  obtain ⟨rfl, hJ2, hM2⟩ := hp
  have hI2 := hI1.keepM hM2
  have hO2 := hO1.keepM hM2
  refine lv_pop S.1 S.2.1 dW_1182 rfl ?_
  refine lv_goto (tgt := 2356) S.1 S.2.1 dW_1183 (by decide) ?_
  refine W.widen (k := cells + 256) (n := slots + 8192) (by omega) (by omega) ?_
  exact T _ _ _ _ _ _ _ ⟨hW, hI2, hJ2, hO2, hV2⟩ (lv_sub hl [0, 1, 2, 3, 4] rfl)
set_option maxHeartbeats 4000000 in
set_option maxRecDepth 100000 in
theorem cs_18 {p : Program} {l : Launch} {e : Env} {s : State} {m : MethodId} {b : Nat} {below : List Frame} {meth : Method} {c : Code} {D : va_G} {κ : Nat → ClassId} {ζ : Nat → Nat} {A B : Nat → Nat} {q LL x : Nat} {xs : Nat → Int32} {cells slots : Nat} {H : Heap} {locs : List Loc} {L : List Nat} {F : Nat → va_E} {σ : CS} {τ : MS} {ls : Array Slot} (E : LWE p l e s m b below meth c D κ ζ LL xs) (hx : 5 * x + 5 ≤ LL) (hL : LL ≤ 2560) (hc : cells + 256 ≤ 697565) (hs : slots + 8192 ≤ 7003408) (T : TL p l e s m b below meth c D κ ζ A B q x (cells + 256) (slots + 8192)) (Z : LST D κ ζ A B q s H locs L F σ τ) (hl : lv_has ls 7 [(4, .int (nI (5 * x))), (0, .ref b), (1, .ref (A 0)), (2, .ref (B 0)), (3, .ref q)]) : W p l e room_1 s m #[Value.ref b] below meth c H locs cells slots (lw_Z below #[Value.ref b] s) (F0 m 1186 ls []) := by
  obtain ⟨hst, S, hr, hlk, hN, hK, hST, hX, hbl⟩ := E
  obtain ⟨hW, hI, hJ, hO, hV⟩ := Z
  have i1 : vp_in (nI (5 * x) + 1) LL := sc_in (k := 1) hx hL (by decide)
  obtain ⟨x1, hy1⟩ : ∃ v, xs (nI (5 * x) + 1).toNatClampNeg = v := ⟨_, rfl⟩
  obtain ⟨y1, hz1⟩ : ∃ v, (if x1 = 0 then (0 : Int32) else 1) = v := ⟨_, rfl⟩
  have hq1 := nz01 hz1
  refine lv_aload_n S.1 S.2.1 dW_1186 rfl (lv_at hl 2 rfl) ?_
  refine lv_aload_n S.1 S.2.1 dW_1187 rfl (lv_at hl 1 rfl) ?_
  refine lv_iload S.1 S.2.1 dW_1188 (lv_at hl 0 rfl) ?_
  refine lv_iconst (v := 1) S.1 S.2.1 dW_1190 (by decide) ?_
  refine lv_iadd S.1 S.2.1 dW_1191 ?_
  refine pk_sld S hX hbl hW i1 hy1 dW_1192 ?_
  refine pk_nz S.1 S.2.1 hz1 dW_1193 dW_1196 dW_1197 dW_1200 ?_
  obtain ⟨res, res2, hf, hg, hV2, hag⟩ := sx_walk hV y1 hq1
  refine pk_cVI (As := [.int y1]) (rest := []) S hK hST hW (c_X3_walk hI y1 hf) mc_X3_walk wd_194 wd_195 wd_196 rfl np_X3_walk (hI.mem 0 (by decide)) hI.this rfl rfl hl.1 rfl (Nat.le_of_ble_eq_true rfl) dW_1201 ⟨Nat.le_of_ble_eq_true rfl, Nat.le_of_ble_eq_true rfl⟩ ⟨by show cells + 0 ≤ 697565; omega, by show slots + 0 ≤ 7003408; omega⟩ (fun r L1 F1 H1 l1 hp hW => ?_)
  obtain ⟨rfl, rfl, hI1, hf1⟩ := hp
  have hJ1 := hJ.keepC hI hO (fun _ h => h) (fun x _ h _ => hf1 x h) (noE hW hST)
  have hO1 := hO.keepA hI hf1
  refine lv_pop S.1 S.2.1 dW_1204 rfl ?_
  refine lv_aload_n S.1 S.2.1 dW_1205 rfl (lv_at hl 3 rfl) ?_
  refine lv_aload_n S.1 S.2.1 dW_1206 rfl (lv_at hl 1 rfl) ?_
  refine lv_iload S.1 S.2.1 dW_1207 (lv_at hl 0 rfl) ?_
  refine lv_iconst (v := 1) S.1 S.2.1 dW_1209 (by decide) ?_
  refine lv_iadd S.1 S.2.1 dW_1210 ?_
  refine pk_sld S hX hbl hW i1 hy1 dW_1211 ?_
  refine pk_nz S.1 S.2.1 hz1 dW_1212 dW_1215 dW_1216 dW_1219 ?_
  refine pk_cVI (As := [.int y1]) (rest := []) S hK hST hW (c_X6_walk hJ1 y1 hg) mc_X6_walk wd_1413 wd_1414 wd_1415 rfl np_X6_walk (hJ1.mem (by decide)) hJ1.this rfl rfl hl.1 rfl (Nat.le_of_ble_eq_true rfl) dW_1220 ⟨Nat.le_of_ble_eq_true rfl, Nat.le_of_ble_eq_true rfl⟩ ⟨by show cells + 0 + 0 ≤ 697565; omega, by show slots + 0 + 0 ≤ 7003408; omega⟩ (fun r2 L2 F2 H2 l2 hp hW => ?_)
  obtain ⟨rfl, hJ2, hM2⟩ := hp
  have hI2 := hI1.keepM hM2
  have hO2 := hO1.keepM hM2
  refine lv_pop S.1 S.2.1 dW_1223 rfl ?_
  refine lv_goto (tgt := 2356) S.1 S.2.1 dW_1224 (by decide) ?_
  refine W.widen (k := cells + 256) (n := slots + 8192) (by omega) (by omega) ?_
  exact T _ _ _ _ _ _ _ ⟨hW, hI2, hJ2, hO2, hV2⟩ (lv_sub hl [0, 1, 2, 3, 4] rfl)
set_option maxHeartbeats 4000000 in
set_option maxRecDepth 100000 in
theorem cs_19 {p : Program} {l : Launch} {e : Env} {s : State} {m : MethodId} {b : Nat} {below : List Frame} {meth : Method} {c : Code} {D : va_G} {κ : Nat → ClassId} {ζ : Nat → Nat} {A B : Nat → Nat} {q LL x : Nat} {xs : Nat → Int32} {cells slots : Nat} {H : Heap} {locs : List Loc} {L : List Nat} {F : Nat → va_E} {σ : CS} {τ : MS} {ls : Array Slot} (E : LWE p l e s m b below meth c D κ ζ LL xs) (hx : 5 * x + 5 ≤ LL) (hL : LL ≤ 2560) (hc : cells + 256 ≤ 697565) (hs : slots + 8192 ≤ 7003408) (T : TL p l e s m b below meth c D κ ζ A B q x (cells + 256) (slots + 8192)) (Z : LST D κ ζ A B q s H locs L F σ τ) (hl : lv_has ls 7 [(4, .int (nI (5 * x))), (0, .ref b), (1, .ref (A 0)), (2, .ref (B 0)), (3, .ref q)]) : W p l e room_1 s m #[Value.ref b] below meth c H locs cells slots (lw_Z below #[Value.ref b] s) (F0 m 1227 ls []) := by
  obtain ⟨hst, S, hr, hlk, hN, hK, hST, hX, hbl⟩ := E
  obtain ⟨hW, hI, hJ, hO, hV⟩ := Z
  refine lv_aload_n S.1 S.2.1 dW_1227 rfl (lv_at hl 2 rfl) ?_
  refine lv_aload_n S.1 S.2.1 dW_1228 rfl (lv_at hl 4 rfl) ?_
  obtain ⟨res, res2, hf, hk, hg, hV2, hag⟩ := sx_step hV 
  refine pk_cLI (As := [.ref (A 0), .ref q]) (rest := []) S hK hST hW hN (c_L_step hst hI hO hf hk) mw_L_step wd_572 wd_573 np_L_step rfl hl.1 rfl (Nat.le_of_ble_eq_true rfl) dW_1229 ⟨Nat.le_of_ble_eq_true rfl, Nat.le_of_ble_eq_true rfl⟩ ⟨by show cells + 1 ≤ 697565; omega, by show slots + 6 ≤ 7003408; omega⟩ (fun r L1 F1 H1 l1 hp hW => ?_)
  obtain ⟨hs1, hI1, ⟨w0, w1, e_q1, ha1⟩, hf1⟩ := hp
  have hJ1 := hJ.keepC hI hO hs1 hf1 (noE hW hST)
  have hO1 : OUT q L1 F1 := ⟨hs1 _ hO.1, w0, w1, e_q1⟩
  refine lv_istore (lv' := [(5, .int r), (4, .int (nI (5 * x))), (0, .ref b), (1, .ref (A 0)), (2, .ref (B 0)), (3, .ref q)]) S.1 S.2.1 dW_1232 hl (Nat.le_of_ble_eq_true rfl) rfl (fun ls hl => ?_)
  refine lv_aload_n S.1 S.2.1 dW_1234 rfl (lv_at hl 4 rfl) ?_
  refine pk_cVI (As := []) (rest := []) S hK hST hW (c_X6_step hJ1  hg) mc_X6_step wd_1417 wd_1418 wd_1419 rfl np_X6_step (hJ1.mem (by decide)) hJ1.this rfl rfl hl.1 rfl (Nat.le_of_ble_eq_true rfl) dW_1235 ⟨Nat.le_of_ble_eq_true rfl, Nat.le_of_ble_eq_true rfl⟩ ⟨by show cells + 1 + 0 ≤ 697565; omega, by show slots + 6 + 0 ≤ 7003408; omega⟩ (fun r2 L2 F2 H2 l2 hp hW => ?_)
  obtain ⟨rfl, hJ2, hM2⟩ := hp
  have hI2 := hI1.keepM hM2
  have hO2 := hO1.keepM hM2
  refine lv_istore (lv' := [(6, .int res2.1), (5, .int r), (4, .int (nI (5 * x))), (0, .ref b), (1, .ref (A 0)), (2, .ref (B 0)), (3, .ref q)]) S.1 S.2.1 dW_1238 hl (Nat.le_of_ble_eq_true rfl) rfl (fun ls hl => ?_)
  refine lv_goto (tgt := 2356) S.1 S.2.1 dW_1240 (by decide) ?_
  refine W.widen (k := cells + 256) (n := slots + 8192) (by omega) (by omega) ?_
  exact T _ _ _ _ _ _ _ ⟨hW, hI2, hJ2, hO2, hV2⟩ (lv_sub hl [2, 3, 4, 5, 6] rfl)
set_option maxHeartbeats 4000000 in
set_option maxRecDepth 100000 in
theorem cs_20 {p : Program} {l : Launch} {e : Env} {s : State} {m : MethodId} {b : Nat} {below : List Frame} {meth : Method} {c : Code} {D : va_G} {κ : Nat → ClassId} {ζ : Nat → Nat} {A B : Nat → Nat} {q LL x : Nat} {xs : Nat → Int32} {cells slots : Nat} {H : Heap} {locs : List Loc} {L : List Nat} {F : Nat → va_E} {σ : CS} {τ : MS} {ls : Array Slot} (E : LWE p l e s m b below meth c D κ ζ LL xs) (hx : 5 * x + 5 ≤ LL) (hL : LL ≤ 2560) (hc : cells + 256 ≤ 697565) (hs : slots + 8192 ≤ 7003408) (T : TL p l e s m b below meth c D κ ζ A B q x (cells + 256) (slots + 8192)) (Z : LST D κ ζ A B q s H locs L F σ τ) (hl : lv_has ls 7 [(4, .int (nI (5 * x))), (0, .ref b), (1, .ref (A 0)), (2, .ref (B 0)), (3, .ref q)]) : W p l e room_1 s m #[Value.ref b] below meth c H locs cells slots (lw_Z below #[Value.ref b] s) (F0 m 1243 ls []) := by
  obtain ⟨hst, S, hr, hlk, hN, hK, hST, hX, hbl⟩ := E
  obtain ⟨hW, hI, hJ, hO, hV⟩ := Z
  refine lv_aload_n S.1 S.2.1 dW_1243 rfl (lv_at hl 2 rfl) ?_
  refine lv_aload_n S.1 S.2.1 dW_1244 rfl (lv_at hl 4 rfl) ?_
  obtain ⟨res, res2, hf, hk, hg, hV2, hag⟩ := sx_pluck hV 
  refine pk_cLI (As := [.ref (A 0), .ref q]) (rest := []) S hK hST hW hN (c_L_pluck hst hI hO hf hk) mw_L_pluck wd_587 wd_588 np_L_pluck rfl hl.1 rfl (Nat.le_of_ble_eq_true rfl) dW_1245 ⟨Nat.le_of_ble_eq_true rfl, Nat.le_of_ble_eq_true rfl⟩ ⟨by show cells + 1 ≤ 697565; omega, by show slots + 6 ≤ 7003408; omega⟩ (fun r L1 F1 H1 l1 hp hW => ?_)
  obtain ⟨hs1, hI1, ⟨w0, w1, e_q1, ha1⟩, hf1⟩ := hp
  have hJ1 := hJ.keepC hI hO hs1 hf1 (noE hW hST)
  have hO1 : OUT q L1 F1 := ⟨hs1 _ hO.1, w0, w1, e_q1⟩
  refine lv_istore (lv' := [(5, .int r), (4, .int (nI (5 * x))), (0, .ref b), (1, .ref (A 0)), (2, .ref (B 0)), (3, .ref q)]) S.1 S.2.1 dW_1248 hl (Nat.le_of_ble_eq_true rfl) rfl (fun ls hl => ?_)
  refine lv_aload_n S.1 S.2.1 dW_1250 rfl (lv_at hl 4 rfl) ?_
  refine pk_cVI (As := []) (rest := []) S hK hST hW (c_X6_pluck hJ1  hg) mc_X6_pluck wd_1425 wd_1426 wd_1427 rfl np_X6_pluck (hJ1.mem (by decide)) hJ1.this rfl rfl hl.1 rfl (Nat.le_of_ble_eq_true rfl) dW_1251 ⟨Nat.le_of_ble_eq_true rfl, Nat.le_of_ble_eq_true rfl⟩ ⟨by show cells + 1 + 0 ≤ 697565; omega, by show slots + 6 + 0 ≤ 7003408; omega⟩ (fun r2 L2 F2 H2 l2 hp hW => ?_)
  obtain ⟨rfl, hJ2, hM2⟩ := hp
  have hI2 := hI1.keepM hM2
  have hO2 := hO1.keepM hM2
  refine lv_istore (lv' := [(6, .int res2.1), (5, .int r), (4, .int (nI (5 * x))), (0, .ref b), (1, .ref (A 0)), (2, .ref (B 0)), (3, .ref q)]) S.1 S.2.1 dW_1254 hl (Nat.le_of_ble_eq_true rfl) rfl (fun ls hl => ?_)
  refine lv_goto (tgt := 2356) S.1 S.2.1 dW_1256 (by decide) ?_
  refine W.widen (k := cells + 256) (n := slots + 8192) (by omega) (by omega) ?_
  exact T _ _ _ _ _ _ _ ⟨hW, hI2, hJ2, hO2, hV2⟩ (lv_sub hl [2, 3, 4, 5, 6] rfl)
set_option maxHeartbeats 4000000 in
set_option maxRecDepth 100000 in
theorem cs_21 {p : Program} {l : Launch} {e : Env} {s : State} {m : MethodId} {b : Nat} {below : List Frame} {meth : Method} {c : Code} {D : va_G} {κ : Nat → ClassId} {ζ : Nat → Nat} {A B : Nat → Nat} {q LL x : Nat} {xs : Nat → Int32} {cells slots : Nat} {H : Heap} {locs : List Loc} {L : List Nat} {F : Nat → va_E} {σ : CS} {τ : MS} {ls : Array Slot} (E : LWE p l e s m b below meth c D κ ζ LL xs) (hx : 5 * x + 5 ≤ LL) (hL : LL ≤ 2560) (hc : cells + 256 ≤ 697565) (hs : slots + 8192 ≤ 7003408) (T : TL p l e s m b below meth c D κ ζ A B q x (cells + 256) (slots + 8192)) (Z : LST D κ ζ A B q s H locs L F σ τ) (hl : lv_has ls 7 [(4, .int (nI (5 * x))), (0, .ref b), (1, .ref (A 0)), (2, .ref (B 0)), (3, .ref q)]) : W p l e room_1 s m #[Value.ref b] below meth c H locs cells slots (lw_Z below #[Value.ref b] s) (F0 m 1259 ls []) := by
  obtain ⟨hst, S, hr, hlk, hN, hK, hST, hX, hbl⟩ := E
  obtain ⟨hW, hI, hJ, hO, hV⟩ := Z
  have i1 : vp_in (nI (5 * x) + 1) LL := sc_in (k := 1) hx hL (by decide)
  obtain ⟨x1, hy1⟩ : ∃ v, xs (nI (5 * x) + 1).toNatClampNeg = v := ⟨_, rfl⟩
  have i2 : vp_in (nI (5 * x) + 2) LL := sc_in (k := 2) hx hL (by decide)
  obtain ⟨x2, hy2⟩ : ∃ v, xs (nI (5 * x) + 2).toNatClampNeg = v := ⟨_, rfl⟩
  have i3 : vp_in (nI (5 * x) + 3) LL := sc_in (k := 3) hx hL (by decide)
  obtain ⟨x3, hy3⟩ : ∃ v, xs (nI (5 * x) + 3).toNatClampNeg = v := ⟨_, rfl⟩
  refine lv_aload_n S.1 S.2.1 dW_1259 rfl (lv_at hl 2 rfl) ?_
  refine lv_aload_n S.1 S.2.1 dW_1260 rfl (lv_at hl 1 rfl) ?_
  refine lv_iload S.1 S.2.1 dW_1261 (lv_at hl 0 rfl) ?_
  refine lv_iconst (v := 1) S.1 S.2.1 dW_1263 (by decide) ?_
  refine lv_iadd S.1 S.2.1 dW_1264 ?_
  refine pk_sld S hX hbl hW i1 hy1 dW_1265 ?_
  refine lv_aload_n S.1 S.2.1 dW_1266 rfl (lv_at hl 1 rfl) ?_
  refine lv_iload S.1 S.2.1 dW_1267 (lv_at hl 0 rfl) ?_
  refine lv_iconst (v := 2) S.1 S.2.1 dW_1269 (by decide) ?_
  refine lv_iadd S.1 S.2.1 dW_1270 ?_
  refine pk_sld S hX hbl hW i2 hy2 dW_1271 ?_
  refine lv_aload_n S.1 S.2.1 dW_1272 rfl (lv_at hl 1 rfl) ?_
  refine lv_iload S.1 S.2.1 dW_1273 (lv_at hl 0 rfl) ?_
  refine lv_iconst (v := 3) S.1 S.2.1 dW_1275 (by decide) ?_
  refine lv_iadd S.1 S.2.1 dW_1276 ?_
  refine pk_sld S hX hbl hW i3 hy3 dW_1277 ?_
  refine lv_aload_n S.1 S.2.1 dW_1278 rfl (lv_at hl 4 rfl) ?_
  obtain ⟨res, res2, hf, hk, hg, hV2, hag⟩ := sx_insert hV x1 x2 x3
  refine pk_cLI (As := [.ref (A 0), .int x1, .int x2, .int x3, .ref q]) (rest := []) S hK hST hW hN (c_L_insert hst hI hO x1 x2 x3 hf hk) mw_L_insert wd_597 wd_598 np_L_insert rfl hl.1 rfl (Nat.le_of_ble_eq_true rfl) dW_1279 ⟨Nat.le_of_ble_eq_true rfl, Nat.le_of_ble_eq_true rfl⟩ ⟨by show cells + 4 ≤ 697565; omega, by show slots + 24 ≤ 7003408; omega⟩ (fun r L1 F1 H1 l1 hp hW => ?_)
  obtain ⟨hs1, hI1, ⟨w0, w1, e_q1, ha1⟩, hf1⟩ := hp
  have hJ1 := hJ.keepC hI hO hs1 hf1 (noE hW hST)
  have hO1 : OUT q L1 F1 := ⟨hs1 _ hO.1, w0, w1, e_q1⟩
  refine lv_istore (lv' := [(5, .int r), (4, .int (nI (5 * x))), (0, .ref b), (1, .ref (A 0)), (2, .ref (B 0)), (3, .ref q)]) S.1 S.2.1 dW_1282 hl (Nat.le_of_ble_eq_true rfl) rfl (fun ls hl => ?_)
  refine lv_aload_n S.1 S.2.1 dW_1284 rfl (lv_at hl 4 rfl) ?_
  refine lv_aload_n S.1 S.2.1 dW_1285 rfl (lv_at hl 2 rfl) ?_
  refine lv_iload S.1 S.2.1 dW_1286 (lv_at hl 1 rfl) ?_
  refine lv_iconst (v := 1) S.1 S.2.1 dW_1288 (by decide) ?_
  refine lv_iadd S.1 S.2.1 dW_1289 ?_
  refine pk_sld S hX hbl hW i1 hy1 dW_1290 ?_
  refine lv_aload_n S.1 S.2.1 dW_1291 rfl (lv_at hl 2 rfl) ?_
  refine lv_iload S.1 S.2.1 dW_1292 (lv_at hl 1 rfl) ?_
  refine lv_iconst (v := 2) S.1 S.2.1 dW_1294 (by decide) ?_
  refine lv_iadd S.1 S.2.1 dW_1295 ?_
  refine pk_sld S hX hbl hW i2 hy2 dW_1296 ?_
  refine lv_aload_n S.1 S.2.1 dW_1297 rfl (lv_at hl 2 rfl) ?_
  refine lv_iload S.1 S.2.1 dW_1298 (lv_at hl 1 rfl) ?_
  refine lv_iconst (v := 3) S.1 S.2.1 dW_1300 (by decide) ?_
  refine lv_iadd S.1 S.2.1 dW_1301 ?_
  refine pk_sld S hX hbl hW i3 hy3 dW_1302 ?_
  refine pk_cVI (As := [.int x1, .int x2, .int x3]) (rest := []) S hK hST hW (c_X6_insert hJ1 x1 x2 x3 hg) mc_X6_insert wd_1429 wd_1430 wd_1431 rfl np_X6_insert (hJ1.mem (by decide)) hJ1.this rfl rfl hl.1 rfl (Nat.le_of_ble_eq_true rfl) dW_1303 ⟨Nat.le_of_ble_eq_true rfl, Nat.le_of_ble_eq_true rfl⟩ ⟨by show cells + 4 + 2 ≤ 697565; omega, by show slots + 24 + 66 ≤ 7003408; omega⟩ (fun r2 L2 F2 H2 l2 hp hW => ?_)
  obtain ⟨rfl, hJ2, hM2⟩ := hp
  have hI2 := hI1.keepM hM2
  have hO2 := hO1.keepM hM2
  refine lv_istore (lv' := [(6, .int res2.1), (5, .int r), (4, .int (nI (5 * x))), (0, .ref b), (1, .ref (A 0)), (2, .ref (B 0)), (3, .ref q)]) S.1 S.2.1 dW_1306 hl (Nat.le_of_ble_eq_true rfl) rfl (fun ls hl => ?_)
  refine lv_goto (tgt := 2356) S.1 S.2.1 dW_1308 (by decide) ?_
  refine W.widen (k := cells + 256) (n := slots + 8192) (by omega) (by omega) ?_
  exact T _ _ _ _ _ _ _ ⟨hW, hI2, hJ2, hO2, hV2⟩ (lv_sub hl [2, 3, 4, 5, 6] rfl)
set_option maxHeartbeats 4000000 in
set_option maxRecDepth 100000 in
theorem cs_22 {p : Program} {l : Launch} {e : Env} {s : State} {m : MethodId} {b : Nat} {below : List Frame} {meth : Method} {c : Code} {D : va_G} {κ : Nat → ClassId} {ζ : Nat → Nat} {A B : Nat → Nat} {q LL x : Nat} {xs : Nat → Int32} {cells slots : Nat} {H : Heap} {locs : List Loc} {L : List Nat} {F : Nat → va_E} {σ : CS} {τ : MS} {ls : Array Slot} (E : LWE p l e s m b below meth c D κ ζ LL xs) (hx : 5 * x + 5 ≤ LL) (hL : LL ≤ 2560) (hc : cells + 256 ≤ 697565) (hs : slots + 8192 ≤ 7003408) (T : TL p l e s m b below meth c D κ ζ A B q x (cells + 256) (slots + 8192)) (Z : LST D κ ζ A B q s H locs L F σ τ) (hl : lv_has ls 7 [(4, .int (nI (5 * x))), (0, .ref b), (1, .ref (A 0)), (2, .ref (B 0)), (3, .ref q)]) : W p l e room_1 s m #[Value.ref b] below meth c H locs cells slots (lw_Z below #[Value.ref b] s) (F0 m 1311 ls []) := by
  obtain ⟨hst, S, hr, hlk, hN, hK, hST, hX, hbl⟩ := E
  obtain ⟨hW, hI, hJ, hO, hV⟩ := Z
  have i1 : vp_in (nI (5 * x) + 1) LL := sc_in (k := 1) hx hL (by decide)
  obtain ⟨x1, hy1⟩ : ∃ v, xs (nI (5 * x) + 1).toNatClampNeg = v := ⟨_, rfl⟩
  refine lv_aload_n S.1 S.2.1 dW_1311 rfl (lv_at hl 2 rfl) ?_
  refine lv_aload_n S.1 S.2.1 dW_1312 rfl (lv_at hl 1 rfl) ?_
  refine lv_iload S.1 S.2.1 dW_1313 (lv_at hl 0 rfl) ?_
  refine lv_iconst (v := 1) S.1 S.2.1 dW_1315 (by decide) ?_
  refine lv_iadd S.1 S.2.1 dW_1316 ?_
  refine pk_sld S hX hbl hW i1 hy1 dW_1317 ?_
  refine lv_aload_n S.1 S.2.1 dW_1318 rfl (lv_at hl 4 rfl) ?_
  obtain ⟨res, res2, hf, hk, hg, hV2, hag⟩ := sx_cut hV x1
  refine pk_cLI (As := [.ref (A 0), .int x1, .ref q]) (rest := []) S hK hST hW hN (c_L_cut hst hI hO x1 hf hk) mw_L_cut wd_607 wd_608 np_L_cut rfl hl.1 rfl (Nat.le_of_ble_eq_true rfl) dW_1319 ⟨Nat.le_of_ble_eq_true rfl, Nat.le_of_ble_eq_true rfl⟩ ⟨by show cells + 1 ≤ 697565; omega, by show slots + 6 ≤ 7003408; omega⟩ (fun r L1 F1 H1 l1 hp hW => ?_)
  obtain ⟨hs1, hI1, ⟨w0, w1, e_q1, ha1⟩, hf1⟩ := hp
  have hJ1 := hJ.keepC hI hO hs1 hf1 (noE hW hST)
  have hO1 : OUT q L1 F1 := ⟨hs1 _ hO.1, w0, w1, e_q1⟩
  refine lv_istore (lv' := [(5, .int r), (4, .int (nI (5 * x))), (0, .ref b), (1, .ref (A 0)), (2, .ref (B 0)), (3, .ref q)]) S.1 S.2.1 dW_1322 hl (Nat.le_of_ble_eq_true rfl) rfl (fun ls hl => ?_)
  refine lv_aload_n S.1 S.2.1 dW_1324 rfl (lv_at hl 4 rfl) ?_
  refine lv_aload_n S.1 S.2.1 dW_1325 rfl (lv_at hl 2 rfl) ?_
  refine lv_iload S.1 S.2.1 dW_1326 (lv_at hl 1 rfl) ?_
  refine lv_iconst (v := 1) S.1 S.2.1 dW_1328 (by decide) ?_
  refine lv_iadd S.1 S.2.1 dW_1329 ?_
  refine pk_sld S hX hbl hW i1 hy1 dW_1330 ?_
  refine pk_cVI (As := [.int x1]) (rest := []) S hK hST hW (c_X6_cut hJ1 x1 hg) mc_X6_cut wd_1433 wd_1434 wd_1435 rfl np_X6_cut (hJ1.mem (by decide)) hJ1.this rfl rfl hl.1 rfl (Nat.le_of_ble_eq_true rfl) dW_1331 ⟨Nat.le_of_ble_eq_true rfl, Nat.le_of_ble_eq_true rfl⟩ ⟨by show cells + 1 + 0 ≤ 697565; omega, by show slots + 6 + 0 ≤ 7003408; omega⟩ (fun r2 L2 F2 H2 l2 hp hW => ?_)
  obtain ⟨rfl, hJ2, hM2⟩ := hp
  have hI2 := hI1.keepM hM2
  have hO2 := hO1.keepM hM2
  refine lv_istore (lv' := [(6, .int res2.1), (5, .int r), (4, .int (nI (5 * x))), (0, .ref b), (1, .ref (A 0)), (2, .ref (B 0)), (3, .ref q)]) S.1 S.2.1 dW_1334 hl (Nat.le_of_ble_eq_true rfl) rfl (fun ls hl => ?_)
  refine lv_goto (tgt := 2356) S.1 S.2.1 dW_1336 (by decide) ?_
  refine W.widen (k := cells + 256) (n := slots + 8192) (by omega) (by omega) ?_
  exact T _ _ _ _ _ _ _ ⟨hW, hI2, hJ2, hO2, hV2⟩ (lv_sub hl [2, 3, 4, 5, 6] rfl)
set_option maxHeartbeats 4000000 in
set_option maxRecDepth 100000 in
theorem cs_23 {p : Program} {l : Launch} {e : Env} {s : State} {m : MethodId} {b : Nat} {below : List Frame} {meth : Method} {c : Code} {D : va_G} {κ : Nat → ClassId} {ζ : Nat → Nat} {A B : Nat → Nat} {q LL x : Nat} {xs : Nat → Int32} {cells slots : Nat} {H : Heap} {locs : List Loc} {L : List Nat} {F : Nat → va_E} {σ : CS} {τ : MS} {ls : Array Slot} (E : LWE p l e s m b below meth c D κ ζ LL xs) (hx : 5 * x + 5 ≤ LL) (hL : LL ≤ 2560) (hc : cells + 256 ≤ 697565) (hs : slots + 8192 ≤ 7003408) (T : TL p l e s m b below meth c D κ ζ A B q x (cells + 256) (slots + 8192)) (Z : LST D κ ζ A B q s H locs L F σ τ) (hl : lv_has ls 7 [(4, .int (nI (5 * x))), (0, .ref b), (1, .ref (A 0)), (2, .ref (B 0)), (3, .ref q)]) : W p l e room_1 s m #[Value.ref b] below meth c H locs cells slots (lw_Z below #[Value.ref b] s) (F0 m 1339 ls []) := by
  obtain ⟨hst, S, hr, hlk, hN, hK, hST, hX, hbl⟩ := E
  obtain ⟨hW, hI, hJ, hO, hV⟩ := Z
  have i1 : vp_in (nI (5 * x) + 1) LL := sc_in (k := 1) hx hL (by decide)
  obtain ⟨x1, hy1⟩ : ∃ v, xs (nI (5 * x) + 1).toNatClampNeg = v := ⟨_, rfl⟩
  have i2 : vp_in (nI (5 * x) + 2) LL := sc_in (k := 2) hx hL (by decide)
  obtain ⟨x2, hy2⟩ : ∃ v, xs (nI (5 * x) + 2).toNatClampNeg = v := ⟨_, rfl⟩
  have i3 : vp_in (nI (5 * x) + 3) LL := sc_in (k := 3) hx hL (by decide)
  obtain ⟨x3, hy3⟩ : ∃ v, xs (nI (5 * x) + 3).toNatClampNeg = v := ⟨_, rfl⟩
  refine lv_aload_n S.1 S.2.1 dW_1339 rfl (lv_at hl 2 rfl) ?_
  refine lv_aload_n S.1 S.2.1 dW_1340 rfl (lv_at hl 1 rfl) ?_
  refine lv_iload S.1 S.2.1 dW_1341 (lv_at hl 0 rfl) ?_
  refine lv_iconst (v := 1) S.1 S.2.1 dW_1343 (by decide) ?_
  refine lv_iadd S.1 S.2.1 dW_1344 ?_
  refine pk_sld S hX hbl hW i1 hy1 dW_1345 ?_
  refine lv_aload_n S.1 S.2.1 dW_1346 rfl (lv_at hl 1 rfl) ?_
  refine lv_iload S.1 S.2.1 dW_1347 (lv_at hl 0 rfl) ?_
  refine lv_iconst (v := 2) S.1 S.2.1 dW_1349 (by decide) ?_
  refine lv_iadd S.1 S.2.1 dW_1350 ?_
  refine pk_sld S hX hbl hW i2 hy2 dW_1351 ?_
  refine lv_aload_n S.1 S.2.1 dW_1352 rfl (lv_at hl 1 rfl) ?_
  refine lv_iload S.1 S.2.1 dW_1353 (lv_at hl 0 rfl) ?_
  refine lv_iconst (v := 3) S.1 S.2.1 dW_1355 (by decide) ?_
  refine lv_iadd S.1 S.2.1 dW_1356 ?_
  refine pk_sld S hX hbl hW i3 hy3 dW_1357 ?_
  refine lv_aload_n S.1 S.2.1 dW_1358 rfl (lv_at hl 4 rfl) ?_
  obtain ⟨res, res2, hf, hk, hg, hV2, hag⟩ := sx_replace hV x1 x2 x3
  refine pk_cLI (As := [.ref (A 0), .int x1, .int x2, .int x3, .ref q]) (rest := []) S hK hST hW hN (c_L_replace hst hI hO x1 x2 x3 hf hk) mw_L_replace wd_613 wd_614 np_L_replace rfl hl.1 rfl (Nat.le_of_ble_eq_true rfl) dW_1359 ⟨Nat.le_of_ble_eq_true rfl, Nat.le_of_ble_eq_true rfl⟩ ⟨by show cells + 3 ≤ 697565; omega, by show slots + 18 ≤ 7003408; omega⟩ (fun r L1 F1 H1 l1 hp hW => ?_)
  obtain ⟨hs1, hI1, ⟨w0, w1, e_q1, ha1⟩, hf1⟩ := hp
  have hJ1 := hJ.keepC hI hO hs1 hf1 (noE hW hST)
  have hO1 : OUT q L1 F1 := ⟨hs1 _ hO.1, w0, w1, e_q1⟩
  refine lv_istore (lv' := [(5, .int r), (4, .int (nI (5 * x))), (0, .ref b), (1, .ref (A 0)), (2, .ref (B 0)), (3, .ref q)]) S.1 S.2.1 dW_1362 hl (Nat.le_of_ble_eq_true rfl) rfl (fun ls hl => ?_)
  refine lv_aload_n S.1 S.2.1 dW_1364 rfl (lv_at hl 4 rfl) ?_
  refine lv_aload_n S.1 S.2.1 dW_1365 rfl (lv_at hl 2 rfl) ?_
  refine lv_iload S.1 S.2.1 dW_1366 (lv_at hl 1 rfl) ?_
  refine lv_iconst (v := 1) S.1 S.2.1 dW_1368 (by decide) ?_
  refine lv_iadd S.1 S.2.1 dW_1369 ?_
  refine pk_sld S hX hbl hW i1 hy1 dW_1370 ?_
  refine lv_aload_n S.1 S.2.1 dW_1371 rfl (lv_at hl 2 rfl) ?_
  refine lv_iload S.1 S.2.1 dW_1372 (lv_at hl 1 rfl) ?_
  refine lv_iconst (v := 2) S.1 S.2.1 dW_1374 (by decide) ?_
  refine lv_iadd S.1 S.2.1 dW_1375 ?_
  refine pk_sld S hX hbl hW i2 hy2 dW_1376 ?_
  refine lv_aload_n S.1 S.2.1 dW_1377 rfl (lv_at hl 2 rfl) ?_
  refine lv_iload S.1 S.2.1 dW_1378 (lv_at hl 1 rfl) ?_
  refine lv_iconst (v := 3) S.1 S.2.1 dW_1380 (by decide) ?_
  refine lv_iadd S.1 S.2.1 dW_1381 ?_
  refine pk_sld S hX hbl hW i3 hy3 dW_1382 ?_
  refine pk_cVI (As := [.int x1, .int x2, .int x3]) (rest := []) S hK hST hW (c_X6_replace hJ1 x1 x2 x3 hg) mc_X6_replace wd_1441 wd_1442 wd_1443 rfl np_X6_replace (hJ1.mem (by decide)) hJ1.this rfl rfl hl.1 rfl (Nat.le_of_ble_eq_true rfl) dW_1383 ⟨Nat.le_of_ble_eq_true rfl, Nat.le_of_ble_eq_true rfl⟩ ⟨by show cells + 3 + 1 ≤ 697565; omega, by show slots + 18 + 33 ≤ 7003408; omega⟩ (fun r2 L2 F2 H2 l2 hp hW => ?_)
  obtain ⟨rfl, hJ2, hM2⟩ := hp
  have hI2 := hI1.keepM hM2
  have hO2 := hO1.keepM hM2
  refine lv_istore (lv' := [(6, .int res2.1), (5, .int r), (4, .int (nI (5 * x))), (0, .ref b), (1, .ref (A 0)), (2, .ref (B 0)), (3, .ref q)]) S.1 S.2.1 dW_1386 hl (Nat.le_of_ble_eq_true rfl) rfl (fun ls hl => ?_)
  refine lv_goto (tgt := 2356) S.1 S.2.1 dW_1388 (by decide) ?_
  refine W.widen (k := cells + 256) (n := slots + 8192) (by omega) (by omega) ?_
  exact T _ _ _ _ _ _ _ ⟨hW, hI2, hJ2, hO2, hV2⟩ (lv_sub hl [2, 3, 4, 5, 6] rfl)
set_option maxHeartbeats 4000000 in
set_option maxRecDepth 100000 in
theorem cs_24 {p : Program} {l : Launch} {e : Env} {s : State} {m : MethodId} {b : Nat} {below : List Frame} {meth : Method} {c : Code} {D : va_G} {κ : Nat → ClassId} {ζ : Nat → Nat} {A B : Nat → Nat} {q LL x : Nat} {xs : Nat → Int32} {cells slots : Nat} {H : Heap} {locs : List Loc} {L : List Nat} {F : Nat → va_E} {σ : CS} {τ : MS} {ls : Array Slot} (E : LWE p l e s m b below meth c D κ ζ LL xs) (hx : 5 * x + 5 ≤ LL) (hL : LL ≤ 2560) (hc : cells + 256 ≤ 697565) (hs : slots + 8192 ≤ 7003408) (T : TL p l e s m b below meth c D κ ζ A B q x (cells + 256) (slots + 8192)) (Z : LST D κ ζ A B q s H locs L F σ τ) (hl : lv_has ls 7 [(4, .int (nI (5 * x))), (0, .ref b), (1, .ref (A 0)), (2, .ref (B 0)), (3, .ref q)]) : W p l e room_1 s m #[Value.ref b] below meth c H locs cells slots (lw_Z below #[Value.ref b] s) (F0 m 1391 ls []) := by
  obtain ⟨hst, S, hr, hlk, hN, hK, hST, hX, hbl⟩ := E
  obtain ⟨hW, hI, hJ, hO, hV⟩ := Z
  have i1 : vp_in (nI (5 * x) + 1) LL := sc_in (k := 1) hx hL (by decide)
  obtain ⟨x1, hy1⟩ : ∃ v, xs (nI (5 * x) + 1).toNatClampNeg = v := ⟨_, rfl⟩
  refine lv_aload_n S.1 S.2.1 dW_1391 rfl (lv_at hl 2 rfl) ?_
  refine lv_aload_n S.1 S.2.1 dW_1392 rfl (lv_at hl 1 rfl) ?_
  refine lv_iload S.1 S.2.1 dW_1393 (lv_at hl 0 rfl) ?_
  refine lv_iconst (v := 1) S.1 S.2.1 dW_1395 (by decide) ?_
  refine lv_iadd S.1 S.2.1 dW_1396 ?_
  refine pk_sld S hX hbl hW i1 hy1 dW_1397 ?_
  refine lv_aload_n S.1 S.2.1 dW_1398 rfl (lv_at hl 4 rfl) ?_
  obtain ⟨res, res2, hf, hk, hg, hV2, hag⟩ := sx_at hV x1
  refine pk_cLI (As := [.ref (A 0), .int x1, .ref q]) (rest := []) S hK hST hW hN (c_L_at hst hI hO x1 hf hk) mw_L_at wd_623 wd_624 np_L_at rfl hl.1 rfl (Nat.le_of_ble_eq_true rfl) dW_1399 ⟨Nat.le_of_ble_eq_true rfl, Nat.le_of_ble_eq_true rfl⟩ ⟨by show cells + 1 ≤ 697565; omega, by show slots + 6 ≤ 7003408; omega⟩ (fun r L1 F1 H1 l1 hp hW => ?_)
  obtain ⟨hs1, hI1, ⟨w0, w1, e_q1, ha1⟩, hf1⟩ := hp
  have hJ1 := hJ.keepC hI hO hs1 hf1 (noE hW hST)
  have hO1 : OUT q L1 F1 := ⟨hs1 _ hO.1, w0, w1, e_q1⟩
  refine lv_istore (lv' := [(5, .int r), (4, .int (nI (5 * x))), (0, .ref b), (1, .ref (A 0)), (2, .ref (B 0)), (3, .ref q)]) S.1 S.2.1 dW_1402 hl (Nat.le_of_ble_eq_true rfl) rfl (fun ls hl => ?_)
  refine lv_aload_n S.1 S.2.1 dW_1404 rfl (lv_at hl 4 rfl) ?_
  refine lv_aload_n S.1 S.2.1 dW_1405 rfl (lv_at hl 2 rfl) ?_
  refine lv_iload S.1 S.2.1 dW_1406 (lv_at hl 1 rfl) ?_
  refine lv_iconst (v := 1) S.1 S.2.1 dW_1408 (by decide) ?_
  refine lv_iadd S.1 S.2.1 dW_1409 ?_
  refine pk_sld S hX hbl hW i1 hy1 dW_1410 ?_
  refine pk_cVI (As := [.int x1]) (rest := []) S hK hST hW (c_X6_at hJ1 x1 hg) mc_X6_at wd_1449 wd_1450 wd_1451 rfl np_X6_at (hJ1.mem (by decide)) hJ1.this rfl rfl hl.1 rfl (Nat.le_of_ble_eq_true rfl) dW_1411 ⟨Nat.le_of_ble_eq_true rfl, Nat.le_of_ble_eq_true rfl⟩ ⟨by show cells + 1 + 0 ≤ 697565; omega, by show slots + 6 + 0 ≤ 7003408; omega⟩ (fun r2 L2 F2 H2 l2 hp hW => ?_)
  obtain ⟨rfl, hJ2, hM2⟩ := hp
  have hI2 := hI1.keepM hM2
  have hO2 := hO1.keepM hM2
  refine lv_istore (lv' := [(6, .int res2.1), (5, .int r), (4, .int (nI (5 * x))), (0, .ref b), (1, .ref (A 0)), (2, .ref (B 0)), (3, .ref q)]) S.1 S.2.1 dW_1414 hl (Nat.le_of_ble_eq_true rfl) rfl (fun ls hl => ?_)
  refine lv_goto (tgt := 2356) S.1 S.2.1 dW_1416 (by decide) ?_
  refine W.widen (k := cells + 256) (n := slots + 8192) (by omega) (by omega) ?_
  exact T _ _ _ _ _ _ _ ⟨hW, hI2, hJ2, hO2, hV2⟩ (lv_sub hl [2, 3, 4, 5, 6] rfl)
set_option maxHeartbeats 4000000 in
set_option maxRecDepth 100000 in
theorem cs_25 {p : Program} {l : Launch} {e : Env} {s : State} {m : MethodId} {b : Nat} {below : List Frame} {meth : Method} {c : Code} {D : va_G} {κ : Nat → ClassId} {ζ : Nat → Nat} {A B : Nat → Nat} {q LL x : Nat} {xs : Nat → Int32} {cells slots : Nat} {H : Heap} {locs : List Loc} {L : List Nat} {F : Nat → va_E} {σ : CS} {τ : MS} {ls : Array Slot} (E : LWE p l e s m b below meth c D κ ζ LL xs) (hx : 5 * x + 5 ≤ LL) (hL : LL ≤ 2560) (hc : cells + 256 ≤ 697565) (hs : slots + 8192 ≤ 7003408) (T : TL p l e s m b below meth c D κ ζ A B q x (cells + 256) (slots + 8192)) (Z : LST D κ ζ A B q s H locs L F σ τ) (hl : lv_has ls 7 [(4, .int (nI (5 * x))), (0, .ref b), (1, .ref (A 0)), (2, .ref (B 0)), (3, .ref q)]) : W p l e room_1 s m #[Value.ref b] below meth c H locs cells slots (lw_Z below #[Value.ref b] s) (F0 m 1419 ls []) := by
  obtain ⟨hst, S, hr, hlk, hN, hK, hST, hX, hbl⟩ := E
  obtain ⟨hW, hI, hJ, hO, hV⟩ := Z
  have i1 : vp_in (nI (5 * x) + 1) LL := sc_in (k := 1) hx hL (by decide)
  obtain ⟨x1, hy1⟩ : ∃ v, xs (nI (5 * x) + 1).toNatClampNeg = v := ⟨_, rfl⟩
  have i2 : vp_in (nI (5 * x) + 2) LL := sc_in (k := 2) hx hL (by decide)
  obtain ⟨x2, hy2⟩ : ∃ v, xs (nI (5 * x) + 2).toNatClampNeg = v := ⟨_, rfl⟩
  obtain ⟨y2, hz2⟩ : ∃ v, (if x2 = 0 then (0 : Int32) else 1) = v := ⟨_, rfl⟩
  have hq2 := nz01 hz2
  refine lv_aload_n S.1 S.2.1 dW_1419 rfl (lv_at hl 2 rfl) ?_
  refine lv_aload_n S.1 S.2.1 dW_1420 rfl (lv_at hl 1 rfl) ?_
  refine lv_iload S.1 S.2.1 dW_1421 (lv_at hl 0 rfl) ?_
  refine lv_iconst (v := 1) S.1 S.2.1 dW_1423 (by decide) ?_
  refine lv_iadd S.1 S.2.1 dW_1424 ?_
  refine pk_sld S hX hbl hW i1 hy1 dW_1425 ?_
  refine lv_aload_n S.1 S.2.1 dW_1426 rfl (lv_at hl 1 rfl) ?_
  refine lv_iload S.1 S.2.1 dW_1427 (lv_at hl 0 rfl) ?_
  refine lv_iconst (v := 2) S.1 S.2.1 dW_1429 (by decide) ?_
  refine lv_iadd S.1 S.2.1 dW_1430 ?_
  refine pk_sld S hX hbl hW i2 hy2 dW_1431 ?_
  refine pk_nz S.1 S.2.1 hz2 dW_1432 dW_1435 dW_1436 dW_1439 ?_
  refine lv_aload_n S.1 S.2.1 dW_1440 rfl (lv_at hl 4 rfl) ?_
  obtain ⟨res, res2, hf, hk, hg, hV2, hag⟩ := sx_find hV x1 y2 hq2
  refine pk_cLI (As := [.ref (A 0), .int x1, .int y2, .ref q]) (rest := []) S hK hST hW hN (c_L_find hst hI hO x1 y2 hf hk) mw_L_find wd_629 wd_630 np_L_find rfl hl.1 rfl (Nat.le_of_ble_eq_true rfl) dW_1441 ⟨Nat.le_of_ble_eq_true rfl, Nat.le_of_ble_eq_true rfl⟩ ⟨by show cells + 1 ≤ 697565; omega, by show slots + 6 ≤ 7003408; omega⟩ (fun r L1 F1 H1 l1 hp hW => ?_)
  obtain ⟨hs1, hI1, ⟨w0, w1, e_q1, ha1⟩, hf1⟩ := hp
  have hJ1 := hJ.keepC hI hO hs1 hf1 (noE hW hST)
  have hO1 : OUT q L1 F1 := ⟨hs1 _ hO.1, w0, w1, e_q1⟩
  refine lv_istore (lv' := [(5, .int r), (4, .int (nI (5 * x))), (0, .ref b), (1, .ref (A 0)), (2, .ref (B 0)), (3, .ref q)]) S.1 S.2.1 dW_1444 hl (Nat.le_of_ble_eq_true rfl) rfl (fun ls hl => ?_)
  refine lv_aload_n S.1 S.2.1 dW_1446 rfl (lv_at hl 4 rfl) ?_
  refine lv_aload_n S.1 S.2.1 dW_1447 rfl (lv_at hl 2 rfl) ?_
  refine lv_iload S.1 S.2.1 dW_1448 (lv_at hl 1 rfl) ?_
  refine lv_iconst (v := 1) S.1 S.2.1 dW_1450 (by decide) ?_
  refine lv_iadd S.1 S.2.1 dW_1451 ?_
  refine pk_sld S hX hbl hW i1 hy1 dW_1452 ?_
  refine lv_aload_n S.1 S.2.1 dW_1453 rfl (lv_at hl 2 rfl) ?_
  refine lv_iload S.1 S.2.1 dW_1454 (lv_at hl 1 rfl) ?_
  refine lv_iconst (v := 2) S.1 S.2.1 dW_1456 (by decide) ?_
  refine lv_iadd S.1 S.2.1 dW_1457 ?_
  refine pk_sld S hX hbl hW i2 hy2 dW_1458 ?_
  refine pk_nz S.1 S.2.1 hz2 dW_1459 dW_1462 dW_1463 dW_1466 ?_
  refine pk_cVI (As := [.int x1, .int y2]) (rest := []) S hK hST hW (c_X6_find hJ1 x1 y2 hg) mc_X6_find wd_1453 wd_1454 wd_1455 rfl np_X6_find (hJ1.mem (by decide)) hJ1.this rfl rfl hl.1 rfl (Nat.le_of_ble_eq_true rfl) dW_1467 ⟨Nat.le_of_ble_eq_true rfl, Nat.le_of_ble_eq_true rfl⟩ ⟨by show cells + 1 + 0 ≤ 697565; omega, by show slots + 6 + 0 ≤ 7003408; omega⟩ (fun r2 L2 F2 H2 l2 hp hW => ?_)
  obtain ⟨rfl, hJ2, hM2⟩ := hp
  have hI2 := hI1.keepM hM2
  have hO2 := hO1.keepM hM2
  refine lv_istore (lv' := [(6, .int res2.1), (5, .int r), (4, .int (nI (5 * x))), (0, .ref b), (1, .ref (A 0)), (2, .ref (B 0)), (3, .ref q)]) S.1 S.2.1 dW_1470 hl (Nat.le_of_ble_eq_true rfl) rfl (fun ls hl => ?_)
  refine lv_goto (tgt := 2356) S.1 S.2.1 dW_1472 (by decide) ?_
  refine W.widen (k := cells + 256) (n := slots + 8192) (by omega) (by omega) ?_
  exact T _ _ _ _ _ _ _ ⟨hW, hI2, hJ2, hO2, hV2⟩ (lv_sub hl [2, 3, 4, 5, 6] rfl)
set_option maxHeartbeats 4000000 in
set_option maxRecDepth 100000 in
theorem cs_26 {p : Program} {l : Launch} {e : Env} {s : State} {m : MethodId} {b : Nat} {below : List Frame} {meth : Method} {c : Code} {D : va_G} {κ : Nat → ClassId} {ζ : Nat → Nat} {A B : Nat → Nat} {q LL x : Nat} {xs : Nat → Int32} {cells slots : Nat} {H : Heap} {locs : List Loc} {L : List Nat} {F : Nat → va_E} {σ : CS} {τ : MS} {ls : Array Slot} (E : LWE p l e s m b below meth c D κ ζ LL xs) (hx : 5 * x + 5 ≤ LL) (hL : LL ≤ 2560) (hc : cells + 256 ≤ 697565) (hs : slots + 8192 ≤ 7003408) (T : TL p l e s m b below meth c D κ ζ A B q x (cells + 256) (slots + 8192)) (Z : LST D κ ζ A B q s H locs L F σ τ) (hl : lv_has ls 7 [(4, .int (nI (5 * x))), (0, .ref b), (1, .ref (A 0)), (2, .ref (B 0)), (3, .ref q)]) : W p l e room_1 s m #[Value.ref b] below meth c H locs cells slots (lw_Z below #[Value.ref b] s) (F0 m 1475 ls []) := by
  obtain ⟨hst, S, hr, hlk, hN, hK, hST, hX, hbl⟩ := E
  obtain ⟨hW, hI, hJ, hO, hV⟩ := Z
  have i1 : vp_in (nI (5 * x) + 1) LL := sc_in (k := 1) hx hL (by decide)
  obtain ⟨x1, hy1⟩ : ∃ v, xs (nI (5 * x) + 1).toNatClampNeg = v := ⟨_, rfl⟩
  refine lv_aload_n S.1 S.2.1 dW_1475 rfl (lv_at hl 2 rfl) ?_
  refine lv_aload_n S.1 S.2.1 dW_1476 rfl (lv_at hl 1 rfl) ?_
  refine lv_iload S.1 S.2.1 dW_1477 (lv_at hl 0 rfl) ?_
  refine lv_iconst (v := 1) S.1 S.2.1 dW_1479 (by decide) ?_
  refine lv_iadd S.1 S.2.1 dW_1480 ?_
  refine pk_sld S hX hbl hW i1 hy1 dW_1481 ?_
  refine lv_aload_n S.1 S.2.1 dW_1482 rfl (lv_at hl 4 rfl) ?_
  obtain ⟨res, res2, hf, hk, hg, hV2, hag⟩ := sx_splice hV x1
  refine pk_cLI (As := [.ref (A 0), .int x1, .ref q]) (rest := []) S hK hST hW hN (c_L_splice hst hI hO x1 hf hk) mw_L_splice wd_635 wd_636 np_L_splice rfl hl.1 rfl (Nat.le_of_ble_eq_true rfl) dW_1483 ⟨Nat.le_of_ble_eq_true rfl, Nat.le_of_ble_eq_true rfl⟩ ⟨by show cells + 2 ≤ 697565; omega, by show slots + 12 ≤ 7003408; omega⟩ (fun r L1 F1 H1 l1 hp hW => ?_)
  obtain ⟨hs1, hI1, ⟨w0, w1, e_q1, ha1⟩, hf1⟩ := hp
  have hJ1 := hJ.keepC hI hO hs1 hf1 (noE hW hST)
  have hO1 : OUT q L1 F1 := ⟨hs1 _ hO.1, w0, w1, e_q1⟩
  refine lv_istore (lv' := [(5, .int r), (4, .int (nI (5 * x))), (0, .ref b), (1, .ref (A 0)), (2, .ref (B 0)), (3, .ref q)]) S.1 S.2.1 dW_1486 hl (Nat.le_of_ble_eq_true rfl) rfl (fun ls hl => ?_)
  refine lv_aload_n S.1 S.2.1 dW_1488 rfl (lv_at hl 4 rfl) ?_
  refine lv_aload_n S.1 S.2.1 dW_1489 rfl (lv_at hl 2 rfl) ?_
  refine lv_iload S.1 S.2.1 dW_1490 (lv_at hl 1 rfl) ?_
  refine lv_iconst (v := 1) S.1 S.2.1 dW_1492 (by decide) ?_
  refine lv_iadd S.1 S.2.1 dW_1493 ?_
  refine pk_sld S hX hbl hW i1 hy1 dW_1494 ?_
  refine pk_cVI (As := [.int x1]) (rest := []) S hK hST hW (c_X6_splice hJ1 x1 hg) mc_X6_splice wd_1457 wd_1458 wd_1459 rfl np_X6_splice (hJ1.mem (by decide)) hJ1.this rfl rfl hl.1 rfl (Nat.le_of_ble_eq_true rfl) dW_1495 ⟨Nat.le_of_ble_eq_true rfl, Nat.le_of_ble_eq_true rfl⟩ ⟨by show cells + 2 + 48 ≤ 697565; omega, by show slots + 12 + 1584 ≤ 7003408; omega⟩ (fun r2 L2 F2 H2 l2 hp hW => ?_)
  obtain ⟨rfl, hJ2, hM2⟩ := hp
  have hI2 := hI1.keepM hM2
  have hO2 := hO1.keepM hM2
  refine lv_istore (lv' := [(6, .int res2.1), (5, .int r), (4, .int (nI (5 * x))), (0, .ref b), (1, .ref (A 0)), (2, .ref (B 0)), (3, .ref q)]) S.1 S.2.1 dW_1498 hl (Nat.le_of_ble_eq_true rfl) rfl (fun ls hl => ?_)
  refine lv_goto (tgt := 2356) S.1 S.2.1 dW_1500 (by decide) ?_
  refine W.widen (k := cells + 256) (n := slots + 8192) (by omega) (by omega) ?_
  exact T _ _ _ _ _ _ _ ⟨hW, hI2, hJ2, hO2, hV2⟩ (lv_sub hl [2, 3, 4, 5, 6] rfl)
set_option maxHeartbeats 4000000 in
set_option maxRecDepth 100000 in
theorem cs_27 {p : Program} {l : Launch} {e : Env} {s : State} {m : MethodId} {b : Nat} {below : List Frame} {meth : Method} {c : Code} {D : va_G} {κ : Nat → ClassId} {ζ : Nat → Nat} {A B : Nat → Nat} {q LL x : Nat} {xs : Nat → Int32} {cells slots : Nat} {H : Heap} {locs : List Loc} {L : List Nat} {F : Nat → va_E} {σ : CS} {τ : MS} {ls : Array Slot} (E : LWE p l e s m b below meth c D κ ζ LL xs) (hx : 5 * x + 5 ≤ LL) (hL : LL ≤ 2560) (hc : cells + 256 ≤ 697565) (hs : slots + 8192 ≤ 7003408) (T : TL p l e s m b below meth c D κ ζ A B q x (cells + 256) (slots + 8192)) (Z : LST D κ ζ A B q s H locs L F σ τ) (hl : lv_has ls 7 [(4, .int (nI (5 * x))), (0, .ref b), (1, .ref (A 0)), (2, .ref (B 0)), (3, .ref q)]) : W p l e room_1 s m #[Value.ref b] below meth c H locs cells slots (lw_Z below #[Value.ref b] s) (F0 m 1503 ls []) := by
  obtain ⟨hst, S, hr, hlk, hN, hK, hST, hX, hbl⟩ := E
  obtain ⟨hW, hI, hJ, hO, hV⟩ := Z
  have i1 : vp_in (nI (5 * x) + 1) LL := sc_in (k := 1) hx hL (by decide)
  obtain ⟨x1, hy1⟩ : ∃ v, xs (nI (5 * x) + 1).toNatClampNeg = v := ⟨_, rfl⟩
  have i2 : vp_in (nI (5 * x) + 2) LL := sc_in (k := 2) hx hL (by decide)
  obtain ⟨x2, hy2⟩ : ∃ v, xs (nI (5 * x) + 2).toNatClampNeg = v := ⟨_, rfl⟩
  refine lv_aload_n S.1 S.2.1 dW_1503 rfl (lv_at hl 2 rfl) ?_
  refine lv_aload_n S.1 S.2.1 dW_1504 rfl (lv_at hl 1 rfl) ?_
  refine lv_iload S.1 S.2.1 dW_1505 (lv_at hl 0 rfl) ?_
  refine lv_iconst (v := 1) S.1 S.2.1 dW_1507 (by decide) ?_
  refine lv_iadd S.1 S.2.1 dW_1508 ?_
  refine pk_sld S hX hbl hW i1 hy1 dW_1509 ?_
  refine lv_aload_n S.1 S.2.1 dW_1510 rfl (lv_at hl 1 rfl) ?_
  refine lv_iload S.1 S.2.1 dW_1511 (lv_at hl 0 rfl) ?_
  refine lv_iconst (v := 2) S.1 S.2.1 dW_1513 (by decide) ?_
  refine lv_iadd S.1 S.2.1 dW_1514 ?_
  refine pk_sld S hX hbl hW i2 hy2 dW_1515 ?_
  refine lv_aload_n S.1 S.2.1 dW_1516 rfl (lv_at hl 4 rfl) ?_
  obtain ⟨res, res2, hf, hk, hg, hV2, hag⟩ := sx_shunt hV x1 x2
  refine pk_cLI (As := [.ref (A 0), .int x1, .int x2, .ref q]) (rest := []) S hK hST hW hN (c_L_shunt hst hI hO x1 x2 hf hk) mw_L_shunt wd_641 wd_642 np_L_shunt rfl hl.1 rfl (Nat.le_of_ble_eq_true rfl) dW_1517 ⟨Nat.le_of_ble_eq_true rfl, Nat.le_of_ble_eq_true rfl⟩ ⟨by show cells + 3 ≤ 697565; omega, by show slots + 18 ≤ 7003408; omega⟩ (fun r L1 F1 H1 l1 hp hW => ?_)
  obtain ⟨hs1, hI1, ⟨w0, w1, e_q1, ha1⟩, hf1⟩ := hp
  have hJ1 := hJ.keepC hI hO hs1 hf1 (noE hW hST)
  have hO1 : OUT q L1 F1 := ⟨hs1 _ hO.1, w0, w1, e_q1⟩
  refine lv_istore (lv' := [(5, .int r), (4, .int (nI (5 * x))), (0, .ref b), (1, .ref (A 0)), (2, .ref (B 0)), (3, .ref q)]) S.1 S.2.1 dW_1520 hl (Nat.le_of_ble_eq_true rfl) rfl (fun ls hl => ?_)
  refine lv_aload_n S.1 S.2.1 dW_1522 rfl (lv_at hl 4 rfl) ?_
  refine lv_aload_n S.1 S.2.1 dW_1523 rfl (lv_at hl 2 rfl) ?_
  refine lv_iload S.1 S.2.1 dW_1524 (lv_at hl 1 rfl) ?_
  refine lv_iconst (v := 1) S.1 S.2.1 dW_1526 (by decide) ?_
  refine lv_iadd S.1 S.2.1 dW_1527 ?_
  refine pk_sld S hX hbl hW i1 hy1 dW_1528 ?_
  refine lv_aload_n S.1 S.2.1 dW_1529 rfl (lv_at hl 2 rfl) ?_
  refine lv_iload S.1 S.2.1 dW_1530 (lv_at hl 1 rfl) ?_
  refine lv_iconst (v := 2) S.1 S.2.1 dW_1532 (by decide) ?_
  refine lv_iadd S.1 S.2.1 dW_1533 ?_
  refine pk_sld S hX hbl hW i2 hy2 dW_1534 ?_
  refine pk_cVI (As := [.int x1, .int x2]) (rest := []) S hK hST hW (c_X6_shunt hJ1 x1 x2 hg) mc_X6_shunt wd_1461 wd_1462 wd_1463 rfl np_X6_shunt (hJ1.mem (by decide)) hJ1.this rfl rfl hl.1 rfl (Nat.le_of_ble_eq_true rfl) dW_1535 ⟨Nat.le_of_ble_eq_true rfl, Nat.le_of_ble_eq_true rfl⟩ ⟨by show cells + 3 + 48 ≤ 697565; omega, by show slots + 18 + 1584 ≤ 7003408; omega⟩ (fun r2 L2 F2 H2 l2 hp hW => ?_)
  obtain ⟨rfl, hJ2, hM2⟩ := hp
  have hI2 := hI1.keepM hM2
  have hO2 := hO1.keepM hM2
  refine lv_istore (lv' := [(6, .int res2.1), (5, .int r), (4, .int (nI (5 * x))), (0, .ref b), (1, .ref (A 0)), (2, .ref (B 0)), (3, .ref q)]) S.1 S.2.1 dW_1538 hl (Nat.le_of_ble_eq_true rfl) rfl (fun ls hl => ?_)
  refine lv_goto (tgt := 2356) S.1 S.2.1 dW_1540 (by decide) ?_
  refine W.widen (k := cells + 256) (n := slots + 8192) (by omega) (by omega) ?_
  exact T _ _ _ _ _ _ _ ⟨hW, hI2, hJ2, hO2, hV2⟩ (lv_sub hl [2, 3, 4, 5, 6] rfl)
set_option maxHeartbeats 4000000 in
set_option maxRecDepth 100000 in
theorem cs_28 {p : Program} {l : Launch} {e : Env} {s : State} {m : MethodId} {b : Nat} {below : List Frame} {meth : Method} {c : Code} {D : va_G} {κ : Nat → ClassId} {ζ : Nat → Nat} {A B : Nat → Nat} {q LL x : Nat} {xs : Nat → Int32} {cells slots : Nat} {H : Heap} {locs : List Loc} {L : List Nat} {F : Nat → va_E} {σ : CS} {τ : MS} {ls : Array Slot} (E : LWE p l e s m b below meth c D κ ζ LL xs) (hx : 5 * x + 5 ≤ LL) (hL : LL ≤ 2560) (hc : cells + 256 ≤ 697565) (hs : slots + 8192 ≤ 7003408) (T : TL p l e s m b below meth c D κ ζ A B q x (cells + 256) (slots + 8192)) (Z : LST D κ ζ A B q s H locs L F σ τ) (hl : lv_has ls 7 [(4, .int (nI (5 * x))), (0, .ref b), (1, .ref (A 0)), (2, .ref (B 0)), (3, .ref q)]) : W p l e room_1 s m #[Value.ref b] below meth c H locs cells slots (lw_Z below #[Value.ref b] s) (F0 m 1543 ls []) := by
  obtain ⟨hst, S, hr, hlk, hN, hK, hST, hX, hbl⟩ := E
  obtain ⟨hW, hI, hJ, hO, hV⟩ := Z
  have i1 : vp_in (nI (5 * x) + 1) LL := sc_in (k := 1) hx hL (by decide)
  obtain ⟨x1, hy1⟩ : ∃ v, xs (nI (5 * x) + 1).toNatClampNeg = v := ⟨_, rfl⟩
  have i2 : vp_in (nI (5 * x) + 2) LL := sc_in (k := 2) hx hL (by decide)
  obtain ⟨x2, hy2⟩ : ∃ v, xs (nI (5 * x) + 2).toNatClampNeg = v := ⟨_, rfl⟩
  refine lv_aload_n S.1 S.2.1 dW_1543 rfl (lv_at hl 2 rfl) ?_
  refine lv_aload_n S.1 S.2.1 dW_1544 rfl (lv_at hl 1 rfl) ?_
  refine lv_iload S.1 S.2.1 dW_1545 (lv_at hl 0 rfl) ?_
  refine lv_iconst (v := 1) S.1 S.2.1 dW_1547 (by decide) ?_
  refine lv_iadd S.1 S.2.1 dW_1548 ?_
  refine pk_sld S hX hbl hW i1 hy1 dW_1549 ?_
  refine lv_aload_n S.1 S.2.1 dW_1550 rfl (lv_at hl 1 rfl) ?_
  refine lv_iload S.1 S.2.1 dW_1551 (lv_at hl 0 rfl) ?_
  refine lv_iconst (v := 2) S.1 S.2.1 dW_1553 (by decide) ?_
  refine lv_iadd S.1 S.2.1 dW_1554 ?_
  refine pk_sld S hX hbl hW i2 hy2 dW_1555 ?_
  refine lv_aload_n S.1 S.2.1 dW_1556 rfl (lv_at hl 4 rfl) ?_
  obtain ⟨res, res2, hf, hk, hg, hV2, hag⟩ := sx_stand hV x1 x2
  refine pk_cLI (As := [.ref (A 0), .int x1, .int x2, .ref q]) (rest := []) S hK hST hW hN (c_L_stand hst hI hO x1 x2 hf hk) mw_L_stand wd_650 wd_651 np_L_stand rfl hl.1 rfl (Nat.le_of_ble_eq_true rfl) dW_1557 ⟨Nat.le_of_ble_eq_true rfl, Nat.le_of_ble_eq_true rfl⟩ ⟨by show cells + 2 ≤ 697565; omega, by show slots + 12 ≤ 7003408; omega⟩ (fun r L1 F1 H1 l1 hp hW => ?_)
  obtain ⟨hs1, hI1, ⟨w0, w1, e_q1, ha1⟩, hf1⟩ := hp
  have hJ1 := hJ.keepC hI hO hs1 hf1 (noE hW hST)
  have hO1 : OUT q L1 F1 := ⟨hs1 _ hO.1, w0, w1, e_q1⟩
  refine lv_istore (lv' := [(5, .int r), (4, .int (nI (5 * x))), (0, .ref b), (1, .ref (A 0)), (2, .ref (B 0)), (3, .ref q)]) S.1 S.2.1 dW_1560 hl (Nat.le_of_ble_eq_true rfl) rfl (fun ls hl => ?_)
  refine lv_aload_n S.1 S.2.1 dW_1562 rfl (lv_at hl 4 rfl) ?_
  refine lv_aload_n S.1 S.2.1 dW_1563 rfl (lv_at hl 2 rfl) ?_
  refine lv_iload S.1 S.2.1 dW_1564 (lv_at hl 1 rfl) ?_
  refine lv_iconst (v := 1) S.1 S.2.1 dW_1566 (by decide) ?_
  refine lv_iadd S.1 S.2.1 dW_1567 ?_
  refine pk_sld S hX hbl hW i1 hy1 dW_1568 ?_
  refine lv_aload_n S.1 S.2.1 dW_1569 rfl (lv_at hl 2 rfl) ?_
  refine lv_iload S.1 S.2.1 dW_1570 (lv_at hl 1 rfl) ?_
  refine lv_iconst (v := 2) S.1 S.2.1 dW_1572 (by decide) ?_
  refine lv_iadd S.1 S.2.1 dW_1573 ?_
  refine pk_sld S hX hbl hW i2 hy2 dW_1574 ?_
  refine pk_cVI (As := [.int x1, .int x2]) (rest := []) S hK hST hW (c_X6_stand hJ1 x1 x2 hg) mc_X6_stand wd_1466 wd_1467 wd_1468 rfl np_X6_stand (hJ1.mem (by decide)) hJ1.this rfl rfl hl.1 rfl (Nat.le_of_ble_eq_true rfl) dW_1575 ⟨Nat.le_of_ble_eq_true rfl, Nat.le_of_ble_eq_true rfl⟩ ⟨by show cells + 2 + 0 ≤ 697565; omega, by show slots + 12 + 0 ≤ 7003408; omega⟩ (fun r2 L2 F2 H2 l2 hp hW => ?_)
  obtain ⟨rfl, hJ2, hM2⟩ := hp
  have hI2 := hI1.keepM hM2
  have hO2 := hO1.keepM hM2
  refine lv_istore (lv' := [(6, .int res2.1), (5, .int r), (4, .int (nI (5 * x))), (0, .ref b), (1, .ref (A 0)), (2, .ref (B 0)), (3, .ref q)]) S.1 S.2.1 dW_1578 hl (Nat.le_of_ble_eq_true rfl) rfl (fun ls hl => ?_)
  refine lv_goto (tgt := 2356) S.1 S.2.1 dW_1580 (by decide) ?_
  refine W.widen (k := cells + 256) (n := slots + 8192) (by omega) (by omega) ?_
  exact T _ _ _ _ _ _ _ ⟨hW, hI2, hJ2, hO2, hV2⟩ (lv_sub hl [2, 3, 4, 5, 6] rfl)
set_option maxHeartbeats 4000000 in
set_option maxRecDepth 100000 in
theorem cs_29 {p : Program} {l : Launch} {e : Env} {s : State} {m : MethodId} {b : Nat} {below : List Frame} {meth : Method} {c : Code} {D : va_G} {κ : Nat → ClassId} {ζ : Nat → Nat} {A B : Nat → Nat} {q LL x : Nat} {xs : Nat → Int32} {cells slots : Nat} {H : Heap} {locs : List Loc} {L : List Nat} {F : Nat → va_E} {σ : CS} {τ : MS} {ls : Array Slot} (E : LWE p l e s m b below meth c D κ ζ LL xs) (hx : 5 * x + 5 ≤ LL) (hL : LL ≤ 2560) (hc : cells + 256 ≤ 697565) (hs : slots + 8192 ≤ 7003408) (T : TL p l e s m b below meth c D κ ζ A B q x (cells + 256) (slots + 8192)) (Z : LST D κ ζ A B q s H locs L F σ τ) (hl : lv_has ls 7 [(4, .int (nI (5 * x))), (0, .ref b), (1, .ref (A 0)), (2, .ref (B 0)), (3, .ref q)]) : W p l e room_1 s m #[Value.ref b] below meth c H locs cells slots (lw_Z below #[Value.ref b] s) (F0 m 1583 ls []) := by
  obtain ⟨hst, S, hr, hlk, hN, hK, hST, hX, hbl⟩ := E
  obtain ⟨hW, hI, hJ, hO, hV⟩ := Z
  have i1 : vp_in (nI (5 * x) + 1) LL := sc_in (k := 1) hx hL (by decide)
  obtain ⟨x1, hy1⟩ : ∃ v, xs (nI (5 * x) + 1).toNatClampNeg = v := ⟨_, rfl⟩
  refine lv_aload_n S.1 S.2.1 dW_1583 rfl (lv_at hl 2 rfl) ?_
  refine lv_aload_n S.1 S.2.1 dW_1584 rfl (lv_at hl 1 rfl) ?_
  refine lv_iload S.1 S.2.1 dW_1585 (lv_at hl 0 rfl) ?_
  refine lv_iconst (v := 1) S.1 S.2.1 dW_1587 (by decide) ?_
  refine lv_iadd S.1 S.2.1 dW_1588 ?_
  refine pk_sld S hX hbl hW i1 hy1 dW_1589 ?_
  refine lv_aload_n S.1 S.2.1 dW_1590 rfl (lv_at hl 4 rfl) ?_
  obtain ⟨res, res2, hf, hk, hg, hV2, hag⟩ := sx_forth hV x1
  refine pk_cLI (As := [.ref (A 0), .int x1, .ref q]) (rest := []) S hK hST hW hN (c_L_forth hst hI hO x1 hf hk) mw_L_forth wd_664 wd_665 np_L_forth rfl hl.1 rfl (Nat.le_of_ble_eq_true rfl) dW_1591 ⟨Nat.le_of_ble_eq_true rfl, Nat.le_of_ble_eq_true rfl⟩ ⟨by show cells + 2 ≤ 697565; omega, by show slots + 12 ≤ 7003408; omega⟩ (fun r L1 F1 H1 l1 hp hW => ?_)
  obtain ⟨hs1, hI1, ⟨w0, w1, e_q1, ha1⟩, hf1⟩ := hp
  have hJ1 := hJ.keepC hI hO hs1 hf1 (noE hW hST)
  have hO1 : OUT q L1 F1 := ⟨hs1 _ hO.1, w0, w1, e_q1⟩
  refine lv_istore (lv' := [(5, .int r), (4, .int (nI (5 * x))), (0, .ref b), (1, .ref (A 0)), (2, .ref (B 0)), (3, .ref q)]) S.1 S.2.1 dW_1594 hl (Nat.le_of_ble_eq_true rfl) rfl (fun ls hl => ?_)
  refine lv_aload_n S.1 S.2.1 dW_1596 rfl (lv_at hl 4 rfl) ?_
  refine lv_aload_n S.1 S.2.1 dW_1597 rfl (lv_at hl 2 rfl) ?_
  refine lv_iload S.1 S.2.1 dW_1598 (lv_at hl 1 rfl) ?_
  refine lv_iconst (v := 1) S.1 S.2.1 dW_1600 (by decide) ?_
  refine lv_iadd S.1 S.2.1 dW_1601 ?_
  refine pk_sld S hX hbl hW i1 hy1 dW_1602 ?_
  refine pk_cVI (As := [.int x1]) (rest := []) S hK hST hW (c_X6_forth hJ1 x1 hg) mc_X6_forth wd_1473 wd_1474 wd_1475 rfl np_X6_forth (hJ1.mem (by decide)) hJ1.this rfl rfl hl.1 rfl (Nat.le_of_ble_eq_true rfl) dW_1603 ⟨Nat.le_of_ble_eq_true rfl, Nat.le_of_ble_eq_true rfl⟩ ⟨by show cells + 2 + 0 ≤ 697565; omega, by show slots + 12 + 0 ≤ 7003408; omega⟩ (fun r2 L2 F2 H2 l2 hp hW => ?_)
  obtain ⟨rfl, hJ2, hM2⟩ := hp
  have hI2 := hI1.keepM hM2
  have hO2 := hO1.keepM hM2
  refine lv_istore (lv' := [(6, .int res2.1), (5, .int r), (4, .int (nI (5 * x))), (0, .ref b), (1, .ref (A 0)), (2, .ref (B 0)), (3, .ref q)]) S.1 S.2.1 dW_1606 hl (Nat.le_of_ble_eq_true rfl) rfl (fun ls hl => ?_)
  refine lv_goto (tgt := 2356) S.1 S.2.1 dW_1608 (by decide) ?_
  refine W.widen (k := cells + 256) (n := slots + 8192) (by omega) (by omega) ?_
  exact T _ _ _ _ _ _ _ ⟨hW, hI2, hJ2, hO2, hV2⟩ (lv_sub hl [2, 3, 4, 5, 6] rfl)
set_option maxHeartbeats 4000000 in
set_option maxRecDepth 100000 in
theorem cs_30 {p : Program} {l : Launch} {e : Env} {s : State} {m : MethodId} {b : Nat} {below : List Frame} {meth : Method} {c : Code} {D : va_G} {κ : Nat → ClassId} {ζ : Nat → Nat} {A B : Nat → Nat} {q LL x : Nat} {xs : Nat → Int32} {cells slots : Nat} {H : Heap} {locs : List Loc} {L : List Nat} {F : Nat → va_E} {σ : CS} {τ : MS} {ls : Array Slot} (E : LWE p l e s m b below meth c D κ ζ LL xs) (hx : 5 * x + 5 ≤ LL) (hL : LL ≤ 2560) (hc : cells + 256 ≤ 697565) (hs : slots + 8192 ≤ 7003408) (T : TL p l e s m b below meth c D κ ζ A B q x (cells + 256) (slots + 8192)) (Z : LST D κ ζ A B q s H locs L F σ τ) (hl : lv_has ls 7 [(4, .int (nI (5 * x))), (0, .ref b), (1, .ref (A 0)), (2, .ref (B 0)), (3, .ref q)]) : W p l e room_1 s m #[Value.ref b] below meth c H locs cells slots (lw_Z below #[Value.ref b] s) (F0 m 1611 ls []) := by
  obtain ⟨hst, S, hr, hlk, hN, hK, hST, hX, hbl⟩ := E
  obtain ⟨hW, hI, hJ, hO, hV⟩ := Z
  have i1 : vp_in (nI (5 * x) + 1) LL := sc_in (k := 1) hx hL (by decide)
  obtain ⟨x1, hy1⟩ : ∃ v, xs (nI (5 * x) + 1).toNatClampNeg = v := ⟨_, rfl⟩
  refine lv_aload_n S.1 S.2.1 dW_1611 rfl (lv_at hl 2 rfl) ?_
  refine lv_aload_n S.1 S.2.1 dW_1612 rfl (lv_at hl 1 rfl) ?_
  refine lv_iload S.1 S.2.1 dW_1613 (lv_at hl 0 rfl) ?_
  refine lv_iconst (v := 1) S.1 S.2.1 dW_1615 (by decide) ?_
  refine lv_iadd S.1 S.2.1 dW_1616 ?_
  refine pk_sld S hX hbl hW i1 hy1 dW_1617 ?_
  refine lv_aload_n S.1 S.2.1 dW_1618 rfl (lv_at hl 4 rfl) ?_
  obtain ⟨res, res2, hf, hk, hg, hV2, hag⟩ := sx_back hV x1
  refine pk_cLI (As := [.ref (A 0), .int x1, .ref q]) (rest := []) S hK hST hW hN (c_L_back hst hI hO x1 hf hk) mw_L_back wd_679 wd_680 np_L_back rfl hl.1 rfl (Nat.le_of_ble_eq_true rfl) dW_1619 ⟨Nat.le_of_ble_eq_true rfl, Nat.le_of_ble_eq_true rfl⟩ ⟨by show cells + 2 ≤ 697565; omega, by show slots + 12 ≤ 7003408; omega⟩ (fun r L1 F1 H1 l1 hp hW => ?_)
  obtain ⟨hs1, hI1, ⟨w0, w1, e_q1, ha1⟩, hf1⟩ := hp
  have hJ1 := hJ.keepC hI hO hs1 hf1 (noE hW hST)
  have hO1 : OUT q L1 F1 := ⟨hs1 _ hO.1, w0, w1, e_q1⟩
  refine lv_istore (lv' := [(5, .int r), (4, .int (nI (5 * x))), (0, .ref b), (1, .ref (A 0)), (2, .ref (B 0)), (3, .ref q)]) S.1 S.2.1 dW_1622 hl (Nat.le_of_ble_eq_true rfl) rfl (fun ls hl => ?_)
  refine lv_aload_n S.1 S.2.1 dW_1624 rfl (lv_at hl 4 rfl) ?_
  refine lv_aload_n S.1 S.2.1 dW_1625 rfl (lv_at hl 2 rfl) ?_
  refine lv_iload S.1 S.2.1 dW_1626 (lv_at hl 1 rfl) ?_
  refine lv_iconst (v := 1) S.1 S.2.1 dW_1628 (by decide) ?_
  refine lv_iadd S.1 S.2.1 dW_1629 ?_
  refine pk_sld S hX hbl hW i1 hy1 dW_1630 ?_
  refine pk_cVI (As := [.int x1]) (rest := []) S hK hST hW (c_X6_back hJ1 x1 hg) mc_X6_back wd_1481 wd_1482 wd_1483 rfl np_X6_back (hJ1.mem (by decide)) hJ1.this rfl rfl hl.1 rfl (Nat.le_of_ble_eq_true rfl) dW_1631 ⟨Nat.le_of_ble_eq_true rfl, Nat.le_of_ble_eq_true rfl⟩ ⟨by show cells + 2 + 0 ≤ 697565; omega, by show slots + 12 + 0 ≤ 7003408; omega⟩ (fun r2 L2 F2 H2 l2 hp hW => ?_)
  obtain ⟨rfl, hJ2, hM2⟩ := hp
  have hI2 := hI1.keepM hM2
  have hO2 := hO1.keepM hM2
  refine lv_istore (lv' := [(6, .int res2.1), (5, .int r), (4, .int (nI (5 * x))), (0, .ref b), (1, .ref (A 0)), (2, .ref (B 0)), (3, .ref q)]) S.1 S.2.1 dW_1634 hl (Nat.le_of_ble_eq_true rfl) rfl (fun ls hl => ?_)
  refine lv_goto (tgt := 2356) S.1 S.2.1 dW_1636 (by decide) ?_
  refine W.widen (k := cells + 256) (n := slots + 8192) (by omega) (by omega) ?_
  exact T _ _ _ _ _ _ _ ⟨hW, hI2, hJ2, hO2, hV2⟩ (lv_sub hl [2, 3, 4, 5, 6] rfl)
set_option maxHeartbeats 4000000 in
set_option maxRecDepth 100000 in
theorem cs_31 {p : Program} {l : Launch} {e : Env} {s : State} {m : MethodId} {b : Nat} {below : List Frame} {meth : Method} {c : Code} {D : va_G} {κ : Nat → ClassId} {ζ : Nat → Nat} {A B : Nat → Nat} {q LL x : Nat} {xs : Nat → Int32} {cells slots : Nat} {H : Heap} {locs : List Loc} {L : List Nat} {F : Nat → va_E} {σ : CS} {τ : MS} {ls : Array Slot} (E : LWE p l e s m b below meth c D κ ζ LL xs) (hx : 5 * x + 5 ≤ LL) (hL : LL ≤ 2560) (hc : cells + 256 ≤ 697565) (hs : slots + 8192 ≤ 7003408) (T : TL p l e s m b below meth c D κ ζ A B q x (cells + 256) (slots + 8192)) (Z : LST D κ ζ A B q s H locs L F σ τ) (hl : lv_has ls 7 [(4, .int (nI (5 * x))), (0, .ref b), (1, .ref (A 0)), (2, .ref (B 0)), (3, .ref q)]) : W p l e room_1 s m #[Value.ref b] below meth c H locs cells slots (lw_Z below #[Value.ref b] s) (F0 m 1639 ls []) := by
  obtain ⟨hst, S, hr, hlk, hN, hK, hST, hX, hbl⟩ := E
  obtain ⟨hW, hI, hJ, hO, hV⟩ := Z
  have i1 : vp_in (nI (5 * x) + 1) LL := sc_in (k := 1) hx hL (by decide)
  obtain ⟨x1, hy1⟩ : ∃ v, xs (nI (5 * x) + 1).toNatClampNeg = v := ⟨_, rfl⟩
  refine lv_aload_n S.1 S.2.1 dW_1639 rfl (lv_at hl 2 rfl) ?_
  refine lv_aload_n S.1 S.2.1 dW_1640 rfl (lv_at hl 1 rfl) ?_
  refine lv_iload S.1 S.2.1 dW_1641 (lv_at hl 0 rfl) ?_
  refine lv_iconst (v := 1) S.1 S.2.1 dW_1643 (by decide) ?_
  refine lv_iadd S.1 S.2.1 dW_1644 ?_
  refine pk_sld S hX hbl hW i1 hy1 dW_1645 ?_
  refine lv_aload_n S.1 S.2.1 dW_1646 rfl (lv_at hl 4 rfl) ?_
  obtain ⟨res, res2, hf, hk, hg, hV2, hag⟩ := sx_takeHeld hV x1
  refine pk_cLI (As := [.ref (A 0), .int x1, .ref q]) (rest := []) S hK hST hW hN (c_L_takeHeld hst hI hO x1 hf hk) mw_L_takeHeld wd_689 wd_690 np_L_takeHeld rfl hl.1 rfl (Nat.le_of_ble_eq_true rfl) dW_1647 ⟨Nat.le_of_ble_eq_true rfl, Nat.le_of_ble_eq_true rfl⟩ ⟨by show cells + 2 ≤ 697565; omega, by show slots + 12 ≤ 7003408; omega⟩ (fun r L1 F1 H1 l1 hp hW => ?_)
  obtain ⟨hs1, hI1, ⟨w0, w1, e_q1, ha1⟩, hf1⟩ := hp
  have hJ1 := hJ.keepC hI hO hs1 hf1 (noE hW hST)
  have hO1 : OUT q L1 F1 := ⟨hs1 _ hO.1, w0, w1, e_q1⟩
  refine lv_istore (lv' := [(5, .int r), (4, .int (nI (5 * x))), (0, .ref b), (1, .ref (A 0)), (2, .ref (B 0)), (3, .ref q)]) S.1 S.2.1 dW_1650 hl (Nat.le_of_ble_eq_true rfl) rfl (fun ls hl => ?_)
  refine lv_aload_n S.1 S.2.1 dW_1652 rfl (lv_at hl 4 rfl) ?_
  refine lv_aload_n S.1 S.2.1 dW_1653 rfl (lv_at hl 2 rfl) ?_
  refine lv_iload S.1 S.2.1 dW_1654 (lv_at hl 1 rfl) ?_
  refine lv_iconst (v := 1) S.1 S.2.1 dW_1656 (by decide) ?_
  refine lv_iadd S.1 S.2.1 dW_1657 ?_
  refine pk_sld S hX hbl hW i1 hy1 dW_1658 ?_
  refine pk_cVI (As := [.int x1]) (rest := []) S hK hST hW (c_X6_takeHeld hJ1 x1 hg) mc_X6_takeHeld wd_1485 wd_1486 wd_1487 rfl np_X6_takeHeld (hJ1.mem (by decide)) hJ1.this rfl rfl hl.1 rfl (Nat.le_of_ble_eq_true rfl) dW_1659 ⟨Nat.le_of_ble_eq_true rfl, Nat.le_of_ble_eq_true rfl⟩ ⟨by show cells + 2 + 0 ≤ 697565; omega, by show slots + 12 + 0 ≤ 7003408; omega⟩ (fun r2 L2 F2 H2 l2 hp hW => ?_)
  obtain ⟨rfl, hJ2, hM2⟩ := hp
  have hI2 := hI1.keepM hM2
  have hO2 := hO1.keepM hM2
  refine lv_istore (lv' := [(6, .int res2.1), (5, .int r), (4, .int (nI (5 * x))), (0, .ref b), (1, .ref (A 0)), (2, .ref (B 0)), (3, .ref q)]) S.1 S.2.1 dW_1662 hl (Nat.le_of_ble_eq_true rfl) rfl (fun ls hl => ?_)
  refine lv_goto (tgt := 2356) S.1 S.2.1 dW_1664 (by decide) ?_
  refine W.widen (k := cells + 256) (n := slots + 8192) (by omega) (by omega) ?_
  exact T _ _ _ _ _ _ _ ⟨hW, hI2, hJ2, hO2, hV2⟩ (lv_sub hl [2, 3, 4, 5, 6] rfl)
set_option maxHeartbeats 4000000 in
set_option maxRecDepth 100000 in
theorem cs_32 {p : Program} {l : Launch} {e : Env} {s : State} {m : MethodId} {b : Nat} {below : List Frame} {meth : Method} {c : Code} {D : va_G} {κ : Nat → ClassId} {ζ : Nat → Nat} {A B : Nat → Nat} {q LL x : Nat} {xs : Nat → Int32} {cells slots : Nat} {H : Heap} {locs : List Loc} {L : List Nat} {F : Nat → va_E} {σ : CS} {τ : MS} {ls : Array Slot} (E : LWE p l e s m b below meth c D κ ζ LL xs) (hx : 5 * x + 5 ≤ LL) (hL : LL ≤ 2560) (hc : cells + 256 ≤ 697565) (hs : slots + 8192 ≤ 7003408) (T : TL p l e s m b below meth c D κ ζ A B q x (cells + 256) (slots + 8192)) (Z : LST D κ ζ A B q s H locs L F σ τ) (hl : lv_has ls 7 [(4, .int (nI (5 * x))), (0, .ref b), (1, .ref (A 0)), (2, .ref (B 0)), (3, .ref q)]) : W p l e room_1 s m #[Value.ref b] below meth c H locs cells slots (lw_Z below #[Value.ref b] s) (F0 m 1667 ls []) := by
  obtain ⟨hst, S, hr, hlk, hN, hK, hST, hX, hbl⟩ := E
  obtain ⟨hW, hI, hJ, hO, hV⟩ := Z
  have i1 : vp_in (nI (5 * x) + 1) LL := sc_in (k := 1) hx hL (by decide)
  obtain ⟨x1, hy1⟩ : ∃ v, xs (nI (5 * x) + 1).toNatClampNeg = v := ⟨_, rfl⟩
  have i2 : vp_in (nI (5 * x) + 2) LL := sc_in (k := 2) hx hL (by decide)
  obtain ⟨x2, hy2⟩ : ∃ v, xs (nI (5 * x) + 2).toNatClampNeg = v := ⟨_, rfl⟩
  have i3 : vp_in (nI (5 * x) + 3) LL := sc_in (k := 3) hx hL (by decide)
  obtain ⟨x3, hy3⟩ : ∃ v, xs (nI (5 * x) + 3).toNatClampNeg = v := ⟨_, rfl⟩
  refine lv_aload_n S.1 S.2.1 dW_1667 rfl (lv_at hl 2 rfl) ?_
  refine lv_aload_n S.1 S.2.1 dW_1668 rfl (lv_at hl 1 rfl) ?_
  refine lv_iload S.1 S.2.1 dW_1669 (lv_at hl 0 rfl) ?_
  refine lv_iconst (v := 1) S.1 S.2.1 dW_1671 (by decide) ?_
  refine lv_iadd S.1 S.2.1 dW_1672 ?_
  refine pk_sld S hX hbl hW i1 hy1 dW_1673 ?_
  refine lv_aload_n S.1 S.2.1 dW_1674 rfl (lv_at hl 1 rfl) ?_
  refine lv_iload S.1 S.2.1 dW_1675 (lv_at hl 0 rfl) ?_
  refine lv_iconst (v := 2) S.1 S.2.1 dW_1677 (by decide) ?_
  refine lv_iadd S.1 S.2.1 dW_1678 ?_
  refine pk_sld S hX hbl hW i2 hy2 dW_1679 ?_
  refine lv_aload_n S.1 S.2.1 dW_1680 rfl (lv_at hl 1 rfl) ?_
  refine lv_iload S.1 S.2.1 dW_1681 (lv_at hl 0 rfl) ?_
  refine lv_iconst (v := 3) S.1 S.2.1 dW_1683 (by decide) ?_
  refine lv_iadd S.1 S.2.1 dW_1684 ?_
  refine pk_sld S hX hbl hW i3 hy3 dW_1685 ?_
  refine lv_aload_n S.1 S.2.1 dW_1686 rfl (lv_at hl 4 rfl) ?_
  obtain ⟨res, res2, hf, hk, hg, hV2, hag⟩ := sx_setHeld hV x1 x2 x3
  refine pk_cLI (As := [.ref (A 0), .int x1, .int x2, .int x3, .ref q]) (rest := []) S hK hST hW hN (c_L_setHeld hst hI hO x1 x2 x3 hf hk) mw_L_setHeld wd_708 wd_709 np_L_setHeld rfl hl.1 rfl (Nat.le_of_ble_eq_true rfl) dW_1687 ⟨Nat.le_of_ble_eq_true rfl, Nat.le_of_ble_eq_true rfl⟩ ⟨by show cells + 4 ≤ 697565; omega, by show slots + 24 ≤ 7003408; omega⟩ (fun r L1 F1 H1 l1 hp hW => ?_)
  obtain ⟨hs1, hI1, ⟨w0, w1, e_q1, ha1⟩, hf1⟩ := hp
  have hJ1 := hJ.keepC hI hO hs1 hf1 (noE hW hST)
  have hO1 : OUT q L1 F1 := ⟨hs1 _ hO.1, w0, w1, e_q1⟩
  refine lv_istore (lv' := [(5, .int r), (4, .int (nI (5 * x))), (0, .ref b), (1, .ref (A 0)), (2, .ref (B 0)), (3, .ref q)]) S.1 S.2.1 dW_1690 hl (Nat.le_of_ble_eq_true rfl) rfl (fun ls hl => ?_)
  refine lv_aload_n S.1 S.2.1 dW_1692 rfl (lv_at hl 4 rfl) ?_
  refine lv_aload_n S.1 S.2.1 dW_1693 rfl (lv_at hl 2 rfl) ?_
  refine lv_iload S.1 S.2.1 dW_1694 (lv_at hl 1 rfl) ?_
  refine lv_iconst (v := 1) S.1 S.2.1 dW_1696 (by decide) ?_
  refine lv_iadd S.1 S.2.1 dW_1697 ?_
  refine pk_sld S hX hbl hW i1 hy1 dW_1698 ?_
  refine lv_aload_n S.1 S.2.1 dW_1699 rfl (lv_at hl 2 rfl) ?_
  refine lv_iload S.1 S.2.1 dW_1700 (lv_at hl 1 rfl) ?_
  refine lv_iconst (v := 2) S.1 S.2.1 dW_1702 (by decide) ?_
  refine lv_iadd S.1 S.2.1 dW_1703 ?_
  refine pk_sld S hX hbl hW i2 hy2 dW_1704 ?_
  refine lv_aload_n S.1 S.2.1 dW_1705 rfl (lv_at hl 2 rfl) ?_
  refine lv_iload S.1 S.2.1 dW_1706 (lv_at hl 1 rfl) ?_
  refine lv_iconst (v := 3) S.1 S.2.1 dW_1708 (by decide) ?_
  refine lv_iadd S.1 S.2.1 dW_1709 ?_
  refine pk_sld S hX hbl hW i3 hy3 dW_1710 ?_
  refine pk_cVI (As := [.int x1, .int x2, .int x3]) (rest := []) S hK hST hW (c_X6_setHeld hJ1 x1 x2 x3 hg) mc_X6_setHeld wd_1489 wd_1490 wd_1491 rfl np_X6_setHeld (hJ1.mem (by decide)) hJ1.this rfl rfl hl.1 rfl (Nat.le_of_ble_eq_true rfl) dW_1711 ⟨Nat.le_of_ble_eq_true rfl, Nat.le_of_ble_eq_true rfl⟩ ⟨by show cells + 4 + 1 ≤ 697565; omega, by show slots + 24 + 33 ≤ 7003408; omega⟩ (fun r2 L2 F2 H2 l2 hp hW => ?_)
  obtain ⟨rfl, hJ2, hM2⟩ := hp
  have hI2 := hI1.keepM hM2
  have hO2 := hO1.keepM hM2
  refine lv_istore (lv' := [(6, .int res2.1), (5, .int r), (4, .int (nI (5 * x))), (0, .ref b), (1, .ref (A 0)), (2, .ref (B 0)), (3, .ref q)]) S.1 S.2.1 dW_1714 hl (Nat.le_of_ble_eq_true rfl) rfl (fun ls hl => ?_)
  refine lv_goto (tgt := 2356) S.1 S.2.1 dW_1716 (by decide) ?_
  refine W.widen (k := cells + 256) (n := slots + 8192) (by omega) (by omega) ?_
  exact T _ _ _ _ _ _ _ ⟨hW, hI2, hJ2, hO2, hV2⟩ (lv_sub hl [2, 3, 4, 5, 6] rfl)
set_option maxHeartbeats 4000000 in
set_option maxRecDepth 100000 in
theorem cs_33 {p : Program} {l : Launch} {e : Env} {s : State} {m : MethodId} {b : Nat} {below : List Frame} {meth : Method} {c : Code} {D : va_G} {κ : Nat → ClassId} {ζ : Nat → Nat} {A B : Nat → Nat} {q LL x : Nat} {xs : Nat → Int32} {cells slots : Nat} {H : Heap} {locs : List Loc} {L : List Nat} {F : Nat → va_E} {σ : CS} {τ : MS} {ls : Array Slot} (E : LWE p l e s m b below meth c D κ ζ LL xs) (hx : 5 * x + 5 ≤ LL) (hL : LL ≤ 2560) (hc : cells + 256 ≤ 697565) (hs : slots + 8192 ≤ 7003408) (T : TL p l e s m b below meth c D κ ζ A B q x (cells + 256) (slots + 8192)) (Z : LST D κ ζ A B q s H locs L F σ τ) (hl : lv_has ls 7 [(4, .int (nI (5 * x))), (0, .ref b), (1, .ref (A 0)), (2, .ref (B 0)), (3, .ref q)]) : W p l e room_1 s m #[Value.ref b] below meth c H locs cells slots (lw_Z below #[Value.ref b] s) (F0 m 1719 ls []) := by
  obtain ⟨hst, S, hr, hlk, hN, hK, hST, hX, hbl⟩ := E
  obtain ⟨hW, hI, hJ, hO, hV⟩ := Z
  have i1 : vp_in (nI (5 * x) + 1) LL := sc_in (k := 1) hx hL (by decide)
  obtain ⟨x1, hy1⟩ : ∃ v, xs (nI (5 * x) + 1).toNatClampNeg = v := ⟨_, rfl⟩
  have i2 : vp_in (nI (5 * x) + 2) LL := sc_in (k := 2) hx hL (by decide)
  obtain ⟨x2, hy2⟩ : ∃ v, xs (nI (5 * x) + 2).toNatClampNeg = v := ⟨_, rfl⟩
  have i3 : vp_in (nI (5 * x) + 3) LL := sc_in (k := 3) hx hL (by decide)
  obtain ⟨x3, hy3⟩ : ∃ v, xs (nI (5 * x) + 3).toNatClampNeg = v := ⟨_, rfl⟩
  refine lv_aload_n S.1 S.2.1 dW_1719 rfl (lv_at hl 2 rfl) ?_
  refine lv_aload_n S.1 S.2.1 dW_1720 rfl (lv_at hl 1 rfl) ?_
  refine lv_iload S.1 S.2.1 dW_1721 (lv_at hl 0 rfl) ?_
  refine lv_iconst (v := 1) S.1 S.2.1 dW_1723 (by decide) ?_
  refine lv_iadd S.1 S.2.1 dW_1724 ?_
  refine pk_sld S hX hbl hW i1 hy1 dW_1725 ?_
  refine lv_aload_n S.1 S.2.1 dW_1726 rfl (lv_at hl 1 rfl) ?_
  refine lv_iload S.1 S.2.1 dW_1727 (lv_at hl 0 rfl) ?_
  refine lv_iconst (v := 2) S.1 S.2.1 dW_1729 (by decide) ?_
  refine lv_iadd S.1 S.2.1 dW_1730 ?_
  refine pk_sld S hX hbl hW i2 hy2 dW_1731 ?_
  refine lv_aload_n S.1 S.2.1 dW_1732 rfl (lv_at hl 1 rfl) ?_
  refine lv_iload S.1 S.2.1 dW_1733 (lv_at hl 0 rfl) ?_
  refine lv_iconst (v := 3) S.1 S.2.1 dW_1735 (by decide) ?_
  refine lv_iadd S.1 S.2.1 dW_1736 ?_
  refine pk_sld S hX hbl hW i3 hy3 dW_1737 ?_
  refine lv_aload_n S.1 S.2.1 dW_1738 rfl (lv_at hl 4 rfl) ?_
  obtain ⟨res, res2, hf, hk, hg, hV2, hag⟩ := sx_put hV x1 x2 x3
  refine pk_cLI (As := [.ref (A 0), .int x1, .int x2, .int x3, .ref q]) (rest := []) S hK hST hW hN (c_L_put hst hI hO x1 x2 x3 hf hk) mw_L_put wd_714 wd_715 np_L_put rfl hl.1 rfl (Nat.le_of_ble_eq_true rfl) dW_1739 ⟨Nat.le_of_ble_eq_true rfl, Nat.le_of_ble_eq_true rfl⟩ ⟨by show cells + 5 ≤ 697565; omega, by show slots + 30 ≤ 7003408; omega⟩ (fun r L1 F1 H1 l1 hp hW => ?_)
  obtain ⟨hs1, hI1, ⟨w0, w1, e_q1, ha1⟩, hf1⟩ := hp
  have hJ1 := hJ.keepC hI hO hs1 hf1 (noE hW hST)
  have hO1 : OUT q L1 F1 := ⟨hs1 _ hO.1, w0, w1, e_q1⟩
  refine lv_istore (lv' := [(5, .int r), (4, .int (nI (5 * x))), (0, .ref b), (1, .ref (A 0)), (2, .ref (B 0)), (3, .ref q)]) S.1 S.2.1 dW_1742 hl (Nat.le_of_ble_eq_true rfl) rfl (fun ls hl => ?_)
  refine lv_aload_n S.1 S.2.1 dW_1744 rfl (lv_at hl 4 rfl) ?_
  refine lv_aload_n S.1 S.2.1 dW_1745 rfl (lv_at hl 2 rfl) ?_
  refine lv_iload S.1 S.2.1 dW_1746 (lv_at hl 1 rfl) ?_
  refine lv_iconst (v := 1) S.1 S.2.1 dW_1748 (by decide) ?_
  refine lv_iadd S.1 S.2.1 dW_1749 ?_
  refine pk_sld S hX hbl hW i1 hy1 dW_1750 ?_
  refine lv_aload_n S.1 S.2.1 dW_1751 rfl (lv_at hl 2 rfl) ?_
  refine lv_iload S.1 S.2.1 dW_1752 (lv_at hl 1 rfl) ?_
  refine lv_iconst (v := 2) S.1 S.2.1 dW_1754 (by decide) ?_
  refine lv_iadd S.1 S.2.1 dW_1755 ?_
  refine pk_sld S hX hbl hW i2 hy2 dW_1756 ?_
  refine lv_aload_n S.1 S.2.1 dW_1757 rfl (lv_at hl 2 rfl) ?_
  refine lv_iload S.1 S.2.1 dW_1758 (lv_at hl 1 rfl) ?_
  refine lv_iconst (v := 3) S.1 S.2.1 dW_1760 (by decide) ?_
  refine lv_iadd S.1 S.2.1 dW_1761 ?_
  refine pk_sld S hX hbl hW i3 hy3 dW_1762 ?_
  refine pk_cVI (As := [.int x1, .int x2, .int x3]) (rest := []) S hK hST hW (c_X6_put hJ1 x1 x2 x3 hg) mc_X6_put wd_1493 wd_1494 wd_1495 rfl np_X6_put (hJ1.mem (by decide)) hJ1.this rfl rfl hl.1 rfl (Nat.le_of_ble_eq_true rfl) dW_1763 ⟨Nat.le_of_ble_eq_true rfl, Nat.le_of_ble_eq_true rfl⟩ ⟨by show cells + 5 + 2 ≤ 697565; omega, by show slots + 30 + 66 ≤ 7003408; omega⟩ (fun r2 L2 F2 H2 l2 hp hW => ?_)
  obtain ⟨rfl, hJ2, hM2⟩ := hp
  have hI2 := hI1.keepM hM2
  have hO2 := hO1.keepM hM2
  refine lv_istore (lv' := [(6, .int res2.1), (5, .int r), (4, .int (nI (5 * x))), (0, .ref b), (1, .ref (A 0)), (2, .ref (B 0)), (3, .ref q)]) S.1 S.2.1 dW_1766 hl (Nat.le_of_ble_eq_true rfl) rfl (fun ls hl => ?_)
  refine lv_goto (tgt := 2356) S.1 S.2.1 dW_1768 (by decide) ?_
  refine W.widen (k := cells + 256) (n := slots + 8192) (by omega) (by omega) ?_
  exact T _ _ _ _ _ _ _ ⟨hW, hI2, hJ2, hO2, hV2⟩ (lv_sub hl [2, 3, 4, 5, 6] rfl)
