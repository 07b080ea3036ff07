def f_X6_turn_28   (k28 : (MS × Int32 × Int32 × Int32) → Option (Int32 × MS)) (t : (MS × Int32 × Int32 × Int32)) : Option (Int32 × MS) := (if t.2.2.1 ≤ t.2.2.2 then (f_X6_changed t.1 t.2.1 ((-1))).bind fun z6 => (f_X6_tear z6).bind fun z11 => (f_X6_get z11 t.2.1 0).bind fun z16 => some (z16, z11) else (gtr t.2.1).bind fun z21 => (gtr t.2.1).bind fun z26 => (ldel (t.1.1 z26) t.2.2.2).bind fun z31 => nm ((va_up t.1.1 z26 z31, t.1.2) : MS) fun t33 => (lins (t33.1 z21) 0 (((t.1.1 z26).getD t.2.2.2.toNatClampNeg 0))).bind fun z38 => nm ((va_up t33.1 z21 z38, t33.2) : MS) fun t39 => nm (t.2.2.2 + 1 : Int32) fun y40 => k28 (t39, t.2.1, t.2.2.1, y40))
def f_X6_turn (τ : MS) (x1 : Int32) : Option (Int32 × MS) := (f_X6_isNoTrack x1).bind fun z45 => (f_X6_start τ z45 1).bind fun z50 => (if z50.1 = 0 then (f_X6_size z50.2 x1).bind fun z56 => (if z56 = 0 then some (0, z50.2) else lpn (f_X6_turn_28 ) 24 (z50.2, x1, z56, 1)) else some (0, z50.2))
theorem mc_X6_turn : MCode yX6_turn cX6_turn 4 (some .int) := ⟨wd_1404, wd_5, by decide, by decide⟩
theorem np_X6_turn : (parseMethodDescriptor yX6_turn.desc).map (fun d => d.parameters.length) = some 1 := by decide +kernel
set_option maxHeartbeats 4000000 in
set_option maxRecDepth 100000 in
theorem c_X6_turn {l : Launch} {D : va_G} {κ : Nat → ClassId} {ζ : Nat → Nat} {L : List Nat} {F : Nat → va_E} {τ : MS} {B : Nat → Nat} (hI : MI κ ζ B τ L F) (x1 : Int32) {res : (Int32 × MS)} (hf : f_X6_turn τ x1 = some res) : MtI l D cls (ty5 κ) ζ yX6_turn cX6_turn 4 (some .int) 8 24 792 ([.ref (B 0), .int x1] : List Value) L F (fun r L' F' => res.1 = r ∧ MI κ ζ B res.2 L' F' ∧ FrM L F L' F') := by
  refine MtI.of (by decide) (Nat.le_of_ble_eq_true rfl) ?_
  intro p e s m below meth c S hr hlk _ hK hW hST ls hl
  have hl : lv_has ls 4 [(0, .ref (B 0)), (1, .int x1)] := hl
  have hFr : FrM L F L F := FrM.rf
  have B28 : ∀  (N : Nat), (∀ (w28 : MS) (v1 : Int32) (v2 : Int32) (v3 : Int32), (lpn (f_X6_turn_28 ) N) (w28, v1, v2, v3) = some res → ∀ (K28 : List Nat) (G28 : Nat → va_E), MI κ ζ B w28 K28 G28 → FrM L F K28 G28 → ∀ (H28 : Heap) (l28 : List Loc) (ls : Array Slot) (cc ss : Nat), HW D cls L s H28 l28 K28 G28 → cc + (N * 1 + 0) ≤ 24 → ss ≤ 33 * cc → lv_has ls 4 [(0, .ref (B 0)), (1, .int v1), (2, .int v2), (3, .int v3)] → W p l e (Rm 8 24 792) s m ([.ref (B 0), .int x1] : List Value).toArray below meth c H28 l28 cc ss (EnI D cls s below ([.ref (B 0), .int x1] : List Value).toArray 24 792 L (fun r L' F' => res.1 = r ∧ MI κ ζ B res.2 L' F' ∧ FrM L F L' F')) (F0 m 28 ls [])) := by
    intro  N
    induction N with
    | zero => intro w28 v1 v2 v3 hf K28 G28 hI hFr H28 l28 ls cc ss hW hcc hss hl; cases hf
    | succ N ih =>
      intro w28 v1 v2 v3 hf K28 G28 hI hFr H28 l28 ls cc ss hW hcc hss hl
      have hf : f_X6_turn_28  (lpn (f_X6_turn_28 ) N) (w28, v1, v2, v3) = some res := hf
      generalize lpn (f_X6_turn_28 ) N = k28 at hf ih
      have hnd28 : 0 ≤ N * 1 + 0 := by omega
      have hcc : cc + (1 + (N * 1 + 0)) ≤ 24 := by omega
      have hk28 := ih
      generalize N * 1 + 0 = nd28 at hnd28 hcc hk28
      unfold f_X6_turn_28 at hf
      try dsimp only at hf
      refine lv_iload_n S.1 S.2.1 dX6_turn_28 rfl (lv_at hl 3 rfl) ?_
      refine lv_iload_n S.1 S.2.1 dX6_turn_29 rfl (lv_at hl 2 rfl) ?_
      refine lv_icmp_ge (tgt := 72) S.1 S.2.1 dX6_turn_30 (by decide) (fun c1 => ?_) (fun c1 => ?_)
      · have hf := (if_pos c1).symm.trans hf
        refine lv_aload_n S.1 S.2.1 dX6_turn_72 rfl (lv_at hl 0 rfl) ?_
        refine lv_iload_n S.1 S.2.1 dX6_turn_73 rfl (lv_at hl 1 rfl) ?_
        refine lv_iconst (v := (-1)) S.1 S.2.1 dX6_turn_74 (by decide) ?_
        obtain ⟨z6, hz, hf⟩ := ob hf
        refine pk_cVV (As := [.int v1, .int ((-1))]) (rest := []) S hK hST hW (c_X6_changed hI v1 ((-1)) hz) mc_X6_changed wd_1272 wd_1274 wd_1708 rfl np_X6_changed (hI.mem (by decide)) hI.this rfl rfl hl.1 rfl (Nat.le_of_ble_eq_true rfl) dX6_turn_75 ⟨by decide, by decide⟩ ⟨rmc (by omega), rms (by omega)⟩ (fun L2 F3 H4 l5 hp hW => ?_)
        obtain ⟨hI, hF9⟩ := hp
        have hFr := hFr.tr hF9
        refine lv_aload_n S.1 S.2.1 dX6_turn_78 rfl (lv_at hl 0 rfl) ?_
        obtain ⟨z11, hz, hf⟩ := ob hf
        refine pk_cVV (As := []) (rest := []) S hK hST hW (c_X6_tear hI  hz) mc_X6_tear wd_1373 wd_1375 wd_1717 rfl np_X6_tear (hI.mem (by decide)) hI.this rfl rfl hl.1 rfl (Nat.le_of_ble_eq_true rfl) dX6_turn_79 ⟨by decide, by decide⟩ ⟨rmc (by omega), rms (by omega)⟩ (fun L7 F8 H9 l10 hp hW => ?_)
        obtain ⟨hI, hF9⟩ := hp
        have hFr := hFr.tr hF9
        refine lv_aload_n S.1 S.2.1 dX6_turn_82 rfl (lv_at hl 0 rfl) ?_
        refine lv_iload_n S.1 S.2.1 dX6_turn_83 rfl (lv_at hl 1 rfl) ?_
        refine lv_iconst (v := 0) S.1 S.2.1 dX6_turn_84 (by decide) ?_
        obtain ⟨z16, hz, hf⟩ := ob hf
        refine pk_cVI (As := [.int v1, .int 0]) (rest := []) S hK hST hW (c_X6_get hI v1 0 hz) mc_X6_get wd_1299 wd_1301 wd_1711 rfl np_X6_get (hI.mem (by decide)) hI.this rfl rfl hl.1 rfl (Nat.le_of_ble_eq_true rfl) dX6_turn_85 ⟨by decide, by decide⟩ ⟨rmc (by omega), rms (by omega)⟩ (fun r L12 F13 H14 l15 hp hW => ?_)
        obtain ⟨rfl, rfl, rfl⟩ := hp
        exact pk_iret S hr hlk hW (eqm (P := fun z => z.1 = z16 ∧ MI κ ζ B z.2 L7 F8 ∧ FrM L F L7 F8) ⟨rfl, hI, hFr⟩ (Option.some.inj hf)) (by omega) (by omega) dX6_turn_88
      · have hf := (if_neg c1).symm.trans hf
        refine lv_aload_n S.1 S.2.1 dX6_turn_33 rfl (lv_at hl 0 rfl) ?_
        refine pk_get S hK hW 1 (hI.mem (by decide)) hI.this rfl hinX6 (by decide) wd_1156 rfl dX6_turn_34 ?_
        refine lv_iload_n S.1 S.2.1 dX6_turn_37 rfl (lv_at hl 1 rfl) ?_
        obtain ⟨z21, hz, hf⟩ := ob hf
        obtain ⟨md9, f9, hR9, -, -⟩ := hI.tracks
        refine pk_cVR (As := [.int v1]) (rest := []) S hK hST hW (c_tracks hI hz) mc_Jx4a65c_get_915e3 wd_1203 wd_1204 wd_1205 rfl np_Jx4a65c_get_915e3 hR9.1 hR9.2.1 rfl rfl hl.1 rfl (Nat.le_of_ble_eq_true rfl) dX6_turn_38 ⟨by decide, by decide⟩ ⟨rmc (by omega), rms (by omega)⟩ (fun r L17 F18 H19 l20 hp hW => ?_)
        obtain ⟨rfl, rfl, rfl⟩ := hp
        have hbz21 : z21 < 4 := Nat.lt_of_lt_of_le (gtr_ok hz).1 (by decide)
        obtain ⟨ar0, hL0, -⟩ := hI.list hbz21
        obtain ⟨m_h0, md0, e_h0⟩ := hL0.obj
        refine va_castS S.1 S.2.1 S.2.2.2.1 (S.2.2.2.2 _ wd_1070) (hK.1 4 _ rfl).2 (pk_recv (r := (RJx4a65c, TJx4a65c, 3)) hK hW m_h0 e_h0 rfl) dX6_turn_41 ?_
        refine lv_iconst (v := 0) S.1 S.2.1 dX6_turn_44 (by decide) ?_
        refine lv_aload_n S.1 S.2.1 dX6_turn_45 rfl (lv_at hl 0 rfl) ?_
        refine pk_get S hK hW 1 (hI.mem (by decide)) hI.this rfl hinX6 (by decide) wd_1156 rfl dX6_turn_46 ?_
        refine lv_iload_n S.1 S.2.1 dX6_turn_49 rfl (lv_at hl 1 rfl) ?_
        obtain ⟨z26, hz, hf⟩ := ob hf
        obtain ⟨md9, f9, hR9, -, -⟩ := hI.tracks
        refine pk_cVR (As := [.int v1]) (rest := [.int 0, .ref (B (3 + z21))]) S hK hST hW (c_tracks hI hz) mc_Jx4a65c_get_915e3 wd_1203 wd_1204 wd_1205 rfl np_Jx4a65c_get_915e3 hR9.1 hR9.2.1 rfl rfl hl.1 rfl (Nat.le_of_ble_eq_true rfl) dX6_turn_50 ⟨by decide, by decide⟩ ⟨rmc (by omega), rms (by omega)⟩ (fun r L22 F23 H24 l25 hp hW => ?_)
        obtain ⟨rfl, rfl, rfl⟩ := hp
        have hbz26 : z26 < 4 := Nat.lt_of_lt_of_le (gtr_ok hz).1 (by decide)
        obtain ⟨ar0, hL0, -⟩ := hI.list hbz26
        obtain ⟨m_h0, md0, e_h0⟩ := hL0.obj
        refine va_castS S.1 S.2.1 S.2.2.2.1 (S.2.2.2.2 _ wd_1070) (hK.1 4 _ rfl).2 (pk_recv (r := (RJx4a65c, TJx4a65c, 3)) hK hW m_h0 e_h0 rfl) dX6_turn_53 ?_
        refine lv_iload_n S.1 S.2.1 dX6_turn_56 rfl (lv_at hl 3 rfl) ?_
        obtain ⟨ar9, hL9, hup9⟩ := hI.list hbz26
        obtain ⟨m_h9, md9, e_h9⟩ := hL9.obj
        obtain ⟨z31, hz, hf⟩ := ob hf
        refine pk_cVR (As := [.int v3]) (rest := [.int 0, .ref (B (3 + z21))]) S hK hST hW (c_mdel hL9 hz) mc_Jx4a65c_remove_915e3 wd_1280 wd_1281 wd_1282 rfl np_Jx4a65c_remove_915e3 m_h9 e_h9 rfl rfl hl.1 rfl (Nat.le_of_ble_eq_true rfl) dX6_turn_57 ⟨by decide, by decide⟩ ⟨rmc (by omega), rms (by omega)⟩ (fun y32 L27 F28 H29 l30 hp hW => ?_)
        obtain ⟨hby32, hL8, hN8⟩ := hp
        obtain ⟨hI, hF9⟩ := hup9 _ _ _ _ hL8 hN8 (noE hW hST)
        have hFr := hFr.tr hF9
        obtain ⟨t33, et33, hf⟩ := nm_ok hf
        have hI := eqm (P := fun w => MI κ ζ B w L27 F28) hI et33.symm
        refine va_castS S.1 S.2.1 S.2.2.2.1 (S.2.2.2.2 _ wd_1303) (hK.1 2 _ rfl).2 (bx_cell hK hW hST hby32) dX6_turn_60 ?_
        obtain ⟨ar9, hL9, hup9⟩ := hI.list hbz21
        obtain ⟨m_h9, md9, e_h9⟩ := hL9.obj
        obtain ⟨z38, hz, hf⟩ := ob hf
        refine pk_cVV (As := [.int 0, .ref y32]) (rest := []) S hK hST hW (c_mins hL9 hz hby32) mc_Jx4a65c_add_7a177 wd_1250 wd_1251 wd_1252 rfl np_Jx4a65c_add_7a177 m_h9 e_h9 rfl rfl hl.1 rfl (Nat.le_of_ble_eq_true rfl) dX6_turn_63 ⟨by decide, by decide⟩ ⟨rmc (by omega), rms (by omega)⟩ (fun L34 F35 H36 l37 hp hW => ?_)
        obtain ⟨ar8, hL8, hN8⟩ := hp
        obtain ⟨hI, hF9⟩ := hup9 _ _ _ _ hL8 hN8 (noE hW hST)
        have hFr := hFr.tr hF9
        obtain ⟨t39, et39, hf⟩ := nm_ok hf
        have hI := eqm (P := fun w => MI κ ζ B w L34 F35) hI et39.symm
        obtain ⟨y40, ey40⟩ : ∃ y : Int32, y = v3 + 1 := ⟨_, rfl⟩
        have hf := nm_at hf ey40
        refine lv_iinc (v := y40) (lv' := [(3, .int y40), (0, .ref (B 0)), (1, .int v1), (2, .int v2)]) S.1 S.2.1 dX6_turn_66 hl (k := 3) rfl (by rw [ey40]; rfl) (by decide) rfl (fun ls hl => ?_)
        refine lv_goto (tgt := 28) S.1 S.2.1 dX6_turn_69 (by decide) ?_
        exact hk28 t39 v1 v2 y40 hf L34 F35 hI hFr _ _ _ _ _ hW (by omega) (by omega) (lv_sub hl [1, 2, 3, 0] rfl)
  unfold f_X6_turn at hf
  refine lv_aload_n S.1 S.2.1 dX6_turn_0 rfl (lv_at hl 0 rfl) ?_
  refine lv_iload_n S.1 S.2.1 dX6_turn_1 rfl (lv_at hl 1 rfl) ?_
  obtain ⟨z45, hz, hf⟩ := ob hf
  refine pk_cSI (As := [.int x1]) (rest := [.ref (B 0)]) S hK hST hW (c_X6_isNoTrack  x1 hz) mc_X6_isNoTrack wd_1182 wd_1183 np_X6_isNoTrack rfl hl.1 rfl (Nat.le_of_ble_eq_true rfl) dX6_turn_2 ⟨by decide, by decide⟩ ⟨rmc (by omega), rms (by omega)⟩ (fun r L41 F42 H43 l44 hp hW => ?_)
  obtain ⟨rfl, rfl, rfl⟩ := hp
  refine lv_iconst (v := 1) S.1 S.2.1 dX6_turn_5 (by decide) ?_
  obtain ⟨z50, hz, hf⟩ := ob hf
  refine pk_cVI (As := [.int z45, .int 1]) (rest := []) S hK hST hW (c_X6_start hI z45 1 hz) mc_X6_start wd_1188 wd_1190 wd_1701 rfl np_X6_start (hI.mem (by decide)) hI.this rfl rfl hl.1 rfl (Nat.le_of_ble_eq_true rfl) dX6_turn_6 ⟨by decide, by decide⟩ ⟨rmc (by omega), rms (by omega)⟩ (fun r L46 F47 H48 l49 hp hW => ?_)
  obtain ⟨rfl, hI, hF9⟩ := hp
  have hFr := hFr.tr hF9
  refine lv_if_eq (tgt := 14) S.1 S.2.1 dX6_turn_9 (by decide) (fun c51 => ?_) (fun c51 => ?_)
  · have hf := (if_pos c51).symm.trans hf
    refine lv_aload_n S.1 S.2.1 dX6_turn_14 rfl (lv_at hl 0 rfl) ?_
    refine lv_iload_n S.1 S.2.1 dX6_turn_15 rfl (lv_at hl 1 rfl) ?_
    obtain ⟨z56, hz, hf⟩ := ob hf
    refine pk_cVI (As := [.int x1]) (rest := []) S hK hST hW (c_X6_size hI x1 hz) mc_X6_size wd_1199 wd_1201 wd_1703 rfl np_X6_size (hI.mem (by decide)) hI.this rfl rfl hl.1 rfl (Nat.le_of_ble_eq_true rfl) dX6_turn_16 ⟨by decide, by decide⟩ ⟨rmc (by omega), rms (by omega)⟩ (fun r L52 F53 H54 l55 hp hW => ?_)
    obtain ⟨rfl, rfl, rfl⟩ := hp
    refine lv_istore_n (lv' := [(2, .int z56), (0, .ref (B 0)), (1, .int x1)]) S.1 S.2.1 dX6_turn_19 rfl hl (by decide) rfl (fun ls hl => ?_)
    refine lv_iload_n S.1 S.2.1 dX6_turn_20 rfl (lv_at hl 0 rfl) ?_
    refine lv_if_ne (tgt := 26) S.1 S.2.1 dX6_turn_21 (by decide) (fun c57 => ?_) (fun c57 => ?_)
    · have hf := (if_neg c57).symm.trans hf
      refine lv_iconst (v := 1) S.1 S.2.1 dX6_turn_26 (by decide) ?_
      refine lv_istore_n (lv' := [(3, .int 1), (2, .int z56), (0, .ref (B 0)), (1, .int x1)]) S.1 S.2.1 dX6_turn_27 rfl hl (by decide) rfl (fun ls hl => ?_)
      exact B28  24 z50.2 x1 z56 1 hf L46 F47 hI hFr _ _ _ _ _ hW (by omega) (by omega) (lv_sub hl [2, 3, 1, 0] rfl)
    · have hf := (if_pos c57).symm.trans hf
      refine lv_iconst (v := 0) S.1 S.2.1 dX6_turn_24 (by decide) ?_
      exact pk_iret S hr hlk hW (eqm (P := fun z => z.1 = 0 ∧ MI κ ζ B z.2 L46 F47 ∧ FrM L F L46 F47) ⟨rfl, hI, hFr⟩ (Option.some.inj hf)) (by omega) (by omega) dX6_turn_25
  · have hf := (if_neg c51).symm.trans hf
    refine lv_iconst (v := 0) S.1 S.2.1 dX6_turn_12 (by decide) ?_
    exact pk_iret S hr hlk hW (eqm (P := fun z => z.1 = 0 ∧ MI κ ζ B z.2 L46 F47 ∧ FrM L F L46 F47) ⟨rfl, hI, hFr⟩ (Option.some.inj hf)) (by omega) (by omega) dX6_turn_13
def f_X6_clear_24   (k24 : (MS × Int32 × Nat × (Nat → Int32) × Int32) → Option (Int32 × MS)) (t : (MS × Int32 × Nat × (Nat → Int32) × Int32)) : Option (Int32 × MS) := (if (nI t.2.2.1) ≤ t.2.2.2.2 then (f_X6_offAll t.1 t.2.1 t.2.2.1 t.2.2.2.1).bind fun z6 => some (z6.1, z6.2) else (if t.2.2.2.2 < 0 ∨ t.2.2.1 ≤ t.2.2.2.2.toNatClampNeg then none else nm ((upd t.2.2.2.1 t.2.2.2.2.toNatClampNeg (vp_nar .boolean (1 : Int32))) : Nat → Int32) fun g7 => nm (t.2.2.2.2 + 1 : Int32) fun y11 => k24 (t.1, t.2.1, t.2.2.1, g7, y11)))
def f_X6_clear (τ : MS) (x1 : Int32) : Option (Int32 × MS) := (f_X6_isNoTrack x1).bind fun z16 => (f_X6_start τ z16 1).bind fun z21 => (if z21.1 = 0 then (f_X6_size z21.2 x1).bind fun z27 => (if z27 < 0 ∨ 32 < z27.toNatClampNeg then none else nm (z27.toNatClampNeg : Nat) fun n28 => nm (fun _ => 0 : Nat → Int32) fun g29 => lpn (f_X6_clear_24 ) 24 (z21.2, x1, n28, g29, 0)) else some (0, z21.2))
theorem mc_X6_clear : MCode yX6_clear cX6_clear 4 (some .int) := ⟨wd_1408, wd_5, by decide, by decide⟩
theorem np_X6_clear : (parseMethodDescriptor yX6_clear.desc).map (fun d => d.parameters.length) = some 1 := by decide +kernel
set_option maxHeartbeats 4000000 in
set_option maxRecDepth 100000 in
theorem c_X6_clear {l : Launch} {D : va_G} {κ : Nat → ClassId} {ζ : Nat → Nat} {L : List Nat} {F : Nat → va_E} {τ : MS} {B : Nat → Nat} (hI : MI κ ζ B τ L F) (x1 : Int32) {res : (Int32 × MS)} (hf : f_X6_clear τ x1 = some res) : MtI l D cls (ty5 κ) ζ yX6_clear cX6_clear 4 (some .int) 7 1 33 ([.ref (B 0), .int x1] : List Value) L F (fun r L' F' => res.1 = r ∧ MI κ ζ B res.2 L' F' ∧ FrM L F L' F') := by
  refine MtI.of (by decide) (Nat.le_of_ble_eq_true rfl) ?_
  intro p e s m below meth c S hr hlk _ hK hW hST ls hl
  have hl : lv_has ls 4 [(0, .ref (B 0)), (1, .int x1)] := hl
  have hFr : FrM L F L F := FrM.rf
  have B24 : ∀  (N : Nat), (∀ (w24 : MS) (v1 : Int32) (nv2 : Nat) (gv2 : Nat → Int32) (v3 : Int32), (lpn (f_X6_clear_24 ) N) (w24, v1, nv2, gv2, v3) = some res → ∀ (K24 : List Nat) (G24 : Nat → va_E), ∀ (qv2 : Nat), qv2 ∈ K24 → G24 qv2 = .inl (κ 2, nv2, .inl gv2) → (qv2 ∉ L) → MI κ ζ B w24 K24 G24 → FrM L F K24 G24 → ∀ (H24 : Heap) (l24 : List Loc) (ls : Array Slot) (cc ss : Nat), HW D cls L s H24 l24 K24 G24 → cc + (N * 0 + 0) ≤ 1 → ss ≤ 33 * cc → lv_has ls 4 [(0, .ref (B 0)), (1, .int v1), (2, .ref qv2), (3, .int v3)] → W p l e (Rm 7 1 33) s m ([.ref (B 0), .int x1] : List Value).toArray below meth c H24 l24 cc ss (EnI D cls s below ([.ref (B 0), .int x1] : List Value).toArray 1 33 L (fun r L' F' => res.1 = r ∧ MI κ ζ B res.2 L' F' ∧ FrM L F L' F')) (F0 m 24 ls [])) := by
    intro  N
    induction N with
    | zero => intro w24 v1 nv2 gv2 v3 hf K24 G24 qv2 m_qv2 e_qv2 hnw_qv2 hI hFr H24 l24 ls cc ss hW hcc hss hl; cases hf
    | succ N ih =>
      intro w24 v1 nv2 gv2 v3 hf K24 G24 qv2 m_qv2 e_qv2 hnw_qv2 hI hFr H24 l24 ls cc ss hW hcc hss hl
      have hf : f_X6_clear_24  (lpn (f_X6_clear_24 ) N) (w24, v1, nv2, gv2, v3) = some res := hf
      generalize lpn (f_X6_clear_24 ) N = k24 at hf ih
      have hnd24 : 0 ≤ N * 0 + 0 := by omega
      have hcc : cc + (0 + (N * 0 + 0)) ≤ 1 := by omega
      have hk24 := ih
      generalize N * 0 + 0 = nd24 at hnd24 hcc hk24
      unfold f_X6_clear_24 at hf
      try dsimp only at hf
      refine lv_iload_n S.1 S.2.1 dX6_clear_24 rfl (lv_at hl 3 rfl) ?_
      refine lv_aload_n S.1 S.2.1 dX6_clear_25 rfl (lv_at hl 2 rfl) ?_
      refine pk_alen S hK hW 2 m_qv2 e_qv2 rfl rfl dX6_clear_26 ?_
      refine lv_icmp_ge (tgt := 40) S.1 S.2.1 dX6_clear_27 (by decide) (fun c1 => ?_) (fun c1 => ?_)
      · have hf := (if_pos c1).symm.trans hf
        refine lv_aload_n S.1 S.2.1 dX6_clear_40 rfl (lv_at hl 0 rfl) ?_
        refine lv_iload_n S.1 S.2.1 dX6_clear_41 rfl (lv_at hl 1 rfl) ?_
        refine lv_aload_n S.1 S.2.1 dX6_clear_42 rfl (lv_at hl 2 rfl) ?_
        obtain ⟨z6, hz, hf⟩ := ob hf
        refine pk_cVI (As := [.int v1, .ref qv2]) (rest := []) S hK hST hW (c_X6_offAll hI v1 nv2 gv2 m_qv2 e_qv2 hz) mc_X6_offAll wd_1385 wd_1387 wd_1718 rfl np_X6_offAll (hI.mem (by decide)) hI.this rfl rfl hl.1 rfl (Nat.le_of_ble_eq_true rfl) dX6_clear_43 ⟨by decide, by decide⟩ ⟨rmc (by omega), rms (by omega)⟩ (fun r L2 F3 H4 l5 hp hW => ?_)
        obtain ⟨rfl, hI, hF9⟩ := hp
        have hFr := hFr.tr hF9
        have e_qv2 := (hF9.2 _ m_qv2 (notM_a e_qv2)).trans e_qv2
        have m_qv2 := hF9.1 _ m_qv2
        exact pk_iret S hr hlk hW (eqm (P := fun z => z.1 = z6.1 ∧ MI κ ζ B z.2 L2 F3 ∧ FrM L F L2 F3) ⟨rfl, hI, hFr⟩ (Option.some.inj hf)) (by omega) (by omega) dX6_clear_46
      · have hf := (if_neg c1).symm.trans hf
        refine lv_aload_n S.1 S.2.1 dX6_clear_30 rfl (lv_at hl 2 rfl) ?_
        refine lv_iload_n S.1 S.2.1 dX6_clear_31 rfl (lv_at hl 3 rfl) ?_
        refine lv_iconst (v := 1) S.1 S.2.1 dX6_clear_32 (by decide) ?_
        obtain ⟨hg, hf⟩ := gd hf
        obtain ⟨g7, eg7, hf⟩ := nm_ok hf
        refine pk_zast S hK hW 2 m_qv2 e_qv2 rfl hg dX6_clear_33 (fun H9 l10 hW => ?_)
        rw [← eg7] at hW
        have hI := hI.loc (g' := g7) e_qv2
        have hFr := hFr.loc (e := .inl (κ 2, nv2, .inl g7)) hnw_qv2
        have e_qv2 : (va_up G24 qv2 (.inl (κ 2, nv2, .inl g7))) qv2 = .inl (κ 2, nv2, .inl g7) := up_eq
        generalize va_up G24 qv2 (.inl (κ 2, nv2, .inl g7)) = F8 at hW hI hFr e_qv2
        obtain ⟨y11, ey11⟩ : ∃ y : Int32, y = v3 + 1 := ⟨_, rfl⟩
        have hf := nm_at hf ey11
        refine lv_iinc (v := y11) (lv' := [(3, .int y11), (0, .ref (B 0)), (1, .int v1), (2, .ref qv2)]) S.1 S.2.1 dX6_clear_34 hl (k := 3) rfl (by rw [ey11]; rfl) (by decide) rfl (fun ls hl => ?_)
        refine lv_goto (tgt := 24) S.1 S.2.1 dX6_clear_37 (by decide) ?_
        exact hk24 w24 v1 nv2 g7 y11 hf K24 F8 qv2 m_qv2 e_qv2 hnw_qv2 hI hFr _ _ _ _ _ hW (by omega) (by omega) (lv_sub hl [1, 2, 3, 0] rfl)
  unfold f_X6_clear at hf
  refine lv_aload_n S.1 S.2.1 dX6_clear_0 rfl (lv_at hl 0 rfl) ?_
  refine lv_iload_n S.1 S.2.1 dX6_clear_1 rfl (lv_at hl 1 rfl) ?_
  obtain ⟨z16, hz, hf⟩ := ob hf
  refine pk_cSI (As := [.int x1]) (rest := [.ref (B 0)]) S hK hST hW (c_X6_isNoTrack  x1 hz) mc_X6_isNoTrack wd_1182 wd_1183 np_X6_isNoTrack rfl hl.1 rfl (Nat.le_of_ble_eq_true rfl) dX6_clear_2 ⟨by decide, by decide⟩ ⟨rmc (by omega), rms (by omega)⟩ (fun r L12 F13 H14 l15 hp hW => ?_)
  obtain ⟨rfl, rfl, rfl⟩ := hp
  refine lv_iconst (v := 1) S.1 S.2.1 dX6_clear_5 (by decide) ?_
  obtain ⟨z21, hz, hf⟩ := ob hf
  refine pk_cVI (As := [.int z16, .int 1]) (rest := []) S hK hST hW (c_X6_start hI z16 1 hz) mc_X6_start wd_1188 wd_1190 wd_1701 rfl np_X6_start (hI.mem (by decide)) hI.this rfl rfl hl.1 rfl (Nat.le_of_ble_eq_true rfl) dX6_clear_6 ⟨by decide, by decide⟩ ⟨rmc (by omega), rms (by omega)⟩ (fun r L17 F18 H19 l20 hp hW => ?_)
  obtain ⟨rfl, hI, hF9⟩ := hp
  have hFr := hFr.tr hF9
  refine lv_if_eq (tgt := 14) S.1 S.2.1 dX6_clear_9 (by decide) (fun c22 => ?_) (fun c22 => ?_)
  · have hf := (if_pos c22).symm.trans hf
    refine lv_aload_n S.1 S.2.1 dX6_clear_14 rfl (lv_at hl 0 rfl) ?_
    refine lv_iload_n S.1 S.2.1 dX6_clear_15 rfl (lv_at hl 1 rfl) ?_
    obtain ⟨z27, hz, hf⟩ := ob hf
    refine pk_cVI (As := [.int x1]) (rest := []) S hK hST hW (c_X6_size hI x1 hz) mc_X6_size wd_1199 wd_1201 wd_1703 rfl np_X6_size (hI.mem (by decide)) hI.this rfl rfl hl.1 rfl (Nat.le_of_ble_eq_true rfl) dX6_clear_16 ⟨by decide, by decide⟩ ⟨rmc (by omega), rms (by omega)⟩ (fun r L23 F24 H25 l26 hp hW => ?_)
    obtain ⟨rfl, rfl, rfl⟩ := hp
    obtain ⟨hg9, hf⟩ := gd hf
    obtain ⟨n28, en28, hf⟩ := nm_ok hf
    obtain ⟨g29, eg29, hf⟩ := nm_ok hf
    have hn9 : n28 ≤ 32 := by have := fun q => hg9 (Or.inr q); omega
    refine pk_newZ (N' := n28) S hK hW 2 rfl wd_1389 (fun q => hg9 (Or.inl q)) en28.symm (by omega) (rmc (by omega)) (rms (by omega)) dX6_clear_19 (fun q30 H31 hq_q30 hW => ?_)
    rw [← eg29] at hW
    have hI := hI.push (e := .inl (κ 2, n28, .inl g29)) hq_q30 (noE hW hST)
    have hF9 := FrM.push (F := F18) (e := .inl (κ 2, n28, .inl g29)) hq_q30
    have hnw_q30 : q30 ∉ L := fun ee => hq_q30 (hFr.1 _ ee)
    have hFr := hFr.tr hF9
    have e_q30 : (va_up F18 q30 (.inl (κ 2, n28, .inl g29))) q30 = .inl (κ 2, n28, .inl g29) := up_eq
    have m_q30 : q30 ∈ L17 ++ [q30] := List.mem_append_right _ (List.mem_singleton.mpr rfl)
    generalize va_up F18 q30 (.inl (κ 2, n28, .inl g29)) = F32 at hW hI hF9 hFr e_q30
    generalize L17 ++ [q30] = L33 at hW hI hF9 hFr m_q30
    refine lv_astore_n (lv' := [(2, .ref q30), (0, .ref (B 0)), (1, .int x1)]) S.1 S.2.1 dX6_clear_21 rfl hl (by decide) rfl (fun ls hl => ?_)
    refine lv_iconst (v := 0) S.1 S.2.1 dX6_clear_22 (by decide) ?_
    refine lv_istore_n (lv' := [(3, .int 0), (2, .ref q30), (0, .ref (B 0)), (1, .int x1)]) S.1 S.2.1 dX6_clear_23 rfl hl (by decide) rfl (fun ls hl => ?_)
    exact B24  24 z21.2 x1 n28 g29 0 hf L33 F32 q30 m_q30 e_q30 hnw_q30 hI hFr _ _ _ _ _ hW (by omega) (by omega) (lv_sub hl [2, 3, 1, 0] rfl)
  · have hf := (if_neg c22).symm.trans hf
    refine lv_iconst (v := 0) S.1 S.2.1 dX6_clear_12 (by decide) ?_
    exact pk_iret S hr hlk hW (eqm (P := fun z => z.1 = 0 ∧ MI κ ζ B z.2 L17 F18 ∧ FrM L F L17 F18) ⟨rfl, hI, hFr⟩ (Option.some.inj hf)) (by omega) (by omega) dX6_clear_13
def f_X6_purge_56  (k15 : (MS × Int32 × Nat × (Nat → Int32) × Int32) → Option (Int32 × MS)) (w56 : MS) (v1 : Int32) (nv2 : Nat) (gv2 : (Nat → Int32)) (v3 : Int32) (u1 : Int32) (u2 : Int32) : Option (Int32 × MS) := (if u1 < 0 ∨ nv2 ≤ u1.toNatClampNeg then none else nm ((upd gv2 u1.toNatClampNeg (vp_nar .boolean u2)) : Nat → Int32) fun g1 => nm (v3 + 1 : Int32) fun y5 => k15 (w56, v1, nv2, g1, y5))
def f_X6_purge_47  (k15 : (MS × Int32 × Nat × (Nat → Int32) × Int32) → Option (Int32 × MS)) (w47 : MS) (v1 : Int32) (nv2 : Nat) (gv2 : (Nat → Int32)) (v3 : Int32) (u1 : Int32) (u2 : Int32) : Option (Int32 × MS) := (if u2 = v1 then f_X6_purge_56 k15 w47 v1 nv2 gv2 v3 u1 1 else f_X6_purge_56 k15 w47 v1 nv2 gv2 v3 u1 0)
def f_X6_purge_15   (k15 : (MS × Int32 × Nat × (Nat → Int32) × Int32) → Option (Int32 × MS)) (t : (MS × Int32 × Nat × (Nat → Int32) × Int32)) : Option (Int32 × MS) := (if (nI t.2.2.1) ≤ t.2.2.2.2 then (f_X6_offAll t.1 1 t.2.2.1 t.2.2.2.1).bind fun z12 => some (z12.1, z12.2) else (f_X6_get t.1 1 t.2.2.2.2).bind fun z17 => (f_X6_kind z17).bind fun z22 => (f_X6_found t.1 0 z22 0).bind fun z27 => (if z27 = ((-1)) then f_X6_purge_47 k15 t.1 t.2.1 t.2.2.1 t.2.2.2.1 t.2.2.2.2 t.2.2.2.2 1 else f_X6_purge_47 k15 t.1 t.2.1 t.2.2.1 t.2.2.2.1 t.2.2.2.2 t.2.2.2.2 0))
def f_X6_purge (τ : MS) (x1 : Int32) : Option (Int32 × MS) := nm ((τ.1, va_up τ.2 0 0) : MS) fun t32 => (f_X6_size t32 1).bind fun z37 => (if z37 < 0 ∨ 32 < z37.toNatClampNeg then none else nm (z37.toNatClampNeg : Nat) fun n38 => nm (fun _ => 0 : Nat → Int32) fun g39 => lpn (f_X6_purge_15 ) 24 (t32, x1, n38, g39, 0))
theorem mc_X6_purge : MCode yX6_purge cX6_purge 4 (some .int) := ⟨wd_1412, wd_5, by decide, by decide⟩
theorem np_X6_purge : (parseMethodDescriptor yX6_purge.desc).map (fun d => d.parameters.length) = some 1 := by decide +kernel
set_option maxHeartbeats 4000000 in
set_option maxRecDepth 100000 in
theorem c_X6_purge {l : Launch} {D : va_G} {κ : Nat → ClassId} {ζ : Nat → Nat} {L : List Nat} {F : Nat → va_E} {τ : MS} {B : Nat → Nat} (hI : MI κ ζ B τ L F) (x1 : Int32) {res : (Int32 × MS)} (hf : f_X6_purge τ x1 = some res) : MtI l D cls (ty5 κ) ζ yX6_purge cX6_purge 4 (some .int) 7 1 33 ([.ref (B 0), .int x1] : List Value) L F (fun r L' F' => res.1 = r ∧ MI κ ζ B res.2 L' F' ∧ FrM L F L' F') := by
  refine MtI.of (by decide) (Nat.le_of_ble_eq_true rfl) ?_
  intro p e s m below meth c S hr hlk _ hK hW hST ls hl
  have hl : lv_has ls 4 [(0, .ref (B 0)), (1, .int x1)] := hl
  have hFr : FrM L F L F := FrM.rf
  have B56 : ∀ (k15 : (MS × Int32 × Nat × (Nat → Int32) × Int32) → Option (Int32 × MS)) (nd15 : Nat) (hk15 : (∀ (w15 : MS) (v1 : Int32) (nv2 : Nat) (gv2 : Nat → Int32) (v3 : Int32), k15 (w15, v1, nv2, gv2, v3) = some res → ∀ (K15 : List Nat) (G15 : Nat → va_E), ∀ (qv2 : Nat), qv2 ∈ K15 → G15 qv2 = .inl (κ 2, nv2, .inl gv2) → (qv2 ∉ L) → MI κ ζ B w15 K15 G15 → FrM L F K15 G15 → ∀ (H15 : Heap) (l15 : List Loc) (ls : Array Slot) (cc ss : Nat), HW D cls L s H15 l15 K15 G15 → cc + (nd15) ≤ 1 → ss ≤ 33 * cc → lv_has ls 4 [(0, .ref (B 0)), (1, .int v1), (2, .ref qv2), (3, .int v3)] → W p l e (Rm 7 1 33) s m ([.ref (B 0), .int x1] : List Value).toArray below meth c H15 l15 cc ss (EnI D cls s below ([.ref (B 0), .int x1] : List Value).toArray 1 33 L (fun r L' F' => res.1 = r ∧ MI κ ζ B res.2 L' F' ∧ FrM L F L' F')) (F0 m 15 ls []))) (hnd15 : 0 ≤ nd15) (w56 : MS) (v1 : Int32) (nv2 : Nat) (gv2 : Nat → Int32) (v3 : Int32) (u1 : Int32) (u2 : Int32), f_X6_purge_56 k15 w56 v1 nv2 gv2 v3 u1 u2 = some res → ∀ (K56 : List Nat) (G56 : Nat → va_E), ∀ (qv2 : Nat), qv2 ∈ K56 → G56 qv2 = .inl (κ 2, nv2, .inl gv2) → (qv2 ∉ L) → MI κ ζ B w56 K56 G56 → FrM L F K56 G56 → ∀ (H56 : Heap) (l56 : List Loc) (ls : Array Slot) (cc ss : Nat), HW D cls L s H56 l56 K56 G56 → cc + (0 + nd15) ≤ 1 → ss ≤ 33 * cc → lv_has ls 4 [(0, .ref (B 0)), (1, .int v1), (2, .ref qv2), (3, .int v3)] → W p l e (Rm 7 1 33) s m ([.ref (B 0), .int x1] : List Value).toArray below meth c H56 l56 cc ss (EnI D cls s below ([.ref (B 0), .int x1] : List Value).toArray 1 33 L (fun r L' F' => res.1 = r ∧ MI κ ζ B res.2 L' F' ∧ FrM L F L' F')) (F0 m 56 ls [.int u2, .int u1, .ref qv2]) := by
    intro k15 nd15 hk15 hnd15 w56 v1 nv2 gv2 v3 u1 u2 hf K56 G56 qv2 m_qv2 e_qv2 hnw_qv2 hI hFr H56 l56 ls cc ss hW hcc hss hl
    unfold f_X6_purge_56 at hf
    obtain ⟨hg, hf⟩ := gd hf
    obtain ⟨g1, eg1, hf⟩ := nm_ok hf
    refine pk_zast S hK hW 2 m_qv2 e_qv2 rfl hg dX6_purge_56 (fun H3 l4 hW => ?_)
    rw [← eg1] at hW
    have hI := hI.loc (g' := g1) e_qv2
    have hFr := hFr.loc (e := .inl (κ 2, nv2, .inl g1)) hnw_qv2
    have e_qv2 : (va_up G56 qv2 (.inl (κ 2, nv2, .inl g1))) qv2 = .inl (κ 2, nv2, .inl g1) := up_eq
    generalize va_up G56 qv2 (.inl (κ 2, nv2, .inl g1)) = F2 at hW hI hFr e_qv2
    obtain ⟨y5, ey5⟩ : ∃ y : Int32, y = v3 + 1 := ⟨_, rfl⟩
    have hf := nm_at hf ey5
    refine lv_iinc (v := y5) (lv' := [(3, .int y5), (0, .ref (B 0)), (1, .int v1), (2, .ref qv2)]) S.1 S.2.1 dX6_purge_57 hl (k := 3) rfl (by rw [ey5]; rfl) (by decide) rfl (fun ls hl => ?_)
    refine lv_goto (tgt := 15) S.1 S.2.1 dX6_purge_60 (by decide) ?_
    exact hk15 w56 v1 nv2 g1 y5 hf K56 F2 qv2 m_qv2 e_qv2 hnw_qv2 hI hFr _ _ _ _ _ hW (by omega) (by omega) (lv_sub hl [1, 2, 3, 0] rfl)
  have B47 : ∀ (k15 : (MS × Int32 × Nat × (Nat → Int32) × Int32) → Option (Int32 × MS)) (nd15 : Nat) (hk15 : (∀ (w15 : MS) (v1 : Int32) (nv2 : Nat) (gv2 : Nat → Int32) (v3 : Int32), k15 (w15, v1, nv2, gv2, v3) = some res → ∀ (K15 : List Nat) (G15 : Nat → va_E), ∀ (qv2 : Nat), qv2 ∈ K15 → G15 qv2 = .inl (κ 2, nv2, .inl gv2) → (qv2 ∉ L) → MI κ ζ B w15 K15 G15 → FrM L F K15 G15 → ∀ (H15 : Heap) (l15 : List Loc) (ls : Array Slot) (cc ss : Nat), HW D cls L s H15 l15 K15 G15 → cc + (nd15) ≤ 1 → ss ≤ 33 * cc → lv_has ls 4 [(0, .ref (B 0)), (1, .int v1), (2, .ref qv2), (3, .int v3)] → W p l e (Rm 7 1 33) s m ([.ref (B 0), .int x1] : List Value).toArray below meth c H15 l15 cc ss (EnI D cls s below ([.ref (B 0), .int x1] : List Value).toArray 1 33 L (fun r L' F' => res.1 = r ∧ MI κ ζ B res.2 L' F' ∧ FrM L F L' F')) (F0 m 15 ls []))) (hnd15 : 0 ≤ nd15) (w47 : MS) (v1 : Int32) (nv2 : Nat) (gv2 : Nat → Int32) (v3 : Int32) (u1 : Int32) (u2 : Int32), f_X6_purge_47 k15 w47 v1 nv2 gv2 v3 u1 u2 = some res → ∀ (K47 : List Nat) (G47 : Nat → va_E), ∀ (qv2 : Nat), qv2 ∈ K47 → G47 qv2 = .inl (κ 2, nv2, .inl gv2) → (qv2 ∉ L) → MI κ ζ B w47 K47 G47 → FrM L F K47 G47 → ∀ (H47 : Heap) (l47 : List Loc) (ls : Array Slot) (cc ss : Nat), HW D cls L s H47 l47 K47 G47 → cc + (0 + nd15) ≤ 1 → ss ≤ 33 * cc → lv_has ls 4 [(0, .ref (B 0)), (1, .int v1), (2, .ref qv2), (3, .int v3)] → W p l e (Rm 7 1 33) s m ([.ref (B 0), .int x1] : List Value).toArray below meth c H47 l47 cc ss (EnI D cls s below ([.ref (B 0), .int x1] : List Value).toArray 1 33 L (fun r L' F' => res.1 = r ∧ MI κ ζ B res.2 L' F' ∧ FrM L F L' F')) (F0 m 47 ls [.int u2, .int u1, .ref qv2]) := by
    intro k15 nd15 hk15 hnd15 w47 v1 nv2 gv2 v3 u1 u2 hf K47 G47 qv2 m_qv2 e_qv2 hnw_qv2 hI hFr H47 l47 ls cc ss hW hcc hss hl
    unfold f_X6_purge_47 at hf
    refine lv_iload_n S.1 S.2.1 dX6_purge_47 rfl (lv_at hl 1 rfl) ?_
    refine lv_icmp_ne (tgt := 55) S.1 S.2.1 dX6_purge_48 (by decide) (fun c6 => ?_) (fun c6 => ?_)
    · have hf := (if_neg c6).symm.trans hf
      refine lv_iconst (v := 0) S.1 S.2.1 dX6_purge_55 (by decide) ?_
      exact B56 k15 nd15 hk15 hnd15 w47 v1 nv2 gv2 v3 u1 0 hf K47 G47 qv2 m_qv2 e_qv2 hnw_qv2 hI hFr _ _ _ _ _ hW (by omega) (by omega) (lv_sub hl [0, 1, 2, 3] rfl)
    · have hf := (if_pos c6).symm.trans hf
      refine lv_iconst (v := 1) S.1 S.2.1 dX6_purge_51 (by decide) ?_
      refine lv_goto (tgt := 56) S.1 S.2.1 dX6_purge_52 (by decide) ?_
      exact B56 k15 nd15 hk15 hnd15 w47 v1 nv2 gv2 v3 u1 1 hf K47 G47 qv2 m_qv2 e_qv2 hnw_qv2 hI hFr _ _ _ _ _ hW (by omega) (by omega) (lv_sub hl [0, 1, 2, 3] rfl)
  have B15 : ∀  (N : Nat), (∀ (w15 : MS) (v1 : Int32) (nv2 : Nat) (gv2 : Nat → Int32) (v3 : Int32), (lpn (f_X6_purge_15 ) N) (w15, v1, nv2, gv2, v3) = some res → ∀ (K15 : List Nat) (G15 : Nat → va_E), ∀ (qv2 : Nat), qv2 ∈ K15 → G15 qv2 = .inl (κ 2, nv2, .inl gv2) → (qv2 ∉ L) → MI κ ζ B w15 K15 G15 → FrM L F K15 G15 → ∀ (H15 : Heap) (l15 : List Loc) (ls : Array Slot) (cc ss : Nat), HW D cls L s H15 l15 K15 G15 → cc + (N * 0 + 0) ≤ 1 → ss ≤ 33 * cc → lv_has ls 4 [(0, .ref (B 0)), (1, .int v1), (2, .ref qv2), (3, .int v3)] → W p l e (Rm 7 1 33) s m ([.ref (B 0), .int x1] : List Value).toArray below meth c H15 l15 cc ss (EnI D cls s below ([.ref (B 0), .int x1] : List Value).toArray 1 33 L (fun r L' F' => res.1 = r ∧ MI κ ζ B res.2 L' F' ∧ FrM L F L' F')) (F0 m 15 ls [])) := by
    intro  N
    induction N with
    | zero => intro w15 v1 nv2 gv2 v3 hf K15 G15 qv2 m_qv2 e_qv2 hnw_qv2 hI hFr H15 l15 ls cc ss hW hcc hss hl; cases hf
    | succ N ih =>
      intro w15 v1 nv2 gv2 v3 hf K15 G15 qv2 m_qv2 e_qv2 hnw_qv2 hI hFr H15 l15 ls cc ss hW hcc hss hl
      have hf : f_X6_purge_15  (lpn (f_X6_purge_15 ) N) (w15, v1, nv2, gv2, v3) = some res := hf
      generalize lpn (f_X6_purge_15 ) N = k15 at hf ih
      have hnd15 : 0 ≤ N * 0 + 0 := by omega
      have hcc : cc + (0 + (N * 0 + 0)) ≤ 1 := by omega
      have hk15 := ih
      generalize N * 0 + 0 = nd15 at hnd15 hcc hk15
      unfold f_X6_purge_15 at hf
      try dsimp only at hf
      refine lv_iload_n S.1 S.2.1 dX6_purge_15 rfl (lv_at hl 3 rfl) ?_
      refine lv_aload_n S.1 S.2.1 dX6_purge_16 rfl (lv_at hl 2 rfl) ?_
      refine pk_alen S hK hW 2 m_qv2 e_qv2 rfl rfl dX6_purge_17 ?_
      refine lv_icmp_ge (tgt := 63) S.1 S.2.1 dX6_purge_18 (by decide) (fun c7 => ?_) (fun c7 => ?_)
      · have hf := (if_pos c7).symm.trans hf
        refine lv_aload_n S.1 S.2.1 dX6_purge_63 rfl (lv_at hl 0 rfl) ?_
        refine lv_iconst (v := 1) S.1 S.2.1 dX6_purge_64 (by decide) ?_
        refine lv_aload_n S.1 S.2.1 dX6_purge_65 rfl (lv_at hl 2 rfl) ?_
        obtain ⟨z12, hz, hf⟩ := ob hf
        refine pk_cVI (As := [.int 1, .ref qv2]) (rest := []) S hK hST hW (c_X6_offAll hI 1 nv2 gv2 m_qv2 e_qv2 hz) mc_X6_offAll wd_1385 wd_1387 wd_1718 rfl np_X6_offAll (hI.mem (by decide)) hI.this rfl rfl hl.1 rfl (Nat.le_of_ble_eq_true rfl) dX6_purge_66 ⟨by decide, by decide⟩ ⟨rmc (by omega), rms (by omega)⟩ (fun r L8 F9 H10 l11 hp hW => ?_)
        obtain ⟨rfl, hI, hF9⟩ := hp
        have hFr := hFr.tr hF9
        have e_qv2 := (hF9.2 _ m_qv2 (notM_a e_qv2)).trans e_qv2
        have m_qv2 := hF9.1 _ m_qv2
        exact pk_iret S hr hlk hW (eqm (P := fun z => z.1 = z12.1 ∧ MI κ ζ B z.2 L8 F9 ∧ FrM L F L8 F9) ⟨rfl, hI, hFr⟩ (Option.some.inj hf)) (by omega) (by omega) dX6_purge_69
      · have hf := (if_neg c7).symm.trans hf
        refine lv_aload_n S.1 S.2.1 dX6_purge_21 rfl (lv_at hl 2 rfl) ?_
        refine lv_iload_n S.1 S.2.1 dX6_purge_22 rfl (lv_at hl 3 rfl) ?_
        refine lv_aload_n S.1 S.2.1 dX6_purge_23 rfl (lv_at hl 0 rfl) ?_
        refine lv_iconst (v := 0) S.1 S.2.1 dX6_purge_24 (by decide) ?_
        refine lv_aload_n S.1 S.2.1 dX6_purge_25 rfl (lv_at hl 0 rfl) ?_
        refine lv_iconst (v := 1) S.1 S.2.1 dX6_purge_26 (by decide) ?_
        refine lv_iload_n S.1 S.2.1 dX6_purge_27 rfl (lv_at hl 3 rfl) ?_
        obtain ⟨z17, hz, hf⟩ := ob hf
        refine pk_cVI (As := [.int 1, .int v3]) (rest := [.int 0, .ref (B 0), .int v3, .ref qv2]) S hK hST hW (c_X6_get hI 1 v3 hz) mc_X6_get wd_1299 wd_1301 wd_1711 rfl np_X6_get (hI.mem (by decide)) hI.this rfl rfl hl.1 rfl (Nat.le_of_ble_eq_true rfl) dX6_purge_28 ⟨by decide, by decide⟩ ⟨rmc (by omega), rms (by omega)⟩ (fun r L13 F14 H15 l16 hp hW => ?_)
        obtain ⟨rfl, rfl, rfl⟩ := hp
        obtain ⟨z22, hz, hf⟩ := ob hf
        refine pk_cSI (As := [.int z17]) (rest := [.int 0, .ref (B 0), .int v3, .ref qv2]) S hK hST hW (c_X6_kind  z17 hz) mc_X6_kind wd_1370 wd_1371 np_X6_kind rfl hl.1 rfl (Nat.le_of_ble_eq_true rfl) dX6_purge_31 ⟨by decide, by decide⟩ ⟨rmc (by omega), rms (by omega)⟩ (fun r L18 F19 H20 l21 hp hW => ?_)
        obtain ⟨rfl, rfl, rfl⟩ := hp
        refine lv_iconst (v := 0) S.1 S.2.1 dX6_purge_34 (by decide) ?_
        obtain ⟨z27, hz, hf⟩ := ob hf
        refine pk_cVI (As := [.int 0, .int z22, .int 0]) (rest := [.int v3, .ref qv2]) S hK hST hW (c_X6_found hI 0 z22 0 hz) mc_X6_found wd_1366 wd_1368 wd_1716 rfl np_X6_found (hI.mem (by decide)) hI.this rfl rfl hl.1 rfl (Nat.le_of_ble_eq_true rfl) dX6_purge_35 ⟨by decide, by decide⟩ ⟨rmc (by omega), rms (by omega)⟩ (fun r L23 F24 H25 l26 hp hW => ?_)
        obtain ⟨rfl, rfl, rfl⟩ := hp
        refine lv_iconst (v := (-1)) S.1 S.2.1 dX6_purge_38 (by decide) ?_
        refine lv_icmp_ne (tgt := 46) S.1 S.2.1 dX6_purge_39 (by decide) (fun c28 => ?_) (fun c28 => ?_)
        · have hf := (if_neg c28).symm.trans hf
          refine lv_iconst (v := 0) S.1 S.2.1 dX6_purge_46 (by decide) ?_
          exact B47 k15 nd15 hk15 hnd15 w15 v1 nv2 gv2 v3 v3 0 hf K15 G15 qv2 m_qv2 e_qv2 hnw_qv2 hI hFr _ _ _ _ _ hW (by omega) (by omega) (lv_sub hl [0, 1, 2, 3] rfl)
        · have hf := (if_pos c28).symm.trans hf
          refine lv_iconst (v := 1) S.1 S.2.1 dX6_purge_42 (by decide) ?_
          refine lv_goto (tgt := 47) S.1 S.2.1 dX6_purge_43 (by decide) ?_
          exact B47 k15 nd15 hk15 hnd15 w15 v1 nv2 gv2 v3 v3 1 hf K15 G15 qv2 m_qv2 e_qv2 hnw_qv2 hI hFr _ _ _ _ _ hW (by omega) (by omega) (lv_sub hl [0, 1, 2, 3] rfl)
  unfold f_X6_purge at hf
  refine lv_aload_n S.1 S.2.1 dX6_purge_0 rfl (lv_at hl 0 rfl) ?_
  refine lv_iconst (v := 0) S.1 S.2.1 dX6_purge_1 (by decide) ?_
  refine pk_put (v := .int 0) S hK hW 0 (hI.mem (by decide)) hI.this rfl hinX6 tyX6_ok nmX6 (by decide) wd_1155 rfl rfl rfl rfl (Nat.le_of_ble_eq_true rfl) dX6_purge_2 (fun H29 l30 hW => ?_)
  have hF9 := FrM.cell (L := L) (w := (([.int (τ.2 0), .ref (B 1), .ref (B 5), .ref (B 6), .ref (B 7), .int (τ.2 1), .int (τ.2 2), .int (τ.2 3), .int (τ.2 4)] : List Value).set 0 (.int 0))) hI.this (Or.inr rfl)
  have hI := hI.setSc 0 0 (by decide) 0 rfl
  generalize va_up F (B 0) (.inr (11, (([.int (τ.2 0), .ref (B 1), .ref (B 5), .ref (B 6), .ref (B 7), .int (τ.2 1), .int (τ.2 2), .int (τ.2 3), .int (τ.2 4)] : List Value).set 0 (.int 0)))) = F31 at hW hI hF9
  have hFr := hFr.tr hF9
  obtain ⟨t32, et32, hf⟩ := nm_ok hf
  have hI := eqm (P := fun w => MI κ ζ B w L F31) hI et32.symm
  refine lv_aload_n S.1 S.2.1 dX6_purge_5 rfl (lv_at hl 0 rfl) ?_
  refine lv_iconst (v := 1) S.1 S.2.1 dX6_purge_6 (by decide) ?_
  obtain ⟨z37, hz, hf⟩ := ob hf
  refine pk_cVI (As := [.int 1]) (rest := []) S hK hST hW (c_X6_size hI 1 hz) mc_X6_size wd_1199 wd_1201 wd_1703 rfl np_X6_size (hI.mem (by decide)) hI.this rfl rfl hl.1 rfl (Nat.le_of_ble_eq_true rfl) dX6_purge_7 ⟨by decide, by decide⟩ ⟨rmc (by omega), rms (by omega)⟩ (fun r L33 F34 H35 l36 hp hW => ?_)
  obtain ⟨rfl, rfl, rfl⟩ := hp
  obtain ⟨hg9, hf⟩ := gd hf
  obtain ⟨n38, en38, hf⟩ := nm_ok hf
  obtain ⟨g39, eg39, hf⟩ := nm_ok hf
  have hn9 : n38 ≤ 32 := by have := fun q => hg9 (Or.inr q); omega
  refine pk_newZ (N' := n38) S hK hW 2 rfl wd_1389 (fun q => hg9 (Or.inl q)) en38.symm (by omega) (rmc (by omega)) (rms (by omega)) dX6_purge_10 (fun q40 H41 hq_q40 hW => ?_)
  rw [← eg39] at hW
  have hI := hI.push (e := .inl (κ 2, n38, .inl g39)) hq_q40 (noE hW hST)
  have hF9 := FrM.push (F := F31) (e := .inl (κ 2, n38, .inl g39)) hq_q40
  have hnw_q40 : q40 ∉ L := fun ee => hq_q40 (hFr.1 _ ee)
  have hFr := hFr.tr hF9
  have e_q40 : (va_up F31 q40 (.inl (κ 2, n38, .inl g39))) q40 = .inl (κ 2, n38, .inl g39) := up_eq
  have m_q40 : q40 ∈ L ++ [q40] := List.mem_append_right _ (List.mem_singleton.mpr rfl)
  generalize va_up F31 q40 (.inl (κ 2, n38, .inl g39)) = F42 at hW hI hF9 hFr e_q40
  generalize L ++ [q40] = L43 at hW hI hF9 hFr m_q40
  refine lv_astore_n (lv' := [(2, .ref q40), (0, .ref (B 0)), (1, .int x1)]) S.1 S.2.1 dX6_purge_12 rfl hl (by decide) rfl (fun ls hl => ?_)
  refine lv_iconst (v := 0) S.1 S.2.1 dX6_purge_13 (by decide) ?_
  refine lv_istore_n (lv' := [(3, .int 0), (2, .ref q40), (0, .ref (B 0)), (1, .int x1)]) S.1 S.2.1 dX6_purge_14 rfl hl (by decide) rfl (fun ls hl => ?_)
  exact B15  24 t32 x1 n38 g39 0 hf L43 F42 q40 m_q40 e_q40 hnw_q40 hI hFr _ _ _ _ _ hW (by omega) (by omega) (lv_sub hl [2, 3, 1, 0] rfl)
def f_X6_walk_34   (w34 : MS) (u1 : Int32) : Option (Int32 × MS) := nm ((w34.1, va_up w34.2 2 u1) : MS) fun t4 => nm ((t4.1, va_up t4.2 3 ((-1))) : MS) fun t8 => (f_X6_size t8 0).bind fun z13 => some (z13, t8)
def f_X6_walk_15   (w15 : MS) (v1 : Int32) (u1 : Int32) : Option (Int32 × MS) := nm ((w15.1, va_up w15.2 1 u1) : MS) fun t17 => (if v1 = 0 then f_X6_walk_34 t17 0 else (f_X6_size t17 0).bind fun z23 => f_X6_walk_34 t17 (z23 - 1))
def f_X6_walk (τ : MS) (x1 : Int32) : Option (Int32 × MS) := nm ((τ.1, va_up τ.2 0 0) : MS) fun t27 => (if x1 = 0 then f_X6_walk_15 t27 x1 1 else f_X6_walk_15 t27 x1 2)
theorem mc_X6_walk : MCode yX6_walk cX6_walk 2 (some .int) := ⟨wd_1416, wd_5, by decide, by decide⟩
theorem np_X6_walk : (parseMethodDescriptor yX6_walk.desc).map (fun d => d.parameters.length) = some 1 := by decide +kernel
set_option maxHeartbeats 4000000 in
set_option maxRecDepth 100000 in
theorem c_X6_walk {l : Launch} {D : va_G} {κ : Nat → ClassId} {ζ : Nat → Nat} {L : List Nat} {F : Nat → va_E} {τ : MS} {B : Nat → Nat} (hI : MI κ ζ B τ L F) (x1 : Int32) {res : (Int32 × MS)} (hf : f_X6_walk τ x1 = some res) : MtI l D cls (ty5 κ) ζ yX6_walk cX6_walk 2 (some .int) 5 0 0 ([.ref (B 0), .int x1] : List Value) L F (fun r L' F' => res.1 = r ∧ MI κ ζ B res.2 L' F' ∧ FrM L F L' F') := by
  refine MtI.of (by decide) (Nat.le_of_ble_eq_true rfl) ?_
  intro p e s m below meth c S hr hlk _ hK hW hST ls hl
  have hl : lv_has ls 2 [(0, .ref (B 0)), (1, .int x1)] := hl
  have hFr : FrM L F L F := FrM.rf
  have B34 : ∀  (w34 : MS) (u1 : Int32), f_X6_walk_34 w34 u1 = some res → ∀ (K34 : List Nat) (G34 : Nat → va_E), MI κ ζ B w34 K34 G34 → FrM L F K34 G34 → ∀ (H34 : Heap) (l34 : List Loc) (ls : Array Slot) (cc ss : Nat), HW D cls L s H34 l34 K34 G34 → cc + (0) ≤ 0 → ss ≤ 33 * cc → lv_has ls 2 [(0, .ref (B 0))] → W p l e (Rm 5 0 0) s m ([.ref (B 0), .int x1] : List Value).toArray below meth c H34 l34 cc ss (EnI D cls s below ([.ref (B 0), .int x1] : List Value).toArray 0 0 L (fun r L' F' => res.1 = r ∧ MI κ ζ B res.2 L' F' ∧ FrM L F L' F')) (F0 m 34 ls [.int u1, .ref (B 0)]) := by
    intro  w34 u1 hf K34 G34 hI hFr H34 l34 ls cc ss hW hcc hss hl
    unfold f_X6_walk_34 at hf
    refine pk_put (v := .int u1) S hK hW 6 (hI.mem (by decide)) hI.this rfl hinX6 tyX6_ok nmX6 (by decide) wd_1161 rfl rfl rfl rfl (Nat.le_of_ble_eq_true rfl) dX6_walk_34 (fun H1 l2 hW => ?_)
    have hF9 := FrM.cell (L := K34) (w := (([.int (w34.2 0), .ref (B 1), .ref (B 5), .ref (B 6), .ref (B 7), .int (w34.2 1), .int (w34.2 2), .int (w34.2 3), .int (w34.2 4)] : List Value).set 6 (.int u1))) hI.this (Or.inr rfl)
    have hI := hI.setSc 2 6 (by decide) u1 rfl
    generalize va_up G34 (B 0) (.inr (11, (([.int (w34.2 0), .ref (B 1), .ref (B 5), .ref (B 6), .ref (B 7), .int (w34.2 1), .int (w34.2 2), .int (w34.2 3), .int (w34.2 4)] : List Value).set 6 (.int u1)))) = F3 at hW hI hF9
    have hFr := hFr.tr hF9
    obtain ⟨t4, et4, hf⟩ := nm_ok hf
    have hI := eqm (P := fun w => MI κ ζ B w K34 F3) hI et4.symm
    refine lv_aload_n S.1 S.2.1 dX6_walk_37 rfl (lv_at hl 0 rfl) ?_
    refine lv_iconst (v := (-1)) S.1 S.2.1 dX6_walk_38 (by decide) ?_
    refine pk_put (v := .int ((-1))) S hK hW 7 (hI.mem (by decide)) hI.this rfl hinX6 tyX6_ok nmX6 (by decide) wd_1162 rfl rfl rfl rfl (Nat.le_of_ble_eq_true rfl) dX6_walk_39 (fun H5 l6 hW => ?_)
    have hF9 := FrM.cell (L := K34) (w := (([.int (t4.2 0), .ref (B 1), .ref (B 5), .ref (B 6), .ref (B 7), .int (t4.2 1), .int (t4.2 2), .int (t4.2 3), .int (t4.2 4)] : List Value).set 7 (.int ((-1))))) hI.this (Or.inr rfl)
    have hI := hI.setSc 3 7 (by decide) ((-1)) rfl
    generalize va_up F3 (B 0) (.inr (11, (([.int (t4.2 0), .ref (B 1), .ref (B 5), .ref (B 6), .ref (B 7), .int (t4.2 1), .int (t4.2 2), .int (t4.2 3), .int (t4.2 4)] : List Value).set 7 (.int ((-1)))))) = F7 at hW hI hF9
    have hFr := hFr.tr hF9
    obtain ⟨t8, et8, hf⟩ := nm_ok hf
    have hI := eqm (P := fun w => MI κ ζ B w K34 F7) hI et8.symm
    refine lv_aload_n S.1 S.2.1 dX6_walk_42 rfl (lv_at hl 0 rfl) ?_
    refine lv_iconst (v := 0) S.1 S.2.1 dX6_walk_43 (by decide) ?_
    obtain ⟨z13, hz, hf⟩ := ob hf
    refine pk_cVI (As := [.int 0]) (rest := []) S hK hST hW (c_X6_size hI 0 hz) mc_X6_size wd_1199 wd_1201 wd_1703 rfl np_X6_size (hI.mem (by decide)) hI.this rfl rfl hl.1 rfl (Nat.le_of_ble_eq_true rfl) dX6_walk_44 ⟨by decide, by decide⟩ ⟨rmc (by omega), rms (by omega)⟩ (fun r L9 F10 H11 l12 hp hW => ?_)
    obtain ⟨rfl, rfl, rfl⟩ := hp
    exact pk_iret S hr hlk hW (eqm (P := fun z => z.1 = z13 ∧ MI κ ζ B z.2 K34 F7 ∧ FrM L F K34 F7) ⟨rfl, hI, hFr⟩ (Option.some.inj hf)) (by omega) (by omega) dX6_walk_47
  have B15 : ∀  (w15 : MS) (v1 : Int32) (u1 : Int32), f_X6_walk_15 w15 v1 u1 = some res → ∀ (K15 : List Nat) (G15 : Nat → va_E), MI κ ζ B w15 K15 G15 → FrM L F K15 G15 → ∀ (H15 : Heap) (l15 : List Loc) (ls : Array Slot) (cc ss : Nat), HW D cls L s H15 l15 K15 G15 → cc + (0) ≤ 0 → ss ≤ 33 * cc → lv_has ls 2 [(0, .ref (B 0)), (1, .int v1)] → W p l e (Rm 5 0 0) s m ([.ref (B 0), .int x1] : List Value).toArray below meth c H15 l15 cc ss (EnI D cls s below ([.ref (B 0), .int x1] : List Value).toArray 0 0 L (fun r L' F' => res.1 = r ∧ MI κ ζ B res.2 L' F' ∧ FrM L F L' F')) (F0 m 15 ls [.int u1, .ref (B 0)]) := by
    intro  w15 v1 u1 hf K15 G15 hI hFr H15 l15 ls cc ss hW hcc hss hl
    unfold f_X6_walk_15 at hf
    refine pk_put (v := .int u1) S hK hW 5 (hI.mem (by decide)) hI.this rfl hinX6 tyX6_ok nmX6 (by decide) wd_1160 rfl rfl rfl rfl (Nat.le_of_ble_eq_true rfl) dX6_walk_15 (fun H14 l15 hW => ?_)
    have hF9 := FrM.cell (L := K15) (w := (([.int (w15.2 0), .ref (B 1), .ref (B 5), .ref (B 6), .ref (B 7), .int (w15.2 1), .int (w15.2 2), .int (w15.2 3), .int (w15.2 4)] : List Value).set 5 (.int u1))) hI.this (Or.inr rfl)
    have hI := hI.setSc 1 5 (by decide) u1 rfl
    generalize va_up G15 (B 0) (.inr (11, (([.int (w15.2 0), .ref (B 1), .ref (B 5), .ref (B 6), .ref (B 7), .int (w15.2 1), .int (w15.2 2), .int (w15.2 3), .int (w15.2 4)] : List Value).set 5 (.int u1)))) = F16 at hW hI hF9
    have hFr := hFr.tr hF9
    obtain ⟨t17, et17, hf⟩ := nm_ok hf
    have hI := eqm (P := fun w => MI κ ζ B w K15 F16) hI et17.symm
    refine lv_aload_n S.1 S.2.1 dX6_walk_18 rfl (lv_at hl 0 rfl) ?_
    refine lv_iload_n S.1 S.2.1 dX6_walk_19 rfl (lv_at hl 1 rfl) ?_
    refine lv_if_eq (tgt := 33) S.1 S.2.1 dX6_walk_20 (by decide) (fun c18 => ?_) (fun c18 => ?_)
    · have hf := (if_pos c18).symm.trans hf
      refine lv_iconst (v := 0) S.1 S.2.1 dX6_walk_33 (by decide) ?_
      exact B34  t17 0 hf K15 F16 hI hFr _ _ _ _ _ hW (by omega) (by omega) (lv_sub hl [0] rfl)
    · have hf := (if_neg c18).symm.trans hf
      refine lv_aload_n S.1 S.2.1 dX6_walk_23 rfl (lv_at hl 0 rfl) ?_
      refine lv_iconst (v := 0) S.1 S.2.1 dX6_walk_24 (by decide) ?_
      obtain ⟨z23, hz, hf⟩ := ob hf
      refine pk_cVI (As := [.int 0]) (rest := [.ref (B 0)]) S hK hST hW (c_X6_size hI 0 hz) mc_X6_size wd_1199 wd_1201 wd_1703 rfl np_X6_size (hI.mem (by decide)) hI.this rfl rfl hl.1 rfl (Nat.le_of_ble_eq_true rfl) dX6_walk_25 ⟨by decide, by decide⟩ ⟨rmc (by omega), rms (by omega)⟩ (fun r L19 F20 H21 l22 hp hW => ?_)
      obtain ⟨rfl, rfl, rfl⟩ := hp
      refine lv_iconst (v := 1) S.1 S.2.1 dX6_walk_28 (by decide) ?_
      refine lv_isub S.1 S.2.1 dX6_walk_29 ?_
      refine lv_goto (tgt := 34) S.1 S.2.1 dX6_walk_30 (by decide) ?_
      exact B34  t17 (z23 - 1) hf K15 F16 hI hFr _ _ _ _ _ hW (by omega) (by omega) (lv_sub hl [0] rfl)
  unfold f_X6_walk at hf
  refine lv_aload_n S.1 S.2.1 dX6_walk_0 rfl (lv_at hl 0 rfl) ?_
  refine lv_iconst (v := 0) S.1 S.2.1 dX6_walk_1 (by decide) ?_
  refine pk_put (v := .int 0) S hK hW 0 (hI.mem (by decide)) hI.this rfl hinX6 tyX6_ok nmX6 (by decide) wd_1155 rfl rfl rfl rfl (Nat.le_of_ble_eq_true rfl) dX6_walk_2 (fun H24 l25 hW => ?_)
  have hF9 := FrM.cell (L := L) (w := (([.int (τ.2 0), .ref (B 1), .ref (B 5), .ref (B 6), .ref (B 7), .int (τ.2 1), .int (τ.2 2), .int (τ.2 3), .int (τ.2 4)] : List Value).set 0 (.int 0))) hI.this (Or.inr rfl)
  have hI := hI.setSc 0 0 (by decide) 0 rfl
  generalize va_up F (B 0) (.inr (11, (([.int (τ.2 0), .ref (B 1), .ref (B 5), .ref (B 6), .ref (B 7), .int (τ.2 1), .int (τ.2 2), .int (τ.2 3), .int (τ.2 4)] : List Value).set 0 (.int 0)))) = F26 at hW hI hF9
  have hFr := hFr.tr hF9
  obtain ⟨t27, et27, hf⟩ := nm_ok hf
  have hI := eqm (P := fun w => MI κ ζ B w L F26) hI et27.symm
  refine lv_aload_n S.1 S.2.1 dX6_walk_5 rfl (lv_at hl 0 rfl) ?_
  refine lv_iload_n S.1 S.2.1 dX6_walk_6 rfl (lv_at hl 1 rfl) ?_
  refine lv_if_eq (tgt := 14) S.1 S.2.1 dX6_walk_7 (by decide) (fun c28 => ?_) (fun c28 => ?_)
  · have hf := (if_pos c28).symm.trans hf
    refine lv_iconst (v := 1) S.1 S.2.1 dX6_walk_14 (by decide) ?_
    exact B15  t27 x1 1 hf L F26 hI hFr _ _ _ _ _ hW (by omega) (by omega) (lv_sub hl [0, 1] rfl)
  · have hf := (if_neg c28).symm.trans hf
    refine lv_iconst (v := 2) S.1 S.2.1 dX6_walk_10 (by decide) ?_
    refine lv_goto (tgt := 15) S.1 S.2.1 dX6_walk_11 (by decide) ?_
    exact B15  t27 x1 2 hf L F26 hI hFr _ _ _ _ _ hW (by omega) (by omega) (lv_sub hl [0, 1] rfl)
def f_X6_hasNext (τ : MS) : Option Int32 := (if (τ.2 1) = 0 then some (0) else (f_X6_size τ 0).bind fun z6 => (f_X6_isIn (τ.2 2) 0 (z6 - 1)).bind fun z11 => (if z11 = 0 then some (0) else some (1)))
theorem mc_X6_hasNext : MCode yX6_hasNext cX6_hasNext 1 (some .boolean) := ⟨wd_1424, wd_5, by decide, by decide⟩
theorem np_X6_hasNext : (parseMethodDescriptor yX6_hasNext.desc).map (fun d => d.parameters.length) = some 0 := by decide +kernel
set_option maxHeartbeats 4000000 in
set_option maxRecDepth 100000 in
theorem c_X6_hasNext {l : Launch} {D : va_G} {κ : Nat → ClassId} {ζ : Nat → Nat} {L : List Nat} {F : Nat → va_E} {τ : MS} {B : Nat → Nat} (hI : MI κ ζ B τ L F)  {res : Int32} (hf : f_X6_hasNext τ = some res) : MtI l D cls (ty5 κ) ζ yX6_hasNext cX6_hasNext 1 (some .boolean) 5 0 0 ([.ref (B 0)] : List Value) L F (fun r L' F' => L = L' ∧ F = F' ∧ res = r) := by
  refine MtI.of (by decide) (Nat.le_of_ble_eq_true rfl) ?_
  intro p e s m below meth c S hr hlk _ hK hW hST ls hl
  have hl : lv_has ls 1 [(0, .ref (B 0))] := hl
  unfold f_X6_hasNext at hf
  refine lv_aload_n S.1 S.2.1 dX6_hasNext_0 rfl (lv_at hl 0 rfl) ?_
  refine pk_get S hK hW 5 (hI.mem (by decide)) hI.this rfl hinX6 (by decide) wd_1160 rfl dX6_hasNext_1 ?_
  refine lv_if_eq (tgt := 29) S.1 S.2.1 dX6_hasNext_4 (by decide) (fun c1 => ?_) (fun c1 => ?_)
  · have hf := (if_pos c1).symm.trans hf
    refine lv_iconst (v := 0) S.1 S.2.1 dX6_hasNext_29 (by decide) ?_
    exact pk_zret S hr hlk hW (by decide) ⟨rfl, rfl, eqm (P := fun z => z = 0) rfl (Option.some.inj hf)⟩ (by omega) (by omega) dX6_hasNext_30
  · have hf := (if_neg c1).symm.trans hf
    refine lv_aload_n S.1 S.2.1 dX6_hasNext_7 rfl (lv_at hl 0 rfl) ?_
    refine pk_get S hK hW 6 (hI.mem (by decide)) hI.this rfl hinX6 (by decide) wd_1161 rfl dX6_hasNext_8 ?_
    refine lv_iconst (v := 0) S.1 S.2.1 dX6_hasNext_11 (by decide) ?_
    refine lv_aload_n S.1 S.2.1 dX6_hasNext_12 rfl (lv_at hl 0 rfl) ?_
    refine lv_iconst (v := 0) S.1 S.2.1 dX6_hasNext_13 (by decide) ?_
    obtain ⟨z6, hz, hf⟩ := ob hf
    refine pk_cVI (As := [.int 0]) (rest := [.int 0, .int (τ.2 2)]) S hK hST hW (c_X6_size hI 0 hz) mc_X6_size wd_1199 wd_1201 wd_1703 rfl np_X6_size (hI.mem (by decide)) hI.this rfl rfl hl.1 rfl (Nat.le_of_ble_eq_true rfl) dX6_hasNext_14 ⟨by decide, by decide⟩ ⟨rmc (by omega), rms (by omega)⟩ (fun r L2 F3 H4 l5 hp hW => ?_)
    obtain ⟨rfl, rfl, rfl⟩ := hp
    refine lv_iconst (v := 1) S.1 S.2.1 dX6_hasNext_17 (by decide) ?_
    refine lv_isub S.1 S.2.1 dX6_hasNext_18 ?_
    obtain ⟨z11, hz, hf⟩ := ob hf
    refine pk_cSI (As := [.int (τ.2 2), .int 0, .int (z6 - 1)]) (rest := []) S hK hST hW (c_X6_isIn  (τ.2 2) 0 (z6 - 1) hz) mc_X6_isIn wd_1185 wd_1186 np_X6_isIn rfl hl.1 rfl (Nat.le_of_ble_eq_true rfl) dX6_hasNext_19 ⟨by decide, by decide⟩ ⟨rmc (by omega), rms (by omega)⟩ (fun r L7 F8 H9 l10 hp hW => ?_)
    obtain ⟨rfl, rfl, rfl⟩ := hp
    refine lv_if_eq (tgt := 29) S.1 S.2.1 dX6_hasNext_22 (by decide) (fun c12 => ?_) (fun c12 => ?_)
    · have hf := (if_pos c12).symm.trans hf
      refine lv_iconst (v := 0) S.1 S.2.1 dX6_hasNext_29 (by decide) ?_
      exact pk_zret S hr hlk hW (by decide) ⟨rfl, rfl, eqm (P := fun z => z = 0) rfl (Option.some.inj hf)⟩ (by omega) (by omega) dX6_hasNext_30
    · have hf := (if_neg c12).symm.trans hf
      refine lv_iconst (v := 1) S.1 S.2.1 dX6_hasNext_25 (by decide) ?_
      refine lv_goto (tgt := 30) S.1 S.2.1 dX6_hasNext_26 (by decide) ?_
      exact pk_zret S hr hlk hW (by decide) ⟨rfl, rfl, eqm (P := fun z => z = 1) rfl (Option.some.inj hf)⟩ (by omega) (by omega) dX6_hasNext_30
def f_X6_step_58   (w58 : MS) (u1 : Int32) (u2 : Int32) : Option (Int32 × MS) := nm ((w58.1, va_up w58.2 2 (u1 + u2)) : MS) fun t4 => (f_X6_get t4 0 (t4.2 3)).bind fun z9 => some (z9, t4)
def f_X6_step_13 (τ : MS)  (u1 : Int32) : Option (Int32 × MS) := (f_X6_start τ u1 1).bind fun z14 => (if z14.1 = 0 then (f_X6_hasNext z14.2).bind fun z20 => (if z20 = 0 then some ((-9), z14.2) else nm ((z14.2.1, va_up z14.2.2 3 (z14.2.2 2)) : MS) fun t25 => (if (t25.2 1) = 1 then f_X6_step_58 t25 (t25.2 2) 1 else f_X6_step_58 t25 (t25.2 2) ((-1)))) else some (0, z14.2))
def f_X6_step (τ : MS) : Option (Int32 × MS) := (if (τ.2 1) = 0 then f_X6_step_13 τ 1 else f_X6_step_13 τ 0)
theorem mc_X6_step : MCode yX6_step cX6_step 1 (some .int) := ⟨wd_1420, wd_5, by decide, by decide⟩
theorem np_X6_step : (parseMethodDescriptor yX6_step.desc).map (fun d => d.parameters.length) = some 0 := by decide +kernel
set_option maxHeartbeats 4000000 in
set_option maxRecDepth 100000 in
theorem c_X6_step {l : Launch} {D : va_G} {κ : Nat → ClassId} {ζ : Nat → Nat} {L : List Nat} {F : Nat → va_E} {τ : MS} {B : Nat → Nat} (hI : MI κ ζ B τ L F)  {res : (Int32 × MS)} (hf : f_X6_step τ = some res) : MtI l D cls (ty5 κ) ζ yX6_step cX6_step 1 (some .int) 6 0 0 ([.ref (B 0)] : List Value) L F (fun r L' F' => res.1 = r ∧ MI κ ζ B res.2 L' F' ∧ FrM L F L' F') := by
  refine MtI.of (by decide) (Nat.le_of_ble_eq_true rfl) ?_
  intro p e s m below meth c S hr hlk _ hK hW hST ls hl
  have hl : lv_has ls 1 [(0, .ref (B 0))] := hl
  have hFr : FrM L F L F := FrM.rf
  have B58 : ∀  (w58 : MS) (u1 : Int32) (u2 : Int32), f_X6_step_58 w58 u1 u2 = some res → ∀ (K58 : List Nat) (G58 : Nat → va_E), MI κ ζ B w58 K58 G58 → FrM L F K58 G58 → ∀ (H58 : Heap) (l58 : List Loc) (ls : Array Slot) (cc ss : Nat), HW D cls L s H58 l58 K58 G58 → cc + (0) ≤ 0 → ss ≤ 33 * cc → lv_has ls 1 [(0, .ref (B 0))] → W p l e (Rm 6 0 0) s m ([.ref (B 0)] : List Value).toArray below meth c H58 l58 cc ss (EnI D cls s below ([.ref (B 0)] : List Value).toArray 0 0 L (fun r L' F' => res.1 = r ∧ MI κ ζ B res.2 L' F' ∧ FrM L F L' F')) (F0 m 58 ls [.int u2, .int u1, .ref (B 0)]) := by
    intro  w58 u1 u2 hf K58 G58 hI hFr H58 l58 ls cc ss hW hcc hss hl
    unfold f_X6_step_58 at hf
    refine lv_iadd S.1 S.2.1 dX6_step_58 ?_
    refine pk_put (v := .int (u1 + u2)) S hK hW 6 (hI.mem (by decide)) hI.this rfl hinX6 tyX6_ok nmX6 (by decide) wd_1161 rfl rfl rfl rfl (Nat.le_of_ble_eq_true rfl) dX6_step_59 (fun H1 l2 hW => ?_)
    have hF9 := FrM.cell (L := K58) (w := (([.int (w58.2 0), .ref (B 1), .ref (B 5), .ref (B 6), .ref (B 7), .int (w58.2 1), .int (w58.2 2), .int (w58.2 3), .int (w58.2 4)] : List Value).set 6 (.int (u1 + u2)))) hI.this (Or.inr rfl)
    have hI := hI.setSc 2 6 (by decide) (u1 + u2) rfl
    generalize va_up G58 (B 0) (.inr (11, (([.int (w58.2 0), .ref (B 1), .ref (B 5), .ref (B 6), .ref (B 7), .int (w58.2 1), .int (w58.2 2), .int (w58.2 3), .int (w58.2 4)] : List Value).set 6 (.int (u1 + u2))))) = F3 at hW hI hF9
    have hFr := hFr.tr hF9
    obtain ⟨t4, et4, hf⟩ := nm_ok hf
    have hI := eqm (P := fun w => MI κ ζ B w K58 F3) hI et4.symm
    refine lv_aload_n S.1 S.2.1 dX6_step_62 rfl (lv_at hl 0 rfl) ?_
    refine lv_iconst (v := 0) S.1 S.2.1 dX6_step_63 (by decide) ?_
    refine lv_aload_n S.1 S.2.1 dX6_step_64 rfl (lv_at hl 0 rfl) ?_
    refine pk_get S hK hW 7 (hI.mem (by decide)) hI.this rfl hinX6 (by decide) wd_1162 rfl dX6_step_65 ?_
    obtain ⟨z9, hz, hf⟩ := ob hf
    refine pk_cVI (As := [.int 0, .int (t4.2 3)]) (rest := []) S hK hST hW (c_X6_get hI 0 (t4.2 3) hz) mc_X6_get wd_1299 wd_1301 wd_1711 rfl np_X6_get (hI.mem (by decide)) hI.this rfl rfl hl.1 rfl (Nat.le_of_ble_eq_true rfl) dX6_step_68 ⟨by decide, by decide⟩ ⟨rmc (by omega), rms (by omega)⟩ (fun r L5 F6 H7 l8 hp hW => ?_)
    obtain ⟨rfl, rfl, rfl⟩ := hp
    exact pk_iret S hr hlk hW (eqm (P := fun z => z.1 = z9 ∧ MI κ ζ B z.2 K58 F3 ∧ FrM L F K58 F3) ⟨rfl, hI, hFr⟩ (Option.some.inj hf)) (by omega) (by omega) dX6_step_71
  have B13 : ∀  (u1 : Int32), f_X6_step_13 τ u1 = some res → ∀ (H13 : Heap) (l13 : List Loc) (ls : Array Slot) (cc ss : Nat), HW D cls L s H13 l13 L F → cc + (0) ≤ 0 → ss ≤ 33 * cc → lv_has ls 1 [(0, .ref (B 0))] → W p l e (Rm 6 0 0) s m ([.ref (B 0)] : List Value).toArray below meth c H13 l13 cc ss (EnI D cls s below ([.ref (B 0)] : List Value).toArray 0 0 L (fun r L' F' => res.1 = r ∧ MI κ ζ B res.2 L' F' ∧ FrM L F L' F')) (F0 m 13 ls [.int u1, .ref (B 0)]) := by
    intro  u1 hf H13 l13 ls cc ss hW hcc hss hl
    unfold f_X6_step_13 at hf
    refine lv_iconst (v := 1) S.1 S.2.1 dX6_step_13 (by decide) ?_
    obtain ⟨z14, hz, hf⟩ := ob hf
    refine pk_cVI (As := [.int u1, .int 1]) (rest := []) S hK hST hW (c_X6_start hI u1 1 hz) mc_X6_start wd_1188 wd_1190 wd_1701 rfl np_X6_start (hI.mem (by decide)) hI.this rfl rfl hl.1 rfl (Nat.le_of_ble_eq_true rfl) dX6_step_14 ⟨by decide, by decide⟩ ⟨rmc (by omega), rms (by omega)⟩ (fun r L10 F11 H12 l13 hp hW => ?_)
    obtain ⟨rfl, hI, hF9⟩ := hp
    have hFr := hFr.tr hF9
    refine lv_if_eq (tgt := 22) S.1 S.2.1 dX6_step_17 (by decide) (fun c15 => ?_) (fun c15 => ?_)
    · have hf := (if_pos c15).symm.trans hf
      refine lv_aload_n S.1 S.2.1 dX6_step_22 rfl (lv_at hl 0 rfl) ?_
      obtain ⟨z20, hz, hf⟩ := ob hf
      refine pk_cVI (As := []) (rest := []) S hK hST hW (c_X6_hasNext hI  hz) mc_X6_hasNext wd_1421 wd_1423 wd_1719 rfl np_X6_hasNext (hI.mem (by decide)) hI.this rfl rfl hl.1 rfl (Nat.le_of_ble_eq_true rfl) dX6_step_23 ⟨by decide, by decide⟩ ⟨rmc (by omega), rms (by omega)⟩ (fun r L16 F17 H18 l19 hp hW => ?_)
      obtain ⟨rfl, rfl, rfl⟩ := hp
      refine lv_if_ne (tgt := 32) S.1 S.2.1 dX6_step_26 (by decide) (fun c21 => ?_) (fun c21 => ?_)
      · have hf := (if_neg c21).symm.trans hf
        refine lv_aload_n S.1 S.2.1 dX6_step_32 rfl (lv_at hl 0 rfl) ?_
        refine lv_aload_n S.1 S.2.1 dX6_step_33 rfl (lv_at hl 0 rfl) ?_
        refine pk_get S hK hW 6 (hI.mem (by decide)) hI.this rfl hinX6 (by decide) wd_1161 rfl dX6_step_34 ?_
        refine pk_put (v := .int (z14.2.2 2)) S hK hW 7 (hI.mem (by decide)) hI.this rfl hinX6 tyX6_ok nmX6 (by decide) wd_1162 rfl rfl rfl rfl (Nat.le_of_ble_eq_true rfl) dX6_step_37 (fun H22 l23 hW => ?_)
        have hF9 := FrM.cell (L := L10) (w := (([.int (z14.2.2 0), .ref (B 1), .ref (B 5), .ref (B 6), .ref (B 7), .int (z14.2.2 1), .int (z14.2.2 2), .int (z14.2.2 3), .int (z14.2.2 4)] : List Value).set 7 (.int (z14.2.2 2)))) hI.this (Or.inr rfl)
        have hI := hI.setSc 3 7 (by decide) (z14.2.2 2) rfl
        generalize va_up F11 (B 0) (.inr (11, (([.int (z14.2.2 0), .ref (B 1), .ref (B 5), .ref (B 6), .ref (B 7), .int (z14.2.2 1), .int (z14.2.2 2), .int (z14.2.2 3), .int (z14.2.2 4)] : List Value).set 7 (.int (z14.2.2 2))))) = F24 at hW hI hF9
        have hFr := hFr.tr hF9
        obtain ⟨t25, et25, hf⟩ := nm_ok hf
        have hI := eqm (P := fun w => MI κ ζ B w L10 F24) hI et25.symm
        refine lv_aload_n S.1 S.2.1 dX6_step_40 rfl (lv_at hl 0 rfl) ?_
        refine lv_dup S.1 S.2.1 dX6_step_41 rfl ?_
        refine pk_get S hK hW 6 (hI.mem (by decide)) hI.this rfl hinX6 (by decide) wd_1161 rfl dX6_step_42 ?_
        refine lv_aload_n S.1 S.2.1 dX6_step_45 rfl (lv_at hl 0 rfl) ?_
        refine pk_get S hK hW 5 (hI.mem (by decide)) hI.this rfl hinX6 (by decide) wd_1160 rfl dX6_step_46 ?_
        refine lv_iconst (v := 1) S.1 S.2.1 dX6_step_49 (by decide) ?_
        refine lv_icmp_ne (tgt := 57) S.1 S.2.1 dX6_step_50 (by decide) (fun c26 => ?_) (fun c26 => ?_)
        · have hf := (if_neg c26).symm.trans hf
          refine lv_iconst (v := (-1)) S.1 S.2.1 dX6_step_57 (by decide) ?_
          exact B58  t25 (t25.2 2) ((-1)) hf L10 F24 hI hFr _ _ _ _ _ hW (by omega) (by omega) (lv_sub hl [0] rfl)
        · have hf := (if_pos c26).symm.trans hf
          refine lv_iconst (v := 1) S.1 S.2.1 dX6_step_53 (by decide) ?_
          refine lv_goto (tgt := 58) S.1 S.2.1 dX6_step_54 (by decide) ?_
          exact B58  t25 (t25.2 2) 1 hf L10 F24 hI hFr _ _ _ _ _ hW (by omega) (by omega) (lv_sub hl [0] rfl)
      · have hf := (if_pos c21).symm.trans hf
        refine lv_bipush (v := (-9)) S.1 S.2.1 dX6_step_29 (by decide) ?_
        exact pk_iret S hr hlk hW (eqm (P := fun z => z.1 = (-9) ∧ MI κ ζ B z.2 L10 F11 ∧ FrM L F L10 F11) ⟨rfl, hI, hFr⟩ (Option.some.inj hf)) (by omega) (by omega) dX6_step_31
    · have hf := (if_neg c15).symm.trans hf
      refine lv_iconst (v := 0) S.1 S.2.1 dX6_step_20 (by decide) ?_
      exact pk_iret S hr hlk hW (eqm (P := fun z => z.1 = 0 ∧ MI κ ζ B z.2 L10 F11 ∧ FrM L F L10 F11) ⟨rfl, hI, hFr⟩ (Option.some.inj hf)) (by omega) (by omega) dX6_step_21
  unfold f_X6_step at hf
  refine lv_aload_n S.1 S.2.1 dX6_step_0 rfl (lv_at hl 0 rfl) ?_
  refine lv_aload_n S.1 S.2.1 dX6_step_1 rfl (lv_at hl 0 rfl) ?_
  refine pk_get S hK hW 5 (hI.mem (by decide)) hI.this rfl hinX6 (by decide) wd_1160 rfl dX6_step_2 ?_
  refine lv_if_ne (tgt := 12) S.1 S.2.1 dX6_step_5 (by decide) (fun c27 => ?_) (fun c27 => ?_)
  · have hf := (if_neg c27).symm.trans hf
    refine lv_iconst (v := 0) S.1 S.2.1 dX6_step_12 (by decide) ?_
    exact B13  0 hf  _ _ _ _ _ hW (by omega) (by omega) (lv_sub hl [0] rfl)
  · have hf := (if_pos c27).symm.trans hf
    refine lv_iconst (v := 1) S.1 S.2.1 dX6_step_8 (by decide) ?_
    refine lv_goto (tgt := 13) S.1 S.2.1 dX6_step_9 (by decide) ?_
    exact B13  1 hf  _ _ _ _ _ hW (by omega) (by omega) (lv_sub hl [0] rfl)
def f_X6_pluck_70   (w70 : MS) : Option (Int32 × MS) := nm ((w70.1, va_up w70.2 3 ((-1))) : MS) fun t4 => (f_X6_tear t4).bind fun z9 => (f_X6_size z9 0).bind fun z14 => some (z14, z9)
def f_X6_pluck_13 (τ : MS)  (u1 : Int32) : Option (Int32 × MS) := (f_X6_start τ u1 1).bind fun z19 => (if z19.1 = 0 then (if (z19.2.2 3) = ((-1)) then some ((-9), z19.2) else (gtr 0).bind fun z26 => (ldel (z19.2.1 z26) (z19.2.2 3)).bind fun z31 => nm ((va_up z19.2.1 z26 z31, z19.2.2) : MS) fun t33 => (if (t33.2 1) = 1 then nm ((t33.1, va_up t33.2 2 ((t33.2 2) - 1)) : MS) fun t38 => f_X6_pluck_70 t38 else f_X6_pluck_70 t33)) else some (0, z19.2))
def f_X6_pluck (τ : MS) : Option (Int32 × MS) := (if (τ.2 1) = 0 then f_X6_pluck_13 τ 1 else f_X6_pluck_13 τ 0)
theorem mc_X6_pluck : MCode yX6_pluck cX6_pluck 1 (some .int) := ⟨wd_1428, wd_5, by decide, by decide⟩
theorem np_X6_pluck : (parseMethodDescriptor yX6_pluck.desc).map (fun d => d.parameters.length) = some 0 := by decide +kernel
set_option maxHeartbeats 4000000 in
set_option maxRecDepth 100000 in
theorem c_X6_pluck {l : Launch} {D : va_G} {κ : Nat → ClassId} {ζ : Nat → Nat} {L : List Nat} {F : Nat → va_E} {τ : MS} {B : Nat → Nat} (hI : MI κ ζ B τ L F)  {res : (Int32 × MS)} (hf : f_X6_pluck τ = some res) : MtI l D cls (ty5 κ) ζ yX6_pluck cX6_pluck 1 (some .int) 5 0 0 ([.ref (B 0)] : List Value) L F (fun r L' F' => res.1 = r ∧ MI κ ζ B res.2 L' F' ∧ FrM L F L' F') := by
  refine MtI.of (by decide) (Nat.le_of_ble_eq_true rfl) ?_
  intro p e s m below meth c S hr hlk _ hK hW hST ls hl
  have hl : lv_has ls 1 [(0, .ref (B 0))] := hl
  have hFr : FrM L F L F := FrM.rf
  have B70 : ∀  (w70 : MS), f_X6_pluck_70 w70 = some res → ∀ (K70 : List Nat) (G70 : Nat → va_E), MI κ ζ B w70 K70 G70 → FrM L F K70 G70 → ∀ (H70 : Heap) (l70 : List Loc) (ls : Array Slot) (cc ss : Nat), HW D cls L s H70 l70 K70 G70 → cc + (0) ≤ 0 → ss ≤ 33 * cc → lv_has ls 1 [(0, .ref (B 0))] → W p l e (Rm 5 0 0) s m ([.ref (B 0)] : List Value).toArray below meth c H70 l70 cc ss (EnI D cls s below ([.ref (B 0)] : List Value).toArray 0 0 L (fun r L' F' => res.1 = r ∧ MI κ ζ B res.2 L' F' ∧ FrM L F L' F')) (F0 m 70 ls []) := by
    intro  w70 hf K70 G70 hI hFr H70 l70 ls cc ss hW hcc hss hl
    unfold f_X6_pluck_70 at hf
    refine lv_aload_n S.1 S.2.1 dX6_pluck_70 rfl (lv_at hl 0 rfl) ?_
    refine lv_iconst (v := (-1)) S.1 S.2.1 dX6_pluck_71 (by decide) ?_
    refine pk_put (v := .int ((-1))) S hK hW 7 (hI.mem (by decide)) hI.this rfl hinX6 tyX6_ok nmX6 (by decide) wd_1162 rfl rfl rfl rfl (Nat.le_of_ble_eq_true rfl) dX6_pluck_72 (fun H1 l2 hW => ?_)
    have hF9 := FrM.cell (L := K70) (w := (([.int (w70.2 0), .ref (B 1), .ref (B 5), .ref (B 6), .ref (B 7), .int (w70.2 1), .int (w70.2 2), .int (w70.2 3), .int (w70.2 4)] : List Value).set 7 (.int ((-1))))) hI.this (Or.inr rfl)
    have hI := hI.setSc 3 7 (by decide) ((-1)) rfl
    generalize va_up G70 (B 0) (.inr (11, (([.int (w70.2 0), .ref (B 1), .ref (B 5), .ref (B 6), .ref (B 7), .int (w70.2 1), .int (w70.2 2), .int (w70.2 3), .int (w70.2 4)] : List Value).set 7 (.int ((-1)))))) = F3 at hW hI hF9
    have hFr := hFr.tr hF9
    obtain ⟨t4, et4, hf⟩ := nm_ok hf
    have hI := eqm (P := fun w => MI κ ζ B w K70 F3) hI et4.symm
    refine lv_aload_n S.1 S.2.1 dX6_pluck_75 rfl (lv_at hl 0 rfl) ?_
    obtain ⟨z9, hz, hf⟩ := ob hf
    refine pk_cVV (As := []) (rest := []) S hK hST hW (c_X6_tear hI  hz) mc_X6_tear wd_1373 wd_1375 wd_1717 rfl np_X6_tear (hI.mem (by decide)) hI.this rfl rfl hl.1 rfl (Nat.le_of_ble_eq_true rfl) dX6_pluck_76 ⟨by decide, by decide⟩ ⟨rmc (by omega), rms (by omega)⟩ (fun L5 F6 H7 l8 hp hW => ?_)
    obtain ⟨hI, hF9⟩ := hp
    have hFr := hFr.tr hF9
    refine lv_aload_n S.1 S.2.1 dX6_pluck_79 rfl (lv_at hl 0 rfl) ?_
    refine lv_iconst (v := 0) S.1 S.2.1 dX6_pluck_80 (by decide) ?_
    obtain ⟨z14, hz, hf⟩ := ob hf
    refine pk_cVI (As := [.int 0]) (rest := []) S hK hST hW (c_X6_size hI 0 hz) mc_X6_size wd_1199 wd_1201 wd_1703 rfl np_X6_size (hI.mem (by decide)) hI.this rfl rfl hl.1 rfl (Nat.le_of_ble_eq_true rfl) dX6_pluck_81 ⟨by decide, by decide⟩ ⟨rmc (by omega), rms (by omega)⟩ (fun r L10 F11 H12 l13 hp hW => ?_)
    obtain ⟨rfl, rfl, rfl⟩ := hp
    exact pk_iret S hr hlk hW (eqm (P := fun z => z.1 = z14 ∧ MI κ ζ B z.2 L5 F6 ∧ FrM L F L5 F6) ⟨rfl, hI, hFr⟩ (Option.some.inj hf)) (by omega) (by omega) dX6_pluck_84
  have B13 : ∀  (u1 : Int32), f_X6_pluck_13 τ u1 = some res → ∀ (H13 : Heap) (l13 : List Loc) (ls : Array Slot) (cc ss : Nat), HW D cls L s H13 l13 L F → cc + (0) ≤ 0 → ss ≤ 33 * cc → lv_has ls 1 [(0, .ref (B 0))] → W p l e (Rm 5 0 0) s m ([.ref (B 0)] : List Value).toArray below meth c H13 l13 cc ss (EnI D cls s below ([.ref (B 0)] : List Value).toArray 0 0 L (fun r L' F' => res.1 = r ∧ MI κ ζ B res.2 L' F' ∧ FrM L F L' F')) (F0 m 13 ls [.int u1, .ref (B 0)]) := by
    intro  u1 hf H13 l13 ls cc ss hW hcc hss hl
    unfold f_X6_pluck_13 at hf
    refine lv_iconst (v := 1) S.1 S.2.1 dX6_pluck_13 (by decide) ?_
    obtain ⟨z19, hz, hf⟩ := ob hf
    refine pk_cVI (As := [.int u1, .int 1]) (rest := []) S hK hST hW (c_X6_start hI u1 1 hz) mc_X6_start wd_1188 wd_1190 wd_1701 rfl np_X6_start (hI.mem (by decide)) hI.this rfl rfl hl.1 rfl (Nat.le_of_ble_eq_true rfl) dX6_pluck_14 ⟨by decide, by decide⟩ ⟨rmc (by omega), rms (by omega)⟩ (fun r L15 F16 H17 l18 hp hW => ?_)
    obtain ⟨rfl, hI, hF9⟩ := hp
    have hFr := hFr.tr hF9
    refine lv_if_eq (tgt := 22) S.1 S.2.1 dX6_pluck_17 (by decide) (fun c20 => ?_) (fun c20 => ?_)
    · have hf := (if_pos c20).symm.trans hf
      refine lv_aload_n S.1 S.2.1 dX6_pluck_22 rfl (lv_at hl 0 rfl) ?_
      refine pk_get S hK hW 7 (hI.mem (by decide)) hI.this rfl hinX6 (by decide) wd_1162 rfl dX6_pluck_23 ?_
      refine lv_iconst (v := (-1)) S.1 S.2.1 dX6_pluck_26 (by decide) ?_
      refine lv_icmp_ne (tgt := 33) S.1 S.2.1 dX6_pluck_27 (by decide) (fun c21 => ?_) (fun c21 => ?_)
      · have hf := (if_neg c21).symm.trans hf
        refine lv_aload_n S.1 S.2.1 dX6_pluck_33 rfl (lv_at hl 0 rfl) ?_
        refine pk_get S hK hW 1 (hI.mem (by decide)) hI.this rfl hinX6 (by decide) wd_1156 rfl dX6_pluck_34 ?_
        refine lv_iconst (v := 0) S.1 S.2.1 dX6_pluck_37 (by decide) ?_
        obtain ⟨z26, hz, hf⟩ := ob hf
        obtain ⟨md9, f9, hR9, -, -⟩ := hI.tracks
        refine pk_cVR (As := [.int 0]) (rest := []) S hK hST hW (c_tracks hI hz) mc_Jx4a65c_get_915e3 wd_1203 wd_1204 wd_1205 rfl np_Jx4a65c_get_915e3 hR9.1 hR9.2.1 rfl rfl hl.1 rfl (Nat.le_of_ble_eq_true rfl) dX6_pluck_38 ⟨by decide, by decide⟩ ⟨rmc (by omega), rms (by omega)⟩ (fun r L22 F23 H24 l25 hp hW => ?_)
        obtain ⟨rfl, rfl, rfl⟩ := hp
        have hbz26 : z26 < 4 := Nat.lt_of_lt_of_le (gtr_ok hz).1 (by decide)
        obtain ⟨ar0, hL0, -⟩ := hI.list hbz26
        obtain ⟨m_h0, md0, e_h0⟩ := hL0.obj
        refine va_castS S.1 S.2.1 S.2.2.2.1 (S.2.2.2.2 _ wd_1070) (hK.1 4 _ rfl).2 (pk_recv (r := (RJx4a65c, TJx4a65c, 3)) hK hW m_h0 e_h0 rfl) dX6_pluck_41 ?_
        refine lv_aload_n S.1 S.2.1 dX6_pluck_44 rfl (lv_at hl 0 rfl) ?_
        refine pk_get S hK hW 7 (hI.mem (by decide)) hI.this rfl hinX6 (by decide) wd_1162 rfl dX6_pluck_45 ?_
        obtain ⟨ar9, hL9, hup9⟩ := hI.list hbz26
        obtain ⟨m_h9, md9, e_h9⟩ := hL9.obj
        obtain ⟨z31, hz, hf⟩ := ob hf
        refine pk_cVR (As := [.int (z19.2.2 3)]) (rest := []) S hK hST hW (c_mdel hL9 hz) mc_Jx4a65c_remove_915e3 wd_1280 wd_1281 wd_1282 rfl np_Jx4a65c_remove_915e3 m_h9 e_h9 rfl rfl hl.1 rfl (Nat.le_of_ble_eq_true rfl) dX6_pluck_48 ⟨by decide, by decide⟩ ⟨rmc (by omega), rms (by omega)⟩ (fun y32 L27 F28 H29 l30 hp hW => ?_)
        obtain ⟨hby32, hL8, hN8⟩ := hp
        obtain ⟨hI, hF9⟩ := hup9 _ _ _ _ hL8 hN8 (noE hW hST)
        have hFr := hFr.tr hF9
        obtain ⟨t33, et33, hf⟩ := nm_ok hf
        have hI := eqm (P := fun w => MI κ ζ B w L27 F28) hI et33.symm
        refine lv_pop S.1 S.2.1 dX6_pluck_51 rfl ?_
        refine lv_aload_n S.1 S.2.1 dX6_pluck_52 rfl (lv_at hl 0 rfl) ?_
        refine pk_get S hK hW 5 (hI.mem (by decide)) hI.this rfl hinX6 (by decide) wd_1160 rfl dX6_pluck_53 ?_
        refine lv_iconst (v := 1) S.1 S.2.1 dX6_pluck_56 (by decide) ?_
        refine lv_icmp_ne (tgt := 70) S.1 S.2.1 dX6_pluck_57 (by decide) (fun c34 => ?_) (fun c34 => ?_)
        · have hf := (if_neg c34).symm.trans hf
          exact B70  t33 hf L27 F28 hI hFr _ _ _ _ _ hW (by omega) (by omega) (lv_sub hl [0] rfl)
        · have hf := (if_pos c34).symm.trans hf
          refine lv_aload_n S.1 S.2.1 dX6_pluck_60 rfl (lv_at hl 0 rfl) ?_
          refine lv_dup S.1 S.2.1 dX6_pluck_61 rfl ?_
          refine pk_get S hK hW 6 (hI.mem (by decide)) hI.this rfl hinX6 (by decide) wd_1161 rfl dX6_pluck_62 ?_
          refine lv_iconst (v := 1) S.1 S.2.1 dX6_pluck_65 (by decide) ?_
          refine lv_isub S.1 S.2.1 dX6_pluck_66 ?_
          refine pk_put (v := .int ((t33.2 2) - 1)) S hK hW 6 (hI.mem (by decide)) hI.this rfl hinX6 tyX6_ok nmX6 (by decide) wd_1161 rfl rfl rfl rfl (Nat.le_of_ble_eq_true rfl) dX6_pluck_67 (fun H35 l36 hW => ?_)
          have hF9 := FrM.cell (L := L27) (w := (([.int (t33.2 0), .ref (B 1), .ref (B 5), .ref (B 6), .ref (B 7), .int (t33.2 1), .int (t33.2 2), .int (t33.2 3), .int (t33.2 4)] : List Value).set 6 (.int ((t33.2 2) - 1)))) hI.this (Or.inr rfl)
          have hI := hI.setSc 2 6 (by decide) ((t33.2 2) - 1) rfl
          generalize va_up F28 (B 0) (.inr (11, (([.int (t33.2 0), .ref (B 1), .ref (B 5), .ref (B 6), .ref (B 7), .int (t33.2 1), .int (t33.2 2), .int (t33.2 3), .int (t33.2 4)] : List Value).set 6 (.int ((t33.2 2) - 1))))) = F37 at hW hI hF9
          have hFr := hFr.tr hF9
          obtain ⟨t38, et38, hf⟩ := nm_ok hf
          have hI := eqm (P := fun w => MI κ ζ B w L27 F37) hI et38.symm
          exact B70  t38 hf L27 F37 hI hFr _ _ _ _ _ hW (by omega) (by omega) (lv_sub hl [0] rfl)
      · have hf := (if_pos c21).symm.trans hf
        refine lv_bipush (v := (-9)) S.1 S.2.1 dX6_pluck_30 (by decide) ?_
        exact pk_iret S hr hlk hW (eqm (P := fun z => z.1 = (-9) ∧ MI κ ζ B z.2 L15 F16 ∧ FrM L F L15 F16) ⟨rfl, hI, hFr⟩ (Option.some.inj hf)) (by omega) (by omega) dX6_pluck_32
    · have hf := (if_neg c20).symm.trans hf
      refine lv_iconst (v := 0) S.1 S.2.1 dX6_pluck_20 (by decide) ?_
      exact pk_iret S hr hlk hW (eqm (P := fun z => z.1 = 0 ∧ MI κ ζ B z.2 L15 F16 ∧ FrM L F L15 F16) ⟨rfl, hI, hFr⟩ (Option.some.inj hf)) (by omega) (by omega) dX6_pluck_21
  unfold f_X6_pluck at hf
  refine lv_aload_n S.1 S.2.1 dX6_pluck_0 rfl (lv_at hl 0 rfl) ?_
  refine lv_aload_n S.1 S.2.1 dX6_pluck_1 rfl (lv_at hl 0 rfl) ?_
  refine pk_get S hK hW 5 (hI.mem (by decide)) hI.this rfl hinX6 (by decide) wd_1160 rfl dX6_pluck_2 ?_
  refine lv_if_ne (tgt := 12) S.1 S.2.1 dX6_pluck_5 (by decide) (fun c39 => ?_) (fun c39 => ?_)
  · have hf := (if_neg c39).symm.trans hf
    refine lv_iconst (v := 0) S.1 S.2.1 dX6_pluck_12 (by decide) ?_
    exact B13  0 hf  _ _ _ _ _ hW (by omega) (by omega) (lv_sub hl [0] rfl)
  · have hf := (if_pos c39).symm.trans hf
    refine lv_iconst (v := 1) S.1 S.2.1 dX6_pluck_8 (by decide) ?_
    refine lv_goto (tgt := 13) S.1 S.2.1 dX6_pluck_9 (by decide) ?_
    exact B13  1 hf  _ _ _ _ _ hW (by omega) (by omega) (lv_sub hl [0] rfl)
def f_X6_insert_52   (w52 : MS) (v1 : Int32) (v2 : Int32) (v3 : Int32) (u1 : Int32) : Option (Int32 × MS) := (f_X6_refuse w52 u1 3).bind fun z5 => (if z5.1 = 0 then (f_X6_size z5.2 1).bind fun z11 => (if v1 ≤ z11 then (f_X6_code v2 v3).bind fun z17 => (f_X6_come z5.2 1 v1 z17).bind fun z22 => (f_X6_tear z22).bind fun z27 => (f_X6_size z27 1).bind fun z32 => some (z32, z27) else some ((-9), z5.2)) else some (0, z5.2))
def f_X6_insert_16 (τ : MS)  (v1 : Int32) (v2 : Int32) (v3 : Int32) (u1 : Int32) : Option (Int32 × MS) := (f_X6_start τ u1 1).bind fun z37 => (if z37.1 = 0 then (f_X6_isNoPiece v2 v3).bind fun z43 => (f_X6_refuse z37.2 z43 2).bind fun z48 => (if z48.1 = 0 then (f_X6_size z48.2 1).bind fun z54 => (if z54 = 20 then f_X6_insert_52 z48.2 v1 v2 v3 1 else f_X6_insert_52 z48.2 v1 v2 v3 0) else some (0, z48.2)) else some (0, z37.2))
def f_X6_insert (τ : MS) (x1 : Int32) (x2 : Int32) (x3 : Int32) : Option (Int32 × MS) := (f_X6_isIn x1 0 20).bind fun z60 => (if z60 = 0 then f_X6_insert_16 τ x1 x2 x3 1 else f_X6_insert_16 τ x1 x2 x3 0)
theorem mc_X6_insert : MCode yX6_insert cX6_insert 4 (some .int) := ⟨wd_1432, wd_5, by decide, by decide⟩
theorem np_X6_insert : (parseMethodDescriptor yX6_insert.desc).map (fun d => d.parameters.length) = some 3 := by decide +kernel
set_option maxHeartbeats 4000000 in
set_option maxRecDepth 100000 in
theorem c_X6_insert {l : Launch} {D : va_G} {κ : Nat → ClassId} {ζ : Nat → Nat} {L : List Nat} {F : Nat → va_E} {τ : MS} {B : Nat → Nat} (hI : MI κ ζ B τ L F) (x1 : Int32) (x2 : Int32) (x3 : Int32) {res : (Int32 × MS)} (hf : f_X6_insert τ x1 x2 x3 = some res) : MtI l D cls (ty5 κ) ζ yX6_insert cX6_insert 4 (some .int) 9 2 66 ([.ref (B 0), .int x1, .int x2, .int x3] : List Value) L F (fun r L' F' => res.1 = r ∧ MI κ ζ B res.2 L' F' ∧ FrM L F L' F') := by
  refine MtI.of (by decide) (Nat.le_of_ble_eq_true rfl) ?_
  intro p e s m below meth c S hr hlk _ hK hW hST ls hl
  have hl : lv_has ls 4 [(0, .ref (B 0)), (1, .int x1), (2, .int x2), (3, .int x3)] := hl
  have hFr : FrM L F L F := FrM.rf
  have B52 : ∀  (w52 : MS) (v1 : Int32) (v2 : Int32) (v3 : Int32) (u1 : Int32), f_X6_insert_52 w52 v1 v2 v3 u1 = some res → ∀ (K52 : List Nat) (G52 : Nat → va_E), MI κ ζ B w52 K52 G52 → FrM L F K52 G52 → ∀ (H52 : Heap) (l52 : List Loc) (ls : Array Slot) (cc ss : Nat), HW D cls L s H52 l52 K52 G52 → cc + (2) ≤ 2 → ss ≤ 33 * cc → lv_has ls 4 [(0, .ref (B 0)), (1, .int v1), (2, .int v2), (3, .int v3)] → W p l e (Rm 9 2 66) s m ([.ref (B 0), .int x1, .int x2, .int x3] : List Value).toArray below meth c H52 l52 cc ss (EnI D cls s below ([.ref (B 0), .int x1, .int x2, .int x3] : List Value).toArray 2 66 L (fun r L' F' => res.1 = r ∧ MI κ ζ B res.2 L' F' ∧ FrM L F L' F')) (F0 m 52 ls [.int u1, .ref (B 0)]) := by
    intro  w52 v1 v2 v3 u1 hf K52 G52 hI hFr H52 l52 ls cc ss hW hcc hss hl
    unfold f_X6_insert_52 at hf
    refine lv_iconst (v := 3) S.1 S.2.1 dX6_insert_52 (by decide) ?_
    obtain ⟨z5, hz, hf⟩ := ob hf
    refine pk_cVI (As := [.int u1, .int 3]) (rest := []) S hK hST hW (c_X6_refuse hI u1 3 hz) mc_X6_refuse wd_1192 wd_1194 wd_1702 rfl np_X6_refuse (hI.mem (by decide)) hI.this rfl rfl hl.1 rfl (Nat.le_of_ble_eq_true rfl) dX6_insert_53 ⟨by decide, by decide⟩ ⟨rmc (by omega), rms (by omega)⟩ (fun r L1 F2 H3 l4 hp hW => ?_)
    obtain ⟨rfl, hI, hF9⟩ := hp
    have hFr := hFr.tr hF9
    refine lv_if_eq (tgt := 61) S.1 S.2.1 dX6_insert_56 (by decide) (fun c6 => ?_) (fun c6 => ?_)
    · have hf := (if_pos c6).symm.trans hf
      refine lv_iload_n S.1 S.2.1 dX6_insert_61 rfl (lv_at hl 1 rfl) ?_
      refine lv_aload_n S.1 S.2.1 dX6_insert_62 rfl (lv_at hl 0 rfl) ?_
      refine lv_iconst (v := 1) S.1 S.2.1 dX6_insert_63 (by decide) ?_
      obtain ⟨z11, hz, hf⟩ := ob hf
      refine pk_cVI (As := [.int 1]) (rest := [.int v1]) S hK hST hW (c_X6_size hI 1 hz) mc_X6_size wd_1199 wd_1201 wd_1703 rfl np_X6_size (hI.mem (by decide)) hI.this rfl rfl hl.1 rfl (Nat.le_of_ble_eq_true rfl) dX6_insert_64 ⟨by decide, by decide⟩ ⟨rmc (by omega), rms (by omega)⟩ (fun r L7 F8 H9 l10 hp hW => ?_)
      obtain ⟨rfl, rfl, rfl⟩ := hp
      refine lv_icmp_le (tgt := 73) S.1 S.2.1 dX6_insert_67 (by decide) (fun c12 => ?_) (fun c12 => ?_)
      · have hf := (if_pos c12).symm.trans hf
        refine lv_aload_n S.1 S.2.1 dX6_insert_73 rfl (lv_at hl 0 rfl) ?_
        refine lv_iconst (v := 1) S.1 S.2.1 dX6_insert_74 (by decide) ?_
        refine lv_iload_n S.1 S.2.1 dX6_insert_75 rfl (lv_at hl 1 rfl) ?_
        refine lv_iload_n S.1 S.2.1 dX6_insert_76 rfl (lv_at hl 2 rfl) ?_
        refine lv_iload_n S.1 S.2.1 dX6_insert_77 rfl (lv_at hl 3 rfl) ?_
        obtain ⟨z17, hz, hf⟩ := ob hf
        refine pk_cSI (As := [.int v2, .int v3]) (rest := [.int v1, .int 1, .ref (B 0)]) S hK hST hW (c_X6_code  v2 v3 hz) mc_X6_code wd_1219 wd_1220 np_X6_code rfl hl.1 rfl (Nat.le_of_ble_eq_true rfl) dX6_insert_78 ⟨by decide, by decide⟩ ⟨rmc (by omega), rms (by omega)⟩ (fun r L13 F14 H15 l16 hp hW => ?_)
        obtain ⟨rfl, rfl, rfl⟩ := hp
        obtain ⟨z22, hz, hf⟩ := ob hf
        refine pk_cVV (As := [.int 1, .int v1, .int z17]) (rest := []) S hK hST hW (c_X6_come hI 1 v1 z17 hz) mc_X6_come wd_1229 wd_1231 wd_1705 rfl np_X6_come (hI.mem (by decide)) hI.this rfl rfl hl.1 rfl (Nat.le_of_ble_eq_true rfl) dX6_insert_81 ⟨by decide, by decide⟩ ⟨rmc (by omega), rms (by omega)⟩ (fun L18 F19 H20 l21 hp hW => ?_)
        obtain ⟨hI, hF9⟩ := hp
        have hFr := hFr.tr hF9
        refine lv_aload_n S.1 S.2.1 dX6_insert_84 rfl (lv_at hl 0 rfl) ?_
        obtain ⟨z27, hz, hf⟩ := ob hf
        refine pk_cVV (As := []) (rest := []) S hK hST hW (c_X6_tear hI  hz) mc_X6_tear wd_1373 wd_1375 wd_1717 rfl np_X6_tear (hI.mem (by decide)) hI.this rfl rfl hl.1 rfl (Nat.le_of_ble_eq_true rfl) dX6_insert_85 ⟨by decide, by decide⟩ ⟨rmc (by omega), rms (by omega)⟩ (fun L23 F24 H25 l26 hp hW => ?_)
        obtain ⟨hI, hF9⟩ := hp
        have hFr := hFr.tr hF9
        refine lv_aload_n S.1 S.2.1 dX6_insert_88 rfl (lv_at hl 0 rfl) ?_
        refine lv_iconst (v := 1) S.1 S.2.1 dX6_insert_89 (by decide) ?_
        obtain ⟨z32, hz, hf⟩ := ob hf
        refine pk_cVI (As := [.int 1]) (rest := []) S hK hST hW (c_X6_size hI 1 hz) mc_X6_size wd_1199 wd_1201 wd_1703 rfl np_X6_size (hI.mem (by decide)) hI.this rfl rfl hl.1 rfl (Nat.le_of_ble_eq_true rfl) dX6_insert_90 ⟨by decide, by decide⟩ ⟨rmc (by omega), rms (by omega)⟩ (fun r L28 F29 H30 l31 hp hW => ?_)
        obtain ⟨rfl, rfl, rfl⟩ := hp
        exact pk_iret S hr hlk hW (eqm (P := fun z => z.1 = z32 ∧ MI κ ζ B z.2 L23 F24 ∧ FrM L F L23 F24) ⟨rfl, hI, hFr⟩ (Option.some.inj hf)) (by omega) (by omega) dX6_insert_93
      · have hf := (if_neg c12).symm.trans hf
        refine lv_bipush (v := (-9)) S.1 S.2.1 dX6_insert_70 (by decide) ?_
        exact pk_iret S hr hlk hW (eqm (P := fun z => z.1 = (-9) ∧ MI κ ζ B z.2 L1 F2 ∧ FrM L F L1 F2) ⟨rfl, hI, hFr⟩ (Option.some.inj hf)) (by omega) (by omega) dX6_insert_72
    · have hf := (if_neg c6).symm.trans hf
      refine lv_iconst (v := 0) S.1 S.2.1 dX6_insert_59 (by decide) ?_
      exact pk_iret S hr hlk hW (eqm (P := fun z => z.1 = 0 ∧ MI κ ζ B z.2 L1 F2 ∧ FrM L F L1 F2) ⟨rfl, hI, hFr⟩ (Option.some.inj hf)) (by omega) (by omega) dX6_insert_60
  have B16 : ∀  (v1 : Int32) (v2 : Int32) (v3 : Int32) (u1 : Int32), f_X6_insert_16 τ v1 v2 v3 u1 = some res → ∀ (H16 : Heap) (l16 : List Loc) (ls : Array Slot) (cc ss : Nat), HW D cls L s H16 l16 L F → cc + (2) ≤ 2 → ss ≤ 33 * cc → lv_has ls 4 [(0, .ref (B 0)), (1, .int v1), (2, .int v2), (3, .int v3)] → W p l e (Rm 9 2 66) s m ([.ref (B 0), .int x1, .int x2, .int x3] : List Value).toArray below meth c H16 l16 cc ss (EnI D cls s below ([.ref (B 0), .int x1, .int x2, .int x3] : List Value).toArray 2 66 L (fun r L' F' => res.1 = r ∧ MI κ ζ B res.2 L' F' ∧ FrM L F L' F')) (F0 m 16 ls [.int u1, .ref (B 0)]) := by
    intro  v1 v2 v3 u1 hf H16 l16 ls cc ss hW hcc hss hl
    unfold f_X6_insert_16 at hf
    refine lv_iconst (v := 1) S.1 S.2.1 dX6_insert_16 (by decide) ?_
    obtain ⟨z37, hz, hf⟩ := ob hf
    refine pk_cVI (As := [.int u1, .int 1]) (rest := []) S hK hST hW (c_X6_start hI u1 1 hz) mc_X6_start wd_1188 wd_1190 wd_1701 rfl np_X6_start (hI.mem (by decide)) hI.this rfl rfl hl.1 rfl (Nat.le_of_ble_eq_true rfl) dX6_insert_17 ⟨by decide, by decide⟩ ⟨rmc (by omega), rms (by omega)⟩ (fun r L33 F34 H35 l36 hp hW => ?_)
    obtain ⟨rfl, hI, hF9⟩ := hp
    have hFr := hFr.tr hF9
    refine lv_if_ne (tgt := 59) S.1 S.2.1 dX6_insert_20 (by decide) (fun c38 => ?_) (fun c38 => ?_)
    · have hf := (if_neg c38).symm.trans hf
      refine lv_iconst (v := 0) S.1 S.2.1 dX6_insert_59 (by decide) ?_
      exact pk_iret S hr hlk hW (eqm (P := fun z => z.1 = 0 ∧ MI κ ζ B z.2 L33 F34 ∧ FrM L F L33 F34) ⟨rfl, hI, hFr⟩ (Option.some.inj hf)) (by omega) (by omega) dX6_insert_60
    · have hf := (if_pos c38).symm.trans hf
      refine lv_aload_n S.1 S.2.1 dX6_insert_23 rfl (lv_at hl 0 rfl) ?_
      refine lv_iload_n S.1 S.2.1 dX6_insert_24 rfl (lv_at hl 2 rfl) ?_
      refine lv_iload_n S.1 S.2.1 dX6_insert_25 rfl (lv_at hl 3 rfl) ?_
      obtain ⟨z43, hz, hf⟩ := ob hf
      refine pk_cSI (As := [.int v2, .int v3]) (rest := [.ref (B 0)]) S hK hST hW (c_X6_isNoPiece  v2 v3 hz) mc_X6_isNoPiece wd_1196 wd_1197 np_X6_isNoPiece rfl hl.1 rfl (Nat.le_of_ble_eq_true rfl) dX6_insert_26 ⟨by decide, by decide⟩ ⟨rmc (by omega), rms (by omega)⟩ (fun r L39 F40 H41 l42 hp hW => ?_)
      obtain ⟨rfl, rfl, rfl⟩ := hp
      refine lv_iconst (v := 2) S.1 S.2.1 dX6_insert_29 (by decide) ?_
      obtain ⟨z48, hz, hf⟩ := ob hf
      refine pk_cVI (As := [.int z43, .int 2]) (rest := []) S hK hST hW (c_X6_refuse hI z43 2 hz) mc_X6_refuse wd_1192 wd_1194 wd_1702 rfl np_X6_refuse (hI.mem (by decide)) hI.this rfl rfl hl.1 rfl (Nat.le_of_ble_eq_true rfl) dX6_insert_30 ⟨by decide, by decide⟩ ⟨rmc (by omega), rms (by omega)⟩ (fun r L44 F45 H46 l47 hp hW => ?_)
      obtain ⟨rfl, hI, hF9⟩ := hp
      have hFr := hFr.tr hF9
      refine lv_if_ne (tgt := 59) S.1 S.2.1 dX6_insert_33 (by decide) (fun c49 => ?_) (fun c49 => ?_)
      · have hf := (if_neg c49).symm.trans hf
        refine lv_iconst (v := 0) S.1 S.2.1 dX6_insert_59 (by decide) ?_
        exact pk_iret S hr hlk hW (eqm (P := fun z => z.1 = 0 ∧ MI κ ζ B z.2 L44 F45 ∧ FrM L F L44 F45) ⟨rfl, hI, hFr⟩ (Option.some.inj hf)) (by omega) (by omega) dX6_insert_60
      · have hf := (if_pos c49).symm.trans hf
        refine lv_aload_n S.1 S.2.1 dX6_insert_36 rfl (lv_at hl 0 rfl) ?_
        refine lv_aload_n S.1 S.2.1 dX6_insert_37 rfl (lv_at hl 0 rfl) ?_
        refine lv_iconst (v := 1) S.1 S.2.1 dX6_insert_38 (by decide) ?_
        obtain ⟨z54, hz, hf⟩ := ob hf
        refine pk_cVI (As := [.int 1]) (rest := [.ref (B 0)]) S hK hST hW (c_X6_size hI 1 hz) mc_X6_size wd_1199 wd_1201 wd_1703 rfl np_X6_size (hI.mem (by decide)) hI.this rfl rfl hl.1 rfl (Nat.le_of_ble_eq_true rfl) dX6_insert_39 ⟨by decide, by decide⟩ ⟨rmc (by omega), rms (by omega)⟩ (fun r L50 F51 H52 l53 hp hW => ?_)
        obtain ⟨rfl, rfl, rfl⟩ := hp
        refine lv_bipush (v := 20) S.1 S.2.1 dX6_insert_42 (by decide) ?_
        refine lv_icmp_ne (tgt := 51) S.1 S.2.1 dX6_insert_44 (by decide) (fun c55 => ?_) (fun c55 => ?_)
        · have hf := (if_neg c55).symm.trans hf
          refine lv_iconst (v := 0) S.1 S.2.1 dX6_insert_51 (by decide) ?_
          exact B52  z48.2 v1 v2 v3 0 hf L44 F45 hI hFr _ _ _ _ _ hW (by omega) (by omega) (lv_sub hl [0, 1, 2, 3] rfl)
        · have hf := (if_pos c55).symm.trans hf
          refine lv_iconst (v := 1) S.1 S.2.1 dX6_insert_47 (by decide) ?_
          refine lv_goto (tgt := 52) S.1 S.2.1 dX6_insert_48 (by decide) ?_
          exact B52  z48.2 v1 v2 v3 1 hf L44 F45 hI hFr _ _ _ _ _ hW (by omega) (by omega) (lv_sub hl [0, 1, 2, 3] rfl)
  unfold f_X6_insert at hf
  refine lv_aload_n S.1 S.2.1 dX6_insert_0 rfl (lv_at hl 0 rfl) ?_
  refine lv_iload_n S.1 S.2.1 dX6_insert_1 rfl (lv_at hl 1 rfl) ?_
  refine lv_iconst (v := 0) S.1 S.2.1 dX6_insert_2 (by decide) ?_
  refine lv_bipush (v := 20) S.1 S.2.1 dX6_insert_3 (by decide) ?_
  obtain ⟨z60, hz, hf⟩ := ob hf
  refine pk_cSI (As := [.int x1, .int 0, .int 20]) (rest := [.ref (B 0)]) S hK hST hW (c_X6_isIn  x1 0 20 hz) mc_X6_isIn wd_1185 wd_1186 np_X6_isIn rfl hl.1 rfl (Nat.le_of_ble_eq_true rfl) dX6_insert_5 ⟨by decide, by decide⟩ ⟨rmc (by omega), rms (by omega)⟩ (fun r L56 F57 H58 l59 hp hW => ?_)
  obtain ⟨rfl, rfl, rfl⟩ := hp
  refine lv_if_ne (tgt := 15) S.1 S.2.1 dX6_insert_8 (by decide) (fun c61 => ?_) (fun c61 => ?_)
  · have hf := (if_neg c61).symm.trans hf
    refine lv_iconst (v := 0) S.1 S.2.1 dX6_insert_15 (by decide) ?_
    exact B16  x1 x2 x3 0 hf  _ _ _ _ _ hW (by omega) (by omega) (lv_sub hl [0, 1, 2, 3] rfl)
  · have hf := (if_pos c61).symm.trans hf
    refine lv_iconst (v := 1) S.1 S.2.1 dX6_insert_11 (by decide) ?_
    refine lv_goto (tgt := 16) S.1 S.2.1 dX6_insert_12 (by decide) ?_
    exact B16  x1 x2 x3 1 hf  _ _ _ _ _ hW (by omega) (by omega) (lv_sub hl [0, 1, 2, 3] rfl)
def f_X6_isNoPlace (τ : MS) (x1 : Int32) : Option Int32 := (f_X6_isIn x1 0 19).bind fun z5 => (if z5 = 0 then some (1) else some (0))
theorem mc_X6_isNoPlace : MCode yX6_isNoPlace cX6_isNoPlace 2 (some .boolean) := ⟨wd_1440, wd_5, by decide, by decide⟩
theorem np_X6_isNoPlace : (parseMethodDescriptor yX6_isNoPlace.desc).map (fun d => d.parameters.length) = some 1 := by decide +kernel
set_option maxHeartbeats 4000000 in
set_option maxRecDepth 100000 in
theorem c_X6_isNoPlace {l : Launch} {D : va_G} {κ : Nat → ClassId} {ζ : Nat → Nat} {L : List Nat} {F : Nat → va_E} {τ : MS} {B : Nat → Nat} (hI : MI κ ζ B τ L F) (x1 : Int32) {res : Int32} (hf : f_X6_isNoPlace τ x1 = some res) : MtI l D cls (ty5 κ) ζ yX6_isNoPlace cX6_isNoPlace 2 (some .boolean) 2 0 0 ([.ref (B 0), .int x1] : List Value) L F (fun r L' F' => L = L' ∧ F = F' ∧ res = r) := by
  refine MtI.of (by decide) (Nat.le_of_ble_eq_true rfl) ?_
  intro p e s m below meth c S hr hlk _ hK hW hST ls hl
  have hl : lv_has ls 2 [(0, .ref (B 0)), (1, .int x1)] := hl
  unfold f_X6_isNoPlace at hf
  refine lv_iload_n S.1 S.2.1 dX6_isNoPlace_0 rfl (lv_at hl 1 rfl) ?_
  refine lv_iconst (v := 0) S.1 S.2.1 dX6_isNoPlace_1 (by decide) ?_
  refine lv_bipush (v := 19) S.1 S.2.1 dX6_isNoPlace_2 (by decide) ?_
  obtain ⟨z5, hz, hf⟩ := ob hf
  refine pk_cSI (As := [.int x1, .int 0, .int 19]) (rest := []) S hK hST hW (c_X6_isIn  x1 0 19 hz) mc_X6_isIn wd_1185 wd_1186 np_X6_isIn rfl hl.1 rfl (Nat.le_of_ble_eq_true rfl) dX6_isNoPlace_4 ⟨by decide, by decide⟩ ⟨rmc (by omega), rms (by omega)⟩ (fun r L1 F2 H3 l4 hp hW => ?_)
  obtain ⟨rfl, rfl, rfl⟩ := hp
  refine lv_if_ne (tgt := 14) S.1 S.2.1 dX6_isNoPlace_7 (by decide) (fun c6 => ?_) (fun c6 => ?_)
  · have hf := (if_neg c6).symm.trans hf
    refine lv_iconst (v := 0) S.1 S.2.1 dX6_isNoPlace_14 (by decide) ?_
    exact pk_zret S hr hlk hW (by decide) ⟨rfl, rfl, eqm (P := fun z => z = 0) rfl (Option.some.inj hf)⟩ (by omega) (by omega) dX6_isNoPlace_15
  · have hf := (if_pos c6).symm.trans hf
    refine lv_iconst (v := 1) S.1 S.2.1 dX6_isNoPlace_10 (by decide) ?_
    refine lv_goto (tgt := 15) S.1 S.2.1 dX6_isNoPlace_11 (by decide) ?_
    exact pk_zret S hr hlk hW (by decide) ⟨rfl, rfl, eqm (P := fun z => z = 1) rfl (Option.some.inj hf)⟩ (by omega) (by omega) dX6_isNoPlace_15
def f_X6_cut (τ : MS) (x1 : Int32) : Option (Int32 × MS) := (f_X6_isNoPlace τ x1).bind fun z5 => (f_X6_start τ z5 1).bind fun z10 => (if z10.1 = 0 then (f_X6_size z10.2 1).bind fun z16 => (if x1 < z16 then (f_X6_tear z10.2).bind fun z22 => (f_X6_go z22 1 x1).bind fun z27 => some (z27.1, z27.2) else some ((-9), z10.2)) else some (0, z10.2))
theorem mc_X6_cut : MCode yX6_cut cX6_cut 2 (some .int) := ⟨wd_1436, wd_5, by decide, by decide⟩
theorem np_X6_cut : (parseMethodDescriptor yX6_cut.desc).map (fun d => d.parameters.length) = some 1 := by decide +kernel
set_option maxHeartbeats 4000000 in
set_option maxRecDepth 100000 in
theorem c_X6_cut {l : Launch} {D : va_G} {κ : Nat → ClassId} {ζ : Nat → Nat} {L : List Nat} {F : Nat → va_E} {τ : MS} {B : Nat → Nat} (hI : MI κ ζ B τ L F) (x1 : Int32) {res : (Int32 × MS)} (hf : f_X6_cut τ x1 = some res) : MtI l D cls (ty5 κ) ζ yX6_cut cX6_cut 2 (some .int) 6 0 0 ([.ref (B 0), .int x1] : List Value) L F (fun r L' F' => res.1 = r ∧ MI κ ζ B res.2 L' F' ∧ FrM L F L' F') := by
  refine MtI.of (by decide) (Nat.le_of_ble_eq_true rfl) ?_
  intro p e s m below meth c S hr hlk _ hK hW hST ls hl
  have hl : lv_has ls 2 [(0, .ref (B 0)), (1, .int x1)] := hl
  have hFr : FrM L F L F := FrM.rf
  unfold f_X6_cut at hf
  refine lv_aload_n S.1 S.2.1 dX6_cut_0 rfl (lv_at hl 0 rfl) ?_
  refine lv_aload_n S.1 S.2.1 dX6_cut_1 rfl (lv_at hl 0 rfl) ?_
  refine lv_iload_n S.1 S.2.1 dX6_cut_2 rfl (lv_at hl 1 rfl) ?_
  obtain ⟨z5, hz, hf⟩ := ob hf
  refine pk_cVI (As := [.int x1]) (rest := [.ref (B 0)]) S hK hST hW (c_X6_isNoPlace hI x1 hz) mc_X6_isNoPlace wd_1437 wd_1439 wd_1720 rfl np_X6_isNoPlace (hI.mem (by decide)) hI.this rfl rfl hl.1 rfl (Nat.le_of_ble_eq_true rfl) dX6_cut_3 ⟨by decide, by decide⟩ ⟨rmc (by omega), rms (by omega)⟩ (fun r L1 F2 H3 l4 hp hW => ?_)
  obtain ⟨rfl, rfl, rfl⟩ := hp
  refine lv_iconst (v := 1) S.1 S.2.1 dX6_cut_6 (by decide) ?_
  obtain ⟨z10, hz, hf⟩ := ob hf
  refine pk_cVI (As := [.int z5, .int 1]) (rest := []) S hK hST hW (c_X6_start hI z5 1 hz) mc_X6_start wd_1188 wd_1190 wd_1701 rfl np_X6_start (hI.mem (by decide)) hI.this rfl rfl hl.1 rfl (Nat.le_of_ble_eq_true rfl) dX6_cut_7 ⟨by decide, by decide⟩ ⟨rmc (by omega), rms (by omega)⟩ (fun r L6 F7 H8 l9 hp hW => ?_)
  obtain ⟨rfl, hI, hF9⟩ := hp
  have hFr := hFr.tr hF9
  refine lv_if_eq (tgt := 15) S.1 S.2.1 dX6_cut_10 (by decide) (fun c11 => ?_) (fun c11 => ?_)
  · have hf := (if_pos c11).symm.trans hf
    refine lv_iload_n S.1 S.2.1 dX6_cut_15 rfl (lv_at hl 1 rfl) ?_
    refine lv_aload_n S.1 S.2.1 dX6_cut_16 rfl (lv_at hl 0 rfl) ?_
    refine lv_iconst (v := 1) S.1 S.2.1 dX6_cut_17 (by decide) ?_
    obtain ⟨z16, hz, hf⟩ := ob hf
    refine pk_cVI (As := [.int 1]) (rest := [.int x1]) S hK hST hW (c_X6_size hI 1 hz) mc_X6_size wd_1199 wd_1201 wd_1703 rfl np_X6_size (hI.mem (by decide)) hI.this rfl rfl hl.1 rfl (Nat.le_of_ble_eq_true rfl) dX6_cut_18 ⟨by decide, by decide⟩ ⟨rmc (by omega), rms (by omega)⟩ (fun r L12 F13 H14 l15 hp hW => ?_)
    obtain ⟨rfl, rfl, rfl⟩ := hp
    refine lv_icmp_lt (tgt := 27) S.1 S.2.1 dX6_cut_21 (by decide) (fun c17 => ?_) (fun c17 => ?_)
    · have hf := (if_pos c17).symm.trans hf
      refine lv_aload_n S.1 S.2.1 dX6_cut_27 rfl (lv_at hl 0 rfl) ?_
      obtain ⟨z22, hz, hf⟩ := ob hf
      refine pk_cVV (As := []) (rest := []) S hK hST hW (c_X6_tear hI  hz) mc_X6_tear wd_1373 wd_1375 wd_1717 rfl np_X6_tear (hI.mem (by decide)) hI.this rfl rfl hl.1 rfl (Nat.le_of_ble_eq_true rfl) dX6_cut_28 ⟨by decide, by decide⟩ ⟨rmc (by omega), rms (by omega)⟩ (fun L18 F19 H20 l21 hp hW => ?_)
      obtain ⟨hI, hF9⟩ := hp
      have hFr := hFr.tr hF9
      refine lv_aload_n S.1 S.2.1 dX6_cut_31 rfl (lv_at hl 0 rfl) ?_
      refine lv_iconst (v := 1) S.1 S.2.1 dX6_cut_32 (by decide) ?_
      refine lv_iload_n S.1 S.2.1 dX6_cut_33 rfl (lv_at hl 1 rfl) ?_
      obtain ⟨z27, hz, hf⟩ := ob hf
      refine pk_cVI (As := [.int 1, .int x1]) (rest := []) S hK hST hW (c_X6_go hI 1 x1 hz) mc_X6_go wd_1329 wd_1331 wd_1714 rfl np_X6_go (hI.mem (by decide)) hI.this rfl rfl hl.1 rfl (Nat.le_of_ble_eq_true rfl) dX6_cut_34 ⟨by decide, by decide⟩ ⟨rmc (by omega), rms (by omega)⟩ (fun r L23 F24 H25 l26 hp hW => ?_)
      obtain ⟨rfl, hI, hF9⟩ := hp
      have hFr := hFr.tr hF9
      exact pk_iret S hr hlk hW (eqm (P := fun z => z.1 = z27.1 ∧ MI κ ζ B z.2 L23 F24 ∧ FrM L F L23 F24) ⟨rfl, hI, hFr⟩ (Option.some.inj hf)) (by omega) (by omega) dX6_cut_37
    · have hf := (if_neg c17).symm.trans hf
      refine lv_bipush (v := (-9)) S.1 S.2.1 dX6_cut_24 (by decide) ?_
      exact pk_iret S hr hlk hW (eqm (P := fun z => z.1 = (-9) ∧ MI κ ζ B z.2 L6 F7 ∧ FrM L F L6 F7) ⟨rfl, hI, hFr⟩ (Option.some.inj hf)) (by omega) (by omega) dX6_cut_26
  · have hf := (if_neg c11).symm.trans hf
    refine lv_iconst (v := 0) S.1 S.2.1 dX6_cut_13 (by decide) ?_
    exact pk_iret S hr hlk hW (eqm (P := fun z => z.1 = 0 ∧ MI κ ζ B z.2 L6 F7 ∧ FrM L F L6 F7) ⟨rfl, hI, hFr⟩ (Option.some.inj hf)) (by omega) (by omega) dX6_cut_14
def f_X6_replace (τ : MS) (x1 : Int32) (x2 : Int32) (x3 : Int32) : Option (Int32 × MS) := (f_X6_isNoPlace τ x1).bind fun z5 => (f_X6_start τ z5 1).bind fun z10 => (if z10.1 = 0 then (f_X6_isNoPiece x2 x3).bind fun z16 => (f_X6_refuse z10.2 z16 2).bind fun z21 => (if z21.1 = 0 then (f_X6_size z21.2 1).bind fun z27 => (if x1 < z27 then (f_X6_tear z21.2).bind fun z33 => (gtr 1).bind fun z38 => (f_X6_code x2 x3).bind fun z43 => (lset (z33.1 z38) x1 z43).bind fun z53 => nm ((va_up z33.1 z38 z53, z33.2) : MS) fun t55 => some (((z33.1 z38).getD x1.toNatClampNeg 0), t55) else some ((-9), z21.2)) else some (0, z21.2)) else some (0, z10.2))
theorem mc_X6_replace : MCode yX6_replace cX6_replace 4 (some .int) := ⟨wd_1444, wd_5, by decide, by decide⟩
theorem np_X6_replace : (parseMethodDescriptor yX6_replace.desc).map (fun d => d.parameters.length) = some 3 := by decide +kernel
set_option maxHeartbeats 4000000 in
set_option maxRecDepth 100000 in
theorem c_X6_replace {l : Launch} {D : va_G} {κ : Nat → ClassId} {ζ : Nat → Nat} {L : List Nat} {F : Nat → va_E} {τ : MS} {B : Nat → Nat} (hI : MI κ ζ B τ L F) (x1 : Int32) (x2 : Int32) (x3 : Int32) {res : (Int32 × MS)} (hf : f_X6_replace τ x1 x2 x3 = some res) : MtI l D cls (ty5 κ) ζ yX6_replace cX6_replace 4 (some .int) 5 1 33 ([.ref (B 0), .int x1, .int x2, .int x3] : List Value) L F (fun r L' F' => res.1 = r ∧ MI κ ζ B res.2 L' F' ∧ FrM L F L' F') := by
  refine MtI.of (by decide) (Nat.le_of_ble_eq_true rfl) ?_
  intro p e s m below meth c S hr hlk _ hK hW hST ls hl
  have hl : lv_has ls 4 [(0, .ref (B 0)), (1, .int x1), (2, .int x2), (3, .int x3)] := hl
  have hFr : FrM L F L F := FrM.rf
  unfold f_X6_replace at hf
  refine lv_aload_n S.1 S.2.1 dX6_replace_0 rfl (lv_at hl 0 rfl) ?_
  refine lv_aload_n S.1 S.2.1 dX6_replace_1 rfl (lv_at hl 0 rfl) ?_
  refine lv_iload_n S.1 S.2.1 dX6_replace_2 rfl (lv_at hl 1 rfl) ?_
  obtain ⟨z5, hz, hf⟩ := ob hf
  refine pk_cVI (As := [.int x1]) (rest := [.ref (B 0)]) S hK hST hW (c_X6_isNoPlace hI x1 hz) mc_X6_isNoPlace wd_1437 wd_1439 wd_1720 rfl np_X6_isNoPlace (hI.mem (by decide)) hI.this rfl rfl hl.1 rfl (Nat.le_of_ble_eq_true rfl) dX6_replace_3 ⟨by decide, by decide⟩ ⟨rmc (by omega), rms (by omega)⟩ (fun r L1 F2 H3 l4 hp hW => ?_)
  obtain ⟨rfl, rfl, rfl⟩ := hp
  refine lv_iconst (v := 1) S.1 S.2.1 dX6_replace_6 (by decide) ?_
  obtain ⟨z10, hz, hf⟩ := ob hf
  refine pk_cVI (As := [.int z5, .int 1]) (rest := []) S hK hST hW (c_X6_start hI z5 1 hz) mc_X6_start wd_1188 wd_1190 wd_1701 rfl np_X6_start (hI.mem (by decide)) hI.this rfl rfl hl.1 rfl (Nat.le_of_ble_eq_true rfl) dX6_replace_7 ⟨by decide, by decide⟩ ⟨rmc (by omega), rms (by omega)⟩ (fun r L6 F7 H8 l9 hp hW => ?_)
  obtain ⟨rfl, hI, hF9⟩ := hp
  have hFr := hFr.tr hF9
  refine lv_if_ne (tgt := 26) S.1 S.2.1 dX6_replace_10 (by decide) (fun c11 => ?_) (fun c11 => ?_)
  · have hf := (if_neg c11).symm.trans hf
    refine lv_iconst (v := 0) S.1 S.2.1 dX6_replace_26 (by decide) ?_
    exact pk_iret S hr hlk hW (eqm (P := fun z => z.1 = 0 ∧ MI κ ζ B z.2 L6 F7 ∧ FrM L F L6 F7) ⟨rfl, hI, hFr⟩ (Option.some.inj hf)) (by omega) (by omega) dX6_replace_27
  · have hf := (if_pos c11).symm.trans hf
    refine lv_aload_n S.1 S.2.1 dX6_replace_13 rfl (lv_at hl 0 rfl) ?_
    refine lv_iload_n S.1 S.2.1 dX6_replace_14 rfl (lv_at hl 2 rfl) ?_
    refine lv_iload_n S.1 S.2.1 dX6_replace_15 rfl (lv_at hl 3 rfl) ?_
    obtain ⟨z16, hz, hf⟩ := ob hf
    refine pk_cSI (As := [.int x2, .int x3]) (rest := [.ref (B 0)]) S hK hST hW (c_X6_isNoPiece  x2 x3 hz) mc_X6_isNoPiece wd_1196 wd_1197 np_X6_isNoPiece rfl hl.1 rfl (Nat.le_of_ble_eq_true rfl) dX6_replace_16 ⟨by decide, by decide⟩ ⟨rmc (by omega), rms (by omega)⟩ (fun r L12 F13 H14 l15 hp hW => ?_)
    obtain ⟨rfl, rfl, rfl⟩ := hp
    refine lv_iconst (v := 2) S.1 S.2.1 dX6_replace_19 (by decide) ?_
    obtain ⟨z21, hz, hf⟩ := ob hf
    refine pk_cVI (As := [.int z16, .int 2]) (rest := []) S hK hST hW (c_X6_refuse hI z16 2 hz) mc_X6_refuse wd_1192 wd_1194 wd_1702 rfl np_X6_refuse (hI.mem (by decide)) hI.this rfl rfl hl.1 rfl (Nat.le_of_ble_eq_true rfl) dX6_replace_20 ⟨by decide, by decide⟩ ⟨rmc (by omega), rms (by omega)⟩ (fun r L17 F18 H19 l20 hp hW => ?_)
    obtain ⟨rfl, hI, hF9⟩ := hp
    have hFr := hFr.tr hF9
    refine lv_if_eq (tgt := 28) S.1 S.2.1 dX6_replace_23 (by decide) (fun c22 => ?_) (fun c22 => ?_)
    · have hf := (if_pos c22).symm.trans hf
      refine lv_iload_n S.1 S.2.1 dX6_replace_28 rfl (lv_at hl 1 rfl) ?_
      refine lv_aload_n S.1 S.2.1 dX6_replace_29 rfl (lv_at hl 0 rfl) ?_
      refine lv_iconst (v := 1) S.1 S.2.1 dX6_replace_30 (by decide) ?_
      obtain ⟨z27, hz, hf⟩ := ob hf
      refine pk_cVI (As := [.int 1]) (rest := [.int x1]) S hK hST hW (c_X6_size hI 1 hz) mc_X6_size wd_1199 wd_1201 wd_1703 rfl np_X6_size (hI.mem (by decide)) hI.this rfl rfl hl.1 rfl (Nat.le_of_ble_eq_true rfl) dX6_replace_31 ⟨by decide, by decide⟩ ⟨rmc (by omega), rms (by omega)⟩ (fun r L23 F24 H25 l26 hp hW => ?_)
      obtain ⟨rfl, rfl, rfl⟩ := hp
      refine lv_icmp_lt (tgt := 40) S.1 S.2.1 dX6_replace_34 (by decide) (fun c28 => ?_) (fun c28 => ?_)
      · have hf := (if_pos c28).symm.trans hf
        refine lv_aload_n S.1 S.2.1 dX6_replace_40 rfl (lv_at hl 0 rfl) ?_
        obtain ⟨z33, hz, hf⟩ := ob hf
        refine pk_cVV (As := []) (rest := []) S hK hST hW (c_X6_tear hI  hz) mc_X6_tear wd_1373 wd_1375 wd_1717 rfl np_X6_tear (hI.mem (by decide)) hI.this rfl rfl hl.1 rfl (Nat.le_of_ble_eq_true rfl) dX6_replace_41 ⟨by decide, by decide⟩ ⟨rmc (by omega), rms (by omega)⟩ (fun L29 F30 H31 l32 hp hW => ?_)
        obtain ⟨hI, hF9⟩ := hp
        have hFr := hFr.tr hF9
        refine lv_aload_n S.1 S.2.1 dX6_replace_44 rfl (lv_at hl 0 rfl) ?_
        refine pk_get S hK hW 1 (hI.mem (by decide)) hI.this rfl hinX6 (by decide) wd_1156 rfl dX6_replace_45 ?_
        refine lv_iconst (v := 1) S.1 S.2.1 dX6_replace_48 (by decide) ?_
        obtain ⟨z38, hz, hf⟩ := ob hf
        obtain ⟨md9, f9, hR9, -, -⟩ := hI.tracks
        refine pk_cVR (As := [.int 1]) (rest := []) S hK hST hW (c_tracks hI hz) mc_Jx4a65c_get_915e3 wd_1203 wd_1204 wd_1205 rfl np_Jx4a65c_get_915e3 hR9.1 hR9.2.1 rfl rfl hl.1 rfl (Nat.le_of_ble_eq_true rfl) dX6_replace_49 ⟨by decide, by decide⟩ ⟨rmc (by omega), rms (by omega)⟩ (fun r L34 F35 H36 l37 hp hW => ?_)
        obtain ⟨rfl, rfl, rfl⟩ := hp
        have hbz38 : z38 < 4 := Nat.lt_of_lt_of_le (gtr_ok hz).1 (by decide)
        obtain ⟨ar0, hL0, -⟩ := hI.list hbz38
        obtain ⟨m_h0, md0, e_h0⟩ := hL0.obj
        refine va_castS S.1 S.2.1 S.2.2.2.1 (S.2.2.2.2 _ wd_1070) (hK.1 4 _ rfl).2 (pk_recv (r := (RJx4a65c, TJx4a65c, 3)) hK hW m_h0 e_h0 rfl) dX6_replace_52 ?_
        refine lv_iload_n S.1 S.2.1 dX6_replace_55 rfl (lv_at hl 1 rfl) ?_
        refine lv_iload_n S.1 S.2.1 dX6_replace_56 rfl (lv_at hl 2 rfl) ?_
        refine lv_iload_n S.1 S.2.1 dX6_replace_57 rfl (lv_at hl 3 rfl) ?_
        obtain ⟨z43, hz, hf⟩ := ob hf
        refine pk_cSI (As := [.int x2, .int x3]) (rest := [.int x1, .ref (B (3 + z38))]) S hK hST hW (c_X6_code  x2 x3 hz) mc_X6_code wd_1219 wd_1220 np_X6_code rfl hl.1 rfl (Nat.le_of_ble_eq_true rfl) dX6_replace_58 ⟨by decide, by decide⟩ ⟨rmc (by omega), rms (by omega)⟩ (fun r L39 F40 H41 l42 hp hW => ?_)
        obtain ⟨rfl, rfl, rfl⟩ := hp
        refine pk_cSR (As := [.int z43]) (rest := [.int x1, .ref (B (3 + z38))]) S hK hST hW (c_J6_valueOf_2dffe (v := z43)) mc_J6_valueOf_2dffe wd_1233 wd_1234 np_J6_valueOf_2dffe rfl hl.1 rfl (Nat.le_of_ble_eq_true rfl) dX6_replace_61 ⟨by decide, by decide⟩ ⟨rmc (by omega), rms (by omega)⟩ (fun y48 L44 F45 H46 l47 hp hW => ?_)
        obtain ⟨hs9, hby48, hf9⟩ := hp
        have hI := hI.keep0 hs9 hf9 (noE hW hST)
        have hF9 : FrM L29 F30 L44 F45 := ⟨hs9, fun x hx _ => hf9 x hx⟩
        have hFr := hFr.tr hF9
        obtain ⟨ar9, hL9, hup9⟩ := hI.list hbz38
        obtain ⟨m_h9, md9, e_h9⟩ := hL9.obj
        obtain ⟨z53, hz, hf⟩ := ob hf
        refine pk_cVR (As := [.int x1, .ref y48]) (rest := []) S hK hST hW (c_mset hL9 hz hby48) mc_Jx4a65c_set_bcc79 wd_1445 wd_1446 wd_1447 rfl np_Jx4a65c_set_bcc79 m_h9 e_h9 rfl rfl hl.1 rfl (Nat.le_of_ble_eq_true rfl) dX6_replace_64 ⟨by decide, by decide⟩ ⟨rmc (by omega), rms (by omega)⟩ (fun y54 L49 F50 H51 l52 hp hW => ?_)
        obtain ⟨hby54, hL8, hN8⟩ := hp
        obtain ⟨hI, hF9⟩ := hup9 _ _ _ _ hL8 hN8 (noE hW hST)
        have hFr := hFr.tr hF9
        obtain ⟨t55, et55, hf⟩ := nm_ok hf
        have hI := eqm (P := fun w => MI κ ζ B w L49 F50) hI et55.symm
        refine va_castS S.1 S.2.1 S.2.2.2.1 (S.2.2.2.2 _ wd_1303) (hK.1 2 _ rfl).2 (bx_cell hK hW hST hby54) dX6_replace_67 ?_
        refine pk_cVIr (As := []) (rest := []) S hK hST hW (c_J6_intValue_8abf5 hby54) mc_J6_intValue_8abf5 wd_1304 wd_1305 wd_1306 rfl np_J6_intValue_8abf5 (bx_cell hK hW hST hby54) rfl hl.1 rfl (Nat.le_of_ble_eq_true rfl) dX6_replace_70 ⟨by decide, by decide⟩ ⟨rmc (by omega), rms (by omega)⟩ (fun r L56 F57 H58 l59 hp hW => ?_)
        obtain ⟨rfl, rfl, rfl⟩ := hp
        exact pk_iret S hr hlk hW (eqm (P := fun z => z.1 = ((z33.1 z38).getD x1.toNatClampNeg 0) ∧ MI κ ζ B z.2 L49 F50 ∧ FrM L F L49 F50) ⟨rfl, hI, hFr⟩ (Option.some.inj hf)) (by omega) (by omega) dX6_replace_73
      · have hf := (if_neg c28).symm.trans hf
        refine lv_bipush (v := (-9)) S.1 S.2.1 dX6_replace_37 (by decide) ?_
        exact pk_iret S hr hlk hW (eqm (P := fun z => z.1 = (-9) ∧ MI κ ζ B z.2 L17 F18 ∧ FrM L F L17 F18) ⟨rfl, hI, hFr⟩ (Option.some.inj hf)) (by omega) (by omega) dX6_replace_39
    · have hf := (if_neg c22).symm.trans hf
      refine lv_iconst (v := 0) S.1 S.2.1 dX6_replace_26 (by decide) ?_
      exact pk_iret S hr hlk hW (eqm (P := fun z => z.1 = 0 ∧ MI κ ζ B z.2 L17 F18 ∧ FrM L F L17 F18) ⟨rfl, hI, hFr⟩ (Option.some.inj hf)) (by omega) (by omega) dX6_replace_27
def f_X6_at (τ : MS) (x1 : Int32) : Option (Int32 × MS) := (f_X6_isNoPlace τ x1).bind fun z5 => (f_X6_start τ z5 1).bind fun z10 => (if z10.1 = 0 then (f_X6_size z10.2 1).bind fun z16 => (if x1 < z16 then (f_X6_get z10.2 1 x1).bind fun z22 => some (z22, z10.2) else some ((-9), z10.2)) else some (0, z10.2))
theorem mc_X6_at : MCode yX6_at cX6_at 2 (some .int) := ⟨wd_1452, wd_5, by decide, by decide⟩
theorem np_X6_at : (parseMethodDescriptor yX6_at.desc).map (fun d => d.parameters.length) = some 1 := by decide +kernel
set_option maxHeartbeats 4000000 in
set_option maxRecDepth 100000 in
theorem c_X6_at {l : Launch} {D : va_G} {κ : Nat → ClassId} {ζ : Nat → Nat} {L : List Nat} {F : Nat → va_E} {τ : MS} {B : Nat → Nat} (hI : MI κ ζ B τ L F) (x1 : Int32) {res : (Int32 × MS)} (hf : f_X6_at τ x1 = some res) : MtI l D cls (ty5 κ) ζ yX6_at cX6_at 2 (some .int) 6 0 0 ([.ref (B 0), .int x1] : List Value) L F (fun r L' F' => res.1 = r ∧ MI κ ζ B res.2 L' F' ∧ FrM L F L' F') := by
  refine MtI.of (by decide) (Nat.le_of_ble_eq_true rfl) ?_
  intro p e s m below meth c S hr hlk _ hK hW hST ls hl
  have hl : lv_has ls 2 [(0, .ref (B 0)), (1, .int x1)] := hl
  have hFr : FrM L F L F := FrM.rf
  unfold f_X6_at at hf
  refine lv_aload_n S.1 S.2.1 dX6_at_0 rfl (lv_at hl 0 rfl) ?_
  refine lv_aload_n S.1 S.2.1 dX6_at_1 rfl (lv_at hl 0 rfl) ?_
  refine lv_iload_n S.1 S.2.1 dX6_at_2 rfl (lv_at hl 1 rfl) ?_
  obtain ⟨z5, hz, hf⟩ := ob hf
  refine pk_cVI (As := [.int x1]) (rest := [.ref (B 0)]) S hK hST hW (c_X6_isNoPlace hI x1 hz) mc_X6_isNoPlace wd_1437 wd_1439 wd_1720 rfl np_X6_isNoPlace (hI.mem (by decide)) hI.this rfl rfl hl.1 rfl (Nat.le_of_ble_eq_true rfl) dX6_at_3 ⟨by decide, by decide⟩ ⟨rmc (by omega), rms (by omega)⟩ (fun r L1 F2 H3 l4 hp hW => ?_)
  obtain ⟨rfl, rfl, rfl⟩ := hp
  refine lv_iconst (v := 1) S.1 S.2.1 dX6_at_6 (by decide) ?_
  obtain ⟨z10, hz, hf⟩ := ob hf
  refine pk_cVI (As := [.int z5, .int 1]) (rest := []) S hK hST hW (c_X6_start hI z5 1 hz) mc_X6_start wd_1188 wd_1190 wd_1701 rfl np_X6_start (hI.mem (by decide)) hI.this rfl rfl hl.1 rfl (Nat.le_of_ble_eq_true rfl) dX6_at_7 ⟨by decide, by decide⟩ ⟨rmc (by omega), rms (by omega)⟩ (fun r L6 F7 H8 l9 hp hW => ?_)
  obtain ⟨rfl, hI, hF9⟩ := hp
  have hFr := hFr.tr hF9
  refine lv_if_eq (tgt := 17) S.1 S.2.1 dX6_at_10 (by decide) (fun c11 => ?_) (fun c11 => ?_)
  · have hf := (if_pos c11).symm.trans hf
    refine lv_iload_n S.1 S.2.1 dX6_at_17 rfl (lv_at hl 1 rfl) ?_
    refine lv_aload_n S.1 S.2.1 dX6_at_18 rfl (lv_at hl 0 rfl) ?_
    refine lv_iconst (v := 1) S.1 S.2.1 dX6_at_19 (by decide) ?_
    obtain ⟨z16, hz, hf⟩ := ob hf
    refine pk_cVI (As := [.int 1]) (rest := [.int x1]) S hK hST hW (c_X6_size hI 1 hz) mc_X6_size wd_1199 wd_1201 wd_1703 rfl np_X6_size (hI.mem (by decide)) hI.this rfl rfl hl.1 rfl (Nat.le_of_ble_eq_true rfl) dX6_at_20 ⟨by decide, by decide⟩ ⟨rmc (by omega), rms (by omega)⟩ (fun r L12 F13 H14 l15 hp hW => ?_)
    obtain ⟨rfl, rfl, rfl⟩ := hp
    refine lv_icmp_lt (tgt := 31) S.1 S.2.1 dX6_at_23 (by decide) (fun c17 => ?_) (fun c17 => ?_)
    · have hf := (if_pos c17).symm.trans hf
      refine lv_aload_n S.1 S.2.1 dX6_at_31 rfl (lv_at hl 0 rfl) ?_
      refine lv_iconst (v := 1) S.1 S.2.1 dX6_at_32 (by decide) ?_
      refine lv_iload_n S.1 S.2.1 dX6_at_33 rfl (lv_at hl 1 rfl) ?_
      obtain ⟨z22, hz, hf⟩ := ob hf
      refine pk_cVI (As := [.int 1, .int x1]) (rest := []) S hK hST hW (c_X6_get hI 1 x1 hz) mc_X6_get wd_1299 wd_1301 wd_1711 rfl np_X6_get (hI.mem (by decide)) hI.this rfl rfl hl.1 rfl (Nat.le_of_ble_eq_true rfl) dX6_at_34 ⟨by decide, by decide⟩ ⟨rmc (by omega), rms (by omega)⟩ (fun r L18 F19 H20 l21 hp hW => ?_)
      obtain ⟨rfl, rfl, rfl⟩ := hp
      exact pk_iret S hr hlk hW (eqm (P := fun z => z.1 = z22 ∧ MI κ ζ B z.2 L6 F7 ∧ FrM L F L6 F7) ⟨rfl, hI, hFr⟩ (Option.some.inj hf)) (by omega) (by omega) dX6_at_37
    · have hf := (if_neg c17).symm.trans hf
      refine lv_bipush (v := (-9)) S.1 S.2.1 dX6_at_26 (by decide) ?_
      refine lv_goto (tgt := 37) S.1 S.2.1 dX6_at_28 (by decide) ?_
      exact pk_iret S hr hlk hW (eqm (P := fun z => z.1 = (-9) ∧ MI κ ζ B z.2 L6 F7 ∧ FrM L F L6 F7) ⟨rfl, hI, hFr⟩ (Option.some.inj hf)) (by omega) (by omega) dX6_at_37
  · have hf := (if_neg c11).symm.trans hf
    refine lv_iconst (v := 0) S.1 S.2.1 dX6_at_13 (by decide) ?_
    refine lv_goto (tgt := 37) S.1 S.2.1 dX6_at_14 (by decide) ?_
    exact pk_iret S hr hlk hW (eqm (P := fun z => z.1 = 0 ∧ MI κ ζ B z.2 L6 F7 ∧ FrM L F L6 F7) ⟨rfl, hI, hFr⟩ (Option.some.inj hf)) (by omega) (by omega) dX6_at_37
def f_X6_find_16 (τ : MS)  (v1 : Int32) (v2 : Int32) (u1 : Int32) : Option (Int32 × MS) := (f_X6_start τ u1 1).bind fun z5 => (if z5.1 = 0 then (f_X6_found z5.2 1 v1 v2).bind fun z11 => some (z11, z5.2) else some (0, z5.2))
def f_X6_find (τ : MS) (x1 : Int32) (x2 : Int32) : Option (Int32 × MS) := (f_X6_isIn x1 0 9).bind fun z16 => (if z16 = 0 then f_X6_find_16 τ x1 x2 1 else f_X6_find_16 τ x1 x2 0)
theorem mc_X6_find : MCode yX6_find cX6_find 3 (some .int) := ⟨wd_1456, wd_5, by decide, by decide⟩
theorem np_X6_find : (parseMethodDescriptor yX6_find.desc).map (fun d => d.parameters.length) = some 2 := by decide +kernel
set_option maxHeartbeats 4000000 in
set_option maxRecDepth 100000 in
theorem c_X6_find {l : Launch} {D : va_G} {κ : Nat → ClassId} {ζ : Nat → Nat} {L : List Nat} {F : Nat → va_E} {τ : MS} {B : Nat → Nat} (hI : MI κ ζ B τ L F) (x1 : Int32) (x2 : Int32) {res : (Int32 × MS)} (hf : f_X6_find τ x1 x2 = some res) : MtI l D cls (ty5 κ) ζ yX6_find cX6_find 3 (some .int) 7 0 0 ([.ref (B 0), .int x1, .int x2] : List Value) L F (fun r L' F' => res.1 = r ∧ MI κ ζ B res.2 L' F' ∧ FrM L F L' F') := by
  refine MtI.of (by decide) (Nat.le_of_ble_eq_true rfl) ?_
  intro p e s m below meth c S hr hlk _ hK hW hST ls hl
  have hl : lv_has ls 3 [(0, .ref (B 0)), (1, .int x1), (2, .int x2)] := hl
  have hFr : FrM L F L F := FrM.rf
  have B16 : ∀  (v1 : Int32) (v2 : Int32) (u1 : Int32), f_X6_find_16 τ v1 v2 u1 = some res → ∀ (H16 : Heap) (l16 : List Loc) (ls : Array Slot) (cc ss : Nat), HW D cls L s H16 l16 L F → cc + (0) ≤ 0 → ss ≤ 33 * cc → lv_has ls 3 [(0, .ref (B 0)), (1, .int v1), (2, .int v2)] → W p l e (Rm 7 0 0) s m ([.ref (B 0), .int x1, .int x2] : List Value).toArray below meth c H16 l16 cc ss (EnI D cls s below ([.ref (B 0), .int x1, .int x2] : List Value).toArray 0 0 L (fun r L' F' => res.1 = r ∧ MI κ ζ B res.2 L' F' ∧ FrM L F L' F')) (F0 m 16 ls [.int u1, .ref (B 0)]) := by
    intro  v1 v2 u1 hf H16 l16 ls cc ss hW hcc hss hl
    unfold f_X6_find_16 at hf
    refine lv_iconst (v := 1) S.1 S.2.1 dX6_find_16 (by decide) ?_
    obtain ⟨z5, hz, hf⟩ := ob hf
    refine pk_cVI (As := [.int u1, .int 1]) (rest := []) S hK hST hW (c_X6_start hI u1 1 hz) mc_X6_start wd_1188 wd_1190 wd_1701 rfl np_X6_start (hI.mem (by decide)) hI.this rfl rfl hl.1 rfl (Nat.le_of_ble_eq_true rfl) dX6_find_17 ⟨by decide, by decide⟩ ⟨rmc (by omega), rms (by omega)⟩ (fun r L1 F2 H3 l4 hp hW => ?_)
    obtain ⟨rfl, hI, hF9⟩ := hp
    have hFr := hFr.tr hF9
    refine lv_if_eq (tgt := 27) S.1 S.2.1 dX6_find_20 (by decide) (fun c6 => ?_) (fun c6 => ?_)
    · have hf := (if_pos c6).symm.trans hf
      refine lv_aload_n S.1 S.2.1 dX6_find_27 rfl (lv_at hl 0 rfl) ?_
      refine lv_iconst (v := 1) S.1 S.2.1 dX6_find_28 (by decide) ?_
      refine lv_iload_n S.1 S.2.1 dX6_find_29 rfl (lv_at hl 1 rfl) ?_
      refine lv_iload_n S.1 S.2.1 dX6_find_30 rfl (lv_at hl 2 rfl) ?_
      obtain ⟨z11, hz, hf⟩ := ob hf
      refine pk_cVI (As := [.int 1, .int v1, .int v2]) (rest := []) S hK hST hW (c_X6_found hI 1 v1 v2 hz) mc_X6_found wd_1366 wd_1368 wd_1716 rfl np_X6_found (hI.mem (by decide)) hI.this rfl rfl hl.1 rfl (Nat.le_of_ble_eq_true rfl) dX6_find_31 ⟨by decide, by decide⟩ ⟨rmc (by omega), rms (by omega)⟩ (fun r L7 F8 H9 l10 hp hW => ?_)
      obtain ⟨rfl, rfl, rfl⟩ := hp
      exact pk_iret S hr hlk hW (eqm (P := fun z => z.1 = z11 ∧ MI κ ζ B z.2 L1 F2 ∧ FrM L F L1 F2) ⟨rfl, hI, hFr⟩ (Option.some.inj hf)) (by omega) (by omega) dX6_find_34
    · have hf := (if_neg c6).symm.trans hf
      refine lv_iconst (v := 0) S.1 S.2.1 dX6_find_23 (by decide) ?_
      refine lv_goto (tgt := 34) S.1 S.2.1 dX6_find_24 (by decide) ?_
      exact pk_iret S hr hlk hW (eqm (P := fun z => z.1 = 0 ∧ MI κ ζ B z.2 L1 F2 ∧ FrM L F L1 F2) ⟨rfl, hI, hFr⟩ (Option.some.inj hf)) (by omega) (by omega) dX6_find_34
  unfold f_X6_find at hf
  refine lv_aload_n S.1 S.2.1 dX6_find_0 rfl (lv_at hl 0 rfl) ?_
  refine lv_iload_n S.1 S.2.1 dX6_find_1 rfl (lv_at hl 1 rfl) ?_
  refine lv_iconst (v := 0) S.1 S.2.1 dX6_find_2 (by decide) ?_
  refine lv_bipush (v := 9) S.1 S.2.1 dX6_find_3 (by decide) ?_
  obtain ⟨z16, hz, hf⟩ := ob hf
  refine pk_cSI (As := [.int x1, .int 0, .int 9]) (rest := [.ref (B 0)]) S hK hST hW (c_X6_isIn  x1 0 9 hz) mc_X6_isIn wd_1185 wd_1186 np_X6_isIn rfl hl.1 rfl (Nat.le_of_ble_eq_true rfl) dX6_find_5 ⟨by decide, by decide⟩ ⟨rmc (by omega), rms (by omega)⟩ (fun r L12 F13 H14 l15 hp hW => ?_)
  obtain ⟨rfl, rfl, rfl⟩ := hp
  refine lv_if_ne (tgt := 15) S.1 S.2.1 dX6_find_8 (by decide) (fun c17 => ?_) (fun c17 => ?_)
  · have hf := (if_neg c17).symm.trans hf
    refine lv_iconst (v := 0) S.1 S.2.1 dX6_find_15 (by decide) ?_
    exact B16  x1 x2 0 hf  _ _ _ _ _ hW (by omega) (by omega) (lv_sub hl [0, 1, 2] rfl)
  · have hf := (if_pos c17).symm.trans hf
    refine lv_iconst (v := 1) S.1 S.2.1 dX6_find_11 (by decide) ?_
    refine lv_goto (tgt := 16) S.1 S.2.1 dX6_find_12 (by decide) ?_
    exact B16  x1 x2 1 hf  _ _ _ _ _ hW (by omega) (by omega) (lv_sub hl [0, 1, 2] rfl)
def f_X6_splice_80   (k80 : (MS × Int32 × Int32 × Int32) → Option (Int32 × MS)) (t : (MS × Int32 × Int32 × Int32)) : Option (Int32 × MS) := (if t.2.2.1 ≤ t.2.2.2 then (f_X6_tear t.1).bind fun z6 => some (t.2.2.1, z6) else (f_X6_go t.1 0 0).bind fun z11 => (f_X6_come z11.2 1 (t.2.1 + t.2.2.2) z11.1).bind fun z16 => nm (t.2.2.2 + 1 : Int32) fun y17 => k80 (z16, t.2.1, t.2.2.1, y17))
def f_X6_splice_45   (w45 : MS) (v1 : Int32) (u1 : Int32) : Option (Int32 × MS) := (f_X6_refuse w45 u1 2).bind fun z22 => (if z22.1 = 0 then (f_X6_size z22.2 0).bind fun z28 => (if z28 = 0 then some (0, z22.2) else (f_X6_size z22.2 1).bind fun z34 => (if v1 ≤ z34 then lpn (f_X6_splice_80 ) 24 (z22.2, v1, z28, 0) else some ((-9), z22.2))) else some (0, z22.2))
def f_X6_splice_16 (τ : MS)  (v1 : Int32) (u1 : Int32) : Option (Int32 × MS) := (f_X6_start τ u1 1).bind fun z40 => (if z40.1 = 0 then (f_X6_size z40.2 0).bind fun z46 => (f_X6_size z40.2 1).bind fun z51 => (if (z46 + z51) ≤ 20 then f_X6_splice_45 z40.2 v1 0 else f_X6_splice_45 z40.2 v1 1) else some (0, z40.2))
def f_X6_splice (τ : MS) (x1 : Int32) : Option (Int32 × MS) := (f_X6_isIn x1 0 20).bind fun z57 => (if z57 = 0 then f_X6_splice_16 τ x1 1 else f_X6_splice_16 τ x1 0)
theorem mc_X6_splice : MCode yX6_splice cX6_splice 4 (some .int) := ⟨wd_1460, wd_5, by decide, by decide⟩
theorem np_X6_splice : (parseMethodDescriptor yX6_splice.desc).map (fun d => d.parameters.length) = some 1 := by decide +kernel
set_option maxHeartbeats 4000000 in
set_option maxRecDepth 100000 in
theorem c_X6_splice {l : Launch} {D : va_G} {κ : Nat → ClassId} {ζ : Nat → Nat} {L : List Nat} {F : Nat → va_E} {τ : MS} {B : Nat → Nat} (hI : MI κ ζ B τ L F) (x1 : Int32) {res : (Int32 × MS)} (hf : f_X6_splice τ x1 = some res) : MtI l D cls (ty5 κ) ζ yX6_splice cX6_splice 4 (some .int) 9 48 1584 ([.ref (B 0), .int x1] : List Value) L F (fun r L' F' => res.1 = r ∧ MI κ ζ B res.2 L' F' ∧ FrM L F L' F') := by
  refine MtI.of (by decide) (Nat.le_of_ble_eq_true rfl) ?_
  intro p e s m below meth c S hr hlk _ hK hW hST ls hl
  have hl : lv_has ls 4 [(0, .ref (B 0)), (1, .int x1)] := hl
  have hFr : FrM L F L F := FrM.rf
  have B80 : ∀  (N : Nat), (∀ (w80 : MS) (v1 : Int32) (v2 : Int32) (v3 : Int32), (lpn (f_X6_splice_80 ) N) (w80, v1, v2, v3) = some res → ∀ (K80 : List Nat) (G80 : Nat → va_E), MI κ ζ B w80 K80 G80 → FrM L F K80 G80 → ∀ (H80 : Heap) (l80 : List Loc) (ls : Array Slot) (cc ss : Nat), HW D cls L s H80 l80 K80 G80 → cc + (N * 2 + 0) ≤ 48 → ss ≤ 33 * cc → lv_has ls 4 [(0, .ref (B 0)), (1, .int v1), (2, .int v2), (3, .int v3)] → W p l e (Rm 9 48 1584) s m ([.ref (B 0), .int x1] : List Value).toArray below meth c H80 l80 cc ss (EnI D cls s below ([.ref (B 0), .int x1] : List Value).toArray 48 1584 L (fun r L' F' => res.1 = r ∧ MI κ ζ B res.2 L' F' ∧ FrM L F L' F')) (F0 m 80 ls [])) := by
    intro  N
    induction N with
    | zero => intro w80 v1 v2 v3 hf K80 G80 hI hFr H80 l80 ls cc ss hW hcc hss hl; cases hf
    | succ N ih =>
      intro w80 v1 v2 v3 hf K80 G80 hI hFr H80 l80 ls cc ss hW hcc hss hl
      have hf : f_X6_splice_80  (lpn (f_X6_splice_80 ) N) (w80, v1, v2, v3) = some res := hf
      generalize lpn (f_X6_splice_80 ) N = k80 at hf ih
      have hnd80 : 0 ≤ N * 2 + 0 := by omega
      have hcc : cc + (2 + (N * 2 + 0)) ≤ 48 := by omega
      have hk80 := ih
      generalize N * 2 + 0 = nd80 at hnd80 hcc hk80
      unfold f_X6_splice_80 at hf
      try dsimp only at hf
      refine lv_iload_n S.1 S.2.1 dX6_splice_80 rfl (lv_at hl 3 rfl) ?_
      refine lv_iload_n S.1 S.2.1 dX6_splice_81 rfl (lv_at hl 2 rfl) ?_
      refine lv_icmp_ge (tgt := 105) S.1 S.2.1 dX6_splice_82 (by decide) (fun c1 => ?_) (fun c1 => ?_)
      · have hf := (if_pos c1).symm.trans hf
        refine lv_aload_n S.1 S.2.1 dX6_splice_105 rfl (lv_at hl 0 rfl) ?_
        obtain ⟨z6, hz, hf⟩ := ob hf
        refine pk_cVV (As := []) (rest := []) S hK hST hW (c_X6_tear hI  hz) mc_X6_tear wd_1373 wd_1375 wd_1717 rfl np_X6_tear (hI.mem (by decide)) hI.this rfl rfl hl.1 rfl (Nat.le_of_ble_eq_true rfl) dX6_splice_106 ⟨by decide, by decide⟩ ⟨rmc (by omega), rms (by omega)⟩ (fun L2 F3 H4 l5 hp hW => ?_)
        obtain ⟨hI, hF9⟩ := hp
        have hFr := hFr.tr hF9
        refine lv_iload_n S.1 S.2.1 dX6_splice_109 rfl (lv_at hl 2 rfl) ?_
        exact pk_iret S hr hlk hW (eqm (P := fun z => z.1 = v2 ∧ MI κ ζ B z.2 L2 F3 ∧ FrM L F L2 F3) ⟨rfl, hI, hFr⟩ (Option.some.inj hf)) (by omega) (by omega) dX6_splice_110
      · have hf := (if_neg c1).symm.trans hf
        refine lv_aload_n S.1 S.2.1 dX6_splice_85 rfl (lv_at hl 0 rfl) ?_
        refine lv_iconst (v := 1) S.1 S.2.1 dX6_splice_86 (by decide) ?_
        refine lv_iload_n S.1 S.2.1 dX6_splice_87 rfl (lv_at hl 1 rfl) ?_
        refine lv_iload_n S.1 S.2.1 dX6_splice_88 rfl (lv_at hl 3 rfl) ?_
        refine lv_iadd S.1 S.2.1 dX6_splice_89 ?_
        refine lv_aload_n S.1 S.2.1 dX6_splice_90 rfl (lv_at hl 0 rfl) ?_
        refine lv_iconst (v := 0) S.1 S.2.1 dX6_splice_91 (by decide) ?_
        refine lv_iconst (v := 0) S.1 S.2.1 dX6_splice_92 (by decide) ?_
        obtain ⟨z11, hz, hf⟩ := ob hf
        refine pk_cVI (As := [.int 0, .int 0]) (rest := [.int (v1 + v3), .int 1, .ref (B 0)]) S hK hST hW (c_X6_go hI 0 0 hz) mc_X6_go wd_1329 wd_1331 wd_1714 rfl np_X6_go (hI.mem (by decide)) hI.this rfl rfl hl.1 rfl (Nat.le_of_ble_eq_true rfl) dX6_splice_93 ⟨by decide, by decide⟩ ⟨rmc (by omega), rms (by omega)⟩ (fun r L7 F8 H9 l10 hp hW => ?_)
        obtain ⟨rfl, hI, hF9⟩ := hp
        have hFr := hFr.tr hF9
        obtain ⟨z16, hz, hf⟩ := ob hf
        refine pk_cVV (As := [.int 1, .int (v1 + v3), .int z11.1]) (rest := []) S hK hST hW (c_X6_come hI 1 (v1 + v3) z11.1 hz) mc_X6_come wd_1229 wd_1231 wd_1705 rfl np_X6_come (hI.mem (by decide)) hI.this rfl rfl hl.1 rfl (Nat.le_of_ble_eq_true rfl) dX6_splice_96 ⟨by decide, by decide⟩ ⟨rmc (by omega), rms (by omega)⟩ (fun L12 F13 H14 l15 hp hW => ?_)
        obtain ⟨hI, hF9⟩ := hp
        have hFr := hFr.tr hF9
        obtain ⟨y17, ey17⟩ : ∃ y : Int32, y = v3 + 1 := ⟨_, rfl⟩
        have hf := nm_at hf ey17
        refine lv_iinc (v := y17) (lv' := [(3, .int y17), (0, .ref (B 0)), (1, .int v1), (2, .int v2)]) S.1 S.2.1 dX6_splice_99 hl (k := 3) rfl (by rw [ey17]; rfl) (by decide) rfl (fun ls hl => ?_)
        refine lv_goto (tgt := 80) S.1 S.2.1 dX6_splice_102 (by decide) ?_
        exact hk80 z16 v1 v2 y17 hf L12 F13 hI hFr _ _ _ _ _ hW (by omega) (by omega) (lv_sub hl [1, 2, 3, 0] rfl)
  have B45 : ∀  (w45 : MS) (v1 : Int32) (u1 : Int32), f_X6_splice_45 w45 v1 u1 = some res → ∀ (K45 : List Nat) (G45 : Nat → va_E), MI κ ζ B w45 K45 G45 → FrM L F K45 G45 → ∀ (H45 : Heap) (l45 : List Loc) (ls : Array Slot) (cc ss : Nat), HW D cls L s H45 l45 K45 G45 → cc + (48) ≤ 48 → ss ≤ 33 * cc → lv_has ls 4 [(0, .ref (B 0)), (1, .int v1)] → W p l e (Rm 9 48 1584) s m ([.ref (B 0), .int x1] : List Value).toArray below meth c H45 l45 cc ss (EnI D cls s below ([.ref (B 0), .int x1] : List Value).toArray 48 1584 L (fun r L' F' => res.1 = r ∧ MI κ ζ B res.2 L' F' ∧ FrM L F L' F')) (F0 m 45 ls [.int u1, .ref (B 0)]) := by
    intro  w45 v1 u1 hf K45 G45 hI hFr H45 l45 ls cc ss hW hcc hss hl
    unfold f_X6_splice_45 at hf
    refine lv_iconst (v := 2) S.1 S.2.1 dX6_splice_45 (by decide) ?_
    obtain ⟨z22, hz, hf⟩ := ob hf
    refine pk_cVI (As := [.int u1, .int 2]) (rest := []) S hK hST hW (c_X6_refuse hI u1 2 hz) mc_X6_refuse wd_1192 wd_1194 wd_1702 rfl np_X6_refuse (hI.mem (by decide)) hI.this rfl rfl hl.1 rfl (Nat.le_of_ble_eq_true rfl) dX6_splice_46 ⟨by decide, by decide⟩ ⟨rmc (by omega), rms (by omega)⟩ (fun r L18 F19 H20 l21 hp hW => ?_)
    obtain ⟨rfl, hI, hF9⟩ := hp
    have hFr := hFr.tr hF9
    refine lv_if_eq (tgt := 54) S.1 S.2.1 dX6_splice_49 (by decide) (fun c23 => ?_) (fun c23 => ?_)
    · have hf := (if_pos c23).symm.trans hf
      refine lv_aload_n S.1 S.2.1 dX6_splice_54 rfl (lv_at hl 0 rfl) ?_
      refine lv_iconst (v := 0) S.1 S.2.1 dX6_splice_55 (by decide) ?_
      obtain ⟨z28, hz, hf⟩ := ob hf
      refine pk_cVI (As := [.int 0]) (rest := []) S hK hST hW (c_X6_size hI 0 hz) mc_X6_size wd_1199 wd_1201 wd_1703 rfl np_X6_size (hI.mem (by decide)) hI.this rfl rfl hl.1 rfl (Nat.le_of_ble_eq_true rfl) dX6_splice_56 ⟨by decide, by decide⟩ ⟨rmc (by omega), rms (by omega)⟩ (fun r L24 F25 H26 l27 hp hW => ?_)
      obtain ⟨rfl, rfl, rfl⟩ := hp
      refine lv_istore_n (lv' := [(2, .int z28), (0, .ref (B 0)), (1, .int v1)]) S.1 S.2.1 dX6_splice_59 rfl hl (by decide) rfl (fun ls hl => ?_)
      refine lv_iload_n S.1 S.2.1 dX6_splice_60 rfl (lv_at hl 0 rfl) ?_
      refine lv_if_ne (tgt := 66) S.1 S.2.1 dX6_splice_61 (by decide) (fun c29 => ?_) (fun c29 => ?_)
      · have hf := (if_neg c29).symm.trans hf
        refine lv_iload_n S.1 S.2.1 dX6_splice_66 rfl (lv_at hl 2 rfl) ?_
        refine lv_aload_n S.1 S.2.1 dX6_splice_67 rfl (lv_at hl 1 rfl) ?_
        refine lv_iconst (v := 1) S.1 S.2.1 dX6_splice_68 (by decide) ?_
        obtain ⟨z34, hz, hf⟩ := ob hf
        refine pk_cVI (As := [.int 1]) (rest := [.int v1]) S hK hST hW (c_X6_size hI 1 hz) mc_X6_size wd_1199 wd_1201 wd_1703 rfl np_X6_size (hI.mem (by decide)) hI.this rfl rfl hl.1 rfl (Nat.le_of_ble_eq_true rfl) dX6_splice_69 ⟨by decide, by decide⟩ ⟨rmc (by omega), rms (by omega)⟩ (fun r L30 F31 H32 l33 hp hW => ?_)
        obtain ⟨rfl, rfl, rfl⟩ := hp
        refine lv_icmp_le (tgt := 78) S.1 S.2.1 dX6_splice_72 (by decide) (fun c35 => ?_) (fun c35 => ?_)
        · have hf := (if_pos c35).symm.trans hf
          refine lv_iconst (v := 0) S.1 S.2.1 dX6_splice_78 (by decide) ?_
          refine lv_istore_n (lv' := [(3, .int 0), (2, .int z28), (0, .ref (B 0)), (1, .int v1)]) S.1 S.2.1 dX6_splice_79 rfl hl (by decide) rfl (fun ls hl => ?_)
          exact B80  24 z22.2 v1 z28 0 hf L18 F19 hI hFr _ _ _ _ _ hW (by omega) (by omega) (lv_sub hl [2, 3, 1, 0] rfl)
        · have hf := (if_neg c35).symm.trans hf
          refine lv_bipush (v := (-9)) S.1 S.2.1 dX6_splice_75 (by decide) ?_
          exact pk_iret S hr hlk hW (eqm (P := fun z => z.1 = (-9) ∧ MI κ ζ B z.2 L18 F19 ∧ FrM L F L18 F19) ⟨rfl, hI, hFr⟩ (Option.some.inj hf)) (by omega) (by omega) dX6_splice_77
      · have hf := (if_pos c29).symm.trans hf
        refine lv_iconst (v := 0) S.1 S.2.1 dX6_splice_64 (by decide) ?_
        exact pk_iret S hr hlk hW (eqm (P := fun z => z.1 = 0 ∧ MI κ ζ B z.2 L18 F19 ∧ FrM L F L18 F19) ⟨rfl, hI, hFr⟩ (Option.some.inj hf)) (by omega) (by omega) dX6_splice_65
    · have hf := (if_neg c23).symm.trans hf
      refine lv_iconst (v := 0) S.1 S.2.1 dX6_splice_52 (by decide) ?_
      exact pk_iret S hr hlk hW (eqm (P := fun z => z.1 = 0 ∧ MI κ ζ B z.2 L18 F19 ∧ FrM L F L18 F19) ⟨rfl, hI, hFr⟩ (Option.some.inj hf)) (by omega) (by omega) dX6_splice_53
  have B16 : ∀  (v1 : Int32) (u1 : Int32), f_X6_splice_16 τ v1 u1 = some res → ∀ (H16 : Heap) (l16 : List Loc) (ls : Array Slot) (cc ss : Nat), HW D cls L s H16 l16 L F → cc + (48) ≤ 48 → ss ≤ 33 * cc → lv_has ls 4 [(0, .ref (B 0)), (1, .int v1)] → W p l e (Rm 9 48 1584) s m ([.ref (B 0), .int x1] : List Value).toArray below meth c H16 l16 cc ss (EnI D cls s below ([.ref (B 0), .int x1] : List Value).toArray 48 1584 L (fun r L' F' => res.1 = r ∧ MI κ ζ B res.2 L' F' ∧ FrM L F L' F')) (F0 m 16 ls [.int u1, .ref (B 0)]) := by
    intro  v1 u1 hf H16 l16 ls cc ss hW hcc hss hl
    unfold f_X6_splice_16 at hf
    refine lv_iconst (v := 1) S.1 S.2.1 dX6_splice_16 (by decide) ?_
    obtain ⟨z40, hz, hf⟩ := ob hf
    refine pk_cVI (As := [.int u1, .int 1]) (rest := []) S hK hST hW (c_X6_start hI u1 1 hz) mc_X6_start wd_1188 wd_1190 wd_1701 rfl np_X6_start (hI.mem (by decide)) hI.this rfl rfl hl.1 rfl (Nat.le_of_ble_eq_true rfl) dX6_splice_17 ⟨by decide, by decide⟩ ⟨rmc (by omega), rms (by omega)⟩ (fun r L36 F37 H38 l39 hp hW => ?_)
    obtain ⟨rfl, hI, hF9⟩ := hp
    have hFr := hFr.tr hF9
    refine lv_if_ne (tgt := 52) S.1 S.2.1 dX6_splice_20 (by decide) (fun c41 => ?_) (fun c41 => ?_)
    · have hf := (if_neg c41).symm.trans hf
      refine lv_iconst (v := 0) S.1 S.2.1 dX6_splice_52 (by decide) ?_
      exact pk_iret S hr hlk hW (eqm (P := fun z => z.1 = 0 ∧ MI κ ζ B z.2 L36 F37 ∧ FrM L F L36 F37) ⟨rfl, hI, hFr⟩ (Option.some.inj hf)) (by omega) (by omega) dX6_splice_53
    · have hf := (if_pos c41).symm.trans hf
      refine lv_aload_n S.1 S.2.1 dX6_splice_23 rfl (lv_at hl 0 rfl) ?_
      refine lv_aload_n S.1 S.2.1 dX6_splice_24 rfl (lv_at hl 0 rfl) ?_
      refine lv_iconst (v := 0) S.1 S.2.1 dX6_splice_25 (by decide) ?_
      obtain ⟨z46, hz, hf⟩ := ob hf
      refine pk_cVI (As := [.int 0]) (rest := [.ref (B 0)]) S hK hST hW (c_X6_size hI 0 hz) mc_X6_size wd_1199 wd_1201 wd_1703 rfl np_X6_size (hI.mem (by decide)) hI.this rfl rfl hl.1 rfl (Nat.le_of_ble_eq_true rfl) dX6_splice_26 ⟨by decide, by decide⟩ ⟨rmc (by omega), rms (by omega)⟩ (fun r L42 F43 H44 l45 hp hW => ?_)
      obtain ⟨rfl, rfl, rfl⟩ := hp
      refine lv_aload_n S.1 S.2.1 dX6_splice_29 rfl (lv_at hl 0 rfl) ?_
      refine lv_iconst (v := 1) S.1 S.2.1 dX6_splice_30 (by decide) ?_
      obtain ⟨z51, hz, hf⟩ := ob hf
      refine pk_cVI (As := [.int 1]) (rest := [.int z46, .ref (B 0)]) S hK hST hW (c_X6_size hI 1 hz) mc_X6_size wd_1199 wd_1201 wd_1703 rfl np_X6_size (hI.mem (by decide)) hI.this rfl rfl hl.1 rfl (Nat.le_of_ble_eq_true rfl) dX6_splice_31 ⟨by decide, by decide⟩ ⟨rmc (by omega), rms (by omega)⟩ (fun r L47 F48 H49 l50 hp hW => ?_)
      obtain ⟨rfl, rfl, rfl⟩ := hp
      refine lv_iadd S.1 S.2.1 dX6_splice_34 ?_
      refine lv_bipush (v := 20) S.1 S.2.1 dX6_splice_35 (by decide) ?_
      refine lv_icmp_le (tgt := 44) S.1 S.2.1 dX6_splice_37 (by decide) (fun c52 => ?_) (fun c52 => ?_)
      · have hf := (if_pos c52).symm.trans hf
        refine lv_iconst (v := 0) S.1 S.2.1 dX6_splice_44 (by decide) ?_
        exact B45  z40.2 v1 0 hf L36 F37 hI hFr _ _ _ _ _ hW (by omega) (by omega) (lv_sub hl [0, 1] rfl)
      · have hf := (if_neg c52).symm.trans hf
        refine lv_iconst (v := 1) S.1 S.2.1 dX6_splice_40 (by decide) ?_
        refine lv_goto (tgt := 45) S.1 S.2.1 dX6_splice_41 (by decide) ?_
        exact B45  z40.2 v1 1 hf L36 F37 hI hFr _ _ _ _ _ hW (by omega) (by omega) (lv_sub hl [0, 1] rfl)
  unfold f_X6_splice at hf
  refine lv_aload_n S.1 S.2.1 dX6_splice_0 rfl (lv_at hl 0 rfl) ?_
  refine lv_iload_n S.1 S.2.1 dX6_splice_1 rfl (lv_at hl 1 rfl) ?_
  refine lv_iconst (v := 0) S.1 S.2.1 dX6_splice_2 (by decide) ?_
  refine lv_bipush (v := 20) S.1 S.2.1 dX6_splice_3 (by decide) ?_
  obtain ⟨z57, hz, hf⟩ := ob hf
  refine pk_cSI (As := [.int x1, .int 0, .int 20]) (rest := [.ref (B 0)]) S hK hST hW (c_X6_isIn  x1 0 20 hz) mc_X6_isIn wd_1185 wd_1186 np_X6_isIn rfl hl.1 rfl (Nat.le_of_ble_eq_true rfl) dX6_splice_5 ⟨by decide, by decide⟩ ⟨rmc (by omega), rms (by omega)⟩ (fun r L53 F54 H55 l56 hp hW => ?_)
  obtain ⟨rfl, rfl, rfl⟩ := hp
  refine lv_if_ne (tgt := 15) S.1 S.2.1 dX6_splice_8 (by decide) (fun c58 => ?_) (fun c58 => ?_)
  · have hf := (if_neg c58).symm.trans hf
    refine lv_iconst (v := 0) S.1 S.2.1 dX6_splice_15 (by decide) ?_
    exact B16  x1 0 hf  _ _ _ _ _ hW (by omega) (by omega) (lv_sub hl [0, 1] rfl)
  · have hf := (if_pos c58).symm.trans hf
    refine lv_iconst (v := 1) S.1 S.2.1 dX6_splice_11 (by decide) ?_
    refine lv_goto (tgt := 16) S.1 S.2.1 dX6_splice_12 (by decide) ?_
    exact B16  x1 1 hf  _ _ _ _ _ hW (by omega) (by omega) (lv_sub hl [0, 1] rfl)
def f_X6_shunt_126  (k90 : (MS × Int32 × Int32 × Int32) → Option (Int32 × MS)) (w126 : MS) (v1 : Int32) (v3 : Int32) (v4 : Int32) : Option (Int32 × MS) := nm (v4 + (-1) : Int32) fun y1 => k90 (w126, v1, v3, y1)
def f_X6_shunt_90   (k90 : (MS × Int32 × Int32 × Int32) → Option (Int32 × MS)) (t : (MS × Int32 × Int32 × Int32)) : Option (Int32 × MS) := (if t.2.2.2 ≤ 0 then (f_X6_tear t.1).bind fun z7 => some (t.2.2.1, z7) else (f_X6_go t.1 1 t.2.1).bind fun z12 => (if z12.1 = 0 then f_X6_shunt_126 k90 z12.2 t.2.1 t.2.2.1 t.2.2.2 else (f_X6_size z12.2 0).bind fun z18 => (f_X6_come z12.2 0 z18 z12.1).bind fun z23 => nm (t.2.2.1 + 1 : Int32) fun y24 => f_X6_shunt_126 k90 z23 t.2.1 y24 t.2.2.2))
def f_X6_shunt_54   (w54 : MS) (v1 : Int32) (v2 : Int32) (u1 : Int32) : Option (Int32 × MS) := (f_X6_refuse w54 u1 3).bind fun z29 => (if z29.1 = 0 then (f_X6_size z29.2 1).bind fun z35 => (if v1 < z35 then (f_X6_size z29.2 1).bind fun z41 => nm (if z41 - v1 < v2 then z41 - v1 else v2 : Int32) fun y42 => lpn (f_X6_shunt_90 ) 24 (z29.2, v1, 0, y42) else some ((-9), z29.2)) else some (0, z29.2))
def f_X6_shunt_29   (w29 : MS) (v1 : Int32) (v2 : Int32) (u1 : Int32) : Option (Int32 × MS) := (f_X6_refuse w29 u1 2).bind fun z47 => (if z47.1 = 0 then (f_X6_size z47.2 0).bind fun z53 => (if (z53 + v2) ≤ 20 then f_X6_shunt_54 z47.2 v1 v2 0 else f_X6_shunt_54 z47.2 v1 v2 1) else some (0, z47.2))
def f_X6_shunt (τ : MS) (x1 : Int32) (x2 : Int32) : Option (Int32 × MS) := (f_X6_isNoPlace τ x1).bind fun z59 => (f_X6_start τ z59 1).bind fun z64 => (if z64.1 = 0 then (f_X6_isIn x2 1 20).bind fun z70 => (if z70 = 0 then f_X6_shunt_29 z64.2 x1 x2 1 else f_X6_shunt_29 z64.2 x1 x2 0) else some (0, z64.2))
theorem mc_X6_shunt : MCode yX6_shunt cX6_shunt 6 (some .int) := ⟨wd_1464, wd_5, by decide, by decide⟩
theorem np_X6_shunt : (parseMethodDescriptor yX6_shunt.desc).map (fun d => d.parameters.length) = some 2 := by decide +kernel
set_option maxHeartbeats 4000000 in
set_option maxRecDepth 100000 in
theorem c_X6_shunt {l : Launch} {D : va_G} {κ : Nat → ClassId} {ζ : Nat → Nat} {L : List Nat} {F : Nat → va_E} {τ : MS} {B : Nat → Nat} (hI : MI κ ζ B τ L F) (x1 : Int32) (x2 : Int32) {res : (Int32 × MS)} (hf : f_X6_shunt τ x1 x2 = some res) : MtI l D cls (ty5 κ) ζ yX6_shunt cX6_shunt 6 (some .int) 9 48 1584 ([.ref (B 0), .int x1, .int x2] : List Value) L F (fun r L' F' => res.1 = r ∧ MI κ ζ B res.2 L' F' ∧ FrM L F L' F') := by
  refine MtI.of (by decide) (Nat.le_of_ble_eq_true rfl) ?_
  intro p e s m below meth c S hr hlk _ hK hW hST ls hl
  have hl : lv_has ls 6 [(0, .ref (B 0)), (1, .int x1), (2, .int x2)] := hl
  have hFr : FrM L F L F := FrM.rf
  have B126 : ∀ (k90 : (MS × Int32 × Int32 × Int32) → Option (Int32 × MS)) (nd90 : Nat) (hk90 : (∀ (w90 : MS) (v1 : Int32) (v3 : Int32) (v4 : Int32), k90 (w90, v1, v3, v4) = some res → ∀ (K90 : List Nat) (G90 : Nat → va_E), MI κ ζ B w90 K90 G90 → FrM L F K90 G90 → ∀ (H90 : Heap) (l90 : List Loc) (ls : Array Slot) (cc ss : Nat), HW D cls L s H90 l90 K90 G90 → cc + (nd90) ≤ 48 → ss ≤ 33 * cc → lv_has ls 6 [(0, .ref (B 0)), (1, .int v1), (3, .int v3), (4, .int v4)] → W p l e (Rm 9 48 1584) s m ([.ref (B 0), .int x1, .int x2] : List Value).toArray below meth c H90 l90 cc ss (EnI D cls s below ([.ref (B 0), .int x1, .int x2] : List Value).toArray 48 1584 L (fun r L' F' => res.1 = r ∧ MI κ ζ B res.2 L' F' ∧ FrM L F L' F')) (F0 m 90 ls []))) (hnd90 : 0 ≤ nd90) (w126 : MS) (v1 : Int32) (v3 : Int32) (v4 : Int32), f_X6_shunt_126 k90 w126 v1 v3 v4 = some res → ∀ (K126 : List Nat) (G126 : Nat → va_E), MI κ ζ B w126 K126 G126 → FrM L F K126 G126 → ∀ (H126 : Heap) (l126 : List Loc) (ls : Array Slot) (cc ss : Nat), HW D cls L s H126 l126 K126 G126 → cc + (0 + nd90) ≤ 48 → ss ≤ 33 * cc → lv_has ls 6 [(0, .ref (B 0)), (1, .int v1), (3, .int v3), (4, .int v4)] → W p l e (Rm 9 48 1584) s m ([.ref (B 0), .int x1, .int x2] : List Value).toArray below meth c H126 l126 cc ss (EnI D cls s below ([.ref (B 0), .int x1, .int x2] : List Value).toArray 48 1584 L (fun r L' F' => res.1 = r ∧ MI κ ζ B res.2 L' F' ∧ FrM L F L' F')) (F0 m 126 ls []) := by
    intro k90 nd90 hk90 hnd90 w126 v1 v3 v4 hf K126 G126 hI hFr H126 l126 ls cc ss hW hcc hss hl
    unfold f_X6_shunt_126 at hf
    obtain ⟨y1, ey1⟩ : ∃ y : Int32, y = v4 + (-1) := ⟨_, rfl⟩
    have hf := nm_at hf ey1
    refine lv_iinc (v := y1) (lv' := [(4, .int y1), (0, .ref (B 0)), (1, .int v1), (3, .int v3)]) S.1 S.2.1 dX6_shunt_126 hl (k := 3) rfl (by rw [ey1]; rfl) (by decide) rfl (fun ls hl => ?_)
    refine lv_goto (tgt := 90) S.1 S.2.1 dX6_shunt_129 (by decide) ?_
    exact hk90 w126 v1 v3 y1 hf K126 G126 hI hFr _ _ _ _ _ hW (by omega) (by omega) (lv_sub hl [1, 2, 3, 0] rfl)
  have B90 : ∀  (N : Nat), (∀ (w90 : MS) (v1 : Int32) (v3 : Int32) (v4 : Int32), (lpn (f_X6_shunt_90 ) N) (w90, v1, v3, v4) = some res → ∀ (K90 : List Nat) (G90 : Nat → va_E), MI κ ζ B w90 K90 G90 → FrM L F K90 G90 → ∀ (H90 : Heap) (l90 : List Loc) (ls : Array Slot) (cc ss : Nat), HW D cls L s H90 l90 K90 G90 → cc + (N * 2 + 0) ≤ 48 → ss ≤ 33 * cc → lv_has ls 6 [(0, .ref (B 0)), (1, .int v1), (3, .int v3), (4, .int v4)] → W p l e (Rm 9 48 1584) s m ([.ref (B 0), .int x1, .int x2] : List Value).toArray below meth c H90 l90 cc ss (EnI D cls s below ([.ref (B 0), .int x1, .int x2] : List Value).toArray 48 1584 L (fun r L' F' => res.1 = r ∧ MI κ ζ B res.2 L' F' ∧ FrM L F L' F')) (F0 m 90 ls [])) := by
    intro  N
    induction N with
    | zero => intro w90 v1 v3 v4 hf K90 G90 hI hFr H90 l90 ls cc ss hW hcc hss hl; cases hf
    | succ N ih =>
      intro w90 v1 v3 v4 hf K90 G90 hI hFr H90 l90 ls cc ss hW hcc hss hl
      have hf : f_X6_shunt_90  (lpn (f_X6_shunt_90 ) N) (w90, v1, v3, v4) = some res := hf
      generalize lpn (f_X6_shunt_90 ) N = k90 at hf ih
      have hnd90 : 0 ≤ N * 2 + 0 := by omega
      have hcc : cc + (2 + (N * 2 + 0)) ≤ 48 := by omega
      have hk90 := ih
      generalize N * 2 + 0 = nd90 at hnd90 hcc hk90
      unfold f_X6_shunt_90 at hf
      try dsimp only at hf
      refine lv_iload S.1 S.2.1 dX6_shunt_90 (lv_at hl 3 rfl) ?_
      refine lv_if_le (tgt := 132) S.1 S.2.1 dX6_shunt_92 (by decide) (fun c2 => ?_) (fun c2 => ?_)
      · have hf := (if_pos c2).symm.trans hf
        refine lv_aload_n S.1 S.2.1 dX6_shunt_132 rfl (lv_at hl 0 rfl) ?_
        obtain ⟨z7, hz, hf⟩ := ob hf
        refine pk_cVV (As := []) (rest := []) S hK hST hW (c_X6_tear hI  hz) mc_X6_tear wd_1373 wd_1375 wd_1717 rfl np_X6_tear (hI.mem (by decide)) hI.this rfl rfl hl.1 rfl (Nat.le_of_ble_eq_true rfl) dX6_shunt_133 ⟨by decide, by decide⟩ ⟨rmc (by omega), rms (by omega)⟩ (fun L3 F4 H5 l6 hp hW => ?_)
        obtain ⟨hI, hF9⟩ := hp
        have hFr := hFr.tr hF9
        refine lv_iload_n S.1 S.2.1 dX6_shunt_136 rfl (lv_at hl 2 rfl) ?_
        exact pk_iret S hr hlk hW (eqm (P := fun z => z.1 = v3 ∧ MI κ ζ B z.2 L3 F4 ∧ FrM L F L3 F4) ⟨rfl, hI, hFr⟩ (Option.some.inj hf)) (by omega) (by omega) dX6_shunt_137
      · have hf := (if_neg c2).symm.trans hf
        refine lv_aload_n S.1 S.2.1 dX6_shunt_95 rfl (lv_at hl 0 rfl) ?_
        refine lv_iconst (v := 1) S.1 S.2.1 dX6_shunt_96 (by decide) ?_
        refine lv_iload_n S.1 S.2.1 dX6_shunt_97 rfl (lv_at hl 1 rfl) ?_
        obtain ⟨z12, hz, hf⟩ := ob hf
        refine pk_cVI (As := [.int 1, .int v1]) (rest := []) S hK hST hW (c_X6_go hI 1 v1 hz) mc_X6_go wd_1329 wd_1331 wd_1714 rfl np_X6_go (hI.mem (by decide)) hI.this rfl rfl hl.1 rfl (Nat.le_of_ble_eq_true rfl) dX6_shunt_98 ⟨by decide, by decide⟩ ⟨rmc (by omega), rms (by omega)⟩ (fun r L8 F9 H10 l11 hp hW => ?_)
        obtain ⟨rfl, hI, hF9⟩ := hp
        have hFr := hFr.tr hF9
        refine lv_istore (lv' := [(5, .int z12.1), (0, .ref (B 0)), (1, .int v1), (3, .int v3), (4, .int v4)]) S.1 S.2.1 dX6_shunt_101 hl (by decide) rfl (fun ls hl => ?_)
        refine lv_iload S.1 S.2.1 dX6_shunt_103 (lv_at hl 0 rfl) ?_
        refine lv_if_ne (tgt := 111) S.1 S.2.1 dX6_shunt_105 (by decide) (fun c13 => ?_) (fun c13 => ?_)
        · have hf := (if_neg c13).symm.trans hf
          refine lv_aload_n S.1 S.2.1 dX6_shunt_111 rfl (lv_at hl 1 rfl) ?_
          refine lv_iconst (v := 0) S.1 S.2.1 dX6_shunt_112 (by decide) ?_
          refine lv_aload_n S.1 S.2.1 dX6_shunt_113 rfl (lv_at hl 1 rfl) ?_
          refine lv_iconst (v := 0) S.1 S.2.1 dX6_shunt_114 (by decide) ?_
          obtain ⟨z18, hz, hf⟩ := ob hf
          refine pk_cVI (As := [.int 0]) (rest := [.int 0, .ref (B 0)]) S hK hST hW (c_X6_size hI 0 hz) mc_X6_size wd_1199 wd_1201 wd_1703 rfl np_X6_size (hI.mem (by decide)) hI.this rfl rfl hl.1 rfl (Nat.le_of_ble_eq_true rfl) dX6_shunt_115 ⟨by decide, by decide⟩ ⟨rmc (by omega), rms (by omega)⟩ (fun r L14 F15 H16 l17 hp hW => ?_)
          obtain ⟨rfl, rfl, rfl⟩ := hp
          refine lv_iload S.1 S.2.1 dX6_shunt_118 (lv_at hl 0 rfl) ?_
          obtain ⟨z23, hz, hf⟩ := ob hf
          refine pk_cVV (As := [.int 0, .int z18, .int z12.1]) (rest := []) S hK hST hW (c_X6_come hI 0 z18 z12.1 hz) mc_X6_come wd_1229 wd_1231 wd_1705 rfl np_X6_come (hI.mem (by decide)) hI.this rfl rfl hl.1 rfl (Nat.le_of_ble_eq_true rfl) dX6_shunt_120 ⟨by decide, by decide⟩ ⟨rmc (by omega), rms (by omega)⟩ (fun L19 F20 H21 l22 hp hW => ?_)
          obtain ⟨hI, hF9⟩ := hp
          have hFr := hFr.tr hF9
          obtain ⟨y24, ey24⟩ : ∃ y : Int32, y = v3 + 1 := ⟨_, rfl⟩
          have hf := nm_at hf ey24
          refine lv_iinc (v := y24) (lv' := [(3, .int y24), (5, .int z12.1), (0, .ref (B 0)), (1, .int v1), (4, .int v4)]) S.1 S.2.1 dX6_shunt_123 hl (k := 3) rfl (by rw [ey24]; rfl) (by decide) rfl (fun ls hl => ?_)
          exact B126 k90 nd90 hk90 hnd90 z23 v1 y24 v4 hf L19 F20 hI hFr _ _ _ _ _ hW (by omega) (by omega) (lv_sub hl [2, 3, 0, 4] rfl)
        · have hf := (if_pos c13).symm.trans hf
          refine lv_goto (tgt := 126) S.1 S.2.1 dX6_shunt_108 (by decide) ?_
          exact B126 k90 nd90 hk90 hnd90 z12.2 v1 v3 v4 hf L8 F9 hI hFr _ _ _ _ _ hW (by omega) (by omega) (lv_sub hl [1, 2, 3, 4] rfl)
  have B54 : ∀  (w54 : MS) (v1 : Int32) (v2 : Int32) (u1 : Int32), f_X6_shunt_54 w54 v1 v2 u1 = some res → ∀ (K54 : List Nat) (G54 : Nat → va_E), MI κ ζ B w54 K54 G54 → FrM L F K54 G54 → ∀ (H54 : Heap) (l54 : List Loc) (ls : Array Slot) (cc ss : Nat), HW D cls L s H54 l54 K54 G54 → cc + (48) ≤ 48 → ss ≤ 33 * cc → lv_has ls 6 [(0, .ref (B 0)), (1, .int v1), (2, .int v2)] → W p l e (Rm 9 48 1584) s m ([.ref (B 0), .int x1, .int x2] : List Value).toArray below meth c H54 l54 cc ss (EnI D cls s below ([.ref (B 0), .int x1, .int x2] : List Value).toArray 48 1584 L (fun r L' F' => res.1 = r ∧ MI κ ζ B res.2 L' F' ∧ FrM L F L' F')) (F0 m 54 ls [.int u1, .ref (B 0)]) := by
    intro  w54 v1 v2 u1 hf K54 G54 hI hFr H54 l54 ls cc ss hW hcc hss hl
    unfold f_X6_shunt_54 at hf
    refine lv_iconst (v := 3) S.1 S.2.1 dX6_shunt_54 (by decide) ?_
    obtain ⟨z29, hz, hf⟩ := ob hf
    refine pk_cVI (As := [.int u1, .int 3]) (rest := []) S hK hST hW (c_X6_refuse hI u1 3 hz) mc_X6_refuse wd_1192 wd_1194 wd_1702 rfl np_X6_refuse (hI.mem (by decide)) hI.this rfl rfl hl.1 rfl (Nat.le_of_ble_eq_true rfl) dX6_shunt_55 ⟨by decide, by decide⟩ ⟨rmc (by omega), rms (by omega)⟩ (fun r L25 F26 H27 l28 hp hW => ?_)
    obtain ⟨rfl, hI, hF9⟩ := hp
    have hFr := hFr.tr hF9
    refine lv_if_eq (tgt := 63) S.1 S.2.1 dX6_shunt_58 (by decide) (fun c30 => ?_) (fun c30 => ?_)
    · have hf := (if_pos c30).symm.trans hf
      refine lv_iload_n S.1 S.2.1 dX6_shunt_63 rfl (lv_at hl 1 rfl) ?_
      refine lv_aload_n S.1 S.2.1 dX6_shunt_64 rfl (lv_at hl 0 rfl) ?_
      refine lv_iconst (v := 1) S.1 S.2.1 dX6_shunt_65 (by decide) ?_
      obtain ⟨z35, hz, hf⟩ := ob hf
      refine pk_cVI (As := [.int 1]) (rest := [.int v1]) S hK hST hW (c_X6_size hI 1 hz) mc_X6_size wd_1199 wd_1201 wd_1703 rfl np_X6_size (hI.mem (by decide)) hI.this rfl rfl hl.1 rfl (Nat.le_of_ble_eq_true rfl) dX6_shunt_66 ⟨by decide, by decide⟩ ⟨rmc (by omega), rms (by omega)⟩ (fun r L31 F32 H33 l34 hp hW => ?_)
      obtain ⟨rfl, rfl, rfl⟩ := hp
      refine lv_icmp_lt (tgt := 75) S.1 S.2.1 dX6_shunt_69 (by decide) (fun c36 => ?_) (fun c36 => ?_)
      · have hf := (if_pos c36).symm.trans hf
        refine lv_iconst (v := 0) S.1 S.2.1 dX6_shunt_75 (by decide) ?_
        refine lv_istore_n (lv' := [(3, .int 0), (0, .ref (B 0)), (1, .int v1), (2, .int v2)]) S.1 S.2.1 dX6_shunt_76 rfl hl (by decide) rfl (fun ls hl => ?_)
        refine lv_iload_n S.1 S.2.1 dX6_shunt_77 rfl (lv_at hl 3 rfl) ?_
        refine lv_aload_n S.1 S.2.1 dX6_shunt_78 rfl (lv_at hl 1 rfl) ?_
        refine lv_iconst (v := 1) S.1 S.2.1 dX6_shunt_79 (by decide) ?_
        obtain ⟨z41, hz, hf⟩ := ob hf
        refine pk_cVI (As := [.int 1]) (rest := [.int v2]) S hK hST hW (c_X6_size hI 1 hz) mc_X6_size wd_1199 wd_1201 wd_1703 rfl np_X6_size (hI.mem (by decide)) hI.this rfl rfl hl.1 rfl (Nat.le_of_ble_eq_true rfl) dX6_shunt_80 ⟨by decide, by decide⟩ ⟨rmc (by omega), rms (by omega)⟩ (fun r L37 F38 H39 l40 hp hW => ?_)
        obtain ⟨rfl, rfl, rfl⟩ := hp
        refine lv_iload_n S.1 S.2.1 dX6_shunt_83 rfl (lv_at hl 2 rfl) ?_
        refine lv_isub S.1 S.2.1 dX6_shunt_84 ?_
        refine va_mmin S.1 S.2.1 (S.2.2.1.trans hl.1.symm) S.2.2.2.1 (S.2.2.2.2 _ wd_1465) (S.2.2.2.2 _ wd_648) (S.2.2.2.2 _ wd_11) (S.2.2.2.2 _ wd_649) (by decide) (Nat.le_of_ble_eq_true rfl) (rmc (by omega)) (rms (by omega)) dX6_shunt_85 ?_
        refine lv_topi (fun y42 ey42 => ?_)
        have hf := nm_at hf ey42
        refine lv_istore (lv' := [(4, .int y42), (3, .int 0), (0, .ref (B 0)), (1, .int v1), (2, .int v2)]) S.1 S.2.1 dX6_shunt_88 hl (by decide) rfl (fun ls hl => ?_)
        exact B90  24 z29.2 v1 0 y42 hf L25 F26 hI hFr _ _ _ _ _ hW (by omega) (by omega) (lv_sub hl [2, 3, 1, 0] rfl)
      · have hf := (if_neg c36).symm.trans hf
        refine lv_bipush (v := (-9)) S.1 S.2.1 dX6_shunt_72 (by decide) ?_
        exact pk_iret S hr hlk hW (eqm (P := fun z => z.1 = (-9) ∧ MI κ ζ B z.2 L25 F26 ∧ FrM L F L25 F26) ⟨rfl, hI, hFr⟩ (Option.some.inj hf)) (by omega) (by omega) dX6_shunt_74
    · have hf := (if_neg c30).symm.trans hf
      refine lv_iconst (v := 0) S.1 S.2.1 dX6_shunt_61 (by decide) ?_
      exact pk_iret S hr hlk hW (eqm (P := fun z => z.1 = 0 ∧ MI κ ζ B z.2 L25 F26 ∧ FrM L F L25 F26) ⟨rfl, hI, hFr⟩ (Option.some.inj hf)) (by omega) (by omega) dX6_shunt_62
  have B29 : ∀  (w29 : MS) (v1 : Int32) (v2 : Int32) (u1 : Int32), f_X6_shunt_29 w29 v1 v2 u1 = some res → ∀ (K29 : List Nat) (G29 : Nat → va_E), MI κ ζ B w29 K29 G29 → FrM L F K29 G29 → ∀ (H29 : Heap) (l29 : List Loc) (ls : Array Slot) (cc ss : Nat), HW D cls L s H29 l29 K29 G29 → cc + (48) ≤ 48 → ss ≤ 33 * cc → lv_has ls 6 [(0, .ref (B 0)), (1, .int v1), (2, .int v2)] → W p l e (Rm 9 48 1584) s m ([.ref (B 0), .int x1, .int x2] : List Value).toArray below meth c H29 l29 cc ss (EnI D cls s below ([.ref (B 0), .int x1, .int x2] : List Value).toArray 48 1584 L (fun r L' F' => res.1 = r ∧ MI κ ζ B res.2 L' F' ∧ FrM L F L' F')) (F0 m 29 ls [.int u1, .ref (B 0)]) := by
    intro  w29 v1 v2 u1 hf K29 G29 hI hFr H29 l29 ls cc ss hW hcc hss hl
    unfold f_X6_shunt_29 at hf
    refine lv_iconst (v := 2) S.1 S.2.1 dX6_shunt_29 (by decide) ?_
    obtain ⟨z47, hz, hf⟩ := ob hf
    refine pk_cVI (As := [.int u1, .int 2]) (rest := []) S hK hST hW (c_X6_refuse hI u1 2 hz) mc_X6_refuse wd_1192 wd_1194 wd_1702 rfl np_X6_refuse (hI.mem (by decide)) hI.this rfl rfl hl.1 rfl (Nat.le_of_ble_eq_true rfl) dX6_shunt_30 ⟨by decide, by decide⟩ ⟨rmc (by omega), rms (by omega)⟩ (fun r L43 F44 H45 l46 hp hW => ?_)
    obtain ⟨rfl, hI, hF9⟩ := hp
    have hFr := hFr.tr hF9
    refine lv_if_ne (tgt := 61) S.1 S.2.1 dX6_shunt_33 (by decide) (fun c48 => ?_) (fun c48 => ?_)
    · have hf := (if_neg c48).symm.trans hf
      refine lv_iconst (v := 0) S.1 S.2.1 dX6_shunt_61 (by decide) ?_
      exact pk_iret S hr hlk hW (eqm (P := fun z => z.1 = 0 ∧ MI κ ζ B z.2 L43 F44 ∧ FrM L F L43 F44) ⟨rfl, hI, hFr⟩ (Option.some.inj hf)) (by omega) (by omega) dX6_shunt_62
    · have hf := (if_pos c48).symm.trans hf
      refine lv_aload_n S.1 S.2.1 dX6_shunt_36 rfl (lv_at hl 0 rfl) ?_
      refine lv_aload_n S.1 S.2.1 dX6_shunt_37 rfl (lv_at hl 0 rfl) ?_
      refine lv_iconst (v := 0) S.1 S.2.1 dX6_shunt_38 (by decide) ?_
      obtain ⟨z53, hz, hf⟩ := ob hf
      refine pk_cVI (As := [.int 0]) (rest := [.ref (B 0)]) S hK hST hW (c_X6_size hI 0 hz) mc_X6_size wd_1199 wd_1201 wd_1703 rfl np_X6_size (hI.mem (by decide)) hI.this rfl rfl hl.1 rfl (Nat.le_of_ble_eq_true rfl) dX6_shunt_39 ⟨by decide, by decide⟩ ⟨rmc (by omega), rms (by omega)⟩ (fun r L49 F50 H51 l52 hp hW => ?_)
      obtain ⟨rfl, rfl, rfl⟩ := hp
      refine lv_iload_n S.1 S.2.1 dX6_shunt_42 rfl (lv_at hl 2 rfl) ?_
      refine lv_iadd S.1 S.2.1 dX6_shunt_43 ?_
      refine lv_bipush (v := 20) S.1 S.2.1 dX6_shunt_44 (by decide) ?_
      refine lv_icmp_le (tgt := 53) S.1 S.2.1 dX6_shunt_46 (by decide) (fun c54 => ?_) (fun c54 => ?_)
      · have hf := (if_pos c54).symm.trans hf
        refine lv_iconst (v := 0) S.1 S.2.1 dX6_shunt_53 (by decide) ?_
        exact B54  z47.2 v1 v2 0 hf L43 F44 hI hFr _ _ _ _ _ hW (by omega) (by omega) (lv_sub hl [0, 1, 2] rfl)
      · have hf := (if_neg c54).symm.trans hf
        refine lv_iconst (v := 1) S.1 S.2.1 dX6_shunt_49 (by decide) ?_
        refine lv_goto (tgt := 54) S.1 S.2.1 dX6_shunt_50 (by decide) ?_
        exact B54  z47.2 v1 v2 1 hf L43 F44 hI hFr _ _ _ _ _ hW (by omega) (by omega) (lv_sub hl [0, 1, 2] rfl)
  unfold f_X6_shunt at hf
  refine lv_aload_n S.1 S.2.1 dX6_shunt_0 rfl (lv_at hl 0 rfl) ?_
  refine lv_aload_n S.1 S.2.1 dX6_shunt_1 rfl (lv_at hl 0 rfl) ?_
  refine lv_iload_n S.1 S.2.1 dX6_shunt_2 rfl (lv_at hl 1 rfl) ?_
  obtain ⟨z59, hz, hf⟩ := ob hf
  refine pk_cVI (As := [.int x1]) (rest := [.ref (B 0)]) S hK hST hW (c_X6_isNoPlace hI x1 hz) mc_X6_isNoPlace wd_1437 wd_1439 wd_1720 rfl np_X6_isNoPlace (hI.mem (by decide)) hI.this rfl rfl hl.1 rfl (Nat.le_of_ble_eq_true rfl) dX6_shunt_3 ⟨by decide, by decide⟩ ⟨rmc (by omega), rms (by omega)⟩ (fun r L55 F56 H57 l58 hp hW => ?_)
  obtain ⟨rfl, rfl, rfl⟩ := hp
  refine lv_iconst (v := 1) S.1 S.2.1 dX6_shunt_6 (by decide) ?_
  obtain ⟨z64, hz, hf⟩ := ob hf
  refine pk_cVI (As := [.int z59, .int 1]) (rest := []) S hK hST hW (c_X6_start hI z59 1 hz) mc_X6_start wd_1188 wd_1190 wd_1701 rfl np_X6_start (hI.mem (by decide)) hI.this rfl rfl hl.1 rfl (Nat.le_of_ble_eq_true rfl) dX6_shunt_7 ⟨by decide, by decide⟩ ⟨rmc (by omega), rms (by omega)⟩ (fun r L60 F61 H62 l63 hp hW => ?_)
  obtain ⟨rfl, hI, hF9⟩ := hp
  have hFr := hFr.tr hF9
  refine lv_if_ne (tgt := 61) S.1 S.2.1 dX6_shunt_10 (by decide) (fun c65 => ?_) (fun c65 => ?_)
  · have hf := (if_neg c65).symm.trans hf
    refine lv_iconst (v := 0) S.1 S.2.1 dX6_shunt_61 (by decide) ?_
    exact pk_iret S hr hlk hW (eqm (P := fun z => z.1 = 0 ∧ MI κ ζ B z.2 L60 F61 ∧ FrM L F L60 F61) ⟨rfl, hI, hFr⟩ (Option.some.inj hf)) (by omega) (by omega) dX6_shunt_62
  · have hf := (if_pos c65).symm.trans hf
    refine lv_aload_n S.1 S.2.1 dX6_shunt_13 rfl (lv_at hl 0 rfl) ?_
    refine lv_iload_n S.1 S.2.1 dX6_shunt_14 rfl (lv_at hl 2 rfl) ?_
    refine lv_iconst (v := 1) S.1 S.2.1 dX6_shunt_15 (by decide) ?_
    refine lv_bipush (v := 20) S.1 S.2.1 dX6_shunt_16 (by decide) ?_
    obtain ⟨z70, hz, hf⟩ := ob hf
    refine pk_cSI (As := [.int x2, .int 1, .int 20]) (rest := [.ref (B 0)]) S hK hST hW (c_X6_isIn  x2 1 20 hz) mc_X6_isIn wd_1185 wd_1186 np_X6_isIn rfl hl.1 rfl (Nat.le_of_ble_eq_true rfl) dX6_shunt_18 ⟨by decide, by decide⟩ ⟨rmc (by omega), rms (by omega)⟩ (fun r L66 F67 H68 l69 hp hW => ?_)
    obtain ⟨rfl, rfl, rfl⟩ := hp
    refine lv_if_ne (tgt := 28) S.1 S.2.1 dX6_shunt_21 (by decide) (fun c71 => ?_) (fun c71 => ?_)
    · have hf := (if_neg c71).symm.trans hf
      refine lv_iconst (v := 0) S.1 S.2.1 dX6_shunt_28 (by decide) ?_
      exact B29  z64.2 x1 x2 0 hf L60 F61 hI hFr _ _ _ _ _ hW (by omega) (by omega) (lv_sub hl [0, 1, 2] rfl)
    · have hf := (if_pos c71).symm.trans hf
      refine lv_iconst (v := 1) S.1 S.2.1 dX6_shunt_24 (by decide) ?_
      refine lv_goto (tgt := 29) S.1 S.2.1 dX6_shunt_25 (by decide) ?_
      exact B29  z64.2 x1 x2 1 hf L60 F61 hI hFr _ _ _ _ _ hW (by omega) (by omega) (lv_sub hl [0, 1, 2] rfl)
def f_X6_isNoWalker (x1 : Int32) : Option Int32 := (f_X6_isIn x1 0 1).bind fun z5 => (if z5 = 0 then some (1) else some (0))
theorem mc_X6_isNoWalker : MCode yX6_isNoWalker cX6_isNoWalker 1 (some .boolean) := ⟨wd_1472, wd_5, by decide, by decide⟩
theorem np_X6_isNoWalker : (parseMethodDescriptor yX6_isNoWalker.desc).map (fun d => d.parameters.length) = some 1 := by decide +kernel
set_option maxHeartbeats 4000000 in
set_option maxRecDepth 100000 in
theorem c_X6_isNoWalker {l : Launch} {D : va_G} {κ : Nat → ClassId} {ζ : Nat → Nat} {L : List Nat} {F : Nat → va_E} (x1 : Int32) {res : Int32} (hf : f_X6_isNoWalker x1 = some res) : MtI l D cls (ty5 κ) ζ yX6_isNoWalker cX6_isNoWalker 1 (some .boolean) 2 0 0 ([.int x1] : List Value) L F (fun r L' F' => L = L' ∧ F = F' ∧ res = r) := by
  refine MtI.of (by decide) (Nat.le_of_ble_eq_true rfl) ?_
  intro p e s m below meth c S hr hlk _ hK hW hST ls hl
  have hl : lv_has ls 1 [(0, .int x1)] := hl
  unfold f_X6_isNoWalker at hf
  refine lv_iload_n S.1 S.2.1 dX6_isNoWalker_0 rfl (lv_at hl 0 rfl) ?_
  refine lv_iconst (v := 0) S.1 S.2.1 dX6_isNoWalker_1 (by decide) ?_
  refine lv_iconst (v := 1) S.1 S.2.1 dX6_isNoWalker_2 (by decide) ?_
  obtain ⟨z5, hz, hf⟩ := ob hf
  refine pk_cSI (As := [.int x1, .int 0, .int 1]) (rest := []) S hK hST hW (c_X6_isIn  x1 0 1 hz) mc_X6_isIn wd_1185 wd_1186 np_X6_isIn rfl hl.1 rfl (Nat.le_of_ble_eq_true rfl) dX6_isNoWalker_3 ⟨by decide, by decide⟩ ⟨rmc (by omega), rms (by omega)⟩ (fun r L1 F2 H3 l4 hp hW => ?_)
  obtain ⟨rfl, rfl, rfl⟩ := hp
  refine lv_if_ne (tgt := 13) S.1 S.2.1 dX6_isNoWalker_6 (by decide) (fun c6 => ?_) (fun c6 => ?_)
  · have hf := (if_neg c6).symm.trans hf
    refine lv_iconst (v := 0) S.1 S.2.1 dX6_isNoWalker_13 (by decide) ?_
    exact pk_zret S hr hlk hW (by decide) ⟨rfl, rfl, eqm (P := fun z => z = 0) rfl (Option.some.inj hf)⟩ (by omega) (by omega) dX6_isNoWalker_14
  · have hf := (if_pos c6).symm.trans hf
    refine lv_iconst (v := 1) S.1 S.2.1 dX6_isNoWalker_9 (by decide) ?_
    refine lv_goto (tgt := 14) S.1 S.2.1 dX6_isNoWalker_10 (by decide) ?_
    exact pk_zret S hr hlk hW (by decide) ⟨rfl, rfl, eqm (P := fun z => z = 1) rfl (Option.some.inj hf)⟩ (by omega) (by omega) dX6_isNoWalker_14
def f_X6_isNowhere_37   (w37 : MS) : Option (Int32 × MS) := some (1, w37)
def f_X6_isNowhere_30   (w30 : MS) (u1 : Int32) : Option (Int32 × MS) := (f_X6_refuse w30 u1 2).bind fun z5 => (if z5.1 = 0 then some (0, z5.2) else f_X6_isNowhere_37 z5.2)
def f_X6_isNowhere (τ : MS) (x1 : Int32) : Option (Int32 × MS) := (f_X6_isNoWalker x1).bind fun z11 => (f_X6_start τ z11 1).bind fun z16 => (if z16.1 = 0 then (gwk x1).bind fun z18 => (if (z16.2.2 (5 + 3 * z18)) = 0 then f_X6_isNowhere_30 z16.2 1 else f_X6_isNowhere_30 z16.2 0) else f_X6_isNowhere_37 z16.2)
theorem mc_X6_isNowhere : MCode yX6_isNowhere cX6_isNowhere 2 (some .boolean) := ⟨wd_1480, wd_5, by decide, by decide⟩
theorem np_X6_isNowhere : (parseMethodDescriptor yX6_isNowhere.desc).map (fun d => d.parameters.length) = some 1 := by decide +kernel
set_option maxHeartbeats 4000000 in
set_option maxRecDepth 100000 in
theorem c_X6_isNowhere {l : Launch} {D : va_G} {κ : Nat → ClassId} {ζ : Nat → Nat} {L : List Nat} {F : Nat → va_E} {τ : MS} {B : Nat → Nat} (hI : MI κ ζ B τ L F) (x1 : Int32) {res : (Int32 × MS)} (hf : f_X6_isNowhere τ x1 = some res) : MtI l D cls (ty5 κ) ζ yX6_isNowhere cX6_isNowhere 2 (some .boolean) 3 0 0 ([.ref (B 0), .int x1] : List Value) L F (fun r L' F' => res.1 = r ∧ MI κ ζ B res.2 L' F' ∧ FrM L F L' F') := by
  refine MtI.of (by decide) (Nat.le_of_ble_eq_true rfl) ?_
  intro p e s m below meth c S hr hlk _ hK hW hST ls hl
  have hl : lv_has ls 2 [(0, .ref (B 0)), (1, .int x1)] := hl
  have hFr : FrM L F L F := FrM.rf
  have B37 : ∀  (w37 : MS), f_X6_isNowhere_37 w37 = some res → ∀ (K37 : List Nat) (G37 : Nat → va_E), MI κ ζ B w37 K37 G37 → FrM L F K37 G37 → ∀ (H37 : Heap) (l37 : List Loc) (ls : Array Slot) (cc ss : Nat), HW D cls L s H37 l37 K37 G37 → cc + (0) ≤ 0 → ss ≤ 33 * cc → lv_has ls 2 [] → W p l e (Rm 3 0 0) s m ([.ref (B 0), .int x1] : List Value).toArray below meth c H37 l37 cc ss (EnI D cls s below ([.ref (B 0), .int x1] : List Value).toArray 0 0 L (fun r L' F' => res.1 = r ∧ MI κ ζ B res.2 L' F' ∧ FrM L F L' F')) (F0 m 37 ls []) := by
    intro  w37 hf K37 G37 hI hFr H37 l37 ls cc ss hW hcc hss hl
    unfold f_X6_isNowhere_37 at hf
    refine lv_iconst (v := 1) S.1 S.2.1 dX6_isNowhere_37 (by decide) ?_
    refine lv_goto (tgt := 42) S.1 S.2.1 dX6_isNowhere_38 (by decide) ?_
    exact pk_zret S hr hlk hW (by decide) (eqm (P := fun z => z.1 = 1 ∧ MI κ ζ B z.2 K37 G37 ∧ FrM L F K37 G37) ⟨rfl, hI, hFr⟩ (Option.some.inj hf)) (by omega) (by omega) dX6_isNowhere_42
  have B30 : ∀  (w30 : MS) (u1 : Int32), f_X6_isNowhere_30 w30 u1 = some res → ∀ (K30 : List Nat) (G30 : Nat → va_E), MI κ ζ B w30 K30 G30 → FrM L F K30 G30 → ∀ (H30 : Heap) (l30 : List Loc) (ls : Array Slot) (cc ss : Nat), HW D cls L s H30 l30 K30 G30 → cc + (0) ≤ 0 → ss ≤ 33 * cc → lv_has ls 2 [] → W p l e (Rm 3 0 0) s m ([.ref (B 0), .int x1] : List Value).toArray below meth c H30 l30 cc ss (EnI D cls s below ([.ref (B 0), .int x1] : List Value).toArray 0 0 L (fun r L' F' => res.1 = r ∧ MI κ ζ B res.2 L' F' ∧ FrM L F L' F')) (F0 m 30 ls [.int u1, .ref (B 0)]) := by
    intro  w30 u1 hf K30 G30 hI hFr H30 l30 ls cc ss hW hcc hss hl
    unfold f_X6_isNowhere_30 at hf
    refine lv_iconst (v := 2) S.1 S.2.1 dX6_isNowhere_30 (by decide) ?_
    obtain ⟨z5, hz, hf⟩ := ob hf
    refine pk_cVI (As := [.int u1, .int 2]) (rest := []) S hK hST hW (c_X6_refuse hI u1 2 hz) mc_X6_refuse wd_1192 wd_1194 wd_1702 rfl np_X6_refuse (hI.mem (by decide)) hI.this rfl rfl hl.1 rfl (Nat.le_of_ble_eq_true rfl) dX6_isNowhere_31 ⟨by decide, by decide⟩ ⟨rmc (by omega), rms (by omega)⟩ (fun r L1 F2 H3 l4 hp hW => ?_)
    obtain ⟨rfl, hI, hF9⟩ := hp
    have hFr := hFr.tr hF9
    refine lv_if_eq (tgt := 41) S.1 S.2.1 dX6_isNowhere_34 (by decide) (fun c6 => ?_) (fun c6 => ?_)
    · have hf := (if_pos c6).symm.trans hf
      refine lv_iconst (v := 0) S.1 S.2.1 dX6_isNowhere_41 (by decide) ?_
      exact pk_zret S hr hlk hW (by decide) (eqm (P := fun z => z.1 = 0 ∧ MI κ ζ B z.2 L1 F2 ∧ FrM L F L1 F2) ⟨rfl, hI, hFr⟩ (Option.some.inj hf)) (by omega) (by omega) dX6_isNowhere_42
    · have hf := (if_neg c6).symm.trans hf
      exact B37  z5.2 hf L1 F2 hI hFr _ _ _ _ _ hW (by omega) (by omega) (lv_sub hl [] rfl)
  unfold f_X6_isNowhere at hf
  refine lv_aload_n S.1 S.2.1 dX6_isNowhere_0 rfl (lv_at hl 0 rfl) ?_
  refine lv_iload_n S.1 S.2.1 dX6_isNowhere_1 rfl (lv_at hl 1 rfl) ?_
  obtain ⟨z11, hz, hf⟩ := ob hf
  refine pk_cSI (As := [.int x1]) (rest := [.ref (B 0)]) S hK hST hW (c_X6_isNoWalker  x1 hz) mc_X6_isNoWalker wd_1470 wd_1471 np_X6_isNoWalker rfl hl.1 rfl (Nat.le_of_ble_eq_true rfl) dX6_isNowhere_2 ⟨by decide, by decide⟩ ⟨rmc (by omega), rms (by omega)⟩ (fun r L7 F8 H9 l10 hp hW => ?_)
  obtain ⟨rfl, rfl, rfl⟩ := hp
  refine lv_iconst (v := 1) S.1 S.2.1 dX6_isNowhere_5 (by decide) ?_
  obtain ⟨z16, hz, hf⟩ := ob hf
  refine pk_cVI (As := [.int z11, .int 1]) (rest := []) S hK hST hW (c_X6_start hI z11 1 hz) mc_X6_start wd_1188 wd_1190 wd_1701 rfl np_X6_start (hI.mem (by decide)) hI.this rfl rfl hl.1 rfl (Nat.le_of_ble_eq_true rfl) dX6_isNowhere_6 ⟨by decide, by decide⟩ ⟨rmc (by omega), rms (by omega)⟩ (fun r L12 F13 H14 l15 hp hW => ?_)
  obtain ⟨rfl, hI, hF9⟩ := hp
  have hFr := hFr.tr hF9
  refine lv_if_ne (tgt := 37) S.1 S.2.1 dX6_isNowhere_9 (by decide) (fun c17 => ?_) (fun c17 => ?_)
  · have hf := (if_neg c17).symm.trans hf
    exact B37  z16.2 hf L12 F13 hI hFr _ _ _ _ _ hW (by omega) (by omega) (lv_sub hl [] rfl)
  · have hf := (if_pos c17).symm.trans hf
    refine lv_aload_n S.1 S.2.1 dX6_isNowhere_12 rfl (lv_at hl 0 rfl) ?_
    refine lv_aload_n S.1 S.2.1 dX6_isNowhere_13 rfl (lv_at hl 0 rfl) ?_
    refine pk_get S hK hW 4 (hI.mem (by decide)) hI.this rfl hinX6 (by decide) wd_1159 rfl dX6_isNowhere_14 ?_
    refine lv_iload_n S.1 S.2.1 dX6_isNowhere_17 rfl (lv_at hl 1 rfl) ?_
    obtain ⟨z18, hz, hf⟩ := ob hf
    obtain ⟨hbz18, ex9⟩ := gtr_ok hz
    obtain ⟨m_w7, g7, e_w7, g70, g71⟩ := hI.wks
    refine pk_aald (y := B (8 + z18)) S hK hW 4 m_w7 e_w7 rfl (by rw [ex9]; exact vp_in_nI hbz18 (by omega)) (by rw [ex9, nI_clamp (by omega)]; exact co_2 (P := fun q => g7 q = some (B (8 + q))) g70 g71 hbz18) dX6_isNowhere_18 ?_
    refine pk_get S hK hW 0 (hI.mem (by have := hbz18; omega)) (hI.mkH hbz18) rfl hinX5 (by decide) wd_1100 rfl dX6_isNowhere_19 ?_
    refine lv_if_ne (tgt := 29) S.1 S.2.1 dX6_isNowhere_22 (by decide) (fun c19 => ?_) (fun c19 => ?_)
    · have hf := (if_neg c19).symm.trans hf
      refine lv_iconst (v := 0) S.1 S.2.1 dX6_isNowhere_29 (by decide) ?_
      exact B30  z16.2 0 hf L12 F13 hI hFr _ _ _ _ _ hW (by omega) (by omega) (lv_sub hl [] rfl)
    · have hf := (if_pos c19).symm.trans hf
      refine lv_iconst (v := 1) S.1 S.2.1 dX6_isNowhere_25 (by decide) ?_
      refine lv_goto (tgt := 30) S.1 S.2.1 dX6_isNowhere_26 (by decide) ?_
      exact B30  z16.2 1 hf L12 F13 hI hFr _ _ _ _ _ hW (by omega) (by omega) (lv_sub hl [] rfl)
def f_X6_stand_23 (τ : MS)  (v1 : Int32) (v2 : Int32) (u1 : Int32) : Option (Int32 × MS) := (f_X6_start τ u1 1).bind fun z5 => (if z5.1 = 0 then (f_X6_size z5.2 1).bind fun z11 => (if v2 ≤ z11 then (gwk v1).bind fun z13 => nm ((z5.2.1, va_up z5.2.2 (5 + 3 * z13 + 0) 1) : MS) fun t17 => (gwk v1).bind fun z18 => nm ((t17.1, va_up t17.2 (5 + 3 * z18 + 1) v2) : MS) fun t22 => (gwk v1).bind fun z23 => nm ((t22.1, va_up t22.2 (5 + 3 * z23 + 2) ((-1))) : MS) fun t27 => some (v2, t27) else some ((-9), z5.2)) else some (0, z5.2))
def f_X6_stand_18 (τ : MS)  (v1 : Int32) (v2 : Int32) : Option (Int32 × MS) := f_X6_stand_23 τ v1 v2 1
def f_X6_stand (τ : MS) (x1 : Int32) (x2 : Int32) : Option (Int32 × MS) := (f_X6_isNoWalker x1).bind fun z32 => (if z32 = 0 then (f_X6_isIn x2 0 20).bind fun z38 => (if z38 = 0 then f_X6_stand_18 τ x1 x2 else f_X6_stand_23 τ x1 x2 0) else f_X6_stand_18 τ x1 x2)
theorem mc_X6_stand : MCode yX6_stand cX6_stand 3 (some .int) := ⟨wd_1469, wd_5, by decide, by decide⟩
theorem np_X6_stand : (parseMethodDescriptor yX6_stand.desc).map (fun d => d.parameters.length) = some 2 := by decide +kernel
set_option maxHeartbeats 4000000 in
set_option maxRecDepth 100000 in
theorem c_X6_stand {l : Launch} {D : va_G} {κ : Nat → ClassId} {ζ : Nat → Nat} {L : List Nat} {F : Nat → va_E} {τ : MS} {B : Nat → Nat} (hI : MI κ ζ B τ L F) (x1 : Int32) (x2 : Int32) {res : (Int32 × MS)} (hf : f_X6_stand τ x1 x2 = some res) : MtI l D cls (ty5 κ) ζ yX6_stand cX6_stand 3 (some .int) 5 0 0 ([.ref (B 0), .int x1, .int x2] : List Value) L F (fun r L' F' => res.1 = r ∧ MI κ ζ B res.2 L' F' ∧ FrM L F L' F') := by
  refine MtI.of (by decide) (Nat.le_of_ble_eq_true rfl) ?_
  intro p e s m below meth c S hr hlk _ hK hW hST ls hl
  have hl : lv_has ls 3 [(0, .ref (B 0)), (1, .int x1), (2, .int x2)] := hl
  have hFr : FrM L F L F := FrM.rf
  have B23 : ∀  (v1 : Int32) (v2 : Int32) (u1 : Int32), f_X6_stand_23 τ v1 v2 u1 = some res → ∀ (H23 : Heap) (l23 : List Loc) (ls : Array Slot) (cc ss : Nat), HW D cls L s H23 l23 L F → cc + (0) ≤ 0 → ss ≤ 33 * cc → lv_has ls 3 [(0, .ref (B 0)), (1, .int v1), (2, .int v2)] → W p l e (Rm 5 0 0) s m ([.ref (B 0), .int x1, .int x2] : List Value).toArray below meth c H23 l23 cc ss (EnI D cls s below ([.ref (B 0), .int x1, .int x2] : List Value).toArray 0 0 L (fun r L' F' => res.1 = r ∧ MI κ ζ B res.2 L' F' ∧ FrM L F L' F')) (F0 m 23 ls [.int u1, .ref (B 0)]) := by
    intro  v1 v2 u1 hf H23 l23 ls cc ss hW hcc hss hl
    unfold f_X6_stand_23 at hf
    refine lv_iconst (v := 1) S.1 S.2.1 dX6_stand_23 (by decide) ?_
    obtain ⟨z5, hz, hf⟩ := ob hf
    refine pk_cVI (As := [.int u1, .int 1]) (rest := []) S hK hST hW (c_X6_start hI u1 1 hz) mc_X6_start wd_1188 wd_1190 wd_1701 rfl np_X6_start (hI.mem (by decide)) hI.this rfl rfl hl.1 rfl (Nat.le_of_ble_eq_true rfl) dX6_stand_24 ⟨by decide, by decide⟩ ⟨rmc (by omega), rms (by omega)⟩ (fun r L1 F2 H3 l4 hp hW => ?_)
    obtain ⟨rfl, hI, hF9⟩ := hp
    have hFr := hFr.tr hF9
    refine lv_if_eq (tgt := 32) S.1 S.2.1 dX6_stand_27 (by decide) (fun c6 => ?_) (fun c6 => ?_)
    · have hf := (if_pos c6).symm.trans hf
      refine lv_iload_n S.1 S.2.1 dX6_stand_32 rfl (lv_at hl 2 rfl) ?_
      refine lv_aload_n S.1 S.2.1 dX6_stand_33 rfl (lv_at hl 0 rfl) ?_
      refine lv_iconst (v := 1) S.1 S.2.1 dX6_stand_34 (by decide) ?_
      obtain ⟨z11, hz, hf⟩ := ob hf
      refine pk_cVI (As := [.int 1]) (rest := [.int v2]) S hK hST hW (c_X6_size hI 1 hz) mc_X6_size wd_1199 wd_1201 wd_1703 rfl np_X6_size (hI.mem (by decide)) hI.this rfl rfl hl.1 rfl (Nat.le_of_ble_eq_true rfl) dX6_stand_35 ⟨by decide, by decide⟩ ⟨rmc (by omega), rms (by omega)⟩ (fun r L7 F8 H9 l10 hp hW => ?_)
      obtain ⟨rfl, rfl, rfl⟩ := hp
      refine lv_icmp_le (tgt := 44) S.1 S.2.1 dX6_stand_38 (by decide) (fun c12 => ?_) (fun c12 => ?_)
      · have hf := (if_pos c12).symm.trans hf
        refine lv_aload_n S.1 S.2.1 dX6_stand_44 rfl (lv_at hl 0 rfl) ?_
        refine pk_get S hK hW 4 (hI.mem (by decide)) hI.this rfl hinX6 (by decide) wd_1159 rfl dX6_stand_45 ?_
        refine lv_iload_n S.1 S.2.1 dX6_stand_48 rfl (lv_at hl 1 rfl) ?_
        obtain ⟨z13, hz, hf⟩ := ob hf
        obtain ⟨hbz13, ex9⟩ := gtr_ok hz
        obtain ⟨m_w7, g7, e_w7, g70, g71⟩ := hI.wks
        refine pk_aald (y := B (8 + z13)) S hK hW 4 m_w7 e_w7 rfl (by rw [ex9]; exact vp_in_nI hbz13 (by omega)) (by rw [ex9, nI_clamp (by omega)]; exact co_2 (P := fun q => g7 q = some (B (8 + q))) g70 g71 hbz13) dX6_stand_49 ?_
        refine lv_iconst (v := 1) S.1 S.2.1 dX6_stand_50 (by decide) ?_
        refine pk_put (v := .int 1) S hK hW 0 (hI.mem (by have := hbz13; omega)) (hI.mkH hbz13) rfl hinX5 tyX5_ok nmX5 (by decide) wd_1100 rfl rfl rfl rfl (Nat.le_of_ble_eq_true rfl) dX6_stand_51 (fun H14 l15 hW => ?_)
        have hF9 := FrM.cell (L := L1) (w := (([.int (z5.2.2 (5 + 3 * z13)), .int (z5.2.2 (5 + 3 * z13 + 1)), .int (z5.2.2 (5 + 3 * z13 + 2))] : List Value).set 0 (.int 1))) (hI.mkH hbz13) (Or.inl rfl)
        have hI := hI.setMk hbz13 0 (by decide) 1
        generalize va_up F2 (B (8 + z13)) (.inr (10, (([.int (z5.2.2 (5 + 3 * z13)), .int (z5.2.2 (5 + 3 * z13 + 1)), .int (z5.2.2 (5 + 3 * z13 + 2))] : List Value).set 0 (.int 1)))) = F16 at hW hI hF9
        have hFr := hFr.tr hF9
        obtain ⟨t17, et17, hf⟩ := nm_ok hf
        have hI := eqm (P := fun w => MI κ ζ B w L1 F16) hI et17.symm
        refine lv_aload_n S.1 S.2.1 dX6_stand_54 rfl (lv_at hl 0 rfl) ?_
        refine pk_get S hK hW 4 (hI.mem (by decide)) hI.this rfl hinX6 (by decide) wd_1159 rfl dX6_stand_55 ?_
        refine lv_iload_n S.1 S.2.1 dX6_stand_58 rfl (lv_at hl 1 rfl) ?_
        obtain ⟨z18, hz, hf⟩ := ob hf
        obtain ⟨hbz18, ex9⟩ := gtr_ok hz
        obtain ⟨m_w7, g7, e_w7, g70, g71⟩ := hI.wks
        refine pk_aald (y := B (8 + z18)) S hK hW 4 m_w7 e_w7 rfl (by rw [ex9]; exact vp_in_nI hbz18 (by omega)) (by rw [ex9, nI_clamp (by omega)]; exact co_2 (P := fun q => g7 q = some (B (8 + q))) g70 g71 hbz18) dX6_stand_59 ?_
        refine lv_iload_n S.1 S.2.1 dX6_stand_60 rfl (lv_at hl 2 rfl) ?_
        refine pk_put (v := .int v2) S hK hW 1 (hI.mem (by have := hbz18; omega)) (hI.mkH hbz18) rfl hinX5 tyX5_ok nmX5 (by decide) wd_1101 rfl rfl rfl rfl (Nat.le_of_ble_eq_true rfl) dX6_stand_61 (fun H19 l20 hW => ?_)
        have hF9 := FrM.cell (L := L1) (w := (([.int (t17.2 (5 + 3 * z18)), .int (t17.2 (5 + 3 * z18 + 1)), .int (t17.2 (5 + 3 * z18 + 2))] : List Value).set 1 (.int v2))) (hI.mkH hbz18) (Or.inl rfl)
        have hI := hI.setMk hbz18 1 (by decide) v2
        generalize va_up F16 (B (8 + z18)) (.inr (10, (([.int (t17.2 (5 + 3 * z18)), .int (t17.2 (5 + 3 * z18 + 1)), .int (t17.2 (5 + 3 * z18 + 2))] : List Value).set 1 (.int v2)))) = F21 at hW hI hF9
        have hFr := hFr.tr hF9
        obtain ⟨t22, et22, hf⟩ := nm_ok hf
        have hI := eqm (P := fun w => MI κ ζ B w L1 F21) hI et22.symm
        refine lv_aload_n S.1 S.2.1 dX6_stand_64 rfl (lv_at hl 0 rfl) ?_
        refine pk_get S hK hW 4 (hI.mem (by decide)) hI.this rfl hinX6 (by decide) wd_1159 rfl dX6_stand_65 ?_
        refine lv_iload_n S.1 S.2.1 dX6_stand_68 rfl (lv_at hl 1 rfl) ?_
        obtain ⟨z23, hz, hf⟩ := ob hf
        obtain ⟨hbz23, ex9⟩ := gtr_ok hz
        obtain ⟨m_w7, g7, e_w7, g70, g71⟩ := hI.wks
        refine pk_aald (y := B (8 + z23)) S hK hW 4 m_w7 e_w7 rfl (by rw [ex9]; exact vp_in_nI hbz23 (by omega)) (by rw [ex9, nI_clamp (by omega)]; exact co_2 (P := fun q => g7 q = some (B (8 + q))) g70 g71 hbz23) dX6_stand_69 ?_
        refine lv_iconst (v := (-1)) S.1 S.2.1 dX6_stand_70 (by decide) ?_
        refine pk_put (v := .int ((-1))) S hK hW 2 (hI.mem (by have := hbz23; omega)) (hI.mkH hbz23) rfl hinX5 tyX5_ok nmX5 (by decide) wd_1103 rfl rfl rfl rfl (Nat.le_of_ble_eq_true rfl) dX6_stand_71 (fun H24 l25 hW => ?_)
        have hF9 := FrM.cell (L := L1) (w := (([.int (t22.2 (5 + 3 * z23)), .int (t22.2 (5 + 3 * z23 + 1)), .int (t22.2 (5 + 3 * z23 + 2))] : List Value).set 2 (.int ((-1))))) (hI.mkH hbz23) (Or.inl rfl)
        have hI := hI.setMk hbz23 2 (by decide) ((-1))
        generalize va_up F21 (B (8 + z23)) (.inr (10, (([.int (t22.2 (5 + 3 * z23)), .int (t22.2 (5 + 3 * z23 + 1)), .int (t22.2 (5 + 3 * z23 + 2))] : List Value).set 2 (.int ((-1)))))) = F26 at hW hI hF9
        have hFr := hFr.tr hF9
        obtain ⟨t27, et27, hf⟩ := nm_ok hf
        have hI := eqm (P := fun w => MI κ ζ B w L1 F26) hI et27.symm
        refine lv_iload_n S.1 S.2.1 dX6_stand_74 rfl (lv_at hl 2 rfl) ?_
        exact pk_iret S hr hlk hW (eqm (P := fun z => z.1 = v2 ∧ MI κ ζ B z.2 L1 F26 ∧ FrM L F L1 F26) ⟨rfl, hI, hFr⟩ (Option.some.inj hf)) (by omega) (by omega) dX6_stand_75
      · have hf := (if_neg c12).symm.trans hf
        refine lv_bipush (v := (-9)) S.1 S.2.1 dX6_stand_41 (by decide) ?_
        exact pk_iret S hr hlk hW (eqm (P := fun z => z.1 = (-9) ∧ MI κ ζ B z.2 L1 F2 ∧ FrM L F L1 F2) ⟨rfl, hI, hFr⟩ (Option.some.inj hf)) (by omega) (by omega) dX6_stand_43
    · have hf := (if_neg c6).symm.trans hf
      refine lv_iconst (v := 0) S.1 S.2.1 dX6_stand_30 (by decide) ?_
      exact pk_iret S hr hlk hW (eqm (P := fun z => z.1 = 0 ∧ MI κ ζ B z.2 L1 F2 ∧ FrM L F L1 F2) ⟨rfl, hI, hFr⟩ (Option.some.inj hf)) (by omega) (by omega) dX6_stand_31
  have B18 : ∀  (v1 : Int32) (v2 : Int32), f_X6_stand_18 τ v1 v2 = some res → ∀ (H18 : Heap) (l18 : List Loc) (ls : Array Slot) (cc ss : Nat), HW D cls L s H18 l18 L F → cc + (0) ≤ 0 → ss ≤ 33 * cc → lv_has ls 3 [(0, .ref (B 0)), (1, .int v1), (2, .int v2)] → W p l e (Rm 5 0 0) s m ([.ref (B 0), .int x1, .int x2] : List Value).toArray below meth c H18 l18 cc ss (EnI D cls s below ([.ref (B 0), .int x1, .int x2] : List Value).toArray 0 0 L (fun r L' F' => res.1 = r ∧ MI κ ζ B res.2 L' F' ∧ FrM L F L' F')) (F0 m 18 ls [.ref (B 0)]) := by
    intro  v1 v2 hf H18 l18 ls cc ss hW hcc hss hl
    unfold f_X6_stand_18 at hf
    refine lv_iconst (v := 1) S.1 S.2.1 dX6_stand_18 (by decide) ?_
    refine lv_goto (tgt := 23) S.1 S.2.1 dX6_stand_19 (by decide) ?_
    exact B23  v1 v2 1 hf  _ _ _ _ _ hW (by omega) (by omega) (lv_sub hl [0, 1, 2] rfl)
  unfold f_X6_stand at hf
  refine lv_aload_n S.1 S.2.1 dX6_stand_0 rfl (lv_at hl 0 rfl) ?_
  refine lv_iload_n S.1 S.2.1 dX6_stand_1 rfl (lv_at hl 1 rfl) ?_
  obtain ⟨z32, hz, hf⟩ := ob hf
  refine pk_cSI (As := [.int x1]) (rest := [.ref (B 0)]) S hK hST hW (c_X6_isNoWalker  x1 hz) mc_X6_isNoWalker wd_1470 wd_1471 np_X6_isNoWalker rfl hl.1 rfl (Nat.le_of_ble_eq_true rfl) dX6_stand_2 ⟨by decide, by decide⟩ ⟨rmc (by omega), rms (by omega)⟩ (fun r L28 F29 H30 l31 hp hW => ?_)
  obtain ⟨rfl, rfl, rfl⟩ := hp
  refine lv_if_ne (tgt := 18) S.1 S.2.1 dX6_stand_5 (by decide) (fun c33 => ?_) (fun c33 => ?_)
  · have hf := (if_neg c33).symm.trans hf
    exact B18  x1 x2 hf  _ _ _ _ _ hW (by omega) (by omega) (lv_sub hl [0, 1, 2] rfl)
  · have hf := (if_pos c33).symm.trans hf
    refine lv_iload_n S.1 S.2.1 dX6_stand_8 rfl (lv_at hl 2 rfl) ?_
    refine lv_iconst (v := 0) S.1 S.2.1 dX6_stand_9 (by decide) ?_
    refine lv_bipush (v := 20) S.1 S.2.1 dX6_stand_10 (by decide) ?_
    obtain ⟨z38, hz, hf⟩ := ob hf
    refine pk_cSI (As := [.int x2, .int 0, .int 20]) (rest := [.ref (B 0)]) S hK hST hW (c_X6_isIn  x2 0 20 hz) mc_X6_isIn wd_1185 wd_1186 np_X6_isIn rfl hl.1 rfl (Nat.le_of_ble_eq_true rfl) dX6_stand_12 ⟨by decide, by decide⟩ ⟨rmc (by omega), rms (by omega)⟩ (fun r L34 F35 H36 l37 hp hW => ?_)
    obtain ⟨rfl, rfl, rfl⟩ := hp
    refine lv_if_ne (tgt := 22) S.1 S.2.1 dX6_stand_15 (by decide) (fun c39 => ?_) (fun c39 => ?_)
    · have hf := (if_neg c39).symm.trans hf
      refine lv_iconst (v := 0) S.1 S.2.1 dX6_stand_22 (by decide) ?_
      exact B23  x1 x2 0 hf  _ _ _ _ _ hW (by omega) (by omega) (lv_sub hl [0, 1, 2] rfl)
    · have hf := (if_pos c39).symm.trans hf
      exact B18  x1 x2 hf  _ _ _ _ _ hW (by omega) (by omega) (lv_sub hl [0, 1, 2] rfl)
def f_X6_forth_37   (w37 : MS) : Option (Int32 × MS) := some ((-9), w37)
def f_X6_forth (τ : MS) (x1 : Int32) : Option (Int32 × MS) := (f_X6_isNowhere τ x1).bind fun z5 => (if z5.1 = 0 then (gwk x1).bind fun z7 => (if (z5.2.2 (5 + 3 * z7)) = 2 then f_X6_forth_37 z5.2 else (f_X6_size z5.2 1).bind fun z13 => (if (z5.2.2 (5 + 3 * z7 + 1)) = z13 then f_X6_forth_37 z5.2 else nm ((z5.2.1, va_up z5.2.2 (5 + 3 * z7 + 2) (z5.2.2 (5 + 3 * z7 + 1))) : MS) fun t18 => nm ((t18.1, va_up t18.2 (5 + 3 * z7 + 1) ((t18.2 (5 + 3 * z7 + 1)) + 1)) : MS) fun t22 => (f_X6_get t22 1 (t22.2 (5 + 3 * z7 + 2))).bind fun z27 => some (z27, t22))) else some (0, z5.2))
theorem mc_X6_forth : MCode yX6_forth cX6_forth 3 (some .int) := ⟨wd_1476, wd_5, by decide, by decide⟩
theorem np_X6_forth : (parseMethodDescriptor yX6_forth.desc).map (fun d => d.parameters.length) = some 1 := by decide +kernel
set_option maxHeartbeats 4000000 in
set_option maxRecDepth 100000 in
theorem c_X6_forth {l : Launch} {D : va_G} {κ : Nat → ClassId} {ζ : Nat → Nat} {L : List Nat} {F : Nat → va_E} {τ : MS} {B : Nat → Nat} (hI : MI κ ζ B τ L F) (x1 : Int32) {res : (Int32 × MS)} (hf : f_X6_forth τ x1 = some res) : MtI l D cls (ty5 κ) ζ yX6_forth cX6_forth 3 (some .int) 6 0 0 ([.ref (B 0), .int x1] : List Value) L F (fun r L' F' => res.1 = r ∧ MI κ ζ B res.2 L' F' ∧ FrM L F L' F') := by
  refine MtI.of (by decide) (Nat.le_of_ble_eq_true rfl) ?_
  intro p e s m below meth c S hr hlk _ hK hW hST ls hl
  have hl : lv_has ls 3 [(0, .ref (B 0)), (1, .int x1)] := hl
  have hFr : FrM L F L F := FrM.rf
  have B37 : ∀  (w37 : MS), f_X6_forth_37 w37 = some res → ∀ (K37 : List Nat) (G37 : Nat → va_E), MI κ ζ B w37 K37 G37 → FrM L F K37 G37 → ∀ (H37 : Heap) (l37 : List Loc) (ls : Array Slot) (cc ss : Nat), HW D cls L s H37 l37 K37 G37 → cc + (0) ≤ 0 → ss ≤ 33 * cc → lv_has ls 3 [] → W p l e (Rm 6 0 0) s m ([.ref (B 0), .int x1] : List Value).toArray below meth c H37 l37 cc ss (EnI D cls s below ([.ref (B 0), .int x1] : List Value).toArray 0 0 L (fun r L' F' => res.1 = r ∧ MI κ ζ B res.2 L' F' ∧ FrM L F L' F')) (F0 m 37 ls []) := by
    intro  w37 hf K37 G37 hI hFr H37 l37 ls cc ss hW hcc hss hl
    unfold f_X6_forth_37 at hf
    refine lv_bipush (v := (-9)) S.1 S.2.1 dX6_forth_37 (by decide) ?_
    exact pk_iret S hr hlk hW (eqm (P := fun z => z.1 = (-9) ∧ MI κ ζ B z.2 K37 G37 ∧ FrM L F K37 G37) ⟨rfl, hI, hFr⟩ (Option.some.inj hf)) (by omega) (by omega) dX6_forth_39
  unfold f_X6_forth at hf
  refine lv_aload_n S.1 S.2.1 dX6_forth_0 rfl (lv_at hl 0 rfl) ?_
  refine lv_iload_n S.1 S.2.1 dX6_forth_1 rfl (lv_at hl 1 rfl) ?_
  obtain ⟨z5, hz, hf⟩ := ob hf
  refine pk_cVI (As := [.int x1]) (rest := []) S hK hST hW (c_X6_isNowhere hI x1 hz) mc_X6_isNowhere wd_1477 wd_1479 wd_1721 rfl np_X6_isNowhere (hI.mem (by decide)) hI.this rfl rfl hl.1 rfl (Nat.le_of_ble_eq_true rfl) dX6_forth_2 ⟨by decide, by decide⟩ ⟨rmc (by omega), rms (by omega)⟩ (fun r L1 F2 H3 l4 hp hW => ?_)
  obtain ⟨rfl, hI, hF9⟩ := hp
  have hFr := hFr.tr hF9
  refine lv_if_eq (tgt := 10) S.1 S.2.1 dX6_forth_5 (by decide) (fun c6 => ?_) (fun c6 => ?_)
  · have hf := (if_pos c6).symm.trans hf
    refine lv_aload_n S.1 S.2.1 dX6_forth_10 rfl (lv_at hl 0 rfl) ?_
    refine pk_get S hK hW 4 (hI.mem (by decide)) hI.this rfl hinX6 (by decide) wd_1159 rfl dX6_forth_11 ?_
    refine lv_iload_n S.1 S.2.1 dX6_forth_14 rfl (lv_at hl 1 rfl) ?_
    obtain ⟨z7, hz, hf⟩ := ob hf
    obtain ⟨hbz7, ex9⟩ := gtr_ok hz
    obtain ⟨m_w7, g7, e_w7, g70, g71⟩ := hI.wks
    refine pk_aald (y := B (8 + z7)) S hK hW 4 m_w7 e_w7 rfl (by rw [ex9]; exact vp_in_nI hbz7 (by omega)) (by rw [ex9, nI_clamp (by omega)]; exact co_2 (P := fun q => g7 q = some (B (8 + q))) g70 g71 hbz7) dX6_forth_15 ?_
    refine lv_astore_n (lv' := [(2, .ref (B (8 + z7))), (0, .ref (B 0)), (1, .int x1)]) S.1 S.2.1 dX6_forth_16 rfl hl (by decide) rfl (fun ls hl => ?_)
    refine lv_aload_n S.1 S.2.1 dX6_forth_17 rfl (lv_at hl 0 rfl) ?_
    refine pk_get S hK hW 0 (hI.mem (by have := hbz7; omega)) (hI.mkH hbz7) rfl hinX5 (by decide) wd_1100 rfl dX6_forth_18 ?_
    refine lv_iconst (v := 2) S.1 S.2.1 dX6_forth_21 (by decide) ?_
    refine lv_icmp_eq (tgt := 37) S.1 S.2.1 dX6_forth_22 (by decide) (fun c8 => ?_) (fun c8 => ?_)
    · have hf := (if_pos c8).symm.trans hf
      exact B37  z5.2 hf L1 F2 hI hFr _ _ _ _ _ hW (by omega) (by omega) (lv_sub hl [] rfl)
    · have hf := (if_neg c8).symm.trans hf
      refine lv_aload_n S.1 S.2.1 dX6_forth_25 rfl (lv_at hl 0 rfl) ?_
      refine pk_get S hK hW 1 (hI.mem (by have := hbz7; omega)) (hI.mkH hbz7) rfl hinX5 (by decide) wd_1101 rfl dX6_forth_26 ?_
      refine lv_aload_n S.1 S.2.1 dX6_forth_29 rfl (lv_at hl 1 rfl) ?_
      refine lv_iconst (v := 1) S.1 S.2.1 dX6_forth_30 (by decide) ?_
      obtain ⟨z13, hz, hf⟩ := ob hf
      refine pk_cVI (As := [.int 1]) (rest := [.int (z5.2.2 (5 + 3 * z7 + 1))]) S hK hST hW (c_X6_size hI 1 hz) mc_X6_size wd_1199 wd_1201 wd_1703 rfl np_X6_size (hI.mem (by decide)) hI.this rfl rfl hl.1 rfl (Nat.le_of_ble_eq_true rfl) dX6_forth_31 ⟨by decide, by decide⟩ ⟨rmc (by omega), rms (by omega)⟩ (fun r L9 F10 H11 l12 hp hW => ?_)
      obtain ⟨rfl, rfl, rfl⟩ := hp
      refine lv_icmp_ne (tgt := 40) S.1 S.2.1 dX6_forth_34 (by decide) (fun c14 => ?_) (fun c14 => ?_)
      · have hf := (if_neg c14).symm.trans hf
        refine lv_aload_n S.1 S.2.1 dX6_forth_40 rfl (lv_at hl 0 rfl) ?_
        refine lv_aload_n S.1 S.2.1 dX6_forth_41 rfl (lv_at hl 0 rfl) ?_
        refine pk_get S hK hW 1 (hI.mem (by have := hbz7; omega)) (hI.mkH hbz7) rfl hinX5 (by decide) wd_1101 rfl dX6_forth_42 ?_
        refine pk_put (v := .int (z5.2.2 (5 + 3 * z7 + 1))) S hK hW 2 (hI.mem (by have := hbz7; omega)) (hI.mkH hbz7) rfl hinX5 tyX5_ok nmX5 (by decide) wd_1103 rfl rfl rfl rfl (Nat.le_of_ble_eq_true rfl) dX6_forth_45 (fun H15 l16 hW => ?_)
        have hF9 := FrM.cell (L := L1) (w := (([.int (z5.2.2 (5 + 3 * z7)), .int (z5.2.2 (5 + 3 * z7 + 1)), .int (z5.2.2 (5 + 3 * z7 + 2))] : List Value).set 2 (.int (z5.2.2 (5 + 3 * z7 + 1))))) (hI.mkH hbz7) (Or.inl rfl)
        have hI := hI.setMk hbz7 2 (by decide) (z5.2.2 (5 + 3 * z7 + 1))
        generalize va_up F2 (B (8 + z7)) (.inr (10, (([.int (z5.2.2 (5 + 3 * z7)), .int (z5.2.2 (5 + 3 * z7 + 1)), .int (z5.2.2 (5 + 3 * z7 + 2))] : List Value).set 2 (.int (z5.2.2 (5 + 3 * z7 + 1)))))) = F17 at hW hI hF9
        have hFr := hFr.tr hF9
        obtain ⟨t18, et18, hf⟩ := nm_ok hf
        have hI := eqm (P := fun w => MI κ ζ B w L1 F17) hI et18.symm
        refine lv_aload_n S.1 S.2.1 dX6_forth_48 rfl (lv_at hl 0 rfl) ?_
        refine lv_dup S.1 S.2.1 dX6_forth_49 rfl ?_
        refine pk_get S hK hW 1 (hI.mem (by have := hbz7; omega)) (hI.mkH hbz7) rfl hinX5 (by decide) wd_1101 rfl dX6_forth_50 ?_
        refine lv_iconst (v := 1) S.1 S.2.1 dX6_forth_53 (by decide) ?_
        refine lv_iadd S.1 S.2.1 dX6_forth_54 ?_
        refine pk_put (v := .int ((t18.2 (5 + 3 * z7 + 1)) + 1)) S hK hW 1 (hI.mem (by have := hbz7; omega)) (hI.mkH hbz7) rfl hinX5 tyX5_ok nmX5 (by decide) wd_1101 rfl rfl rfl rfl (Nat.le_of_ble_eq_true rfl) dX6_forth_55 (fun H19 l20 hW => ?_)
        have hF9 := FrM.cell (L := L1) (w := (([.int (t18.2 (5 + 3 * z7)), .int (t18.2 (5 + 3 * z7 + 1)), .int (t18.2 (5 + 3 * z7 + 2))] : List Value).set 1 (.int ((t18.2 (5 + 3 * z7 + 1)) + 1)))) (hI.mkH hbz7) (Or.inl rfl)
        have hI := hI.setMk hbz7 1 (by decide) ((t18.2 (5 + 3 * z7 + 1)) + 1)
        generalize va_up F17 (B (8 + z7)) (.inr (10, (([.int (t18.2 (5 + 3 * z7)), .int (t18.2 (5 + 3 * z7 + 1)), .int (t18.2 (5 + 3 * z7 + 2))] : List Value).set 1 (.int ((t18.2 (5 + 3 * z7 + 1)) + 1))))) = F21 at hW hI hF9
        have hFr := hFr.tr hF9
        obtain ⟨t22, et22, hf⟩ := nm_ok hf
        have hI := eqm (P := fun w => MI κ ζ B w L1 F21) hI et22.symm
        refine lv_aload_n S.1 S.2.1 dX6_forth_58 rfl (lv_at hl 1 rfl) ?_
        refine lv_iconst (v := 1) S.1 S.2.1 dX6_forth_59 (by decide) ?_
        refine lv_aload_n S.1 S.2.1 dX6_forth_60 rfl (lv_at hl 0 rfl) ?_
        refine pk_get S hK hW 2 (hI.mem (by have := hbz7; omega)) (hI.mkH hbz7) rfl hinX5 (by decide) wd_1103 rfl dX6_forth_61 ?_
        obtain ⟨z27, hz, hf⟩ := ob hf
        refine pk_cVI (As := [.int 1, .int (t22.2 (5 + 3 * z7 + 2))]) (rest := []) S hK hST hW (c_X6_get hI 1 (t22.2 (5 + 3 * z7 + 2)) hz) mc_X6_get wd_1299 wd_1301 wd_1711 rfl np_X6_get (hI.mem (by decide)) hI.this rfl rfl hl.1 rfl (Nat.le_of_ble_eq_true rfl) dX6_forth_64 ⟨by decide, by decide⟩ ⟨rmc (by omega), rms (by omega)⟩ (fun r L23 F24 H25 l26 hp hW => ?_)
        obtain ⟨rfl, rfl, rfl⟩ := hp
        exact pk_iret S hr hlk hW (eqm (P := fun z => z.1 = z27 ∧ MI κ ζ B z.2 L1 F21 ∧ FrM L F L1 F21) ⟨rfl, hI, hFr⟩ (Option.some.inj hf)) (by omega) (by omega) dX6_forth_67
      · have hf := (if_pos c14).symm.trans hf
        exact B37  z5.2 hf L1 F2 hI hFr _ _ _ _ _ hW (by omega) (by omega) (lv_sub hl [] rfl)
  · have hf := (if_neg c6).symm.trans hf
    refine lv_iconst (v := 0) S.1 S.2.1 dX6_forth_8 (by decide) ?_
    exact pk_iret S hr hlk hW (eqm (P := fun z => z.1 = 0 ∧ MI κ ζ B z.2 L1 F2 ∧ FrM L F L1 F2) ⟨rfl, hI, hFr⟩ (Option.some.inj hf)) (by omega) (by omega) dX6_forth_9
def f_X6_back_32   (w32 : MS) : Option (Int32 × MS) := some ((-9), w32)
def f_X6_back (τ : MS) (x1 : Int32) : Option (Int32 × MS) := (f_X6_isNowhere τ x1).bind fun z5 => (if z5.1 = 0 then (gwk x1).bind fun z7 => (if (z5.2.2 (5 + 3 * z7)) = 2 then f_X6_back_32 z5.2 else (if (z5.2.2 (5 + 3 * z7 + 1)) = 0 then f_X6_back_32 z5.2 else nm ((z5.2.1, va_up z5.2.2 (5 + 3 * z7 + 1) ((z5.2.2 (5 + 3 * z7 + 1)) - 1)) : MS) fun t13 => nm ((t13.1, va_up t13.2 (5 + 3 * z7 + 2) (t13.2 (5 + 3 * z7 + 1))) : MS) fun t17 => (f_X6_get t17 1 (t17.2 (5 + 3 * z7 + 2))).bind fun z22 => some (z22, t17))) else some (0, z5.2))
theorem mc_X6_back : MCode yX6_back cX6_back 3 (some .int) := ⟨wd_1484, wd_5, by decide, by decide⟩
theorem np_X6_back : (parseMethodDescriptor yX6_back.desc).map (fun d => d.parameters.length) = some 1 := by decide +kernel
set_option maxHeartbeats 4000000 in
set_option maxRecDepth 100000 in
theorem c_X6_back {l : Launch} {D : va_G} {κ : Nat → ClassId} {ζ : Nat → Nat} {L : List Nat} {F : Nat → va_E} {τ : MS} {B : Nat → Nat} (hI : MI κ ζ B τ L F) (x1 : Int32) {res : (Int32 × MS)} (hf : f_X6_back τ x1 = some res) : MtI l D cls (ty5 κ) ζ yX6_back cX6_back 3 (some .int) 6 0 0 ([.ref (B 0), .int x1] : List Value) L F (fun r L' F' => res.1 = r ∧ MI κ ζ B res.2 L' F' ∧ FrM L F L' F') := by
  refine MtI.of (by decide) (Nat.le_of_ble_eq_true rfl) ?_
  intro p e s m below meth c S hr hlk _ hK hW hST ls hl
  have hl : lv_has ls 3 [(0, .ref (B 0)), (1, .int x1)] := hl
  have hFr : FrM L F L F := FrM.rf
  have B32 : ∀  (w32 : MS), f_X6_back_32 w32 = some res → ∀ (K32 : List Nat) (G32 : Nat → va_E), MI κ ζ B w32 K32 G32 → FrM L F K32 G32 → ∀ (H32 : Heap) (l32 : List Loc) (ls : Array Slot) (cc ss : Nat), HW D cls L s H32 l32 K32 G32 → cc + (0) ≤ 0 → ss ≤ 33 * cc → lv_has ls 3 [] → W p l e (Rm 6 0 0) s m ([.ref (B 0), .int x1] : List Value).toArray below meth c H32 l32 cc ss (EnI D cls s below ([.ref (B 0), .int x1] : List Value).toArray 0 0 L (fun r L' F' => res.1 = r ∧ MI κ ζ B res.2 L' F' ∧ FrM L F L' F')) (F0 m 32 ls []) := by
    intro  w32 hf K32 G32 hI hFr H32 l32 ls cc ss hW hcc hss hl
    unfold f_X6_back_32 at hf
    refine lv_bipush (v := (-9)) S.1 S.2.1 dX6_back_32 (by decide) ?_
    exact pk_iret S hr hlk hW (eqm (P := fun z => z.1 = (-9) ∧ MI κ ζ B z.2 K32 G32 ∧ FrM L F K32 G32) ⟨rfl, hI, hFr⟩ (Option.some.inj hf)) (by omega) (by omega) dX6_back_34
  unfold f_X6_back at hf
  refine lv_aload_n S.1 S.2.1 dX6_back_0 rfl (lv_at hl 0 rfl) ?_
  refine lv_iload_n S.1 S.2.1 dX6_back_1 rfl (lv_at hl 1 rfl) ?_
  obtain ⟨z5, hz, hf⟩ := ob hf
  refine pk_cVI (As := [.int x1]) (rest := []) S hK hST hW (c_X6_isNowhere hI x1 hz) mc_X6_isNowhere wd_1477 wd_1479 wd_1721 rfl np_X6_isNowhere (hI.mem (by decide)) hI.this rfl rfl hl.1 rfl (Nat.le_of_ble_eq_true rfl) dX6_back_2 ⟨by decide, by decide⟩ ⟨rmc (by omega), rms (by omega)⟩ (fun r L1 F2 H3 l4 hp hW => ?_)
  obtain ⟨rfl, hI, hF9⟩ := hp
  have hFr := hFr.tr hF9
  refine lv_if_eq (tgt := 10) S.1 S.2.1 dX6_back_5 (by decide) (fun c6 => ?_) (fun c6 => ?_)
  · have hf := (if_pos c6).symm.trans hf
    refine lv_aload_n S.1 S.2.1 dX6_back_10 rfl (lv_at hl 0 rfl) ?_
    refine pk_get S hK hW 4 (hI.mem (by decide)) hI.this rfl hinX6 (by decide) wd_1159 rfl dX6_back_11 ?_
    refine lv_iload_n S.1 S.2.1 dX6_back_14 rfl (lv_at hl 1 rfl) ?_
    obtain ⟨z7, hz, hf⟩ := ob hf
    obtain ⟨hbz7, ex9⟩ := gtr_ok hz
    obtain ⟨m_w7, g7, e_w7, g70, g71⟩ := hI.wks
    refine pk_aald (y := B (8 + z7)) S hK hW 4 m_w7 e_w7 rfl (by rw [ex9]; exact vp_in_nI hbz7 (by omega)) (by rw [ex9, nI_clamp (by omega)]; exact co_2 (P := fun q => g7 q = some (B (8 + q))) g70 g71 hbz7) dX6_back_15 ?_
    refine lv_astore_n (lv' := [(2, .ref (B (8 + z7))), (0, .ref (B 0)), (1, .int x1)]) S.1 S.2.1 dX6_back_16 rfl hl (by decide) rfl (fun ls hl => ?_)
    refine lv_aload_n S.1 S.2.1 dX6_back_17 rfl (lv_at hl 0 rfl) ?_
    refine pk_get S hK hW 0 (hI.mem (by have := hbz7; omega)) (hI.mkH hbz7) rfl hinX5 (by decide) wd_1100 rfl dX6_back_18 ?_
    refine lv_iconst (v := 2) S.1 S.2.1 dX6_back_21 (by decide) ?_
    refine lv_icmp_eq (tgt := 32) S.1 S.2.1 dX6_back_22 (by decide) (fun c8 => ?_) (fun c8 => ?_)
    · have hf := (if_pos c8).symm.trans hf
      exact B32  z5.2 hf L1 F2 hI hFr _ _ _ _ _ hW (by omega) (by omega) (lv_sub hl [] rfl)
    · have hf := (if_neg c8).symm.trans hf
      refine lv_aload_n S.1 S.2.1 dX6_back_25 rfl (lv_at hl 0 rfl) ?_
      refine pk_get S hK hW 1 (hI.mem (by have := hbz7; omega)) (hI.mkH hbz7) rfl hinX5 (by decide) wd_1101 rfl dX6_back_26 ?_
      refine lv_if_ne (tgt := 35) S.1 S.2.1 dX6_back_29 (by decide) (fun c9 => ?_) (fun c9 => ?_)
      · have hf := (if_neg c9).symm.trans hf
        refine lv_aload_n S.1 S.2.1 dX6_back_35 rfl (lv_at hl 0 rfl) ?_
        refine lv_dup S.1 S.2.1 dX6_back_36 rfl ?_
        refine pk_get S hK hW 1 (hI.mem (by have := hbz7; omega)) (hI.mkH hbz7) rfl hinX5 (by decide) wd_1101 rfl dX6_back_37 ?_
        refine lv_iconst (v := 1) S.1 S.2.1 dX6_back_40 (by decide) ?_
        refine lv_isub S.1 S.2.1 dX6_back_41 ?_
        refine pk_put (v := .int ((z5.2.2 (5 + 3 * z7 + 1)) - 1)) S hK hW 1 (hI.mem (by have := hbz7; omega)) (hI.mkH hbz7) rfl hinX5 tyX5_ok nmX5 (by decide) wd_1101 rfl rfl rfl rfl (Nat.le_of_ble_eq_true rfl) dX6_back_42 (fun H10 l11 hW => ?_)
        have hF9 := FrM.cell (L := L1) (w := (([.int (z5.2.2 (5 + 3 * z7)), .int (z5.2.2 (5 + 3 * z7 + 1)), .int (z5.2.2 (5 + 3 * z7 + 2))] : List Value).set 1 (.int ((z5.2.2 (5 + 3 * z7 + 1)) - 1)))) (hI.mkH hbz7) (Or.inl rfl)
        have hI := hI.setMk hbz7 1 (by decide) ((z5.2.2 (5 + 3 * z7 + 1)) - 1)
        generalize va_up F2 (B (8 + z7)) (.inr (10, (([.int (z5.2.2 (5 + 3 * z7)), .int (z5.2.2 (5 + 3 * z7 + 1)), .int (z5.2.2 (5 + 3 * z7 + 2))] : List Value).set 1 (.int ((z5.2.2 (5 + 3 * z7 + 1)) - 1))))) = F12 at hW hI hF9
        have hFr := hFr.tr hF9
        obtain ⟨t13, et13, hf⟩ := nm_ok hf
        have hI := eqm (P := fun w => MI κ ζ B w L1 F12) hI et13.symm
        refine lv_aload_n S.1 S.2.1 dX6_back_45 rfl (lv_at hl 0 rfl) ?_
        refine lv_aload_n S.1 S.2.1 dX6_back_46 rfl (lv_at hl 0 rfl) ?_
        refine pk_get S hK hW 1 (hI.mem (by have := hbz7; omega)) (hI.mkH hbz7) rfl hinX5 (by decide) wd_1101 rfl dX6_back_47 ?_
        refine pk_put (v := .int (t13.2 (5 + 3 * z7 + 1))) S hK hW 2 (hI.mem (by have := hbz7; omega)) (hI.mkH hbz7) rfl hinX5 tyX5_ok nmX5 (by decide) wd_1103 rfl rfl rfl rfl (Nat.le_of_ble_eq_true rfl) dX6_back_50 (fun H14 l15 hW => ?_)
        have hF9 := FrM.cell (L := L1) (w := (([.int (t13.2 (5 + 3 * z7)), .int (t13.2 (5 + 3 * z7 + 1)), .int (t13.2 (5 + 3 * z7 + 2))] : List Value).set 2 (.int (t13.2 (5 + 3 * z7 + 1))))) (hI.mkH hbz7) (Or.inl rfl)
        have hI := hI.setMk hbz7 2 (by decide) (t13.2 (5 + 3 * z7 + 1))
        generalize va_up F12 (B (8 + z7)) (.inr (10, (([.int (t13.2 (5 + 3 * z7)), .int (t13.2 (5 + 3 * z7 + 1)), .int (t13.2 (5 + 3 * z7 + 2))] : List Value).set 2 (.int (t13.2 (5 + 3 * z7 + 1)))))) = F16 at hW hI hF9
        have hFr := hFr.tr hF9
        obtain ⟨t17, et17, hf⟩ := nm_ok hf
        have hI := eqm (P := fun w => MI κ ζ B w L1 F16) hI et17.symm
        refine lv_aload_n S.1 S.2.1 dX6_back_53 rfl (lv_at hl 1 rfl) ?_
        refine lv_iconst (v := 1) S.1 S.2.1 dX6_back_54 (by decide) ?_
        refine lv_aload_n S.1 S.2.1 dX6_back_55 rfl (lv_at hl 0 rfl) ?_
        refine pk_get S hK hW 2 (hI.mem (by have := hbz7; omega)) (hI.mkH hbz7) rfl hinX5 (by decide) wd_1103 rfl dX6_back_56 ?_
        obtain ⟨z22, hz, hf⟩ := ob hf
        refine pk_cVI (As := [.int 1, .int (t17.2 (5 + 3 * z7 + 2))]) (rest := []) S hK hST hW (c_X6_get hI 1 (t17.2 (5 + 3 * z7 + 2)) hz) mc_X6_get wd_1299 wd_1301 wd_1711 rfl np_X6_get (hI.mem (by decide)) hI.this rfl rfl hl.1 rfl (Nat.le_of_ble_eq_true rfl) dX6_back_59 ⟨by decide, by decide⟩ ⟨rmc (by omega), rms (by omega)⟩ (fun r L18 F19 H20 l21 hp hW => ?_)
        obtain ⟨rfl, rfl, rfl⟩ := hp
        exact pk_iret S hr hlk hW (eqm (P := fun z => z.1 = z22 ∧ MI κ ζ B z.2 L1 F16 ∧ FrM L F L1 F16) ⟨rfl, hI, hFr⟩ (Option.some.inj hf)) (by omega) (by omega) dX6_back_62
      · have hf := (if_pos c9).symm.trans hf
        exact B32  z5.2 hf L1 F2 hI hFr _ _ _ _ _ hW (by omega) (by omega) (lv_sub hl [] rfl)
  · have hf := (if_neg c6).symm.trans hf
    refine lv_iconst (v := 0) S.1 S.2.1 dX6_back_8 (by decide) ?_
    exact pk_iret S hr hlk hW (eqm (P := fun z => z.1 = 0 ∧ MI κ ζ B z.2 L1 F2 ∧ FrM L F L1 F2) ⟨rfl, hI, hFr⟩ (Option.some.inj hf)) (by omega) (by omega) dX6_back_9
def f_X6_takeHeld_33   (w33 : MS) : Option (Int32 × MS) := some ((-9), w33)
def f_X6_takeHeld_76   (w76 : MS) (v1 : Int32) (v2 : Nat) (u0 : Nat) (u1 : Int32) (u2 : Int32) : Option (Int32 × MS) := (f_X6_one u2).bind fun z5 => nm ((w76.1, va_up w76.2 (5 + 3 * u0 + 1) (u1 - z5)) : MS) fun t9 => nm ((t9.1, va_up t9.2 (5 + 3 * v2 + 2) ((-1))) : MS) fun t13 => (f_X6_changed t13 1 v1).bind fun z18 => (f_X6_tear z18).bind fun z23 => some (z23.2 (5 + 3 * v2 + 1), z23)
def f_X6_takeHeld (τ : MS) (x1 : Int32) : Option (Int32 × MS) := (f_X6_isNowhere τ x1).bind fun z28 => (if z28.1 = 0 then (gwk x1).bind fun z30 => (if (z28.2.2 (5 + 3 * z30)) = 2 then f_X6_takeHeld_33 z28.2 else (if (z28.2.2 (5 + 3 * z30 + 2)) = ((-1)) then f_X6_takeHeld_33 z28.2 else (gtr 1).bind fun z37 => (ldel (z28.2.1 z37) (z28.2.2 (5 + 3 * z30 + 2))).bind fun z42 => nm ((va_up z28.2.1 z37 z42, z28.2.2) : MS) fun t44 => (if (t44.2 (5 + 3 * z30 + 1)) ≤ (t44.2 (5 + 3 * z30 + 2)) then f_X6_takeHeld_76 t44 x1 z30 z30 (t44.2 (5 + 3 * z30 + 1)) 0 else f_X6_takeHeld_76 t44 x1 z30 z30 (t44.2 (5 + 3 * z30 + 1)) 1))) else some (0, z28.2))
theorem mc_X6_takeHeld : MCode yX6_takeHeld cX6_takeHeld 3 (some .int) := ⟨wd_1488, wd_5, by decide, by decide⟩
theorem np_X6_takeHeld : (parseMethodDescriptor yX6_takeHeld.desc).map (fun d => d.parameters.length) = some 1 := by decide +kernel
set_option maxHeartbeats 4000000 in
set_option maxRecDepth 100000 in
theorem c_X6_takeHeld {l : Launch} {D : va_G} {κ : Nat → ClassId} {ζ : Nat → Nat} {L : List Nat} {F : Nat → va_E} {τ : MS} {B : Nat → Nat} (hI : MI κ ζ B τ L F) (x1 : Int32) {res : (Int32 × MS)} (hf : f_X6_takeHeld τ x1 = some res) : MtI l D cls (ty5 κ) ζ yX6_takeHeld cX6_takeHeld 3 (some .int) 4 0 0 ([.ref (B 0), .int x1] : List Value) L F (fun r L' F' => res.1 = r ∧ MI κ ζ B res.2 L' F' ∧ FrM L F L' F') := by
  refine MtI.of (by decide) (Nat.le_of_ble_eq_true rfl) ?_
  intro p e s m below meth c S hr hlk _ hK hW hST ls hl
  have hl : lv_has ls 3 [(0, .ref (B 0)), (1, .int x1)] := hl
  have hFr : FrM L F L F := FrM.rf
  have B33 : ∀  (w33 : MS), f_X6_takeHeld_33 w33 = some res → ∀ (K33 : List Nat) (G33 : Nat → va_E), MI κ ζ B w33 K33 G33 → FrM L F K33 G33 → ∀ (H33 : Heap) (l33 : List Loc) (ls : Array Slot) (cc ss : Nat), HW D cls L s H33 l33 K33 G33 → cc + (0) ≤ 0 → ss ≤ 33 * cc → lv_has ls 3 [] → W p l e (Rm 4 0 0) s m ([.ref (B 0), .int x1] : List Value).toArray below meth c H33 l33 cc ss (EnI D cls s below ([.ref (B 0), .int x1] : List Value).toArray 0 0 L (fun r L' F' => res.1 = r ∧ MI κ ζ B res.2 L' F' ∧ FrM L F L' F')) (F0 m 33 ls []) := by
    intro  w33 hf K33 G33 hI hFr H33 l33 ls cc ss hW hcc hss hl
    unfold f_X6_takeHeld_33 at hf
    refine lv_bipush (v := (-9)) S.1 S.2.1 dX6_takeHeld_33 (by decide) ?_
    exact pk_iret S hr hlk hW (eqm (P := fun z => z.1 = (-9) ∧ MI κ ζ B z.2 K33 G33 ∧ FrM L F K33 G33) ⟨rfl, hI, hFr⟩ (Option.some.inj hf)) (by omega) (by omega) dX6_takeHeld_35
  have B76 : ∀  (w76 : MS) (v1 : Int32) (v2 : Nat) (u0 : Nat) (u1 : Int32) (u2 : Int32), f_X6_takeHeld_76 w76 v1 v2 u0 u1 u2 = some res → ∀ (K76 : List Nat) (G76 : Nat → va_E), v2 < 2 → u0 < 2 → MI κ ζ B w76 K76 G76 → FrM L F K76 G76 → ∀ (H76 : Heap) (l76 : List Loc) (ls : Array Slot) (cc ss : Nat), HW D cls L s H76 l76 K76 G76 → cc + (0) ≤ 0 → ss ≤ 33 * cc → lv_has ls 3 [(0, .ref (B 0)), (1, .int v1), (2, .ref (B (8 + v2)))] → W p l e (Rm 4 0 0) s m ([.ref (B 0), .int x1] : List Value).toArray below meth c H76 l76 cc ss (EnI D cls s below ([.ref (B 0), .int x1] : List Value).toArray 0 0 L (fun r L' F' => res.1 = r ∧ MI κ ζ B res.2 L' F' ∧ FrM L F L' F')) (F0 m 76 ls [.int u2, .int u1, .ref (B (8 + u0))]) := by
    intro  w76 v1 v2 u0 u1 u2 hf K76 G76 hv2 hu0 hI hFr H76 l76 ls cc ss hW hcc hss hl
    unfold f_X6_takeHeld_76 at hf
    obtain ⟨z5, hz, hf⟩ := ob hf
    refine pk_cSI (As := [.int u2]) (rest := [.int u1, .ref (B (8 + u0))]) S hK hST hW (c_X6_one  u2 hz) mc_X6_one wd_1288 wd_1289 np_X6_one rfl hl.1 rfl (Nat.le_of_ble_eq_true rfl) dX6_takeHeld_76 ⟨by decide, by decide⟩ ⟨rmc (by omega), rms (by omega)⟩ (fun r L1 F2 H3 l4 hp hW => ?_)
    obtain ⟨rfl, rfl, rfl⟩ := hp
    refine lv_isub S.1 S.2.1 dX6_takeHeld_79 ?_
    refine pk_put (v := .int (u1 - z5)) S hK hW 1 (hI.mem (by have := hu0; omega)) (hI.mkH hu0) rfl hinX5 tyX5_ok nmX5 (by decide) wd_1101 rfl rfl rfl rfl (Nat.le_of_ble_eq_true rfl) dX6_takeHeld_80 (fun H6 l7 hW => ?_)
    have hF9 := FrM.cell (L := K76) (w := (([.int (w76.2 (5 + 3 * u0)), .int (w76.2 (5 + 3 * u0 + 1)), .int (w76.2 (5 + 3 * u0 + 2))] : List Value).set 1 (.int (u1 - z5)))) (hI.mkH hu0) (Or.inl rfl)
    have hI := hI.setMk hu0 1 (by decide) (u1 - z5)
    generalize va_up G76 (B (8 + u0)) (.inr (10, (([.int (w76.2 (5 + 3 * u0)), .int (w76.2 (5 + 3 * u0 + 1)), .int (w76.2 (5 + 3 * u0 + 2))] : List Value).set 1 (.int (u1 - z5))))) = F8 at hW hI hF9
    have hFr := hFr.tr hF9
    obtain ⟨t9, et9, hf⟩ := nm_ok hf
    have hI := eqm (P := fun w => MI κ ζ B w K76 F8) hI et9.symm
    refine lv_aload_n S.1 S.2.1 dX6_takeHeld_83 rfl (lv_at hl 2 rfl) ?_
    refine lv_iconst (v := (-1)) S.1 S.2.1 dX6_takeHeld_84 (by decide) ?_
    refine pk_put (v := .int ((-1))) S hK hW 2 (hI.mem (by have := hv2; omega)) (hI.mkH hv2) rfl hinX5 tyX5_ok nmX5 (by decide) wd_1103 rfl rfl rfl rfl (Nat.le_of_ble_eq_true rfl) dX6_takeHeld_85 (fun H10 l11 hW => ?_)
    have hF9 := FrM.cell (L := K76) (w := (([.int (t9.2 (5 + 3 * v2)), .int (t9.2 (5 + 3 * v2 + 1)), .int (t9.2 (5 + 3 * v2 + 2))] : List Value).set 2 (.int ((-1))))) (hI.mkH hv2) (Or.inl rfl)
    have hI := hI.setMk hv2 2 (by decide) ((-1))
    generalize va_up F8 (B (8 + v2)) (.inr (10, (([.int (t9.2 (5 + 3 * v2)), .int (t9.2 (5 + 3 * v2 + 1)), .int (t9.2 (5 + 3 * v2 + 2))] : List Value).set 2 (.int ((-1)))))) = F12 at hW hI hF9
    have hFr := hFr.tr hF9
    obtain ⟨t13, et13, hf⟩ := nm_ok hf
    have hI := eqm (P := fun w => MI κ ζ B w K76 F12) hI et13.symm
    refine lv_aload_n S.1 S.2.1 dX6_takeHeld_88 rfl (lv_at hl 0 rfl) ?_
    refine lv_iconst (v := 1) S.1 S.2.1 dX6_takeHeld_89 (by decide) ?_
    refine lv_iload_n S.1 S.2.1 dX6_takeHeld_90 rfl (lv_at hl 1 rfl) ?_
    obtain ⟨z18, hz, hf⟩ := ob hf
    refine pk_cVV (As := [.int 1, .int v1]) (rest := []) S hK hST hW (c_X6_changed hI 1 v1 hz) mc_X6_changed wd_1272 wd_1274 wd_1708 rfl np_X6_changed (hI.mem (by decide)) hI.this rfl rfl hl.1 rfl (Nat.le_of_ble_eq_true rfl) dX6_takeHeld_91 ⟨by decide, by decide⟩ ⟨rmc (by omega), rms (by omega)⟩ (fun L14 F15 H16 l17 hp hW => ?_)
    obtain ⟨hI, hF9⟩ := hp
    have hFr := hFr.tr hF9
    refine lv_aload_n S.1 S.2.1 dX6_takeHeld_94 rfl (lv_at hl 0 rfl) ?_
    obtain ⟨z23, hz, hf⟩ := ob hf
    refine pk_cVV (As := []) (rest := []) S hK hST hW (c_X6_tear hI  hz) mc_X6_tear wd_1373 wd_1375 wd_1717 rfl np_X6_tear (hI.mem (by decide)) hI.this rfl rfl hl.1 rfl (Nat.le_of_ble_eq_true rfl) dX6_takeHeld_95 ⟨by decide, by decide⟩ ⟨rmc (by omega), rms (by omega)⟩ (fun L19 F20 H21 l22 hp hW => ?_)
    obtain ⟨hI, hF9⟩ := hp
    have hFr := hFr.tr hF9
    refine lv_aload_n S.1 S.2.1 dX6_takeHeld_98 rfl (lv_at hl 2 rfl) ?_
    refine pk_get S hK hW 1 (hI.mem (by have := hv2; omega)) (hI.mkH hv2) rfl hinX5 (by decide) wd_1101 rfl dX6_takeHeld_99 ?_
    exact pk_iret S hr hlk hW (eqm (P := fun z => z.1 = z23.2 (5 + 3 * v2 + 1) ∧ MI κ ζ B z.2 L19 F20 ∧ FrM L F L19 F20) ⟨rfl, hI, hFr⟩ (Option.some.inj hf)) (by omega) (by omega) dX6_takeHeld_102
  unfold f_X6_takeHeld at hf
  refine lv_aload_n S.1 S.2.1 dX6_takeHeld_0 rfl (lv_at hl 0 rfl) ?_
  refine lv_iload_n S.1 S.2.1 dX6_takeHeld_1 rfl (lv_at hl 1 rfl) ?_
  obtain ⟨z28, hz, hf⟩ := ob hf
  refine pk_cVI (As := [.int x1]) (rest := []) S hK hST hW (c_X6_isNowhere hI x1 hz) mc_X6_isNowhere wd_1477 wd_1479 wd_1721 rfl np_X6_isNowhere (hI.mem (by decide)) hI.this rfl rfl hl.1 rfl (Nat.le_of_ble_eq_true rfl) dX6_takeHeld_2 ⟨by decide, by decide⟩ ⟨rmc (by omega), rms (by omega)⟩ (fun r L24 F25 H26 l27 hp hW => ?_)
  obtain ⟨rfl, hI, hF9⟩ := hp
  have hFr := hFr.tr hF9
  refine lv_if_eq (tgt := 10) S.1 S.2.1 dX6_takeHeld_5 (by decide) (fun c29 => ?_) (fun c29 => ?_)
  · have hf := (if_pos c29).symm.trans hf
    refine lv_aload_n S.1 S.2.1 dX6_takeHeld_10 rfl (lv_at hl 0 rfl) ?_
    refine pk_get S hK hW 4 (hI.mem (by decide)) hI.this rfl hinX6 (by decide) wd_1159 rfl dX6_takeHeld_11 ?_
    refine lv_iload_n S.1 S.2.1 dX6_takeHeld_14 rfl (lv_at hl 1 rfl) ?_
    obtain ⟨z30, hz, hf⟩ := ob hf
    obtain ⟨hbz30, ex9⟩ := gtr_ok hz
    obtain ⟨m_w7, g7, e_w7, g70, g71⟩ := hI.wks
    refine pk_aald (y := B (8 + z30)) S hK hW 4 m_w7 e_w7 rfl (by rw [ex9]; exact vp_in_nI hbz30 (by omega)) (by rw [ex9, nI_clamp (by omega)]; exact co_2 (P := fun q => g7 q = some (B (8 + q))) g70 g71 hbz30) dX6_takeHeld_15 ?_
    refine lv_astore_n (lv' := [(2, .ref (B (8 + z30))), (0, .ref (B 0)), (1, .int x1)]) S.1 S.2.1 dX6_takeHeld_16 rfl hl (by decide) rfl (fun ls hl => ?_)
    refine lv_aload_n S.1 S.2.1 dX6_takeHeld_17 rfl (lv_at hl 0 rfl) ?_
    refine pk_get S hK hW 0 (hI.mem (by have := hbz30; omega)) (hI.mkH hbz30) rfl hinX5 (by decide) wd_1100 rfl dX6_takeHeld_18 ?_
    refine lv_iconst (v := 2) S.1 S.2.1 dX6_takeHeld_21 (by decide) ?_
    refine lv_icmp_eq (tgt := 33) S.1 S.2.1 dX6_takeHeld_22 (by decide) (fun c31 => ?_) (fun c31 => ?_)
    · have hf := (if_pos c31).symm.trans hf
      exact B33  z28.2 hf L24 F25 hI hFr _ _ _ _ _ hW (by omega) (by omega) (lv_sub hl [] rfl)
    · have hf := (if_neg c31).symm.trans hf
      refine lv_aload_n S.1 S.2.1 dX6_takeHeld_25 rfl (lv_at hl 0 rfl) ?_
      refine pk_get S hK hW 2 (hI.mem (by have := hbz30; omega)) (hI.mkH hbz30) rfl hinX5 (by decide) wd_1103 rfl dX6_takeHeld_26 ?_
      refine lv_iconst (v := (-1)) S.1 S.2.1 dX6_takeHeld_29 (by decide) ?_
      refine lv_icmp_ne (tgt := 36) S.1 S.2.1 dX6_takeHeld_30 (by decide) (fun c32 => ?_) (fun c32 => ?_)
      · have hf := (if_neg c32).symm.trans hf
        refine lv_aload_n S.1 S.2.1 dX6_takeHeld_36 rfl (lv_at hl 1 rfl) ?_
        refine pk_get S hK hW 1 (hI.mem (by decide)) hI.this rfl hinX6 (by decide) wd_1156 rfl dX6_takeHeld_37 ?_
        refine lv_iconst (v := 1) S.1 S.2.1 dX6_takeHeld_40 (by decide) ?_
        obtain ⟨z37, hz, hf⟩ := ob hf
        obtain ⟨md9, f9, hR9, -, -⟩ := hI.tracks
        refine pk_cVR (As := [.int 1]) (rest := []) S hK hST hW (c_tracks hI hz) mc_Jx4a65c_get_915e3 wd_1203 wd_1204 wd_1205 rfl np_Jx4a65c_get_915e3 hR9.1 hR9.2.1 rfl rfl hl.1 rfl (Nat.le_of_ble_eq_true rfl) dX6_takeHeld_41 ⟨by decide, by decide⟩ ⟨rmc (by omega), rms (by omega)⟩ (fun r L33 F34 H35 l36 hp hW => ?_)
        obtain ⟨rfl, rfl, rfl⟩ := hp
        have hbz37 : z37 < 4 := Nat.lt_of_lt_of_le (gtr_ok hz).1 (by decide)
        obtain ⟨ar0, hL0, -⟩ := hI.list hbz37
        obtain ⟨m_h0, md0, e_h0⟩ := hL0.obj
        refine va_castS S.1 S.2.1 S.2.2.2.1 (S.2.2.2.2 _ wd_1070) (hK.1 4 _ rfl).2 (pk_recv (r := (RJx4a65c, TJx4a65c, 3)) hK hW m_h0 e_h0 rfl) dX6_takeHeld_44 ?_
        refine lv_aload_n S.1 S.2.1 dX6_takeHeld_47 rfl (lv_at hl 0 rfl) ?_
        refine pk_get S hK hW 2 (hI.mem (by have := hbz30; omega)) (hI.mkH hbz30) rfl hinX5 (by decide) wd_1103 rfl dX6_takeHeld_48 ?_
        obtain ⟨ar9, hL9, hup9⟩ := hI.list hbz37
        obtain ⟨m_h9, md9, e_h9⟩ := hL9.obj
        obtain ⟨z42, hz, hf⟩ := ob hf
        refine pk_cVR (As := [.int (z28.2.2 (5 + 3 * z30 + 2))]) (rest := []) S hK hST hW (c_mdel hL9 hz) mc_Jx4a65c_remove_915e3 wd_1280 wd_1281 wd_1282 rfl np_Jx4a65c_remove_915e3 m_h9 e_h9 rfl rfl hl.1 rfl (Nat.le_of_ble_eq_true rfl) dX6_takeHeld_51 ⟨by decide, by decide⟩ ⟨rmc (by omega), rms (by omega)⟩ (fun y43 L38 F39 H40 l41 hp hW => ?_)
        obtain ⟨hby43, hL8, hN8⟩ := hp
        obtain ⟨hI, hF9⟩ := hup9 _ _ _ _ hL8 hN8 (noE hW hST)
        have hFr := hFr.tr hF9
        obtain ⟨t44, et44, hf⟩ := nm_ok hf
        have hI := eqm (P := fun w => MI κ ζ B w L38 F39) hI et44.symm
        refine lv_pop S.1 S.2.1 dX6_takeHeld_54 rfl ?_
        refine lv_aload_n S.1 S.2.1 dX6_takeHeld_55 rfl (lv_at hl 0 rfl) ?_
        refine lv_dup S.1 S.2.1 dX6_takeHeld_56 rfl ?_
        refine pk_get S hK hW 1 (hI.mem (by have := hbz30; omega)) (hI.mkH hbz30) rfl hinX5 (by decide) wd_1101 rfl dX6_takeHeld_57 ?_
        refine lv_aload_n S.1 S.2.1 dX6_takeHeld_60 rfl (lv_at hl 0 rfl) ?_
        refine pk_get S hK hW 2 (hI.mem (by have := hbz30; omega)) (hI.mkH hbz30) rfl hinX5 (by decide) wd_1103 rfl dX6_takeHeld_61 ?_
        refine lv_aload_n S.1 S.2.1 dX6_takeHeld_64 rfl (lv_at hl 0 rfl) ?_
        refine pk_get S hK hW 1 (hI.mem (by have := hbz30; omega)) (hI.mkH hbz30) rfl hinX5 (by decide) wd_1101 rfl dX6_takeHeld_65 ?_
        refine lv_icmp_ge (tgt := 75) S.1 S.2.1 dX6_takeHeld_68 (by decide) (fun c45 => ?_) (fun c45 => ?_)
        · have hf := (if_pos c45).symm.trans hf
          refine lv_iconst (v := 0) S.1 S.2.1 dX6_takeHeld_75 (by decide) ?_
          exact B76  t44 x1 z30 z30 (t44.2 (5 + 3 * z30 + 1)) 0 hf L38 F39 hbz30 hbz30 hI hFr _ _ _ _ _ hW (by omega) (by omega) (lv_sub hl [1, 2, 0] rfl)
        · have hf := (if_neg c45).symm.trans hf
          refine lv_iconst (v := 1) S.1 S.2.1 dX6_takeHeld_71 (by decide) ?_
          refine lv_goto (tgt := 76) S.1 S.2.1 dX6_takeHeld_72 (by decide) ?_
          exact B76  t44 x1 z30 z30 (t44.2 (5 + 3 * z30 + 1)) 1 hf L38 F39 hbz30 hbz30 hI hFr _ _ _ _ _ hW (by omega) (by omega) (lv_sub hl [1, 2, 0] rfl)
      · have hf := (if_pos c32).symm.trans hf
        exact B33  z28.2 hf L24 F25 hI hFr _ _ _ _ _ hW (by omega) (by omega) (lv_sub hl [] rfl)
  · have hf := (if_neg c29).symm.trans hf
    refine lv_iconst (v := 0) S.1 S.2.1 dX6_takeHeld_8 (by decide) ?_
    exact pk_iret S hr hlk hW (eqm (P := fun z => z.1 = 0 ∧ MI κ ζ B z.2 L24 F25 ∧ FrM L F L24 F25) ⟨rfl, hI, hFr⟩ (Option.some.inj hf)) (by omega) (by omega) dX6_takeHeld_9
def f_X6_setHeld_78   (w78 : MS) : Option (Int32 × MS) := some ((-9), w78)
def f_X6_setHeld_43   (w43 : MS) (v1 : Int32) (v2 : Int32) (v3 : Int32) (u1 : Int32) : Option (Int32 × MS) := (f_X6_refuse w43 u1 3).bind fun z5 => (if z5.1 = 0 then (gwk v1).bind fun z7 => (if (z5.2.2 (5 + 3 * z7)) = 2 then f_X6_setHeld_78 z5.2 else (if (z5.2.2 (5 + 3 * z7 + 2)) = ((-1)) then f_X6_setHeld_78 z5.2 else (gtr 1).bind fun z14 => (f_X6_code v2 v3).bind fun z19 => (lset (z5.2.1 z14) (z5.2.2 (5 + 3 * z7 + 2)) z19).bind fun z29 => nm ((va_up z5.2.1 z14 z29, z5.2.2) : MS) fun t31 => (f_X6_tear t31).bind fun z36 => some (z36.2 (5 + 3 * z7 + 1), z36))) else some (0, z5.2))
def f_X6_setHeld (τ : MS) (x1 : Int32) (x2 : Int32) (x3 : Int32) : Option (Int32 × MS) := (f_X6_isNoWalker x1).bind fun z41 => (f_X6_start τ z41 1).bind fun z46 => (if z46.1 = 0 then (f_X6_isNoPiece x2 x3).bind fun z52 => (f_X6_refuse z46.2 z52 2).bind fun z57 => (if z57.1 = 0 then (gwk x1).bind fun z59 => (if (z57.2.2 (5 + 3 * z59)) = 0 then f_X6_setHeld_43 z57.2 x1 x2 x3 1 else f_X6_setHeld_43 z57.2 x1 x2 x3 0) else some (0, z57.2)) else some (0, z46.2))
theorem mc_X6_setHeld : MCode yX6_setHeld cX6_setHeld 5 (some .int) := ⟨wd_1492, wd_5, by decide, by decide⟩
theorem np_X6_setHeld : (parseMethodDescriptor yX6_setHeld.desc).map (fun d => d.parameters.length) = some 3 := by decide +kernel
set_option maxHeartbeats 4000000 in
set_option maxRecDepth 100000 in
theorem c_X6_setHeld {l : Launch} {D : va_G} {κ : Nat → ClassId} {ζ : Nat → Nat} {L : List Nat} {F : Nat → va_E} {τ : MS} {B : Nat → Nat} (hI : MI κ ζ B τ L F) (x1 : Int32) (x2 : Int32) (x3 : Int32) {res : (Int32 × MS)} (hf : f_X6_setHeld τ x1 x2 x3 = some res) : MtI l D cls (ty5 κ) ζ yX6_setHeld cX6_setHeld 5 (some .int) 5 1 33 ([.ref (B 0), .int x1, .int x2, .int x3] : List Value) L F (fun r L' F' => res.1 = r ∧ MI κ ζ B res.2 L' F' ∧ FrM L F L' F') := by
  refine MtI.of (by decide) (Nat.le_of_ble_eq_true rfl) ?_
  intro p e s m below meth c S hr hlk _ hK hW hST ls hl
  have hl : lv_has ls 5 [(0, .ref (B 0)), (1, .int x1), (2, .int x2), (3, .int x3)] := hl
  have hFr : FrM L F L F := FrM.rf
  have B78 : ∀  (w78 : MS), f_X6_setHeld_78 w78 = some res → ∀ (K78 : List Nat) (G78 : Nat → va_E), MI κ ζ B w78 K78 G78 → FrM L F K78 G78 → ∀ (H78 : Heap) (l78 : List Loc) (ls : Array Slot) (cc ss : Nat), HW D cls L s H78 l78 K78 G78 → cc + (0) ≤ 1 → ss ≤ 33 * cc → lv_has ls 5 [] → W p l e (Rm 5 1 33) s m ([.ref (B 0), .int x1, .int x2, .int x3] : List Value).toArray below meth c H78 l78 cc ss (EnI D cls s below ([.ref (B 0), .int x1, .int x2, .int x3] : List Value).toArray 1 33 L (fun r L' F' => res.1 = r ∧ MI κ ζ B res.2 L' F' ∧ FrM L F L' F')) (F0 m 78 ls []) := by
    intro  w78 hf K78 G78 hI hFr H78 l78 ls cc ss hW hcc hss hl
    unfold f_X6_setHeld_78 at hf
    refine lv_bipush (v := (-9)) S.1 S.2.1 dX6_setHeld_78 (by decide) ?_
    exact pk_iret S hr hlk hW (eqm (P := fun z => z.1 = (-9) ∧ MI κ ζ B z.2 K78 G78 ∧ FrM L F K78 G78) ⟨rfl, hI, hFr⟩ (Option.some.inj hf)) (by omega) (by omega) dX6_setHeld_80
  have B43 : ∀  (w43 : MS) (v1 : Int32) (v2 : Int32) (v3 : Int32) (u1 : Int32), f_X6_setHeld_43 w43 v1 v2 v3 u1 = some res → ∀ (K43 : List Nat) (G43 : Nat → va_E), MI κ ζ B w43 K43 G43 → FrM L F K43 G43 → ∀ (H43 : Heap) (l43 : List Loc) (ls : Array Slot) (cc ss : Nat), HW D cls L s H43 l43 K43 G43 → cc + (1) ≤ 1 → ss ≤ 33 * cc → lv_has ls 5 [(0, .ref (B 0)), (1, .int v1), (2, .int v2), (3, .int v3)] → W p l e (Rm 5 1 33) s m ([.ref (B 0), .int x1, .int x2, .int x3] : List Value).toArray below meth c H43 l43 cc ss (EnI D cls s below ([.ref (B 0), .int x1, .int x2, .int x3] : List Value).toArray 1 33 L (fun r L' F' => res.1 = r ∧ MI κ ζ B res.2 L' F' ∧ FrM L F L' F')) (F0 m 43 ls [.int u1, .ref (B 0)]) := by
    intro  w43 v1 v2 v3 u1 hf K43 G43 hI hFr H43 l43 ls cc ss hW hcc hss hl
    unfold f_X6_setHeld_43 at hf
    refine lv_iconst (v := 3) S.1 S.2.1 dX6_setHeld_43 (by decide) ?_
    obtain ⟨z5, hz, hf⟩ := ob hf
    refine pk_cVI (As := [.int u1, .int 3]) (rest := []) S hK hST hW (c_X6_refuse hI u1 3 hz) mc_X6_refuse wd_1192 wd_1194 wd_1702 rfl np_X6_refuse (hI.mem (by decide)) hI.this rfl rfl hl.1 rfl (Nat.le_of_ble_eq_true rfl) dX6_setHeld_44 ⟨by decide, by decide⟩ ⟨rmc (by omega), rms (by omega)⟩ (fun r L1 F2 H3 l4 hp hW => ?_)
    obtain ⟨rfl, hI, hF9⟩ := hp
    have hFr := hFr.tr hF9
    refine lv_if_eq (tgt := 52) S.1 S.2.1 dX6_setHeld_47 (by decide) (fun c6 => ?_) (fun c6 => ?_)
    · have hf := (if_pos c6).symm.trans hf
      refine lv_aload_n S.1 S.2.1 dX6_setHeld_52 rfl (lv_at hl 0 rfl) ?_
      refine pk_get S hK hW 4 (hI.mem (by decide)) hI.this rfl hinX6 (by decide) wd_1159 rfl dX6_setHeld_53 ?_
      refine lv_iload_n S.1 S.2.1 dX6_setHeld_56 rfl (lv_at hl 1 rfl) ?_
      obtain ⟨z7, hz, hf⟩ := ob hf
      obtain ⟨hbz7, ex9⟩ := gtr_ok hz
      obtain ⟨m_w7, g7, e_w7, g70, g71⟩ := hI.wks
      refine pk_aald (y := B (8 + z7)) S hK hW 4 m_w7 e_w7 rfl (by rw [ex9]; exact vp_in_nI hbz7 (by omega)) (by rw [ex9, nI_clamp (by omega)]; exact co_2 (P := fun q => g7 q = some (B (8 + q))) g70 g71 hbz7) dX6_setHeld_57 ?_
      refine lv_astore (lv' := [(4, .ref (B (8 + z7))), (0, .ref (B 0)), (1, .int v1), (2, .int v2), (3, .int v3)]) S.1 S.2.1 dX6_setHeld_58 hl (by decide) rfl (fun ls hl => ?_)
      refine lv_aload S.1 S.2.1 dX6_setHeld_60 (lv_at hl 0 rfl) ?_
      refine pk_get S hK hW 0 (hI.mem (by have := hbz7; omega)) (hI.mkH hbz7) rfl hinX5 (by decide) wd_1100 rfl dX6_setHeld_62 ?_
      refine lv_iconst (v := 2) S.1 S.2.1 dX6_setHeld_65 (by decide) ?_
      refine lv_icmp_eq (tgt := 78) S.1 S.2.1 dX6_setHeld_66 (by decide) (fun c8 => ?_) (fun c8 => ?_)
      · have hf := (if_pos c8).symm.trans hf
        exact B78  z5.2 hf L1 F2 hI hFr _ _ _ _ _ hW (by omega) (by omega) (lv_sub hl [] rfl)
      · have hf := (if_neg c8).symm.trans hf
        refine lv_aload S.1 S.2.1 dX6_setHeld_69 (lv_at hl 0 rfl) ?_
        refine pk_get S hK hW 2 (hI.mem (by have := hbz7; omega)) (hI.mkH hbz7) rfl hinX5 (by decide) wd_1103 rfl dX6_setHeld_71 ?_
        refine lv_iconst (v := (-1)) S.1 S.2.1 dX6_setHeld_74 (by decide) ?_
        refine lv_icmp_ne (tgt := 81) S.1 S.2.1 dX6_setHeld_75 (by decide) (fun c9 => ?_) (fun c9 => ?_)
        · have hf := (if_neg c9).symm.trans hf
          refine lv_aload_n S.1 S.2.1 dX6_setHeld_81 rfl (lv_at hl 1 rfl) ?_
          refine pk_get S hK hW 1 (hI.mem (by decide)) hI.this rfl hinX6 (by decide) wd_1156 rfl dX6_setHeld_82 ?_
          refine lv_iconst (v := 1) S.1 S.2.1 dX6_setHeld_85 (by decide) ?_
          obtain ⟨z14, hz, hf⟩ := ob hf
          obtain ⟨md9, f9, hR9, -, -⟩ := hI.tracks
          refine pk_cVR (As := [.int 1]) (rest := []) S hK hST hW (c_tracks hI hz) mc_Jx4a65c_get_915e3 wd_1203 wd_1204 wd_1205 rfl np_Jx4a65c_get_915e3 hR9.1 hR9.2.1 rfl rfl hl.1 rfl (Nat.le_of_ble_eq_true rfl) dX6_setHeld_86 ⟨by decide, by decide⟩ ⟨rmc (by omega), rms (by omega)⟩ (fun r L10 F11 H12 l13 hp hW => ?_)
          obtain ⟨rfl, rfl, rfl⟩ := hp
          have hbz14 : z14 < 4 := Nat.lt_of_lt_of_le (gtr_ok hz).1 (by decide)
          obtain ⟨ar0, hL0, -⟩ := hI.list hbz14
          obtain ⟨m_h0, md0, e_h0⟩ := hL0.obj
          refine va_castS S.1 S.2.1 S.2.2.2.1 (S.2.2.2.2 _ wd_1070) (hK.1 4 _ rfl).2 (pk_recv (r := (RJx4a65c, TJx4a65c, 3)) hK hW m_h0 e_h0 rfl) dX6_setHeld_89 ?_
          refine lv_aload S.1 S.2.1 dX6_setHeld_92 (lv_at hl 0 rfl) ?_
          refine pk_get S hK hW 2 (hI.mem (by have := hbz7; omega)) (hI.mkH hbz7) rfl hinX5 (by decide) wd_1103 rfl dX6_setHeld_94 ?_
          refine lv_iload_n S.1 S.2.1 dX6_setHeld_97 rfl (lv_at hl 3 rfl) ?_
          refine lv_iload_n S.1 S.2.1 dX6_setHeld_98 rfl (lv_at hl 4 rfl) ?_
          obtain ⟨z19, hz, hf⟩ := ob hf
          refine pk_cSI (As := [.int v2, .int v3]) (rest := [.int (z5.2.2 (5 + 3 * z7 + 2)), .ref (B (3 + z14))]) S hK hST hW (c_X6_code  v2 v3 hz) mc_X6_code wd_1219 wd_1220 np_X6_code rfl hl.1 rfl (Nat.le_of_ble_eq_true rfl) dX6_setHeld_99 ⟨by decide, by decide⟩ ⟨rmc (by omega), rms (by omega)⟩ (fun r L15 F16 H17 l18 hp hW => ?_)
          obtain ⟨rfl, rfl, rfl⟩ := hp
          refine pk_cSR (As := [.int z19]) (rest := [.int (z5.2.2 (5 + 3 * z7 + 2)), .ref (B (3 + z14))]) S hK hST hW (c_J6_valueOf_2dffe (v := z19)) mc_J6_valueOf_2dffe wd_1233 wd_1234 np_J6_valueOf_2dffe rfl hl.1 rfl (Nat.le_of_ble_eq_true rfl) dX6_setHeld_102 ⟨by decide, by decide⟩ ⟨rmc (by omega), rms (by omega)⟩ (fun y24 L20 F21 H22 l23 hp hW => ?_)
          obtain ⟨hs9, hby24, hf9⟩ := hp
          have hI := hI.keep0 hs9 hf9 (noE hW hST)
          have hF9 : FrM L1 F2 L20 F21 := ⟨hs9, fun x hx _ => hf9 x hx⟩
          have hFr := hFr.tr hF9
          obtain ⟨ar9, hL9, hup9⟩ := hI.list hbz14
          obtain ⟨m_h9, md9, e_h9⟩ := hL9.obj
          obtain ⟨z29, hz, hf⟩ := ob hf
          refine pk_cVR (As := [.int (z5.2.2 (5 + 3 * z7 + 2)), .ref y24]) (rest := []) S hK hST hW (c_mset hL9 hz hby24) mc_Jx4a65c_set_bcc79 wd_1445 wd_1446 wd_1447 rfl np_Jx4a65c_set_bcc79 m_h9 e_h9 rfl rfl hl.1 rfl (Nat.le_of_ble_eq_true rfl) dX6_setHeld_105 ⟨by decide, by decide⟩ ⟨rmc (by omega), rms (by omega)⟩ (fun y30 L25 F26 H27 l28 hp hW => ?_)
          obtain ⟨hby30, hL8, hN8⟩ := hp
          obtain ⟨hI, hF9⟩ := hup9 _ _ _ _ hL8 hN8 (noE hW hST)
          have hFr := hFr.tr hF9
          obtain ⟨t31, et31, hf⟩ := nm_ok hf
          have hI := eqm (P := fun w => MI κ ζ B w L25 F26) hI et31.symm
          refine lv_pop S.1 S.2.1 dX6_setHeld_108 rfl ?_
          refine lv_aload_n S.1 S.2.1 dX6_setHeld_109 rfl (lv_at hl 1 rfl) ?_
          obtain ⟨z36, hz, hf⟩ := ob hf
          refine pk_cVV (As := []) (rest := []) S hK hST hW (c_X6_tear hI  hz) mc_X6_tear wd_1373 wd_1375 wd_1717 rfl np_X6_tear (hI.mem (by decide)) hI.this rfl rfl hl.1 rfl (Nat.le_of_ble_eq_true rfl) dX6_setHeld_110 ⟨by decide, by decide⟩ ⟨rmc (by omega), rms (by omega)⟩ (fun L32 F33 H34 l35 hp hW => ?_)
          obtain ⟨hI, hF9⟩ := hp
          have hFr := hFr.tr hF9
          refine lv_aload S.1 S.2.1 dX6_setHeld_113 (lv_at hl 0 rfl) ?_
          refine pk_get S hK hW 1 (hI.mem (by have := hbz7; omega)) (hI.mkH hbz7) rfl hinX5 (by decide) wd_1101 rfl dX6_setHeld_115 ?_
          exact pk_iret S hr hlk hW (eqm (P := fun z => z.1 = z36.2 (5 + 3 * z7 + 1) ∧ MI κ ζ B z.2 L32 F33 ∧ FrM L F L32 F33) ⟨rfl, hI, hFr⟩ (Option.some.inj hf)) (by omega) (by omega) dX6_setHeld_118
        · have hf := (if_pos c9).symm.trans hf
          exact B78  z5.2 hf L1 F2 hI hFr _ _ _ _ _ hW (by omega) (by omega) (lv_sub hl [] rfl)
    · have hf := (if_neg c6).symm.trans hf
      refine lv_iconst (v := 0) S.1 S.2.1 dX6_setHeld_50 (by decide) ?_
      exact pk_iret S hr hlk hW (eqm (P := fun z => z.1 = 0 ∧ MI κ ζ B z.2 L1 F2 ∧ FrM L F L1 F2) ⟨rfl, hI, hFr⟩ (Option.some.inj hf)) (by omega) (by omega) dX6_setHeld_51
  unfold f_X6_setHeld at hf
  refine lv_aload_n S.1 S.2.1 dX6_setHeld_0 rfl (lv_at hl 0 rfl) ?_
  refine lv_iload_n S.1 S.2.1 dX6_setHeld_1 rfl (lv_at hl 1 rfl) ?_
  obtain ⟨z41, hz, hf⟩ := ob hf
  refine pk_cSI (As := [.int x1]) (rest := [.ref (B 0)]) S hK hST hW (c_X6_isNoWalker  x1 hz) mc_X6_isNoWalker wd_1470 wd_1471 np_X6_isNoWalker rfl hl.1 rfl (Nat.le_of_ble_eq_true rfl) dX6_setHeld_2 ⟨by decide, by decide⟩ ⟨rmc (by omega), rms (by omega)⟩ (fun r L37 F38 H39 l40 hp hW => ?_)
  obtain ⟨rfl, rfl, rfl⟩ := hp
  refine lv_iconst (v := 1) S.1 S.2.1 dX6_setHeld_5 (by decide) ?_
  obtain ⟨z46, hz, hf⟩ := ob hf
  refine pk_cVI (As := [.int z41, .int 1]) (rest := []) S hK hST hW (c_X6_start hI z41 1 hz) mc_X6_start wd_1188 wd_1190 wd_1701 rfl np_X6_start (hI.mem (by decide)) hI.this rfl rfl hl.1 rfl (Nat.le_of_ble_eq_true rfl) dX6_setHeld_6 ⟨by decide, by decide⟩ ⟨rmc (by omega), rms (by omega)⟩ (fun r L42 F43 H44 l45 hp hW => ?_)
  obtain ⟨rfl, hI, hF9⟩ := hp
  have hFr := hFr.tr hF9
  refine lv_if_ne (tgt := 50) S.1 S.2.1 dX6_setHeld_9 (by decide) (fun c47 => ?_) (fun c47 => ?_)
  · have hf := (if_neg c47).symm.trans hf
    refine lv_iconst (v := 0) S.1 S.2.1 dX6_setHeld_50 (by decide) ?_
    exact pk_iret S hr hlk hW (eqm (P := fun z => z.1 = 0 ∧ MI κ ζ B z.2 L42 F43 ∧ FrM L F L42 F43) ⟨rfl, hI, hFr⟩ (Option.some.inj hf)) (by omega) (by omega) dX6_setHeld_51
  · have hf := (if_pos c47).symm.trans hf
    refine lv_aload_n S.1 S.2.1 dX6_setHeld_12 rfl (lv_at hl 0 rfl) ?_
    refine lv_iload_n S.1 S.2.1 dX6_setHeld_13 rfl (lv_at hl 2 rfl) ?_
    refine lv_iload_n S.1 S.2.1 dX6_setHeld_14 rfl (lv_at hl 3 rfl) ?_
    obtain ⟨z52, hz, hf⟩ := ob hf
    refine pk_cSI (As := [.int x2, .int x3]) (rest := [.ref (B 0)]) S hK hST hW (c_X6_isNoPiece  x2 x3 hz) mc_X6_isNoPiece wd_1196 wd_1197 np_X6_isNoPiece rfl hl.1 rfl (Nat.le_of_ble_eq_true rfl) dX6_setHeld_15 ⟨by decide, by decide⟩ ⟨rmc (by omega), rms (by omega)⟩ (fun r L48 F49 H50 l51 hp hW => ?_)
    obtain ⟨rfl, rfl, rfl⟩ := hp
    refine lv_iconst (v := 2) S.1 S.2.1 dX6_setHeld_18 (by decide) ?_
    obtain ⟨z57, hz, hf⟩ := ob hf
    refine pk_cVI (As := [.int z52, .int 2]) (rest := []) S hK hST hW (c_X6_refuse hI z52 2 hz) mc_X6_refuse wd_1192 wd_1194 wd_1702 rfl np_X6_refuse (hI.mem (by decide)) hI.this rfl rfl hl.1 rfl (Nat.le_of_ble_eq_true rfl) dX6_setHeld_19 ⟨by decide, by decide⟩ ⟨rmc (by omega), rms (by omega)⟩ (fun r L53 F54 H55 l56 hp hW => ?_)
    obtain ⟨rfl, hI, hF9⟩ := hp
    have hFr := hFr.tr hF9
    refine lv_if_ne (tgt := 50) S.1 S.2.1 dX6_setHeld_22 (by decide) (fun c58 => ?_) (fun c58 => ?_)
    · have hf := (if_neg c58).symm.trans hf
      refine lv_iconst (v := 0) S.1 S.2.1 dX6_setHeld_50 (by decide) ?_
      exact pk_iret S hr hlk hW (eqm (P := fun z => z.1 = 0 ∧ MI κ ζ B z.2 L53 F54 ∧ FrM L F L53 F54) ⟨rfl, hI, hFr⟩ (Option.some.inj hf)) (by omega) (by omega) dX6_setHeld_51
    · have hf := (if_pos c58).symm.trans hf
      refine lv_aload_n S.1 S.2.1 dX6_setHeld_25 rfl (lv_at hl 0 rfl) ?_
      refine lv_aload_n S.1 S.2.1 dX6_setHeld_26 rfl (lv_at hl 0 rfl) ?_
      refine pk_get S hK hW 4 (hI.mem (by decide)) hI.this rfl hinX6 (by decide) wd_1159 rfl dX6_setHeld_27 ?_
      refine lv_iload_n S.1 S.2.1 dX6_setHeld_30 rfl (lv_at hl 1 rfl) ?_
      obtain ⟨z59, hz, hf⟩ := ob hf
      obtain ⟨hbz59, ex9⟩ := gtr_ok hz
      obtain ⟨m_w7, g7, e_w7, g70, g71⟩ := hI.wks
      refine pk_aald (y := B (8 + z59)) S hK hW 4 m_w7 e_w7 rfl (by rw [ex9]; exact vp_in_nI hbz59 (by omega)) (by rw [ex9, nI_clamp (by omega)]; exact co_2 (P := fun q => g7 q = some (B (8 + q))) g70 g71 hbz59) dX6_setHeld_31 ?_
      refine pk_get S hK hW 0 (hI.mem (by have := hbz59; omega)) (hI.mkH hbz59) rfl hinX5 (by decide) wd_1100 rfl dX6_setHeld_32 ?_
      refine lv_if_ne (tgt := 42) S.1 S.2.1 dX6_setHeld_35 (by decide) (fun c60 => ?_) (fun c60 => ?_)
      · have hf := (if_neg c60).symm.trans hf
        refine lv_iconst (v := 0) S.1 S.2.1 dX6_setHeld_42 (by decide) ?_
        exact B43  z57.2 x1 x2 x3 0 hf L53 F54 hI hFr _ _ _ _ _ hW (by omega) (by omega) (lv_sub hl [0, 1, 2, 3] rfl)
      · have hf := (if_pos c60).symm.trans hf
        refine lv_iconst (v := 1) S.1 S.2.1 dX6_setHeld_38 (by decide) ?_
        refine lv_goto (tgt := 43) S.1 S.2.1 dX6_setHeld_39 (by decide) ?_
        exact B43  z57.2 x1 x2 x3 1 hf L53 F54 hI hFr _ _ _ _ _ hW (by omega) (by omega) (lv_sub hl [0, 1, 2, 3] rfl)
def f_X6_put_53   (w53 : MS) (v1 : Int32) (v2 : Int32) (v3 : Int32) (u1 : Int32) : Option (Int32 × MS) := (f_X6_refuse w53 u1 3).bind fun z5 => (if z5.1 = 0 then (gwk v1).bind fun z7 => (if (z5.2.2 (5 + 3 * z7)) = 2 then some ((-9), z5.2) else (gtr 1).bind fun z13 => (f_X6_code v2 v3).bind fun z18 => (lins (z5.2.1 z13) (z5.2.2 (5 + 3 * z7 + 1)) z18).bind fun z28 => nm ((va_up z5.2.1 z13 z28, z5.2.2) : MS) fun t29 => nm ((t29.1, va_up t29.2 (5 + 3 * z7 + 1) ((t29.2 (5 + 3 * z7 + 1)) + 1)) : MS) fun t33 => nm ((t33.1, va_up t33.2 (5 + 3 * z7 + 2) ((-1))) : MS) fun t37 => (f_X6_changed t37 1 v1).bind fun z42 => (f_X6_tear z42).bind fun z47 => some (z47.2 (5 + 3 * z7 + 1), z47)) else some (0, z5.2))
def f_X6_put_48   (w48 : MS) (v1 : Int32) (v2 : Int32) (v3 : Int32) : Option (Int32 × MS) := f_X6_put_53 w48 v1 v2 v3 1
def f_X6_put (τ : MS) (x1 : Int32) (x2 : Int32) (x3 : Int32) : Option (Int32 × MS) := (f_X6_isNoWalker x1).bind fun z52 => (f_X6_start τ z52 1).bind fun z57 => (if z57.1 = 0 then (f_X6_isNoPiece x2 x3).bind fun z63 => (f_X6_refuse z57.2 z63 2).bind fun z68 => (if z68.1 = 0 then (gwk x1).bind fun z70 => (if (z68.2.2 (5 + 3 * z70)) = 0 then f_X6_put_48 z68.2 x1 x2 x3 else (f_X6_size z68.2 1).bind fun z76 => (if z76 = 20 then f_X6_put_48 z68.2 x1 x2 x3 else f_X6_put_53 z68.2 x1 x2 x3 0)) else some (0, z68.2)) else some (0, z57.2))
theorem mc_X6_put : MCode yX6_put cX6_put 5 (some .int) := ⟨wd_1496, wd_5, by decide, by decide⟩
theorem np_X6_put : (parseMethodDescriptor yX6_put.desc).map (fun d => d.parameters.length) = some 3 := by decide +kernel
set_option maxHeartbeats 4000000 in
set_option maxRecDepth 100000 in
theorem c_X6_put {l : Launch} {D : va_G} {κ : Nat → ClassId} {ζ : Nat → Nat} {L : List Nat} {F : Nat → va_E} {τ : MS} {B : Nat → Nat} (hI : MI κ ζ B τ L F) (x1 : Int32) (x2 : Int32) (x3 : Int32) {res : (Int32 × MS)} (hf : f_X6_put τ x1 x2 x3 = some res) : MtI l D cls (ty5 κ) ζ yX6_put cX6_put 5 (some .int) 8 2 66 ([.ref (B 0), .int x1, .int x2, .int x3] : List Value) L F (fun r L' F' => res.1 = r ∧ MI κ ζ B res.2 L' F' ∧ FrM L F L' F') := by
  refine MtI.of (by decide) (Nat.le_of_ble_eq_true rfl) ?_
  intro p e s m below meth c S hr hlk _ hK hW hST ls hl
  have hl : lv_has ls 5 [(0, .ref (B 0)), (1, .int x1), (2, .int x2), (3, .int x3)] := hl
  have hFr : FrM L F L F := FrM.rf
  have B53 : ∀  (w53 : MS) (v1 : Int32) (v2 : Int32) (v3 : Int32) (u1 : Int32), f_X6_put_53 w53 v1 v2 v3 u1 = some res → ∀ (K53 : List Nat) (G53 : Nat → va_E), MI κ ζ B w53 K53 G53 → FrM L F K53 G53 → ∀ (H53 : Heap) (l53 : List Loc) (ls : Array Slot) (cc ss : Nat), HW D cls L s H53 l53 K53 G53 → cc + (2) ≤ 2 → ss ≤ 33 * cc → lv_has ls 5 [(0, .ref (B 0)), (1, .int v1), (2, .int v2), (3, .int v3)] → W p l e (Rm 8 2 66) s m ([.ref (B 0), .int x1, .int x2, .int x3] : List Value).toArray below meth c H53 l53 cc ss (EnI D cls s below ([.ref (B 0), .int x1, .int x2, .int x3] : List Value).toArray 2 66 L (fun r L' F' => res.1 = r ∧ MI κ ζ B res.2 L' F' ∧ FrM L F L' F')) (F0 m 53 ls [.int u1, .ref (B 0)]) := by
    intro  w53 v1 v2 v3 u1 hf K53 G53 hI hFr H53 l53 ls cc ss hW hcc hss hl
    unfold f_X6_put_53 at hf
    refine lv_iconst (v := 3) S.1 S.2.1 dX6_put_53 (by decide) ?_
    obtain ⟨z5, hz, hf⟩ := ob hf
    refine pk_cVI (As := [.int u1, .int 3]) (rest := []) S hK hST hW (c_X6_refuse hI u1 3 hz) mc_X6_refuse wd_1192 wd_1194 wd_1702 rfl np_X6_refuse (hI.mem (by decide)) hI.this rfl rfl hl.1 rfl (Nat.le_of_ble_eq_true rfl) dX6_put_54 ⟨by decide, by decide⟩ ⟨rmc (by omega), rms (by omega)⟩ (fun r L1 F2 H3 l4 hp hW => ?_)
    obtain ⟨rfl, hI, hF9⟩ := hp
    have hFr := hFr.tr hF9
    refine lv_if_eq (tgt := 62) S.1 S.2.1 dX6_put_57 (by decide) (fun c6 => ?_) (fun c6 => ?_)
    · have hf := (if_pos c6).symm.trans hf
      refine lv_aload_n S.1 S.2.1 dX6_put_62 rfl (lv_at hl 0 rfl) ?_
      refine pk_get S hK hW 4 (hI.mem (by decide)) hI.this rfl hinX6 (by decide) wd_1159 rfl dX6_put_63 ?_
      refine lv_iload_n S.1 S.2.1 dX6_put_66 rfl (lv_at hl 1 rfl) ?_
      obtain ⟨z7, hz, hf⟩ := ob hf
      obtain ⟨hbz7, ex9⟩ := gtr_ok hz
      obtain ⟨m_w7, g7, e_w7, g70, g71⟩ := hI.wks
      refine pk_aald (y := B (8 + z7)) S hK hW 4 m_w7 e_w7 rfl (by rw [ex9]; exact vp_in_nI hbz7 (by omega)) (by rw [ex9, nI_clamp (by omega)]; exact co_2 (P := fun q => g7 q = some (B (8 + q))) g70 g71 hbz7) dX6_put_67 ?_
      refine lv_astore (lv' := [(4, .ref (B (8 + z7))), (0, .ref (B 0)), (1, .int v1), (2, .int v2), (3, .int v3)]) S.1 S.2.1 dX6_put_68 hl (by decide) rfl (fun ls hl => ?_)
      refine lv_aload S.1 S.2.1 dX6_put_70 (lv_at hl 0 rfl) ?_
      refine pk_get S hK hW 0 (hI.mem (by have := hbz7; omega)) (hI.mkH hbz7) rfl hinX5 (by decide) wd_1100 rfl dX6_put_72 ?_
      refine lv_iconst (v := 2) S.1 S.2.1 dX6_put_75 (by decide) ?_
      refine lv_icmp_ne (tgt := 82) S.1 S.2.1 dX6_put_76 (by decide) (fun c8 => ?_) (fun c8 => ?_)
      · have hf := (if_neg c8).symm.trans hf
        refine lv_aload_n S.1 S.2.1 dX6_put_82 rfl (lv_at hl 1 rfl) ?_
        refine pk_get S hK hW 1 (hI.mem (by decide)) hI.this rfl hinX6 (by decide) wd_1156 rfl dX6_put_83 ?_
        refine lv_iconst (v := 1) S.1 S.2.1 dX6_put_86 (by decide) ?_
        obtain ⟨z13, hz, hf⟩ := ob hf
        obtain ⟨md9, f9, hR9, -, -⟩ := hI.tracks
        refine pk_cVR (As := [.int 1]) (rest := []) S hK hST hW (c_tracks hI hz) mc_Jx4a65c_get_915e3 wd_1203 wd_1204 wd_1205 rfl np_Jx4a65c_get_915e3 hR9.1 hR9.2.1 rfl rfl hl.1 rfl (Nat.le_of_ble_eq_true rfl) dX6_put_87 ⟨by decide, by decide⟩ ⟨rmc (by omega), rms (by omega)⟩ (fun r L9 F10 H11 l12 hp hW => ?_)
        obtain ⟨rfl, rfl, rfl⟩ := hp
        have hbz13 : z13 < 4 := Nat.lt_of_lt_of_le (gtr_ok hz).1 (by decide)
        obtain ⟨ar0, hL0, -⟩ := hI.list hbz13
        obtain ⟨m_h0, md0, e_h0⟩ := hL0.obj
        refine va_castS S.1 S.2.1 S.2.2.2.1 (S.2.2.2.2 _ wd_1070) (hK.1 4 _ rfl).2 (pk_recv (r := (RJx4a65c, TJx4a65c, 3)) hK hW m_h0 e_h0 rfl) dX6_put_90 ?_
        refine lv_aload S.1 S.2.1 dX6_put_93 (lv_at hl 0 rfl) ?_
        refine pk_get S hK hW 1 (hI.mem (by have := hbz7; omega)) (hI.mkH hbz7) rfl hinX5 (by decide) wd_1101 rfl dX6_put_95 ?_
        refine lv_iload_n S.1 S.2.1 dX6_put_98 rfl (lv_at hl 3 rfl) ?_
        refine lv_iload_n S.1 S.2.1 dX6_put_99 rfl (lv_at hl 4 rfl) ?_
        obtain ⟨z18, hz, hf⟩ := ob hf
        refine pk_cSI (As := [.int v2, .int v3]) (rest := [.int (z5.2.2 (5 + 3 * z7 + 1)), .ref (B (3 + z13))]) S hK hST hW (c_X6_code  v2 v3 hz) mc_X6_code wd_1219 wd_1220 np_X6_code rfl hl.1 rfl (Nat.le_of_ble_eq_true rfl) dX6_put_100 ⟨by decide, by decide⟩ ⟨rmc (by omega), rms (by omega)⟩ (fun r L14 F15 H16 l17 hp hW => ?_)
        obtain ⟨rfl, rfl, rfl⟩ := hp
        refine pk_cSR (As := [.int z18]) (rest := [.int (z5.2.2 (5 + 3 * z7 + 1)), .ref (B (3 + z13))]) S hK hST hW (c_J6_valueOf_2dffe (v := z18)) mc_J6_valueOf_2dffe wd_1233 wd_1234 np_J6_valueOf_2dffe rfl hl.1 rfl (Nat.le_of_ble_eq_true rfl) dX6_put_103 ⟨by decide, by decide⟩ ⟨rmc (by omega), rms (by omega)⟩ (fun y23 L19 F20 H21 l22 hp hW => ?_)
        obtain ⟨hs9, hby23, hf9⟩ := hp
        have hI := hI.keep0 hs9 hf9 (noE hW hST)
        have hF9 : FrM L1 F2 L19 F20 := ⟨hs9, fun x hx _ => hf9 x hx⟩
        have hFr := hFr.tr hF9
        obtain ⟨ar9, hL9, hup9⟩ := hI.list hbz13
        obtain ⟨m_h9, md9, e_h9⟩ := hL9.obj
        obtain ⟨z28, hz, hf⟩ := ob hf
        refine pk_cVV (As := [.int (z5.2.2 (5 + 3 * z7 + 1)), .ref y23]) (rest := []) S hK hST hW (c_mins hL9 hz hby23) mc_Jx4a65c_add_7a177 wd_1250 wd_1251 wd_1252 rfl np_Jx4a65c_add_7a177 m_h9 e_h9 rfl rfl hl.1 rfl (Nat.le_of_ble_eq_true rfl) dX6_put_106 ⟨by decide, by decide⟩ ⟨rmc (by omega), rms (by omega)⟩ (fun L24 F25 H26 l27 hp hW => ?_)
        obtain ⟨ar8, hL8, hN8⟩ := hp
        obtain ⟨hI, hF9⟩ := hup9 _ _ _ _ hL8 hN8 (noE hW hST)
        have hFr := hFr.tr hF9
        obtain ⟨t29, et29, hf⟩ := nm_ok hf
        have hI := eqm (P := fun w => MI κ ζ B w L24 F25) hI et29.symm
        refine lv_aload S.1 S.2.1 dX6_put_109 (lv_at hl 0 rfl) ?_
        refine lv_dup S.1 S.2.1 dX6_put_111 rfl ?_
        refine pk_get S hK hW 1 (hI.mem (by have := hbz7; omega)) (hI.mkH hbz7) rfl hinX5 (by decide) wd_1101 rfl dX6_put_112 ?_
        refine lv_iconst (v := 1) S.1 S.2.1 dX6_put_115 (by decide) ?_
        refine lv_iadd S.1 S.2.1 dX6_put_116 ?_
        refine pk_put (v := .int ((t29.2 (5 + 3 * z7 + 1)) + 1)) S hK hW 1 (hI.mem (by have := hbz7; omega)) (hI.mkH hbz7) rfl hinX5 tyX5_ok nmX5 (by decide) wd_1101 rfl rfl rfl rfl (Nat.le_of_ble_eq_true rfl) dX6_put_117 (fun H30 l31 hW => ?_)
        have hF9 := FrM.cell (L := L24) (w := (([.int (t29.2 (5 + 3 * z7)), .int (t29.2 (5 + 3 * z7 + 1)), .int (t29.2 (5 + 3 * z7 + 2))] : List Value).set 1 (.int ((t29.2 (5 + 3 * z7 + 1)) + 1)))) (hI.mkH hbz7) (Or.inl rfl)
        have hI := hI.setMk hbz7 1 (by decide) ((t29.2 (5 + 3 * z7 + 1)) + 1)
        generalize va_up F25 (B (8 + z7)) (.inr (10, (([.int (t29.2 (5 + 3 * z7)), .int (t29.2 (5 + 3 * z7 + 1)), .int (t29.2 (5 + 3 * z7 + 2))] : List Value).set 1 (.int ((t29.2 (5 + 3 * z7 + 1)) + 1))))) = F32 at hW hI hF9
        have hFr := hFr.tr hF9
        obtain ⟨t33, et33, hf⟩ := nm_ok hf
        have hI := eqm (P := fun w => MI κ ζ B w L24 F32) hI et33.symm
        refine lv_aload S.1 S.2.1 dX6_put_120 (lv_at hl 0 rfl) ?_
        refine lv_iconst (v := (-1)) S.1 S.2.1 dX6_put_122 (by decide) ?_
        refine pk_put (v := .int ((-1))) S hK hW 2 (hI.mem (by have := hbz7; omega)) (hI.mkH hbz7) rfl hinX5 tyX5_ok nmX5 (by decide) wd_1103 rfl rfl rfl rfl (Nat.le_of_ble_eq_true rfl) dX6_put_123 (fun H34 l35 hW => ?_)
        have hF9 := FrM.cell (L := L24) (w := (([.int (t33.2 (5 + 3 * z7)), .int (t33.2 (5 + 3 * z7 + 1)), .int (t33.2 (5 + 3 * z7 + 2))] : List Value).set 2 (.int ((-1))))) (hI.mkH hbz7) (Or.inl rfl)
        have hI := hI.setMk hbz7 2 (by decide) ((-1))
        generalize va_up F32 (B (8 + z7)) (.inr (10, (([.int (t33.2 (5 + 3 * z7)), .int (t33.2 (5 + 3 * z7 + 1)), .int (t33.2 (5 + 3 * z7 + 2))] : List Value).set 2 (.int ((-1)))))) = F36 at hW hI hF9
        have hFr := hFr.tr hF9
        obtain ⟨t37, et37, hf⟩ := nm_ok hf
        have hI := eqm (P := fun w => MI κ ζ B w L24 F36) hI et37.symm
        refine lv_aload_n S.1 S.2.1 dX6_put_126 rfl (lv_at hl 1 rfl) ?_
        refine lv_iconst (v := 1) S.1 S.2.1 dX6_put_127 (by decide) ?_
        refine lv_iload_n S.1 S.2.1 dX6_put_128 rfl (lv_at hl 2 rfl) ?_
        obtain ⟨z42, hz, hf⟩ := ob hf
        refine pk_cVV (As := [.int 1, .int v1]) (rest := []) S hK hST hW (c_X6_changed hI 1 v1 hz) mc_X6_changed wd_1272 wd_1274 wd_1708 rfl np_X6_changed (hI.mem (by decide)) hI.this rfl rfl hl.1 rfl (Nat.le_of_ble_eq_true rfl) dX6_put_129 ⟨by decide, by decide⟩ ⟨rmc (by omega), rms (by omega)⟩ (fun L38 F39 H40 l41 hp hW => ?_)
        obtain ⟨hI, hF9⟩ := hp
        have hFr := hFr.tr hF9
        refine lv_aload_n S.1 S.2.1 dX6_put_132 rfl (lv_at hl 1 rfl) ?_
        obtain ⟨z47, hz, hf⟩ := ob hf
        refine pk_cVV (As := []) (rest := []) S hK hST hW (c_X6_tear hI  hz) mc_X6_tear wd_1373 wd_1375 wd_1717 rfl np_X6_tear (hI.mem (by decide)) hI.this rfl rfl hl.1 rfl (Nat.le_of_ble_eq_true rfl) dX6_put_133 ⟨by decide, by decide⟩ ⟨rmc (by omega), rms (by omega)⟩ (fun L43 F44 H45 l46 hp hW => ?_)
        obtain ⟨hI, hF9⟩ := hp
        have hFr := hFr.tr hF9
        refine lv_aload S.1 S.2.1 dX6_put_136 (lv_at hl 0 rfl) ?_
        refine pk_get S hK hW 1 (hI.mem (by have := hbz7; omega)) (hI.mkH hbz7) rfl hinX5 (by decide) wd_1101 rfl dX6_put_138 ?_
        exact pk_iret S hr hlk hW (eqm (P := fun z => z.1 = z47.2 (5 + 3 * z7 + 1) ∧ MI κ ζ B z.2 L43 F44 ∧ FrM L F L43 F44) ⟨rfl, hI, hFr⟩ (Option.some.inj hf)) (by omega) (by omega) dX6_put_141
      · have hf := (if_pos c8).symm.trans hf
        refine lv_bipush (v := (-9)) S.1 S.2.1 dX6_put_79 (by decide) ?_
        exact pk_iret S hr hlk hW (eqm (P := fun z => z.1 = (-9) ∧ MI κ ζ B z.2 L1 F2 ∧ FrM L F L1 F2) ⟨rfl, hI, hFr⟩ (Option.some.inj hf)) (by omega) (by omega) dX6_put_81
    · have hf := (if_neg c6).symm.trans hf
      refine lv_iconst (v := 0) S.1 S.2.1 dX6_put_60 (by decide) ?_
      exact pk_iret S hr hlk hW (eqm (P := fun z => z.1 = 0 ∧ MI κ ζ B z.2 L1 F2 ∧ FrM L F L1 F2) ⟨rfl, hI, hFr⟩ (Option.some.inj hf)) (by omega) (by omega) dX6_put_61
  have B48 : ∀  (w48 : MS) (v1 : Int32) (v2 : Int32) (v3 : Int32), f_X6_put_48 w48 v1 v2 v3 = some res → ∀ (K48 : List Nat) (G48 : Nat → va_E), MI κ ζ B w48 K48 G48 → FrM L F K48 G48 → ∀ (H48 : Heap) (l48 : List Loc) (ls : Array Slot) (cc ss : Nat), HW D cls L s H48 l48 K48 G48 → cc + (2) ≤ 2 → ss ≤ 33 * cc → lv_has ls 5 [(0, .ref (B 0)), (1, .int v1), (2, .int v2), (3, .int v3)] → W p l e (Rm 8 2 66) s m ([.ref (B 0), .int x1, .int x2, .int x3] : List Value).toArray below meth c H48 l48 cc ss (EnI D cls s below ([.ref (B 0), .int x1, .int x2, .int x3] : List Value).toArray 2 66 L (fun r L' F' => res.1 = r ∧ MI κ ζ B res.2 L' F' ∧ FrM L F L' F')) (F0 m 48 ls [.ref (B 0)]) := by
    intro  w48 v1 v2 v3 hf K48 G48 hI hFr H48 l48 ls cc ss hW hcc hss hl
    unfold f_X6_put_48 at hf
    refine lv_iconst (v := 1) S.1 S.2.1 dX6_put_48 (by decide) ?_
    refine lv_goto (tgt := 53) S.1 S.2.1 dX6_put_49 (by decide) ?_
    exact B53  w48 v1 v2 v3 1 hf K48 G48 hI hFr _ _ _ _ _ hW (by omega) (by omega) (lv_sub hl [0, 1, 2, 3] rfl)
  unfold f_X6_put at hf
  refine lv_aload_n S.1 S.2.1 dX6_put_0 rfl (lv_at hl 0 rfl) ?_
  refine lv_iload_n S.1 S.2.1 dX6_put_1 rfl (lv_at hl 1 rfl) ?_
  obtain ⟨z52, hz, hf⟩ := ob hf
  refine pk_cSI (As := [.int x1]) (rest := [.ref (B 0)]) S hK hST hW (c_X6_isNoWalker  x1 hz) mc_X6_isNoWalker wd_1470 wd_1471 np_X6_isNoWalker rfl hl.1 rfl (Nat.le_of_ble_eq_true rfl) dX6_put_2 ⟨by decide, by decide⟩ ⟨rmc (by omega), rms (by omega)⟩ (fun r L48 F49 H50 l51 hp hW => ?_)
  obtain ⟨rfl, rfl, rfl⟩ := hp
  refine lv_iconst (v := 1) S.1 S.2.1 dX6_put_5 (by decide) ?_
  obtain ⟨z57, hz, hf⟩ := ob hf
  refine pk_cVI (As := [.int z52, .int 1]) (rest := []) S hK hST hW (c_X6_start hI z52 1 hz) mc_X6_start wd_1188 wd_1190 wd_1701 rfl np_X6_start (hI.mem (by decide)) hI.this rfl rfl hl.1 rfl (Nat.le_of_ble_eq_true rfl) dX6_put_6 ⟨by decide, by decide⟩ ⟨rmc (by omega), rms (by omega)⟩ (fun r L53 F54 H55 l56 hp hW => ?_)
  obtain ⟨rfl, hI, hF9⟩ := hp
  have hFr := hFr.tr hF9
  refine lv_if_ne (tgt := 60) S.1 S.2.1 dX6_put_9 (by decide) (fun c58 => ?_) (fun c58 => ?_)
  · have hf := (if_neg c58).symm.trans hf
    refine lv_iconst (v := 0) S.1 S.2.1 dX6_put_60 (by decide) ?_
    exact pk_iret S hr hlk hW (eqm (P := fun z => z.1 = 0 ∧ MI κ ζ B z.2 L53 F54 ∧ FrM L F L53 F54) ⟨rfl, hI, hFr⟩ (Option.some.inj hf)) (by omega) (by omega) dX6_put_61
  · have hf := (if_pos c58).symm.trans hf
    refine lv_aload_n S.1 S.2.1 dX6_put_12 rfl (lv_at hl 0 rfl) ?_
    refine lv_iload_n S.1 S.2.1 dX6_put_13 rfl (lv_at hl 2 rfl) ?_
    refine lv_iload_n S.1 S.2.1 dX6_put_14 rfl (lv_at hl 3 rfl) ?_
    obtain ⟨z63, hz, hf⟩ := ob hf
    refine pk_cSI (As := [.int x2, .int x3]) (rest := [.ref (B 0)]) S hK hST hW (c_X6_isNoPiece  x2 x3 hz) mc_X6_isNoPiece wd_1196 wd_1197 np_X6_isNoPiece rfl hl.1 rfl (Nat.le_of_ble_eq_true rfl) dX6_put_15 ⟨by decide, by decide⟩ ⟨rmc (by omega), rms (by omega)⟩ (fun r L59 F60 H61 l62 hp hW => ?_)
    obtain ⟨rfl, rfl, rfl⟩ := hp
    refine lv_iconst (v := 2) S.1 S.2.1 dX6_put_18 (by decide) ?_
    obtain ⟨z68, hz, hf⟩ := ob hf
    refine pk_cVI (As := [.int z63, .int 2]) (rest := []) S hK hST hW (c_X6_refuse hI z63 2 hz) mc_X6_refuse wd_1192 wd_1194 wd_1702 rfl np_X6_refuse (hI.mem (by decide)) hI.this rfl rfl hl.1 rfl (Nat.le_of_ble_eq_true rfl) dX6_put_19 ⟨by decide, by decide⟩ ⟨rmc (by omega), rms (by omega)⟩ (fun r L64 F65 H66 l67 hp hW => ?_)
    obtain ⟨rfl, hI, hF9⟩ := hp
    have hFr := hFr.tr hF9
    refine lv_if_ne (tgt := 60) S.1 S.2.1 dX6_put_22 (by decide) (fun c69 => ?_) (fun c69 => ?_)
    · have hf := (if_neg c69).symm.trans hf
      refine lv_iconst (v := 0) S.1 S.2.1 dX6_put_60 (by decide) ?_
      exact pk_iret S hr hlk hW (eqm (P := fun z => z.1 = 0 ∧ MI κ ζ B z.2 L64 F65 ∧ FrM L F L64 F65) ⟨rfl, hI, hFr⟩ (Option.some.inj hf)) (by omega) (by omega) dX6_put_61
    · have hf := (if_pos c69).symm.trans hf
      refine lv_aload_n S.1 S.2.1 dX6_put_25 rfl (lv_at hl 0 rfl) ?_
      refine lv_aload_n S.1 S.2.1 dX6_put_26 rfl (lv_at hl 0 rfl) ?_
      refine pk_get S hK hW 4 (hI.mem (by decide)) hI.this rfl hinX6 (by decide) wd_1159 rfl dX6_put_27 ?_
      refine lv_iload_n S.1 S.2.1 dX6_put_30 rfl (lv_at hl 1 rfl) ?_
      obtain ⟨z70, hz, hf⟩ := ob hf
      obtain ⟨hbz70, ex9⟩ := gtr_ok hz
      obtain ⟨m_w7, g7, e_w7, g70, g71⟩ := hI.wks
      refine pk_aald (y := B (8 + z70)) S hK hW 4 m_w7 e_w7 rfl (by rw [ex9]; exact vp_in_nI hbz70 (by omega)) (by rw [ex9, nI_clamp (by omega)]; exact co_2 (P := fun q => g7 q = some (B (8 + q))) g70 g71 hbz70) dX6_put_31 ?_
      refine pk_get S hK hW 0 (hI.mem (by have := hbz70; omega)) (hI.mkH hbz70) rfl hinX5 (by decide) wd_1100 rfl dX6_put_32 ?_
      refine lv_if_eq (tgt := 48) S.1 S.2.1 dX6_put_35 (by decide) (fun c71 => ?_) (fun c71 => ?_)
      · have hf := (if_pos c71).symm.trans hf
        exact B48  z68.2 x1 x2 x3 hf L64 F65 hI hFr _ _ _ _ _ hW (by omega) (by omega) (lv_sub hl [0, 1, 2, 3] rfl)
      · have hf := (if_neg c71).symm.trans hf
        refine lv_aload_n S.1 S.2.1 dX6_put_38 rfl (lv_at hl 0 rfl) ?_
        refine lv_iconst (v := 1) S.1 S.2.1 dX6_put_39 (by decide) ?_
        obtain ⟨z76, hz, hf⟩ := ob hf
        refine pk_cVI (As := [.int 1]) (rest := [.ref (B 0)]) S hK hST hW (c_X6_size hI 1 hz) mc_X6_size wd_1199 wd_1201 wd_1703 rfl np_X6_size (hI.mem (by decide)) hI.this rfl rfl hl.1 rfl (Nat.le_of_ble_eq_true rfl) dX6_put_40 ⟨by decide, by decide⟩ ⟨rmc (by omega), rms (by omega)⟩ (fun r L72 F73 H74 l75 hp hW => ?_)
        obtain ⟨rfl, rfl, rfl⟩ := hp
        refine lv_bipush (v := 20) S.1 S.2.1 dX6_put_43 (by decide) ?_
        refine lv_icmp_ne (tgt := 52) S.1 S.2.1 dX6_put_45 (by decide) (fun c77 => ?_) (fun c77 => ?_)
        · have hf := (if_neg c77).symm.trans hf
          refine lv_iconst (v := 0) S.1 S.2.1 dX6_put_52 (by decide) ?_
          exact B53  z68.2 x1 x2 x3 0 hf L64 F65 hI hFr _ _ _ _ _ hW (by omega) (by omega) (lv_sub hl [0, 1, 2, 3] rfl)
        · have hf := (if_pos c77).symm.trans hf
          exact B48  z68.2 x1 x2 x3 hf L64 F65 hI hFr _ _ _ _ _ hW (by omega) (by omega) (lv_sub hl [0, 1, 2, 3] rfl)
def f_X6_whereNow_70   (w70 : MS) (v2 : Int32) (nu0 : Nat) (gu0 : (Nat → Int32)) (u2 : Int32) (u3 : Int32) : Option (Int32 × MS) := (f_X6_one u3).bind fun z5 => (if u2 < 0 ∨ nu0 ≤ u2.toNatClampNeg then none else nm ((upd gu0 u2.toNatClampNeg z5) : Nat → Int32) fun g6 => (if v2 < 0 ∨ nu0 ≤ v2.toNatClampNeg then none else some (g6 v2.toNatClampNeg, w70)))
def f_X6_whereNow_52   (w52 : MS) (v2 : Int32) (v3 : Nat) (nu0 : Nat) (gu0 : (Nat → Int32)) (u2 : Int32) (u3 : Int32) : Option (Int32 × MS) := (f_X6_one u3).bind fun z14 => (if u2 < 0 ∨ nu0 ≤ u2.toNatClampNeg then none else nm ((upd gu0 u2.toNatClampNeg z14) : Nat → Int32) fun g15 => (if (w52.2 (5 + 3 * v3 + 1)) ≤ 0 then f_X6_whereNow_70 w52 v2 nu0 g15 4 0 else f_X6_whereNow_70 w52 v2 nu0 g15 4 1))
def f_X6_whereNow (τ : MS) (x1 : Int32) (x2 : Int32) : Option (Int32 × MS) := (gwk x1).bind fun z20 => (if (5 : Int32) < 0 ∨ 32 < (5 : Int32).toNatClampNeg then none else nm ((5 : Int32).toNatClampNeg : Nat) fun n21 => nm (fun _ => 0 : Nat → Int32) fun g22 => (if (0 : Int32) < 0 ∨ n21 ≤ (0 : Int32).toNatClampNeg then none else nm ((upd g22 (0 : Int32).toNatClampNeg (τ.2 (5 + 3 * z20))) : Nat → Int32) fun g27 => (if (1 : Int32) < 0 ∨ n21 ≤ (1 : Int32).toNatClampNeg then none else nm ((upd g27 (1 : Int32).toNatClampNeg (τ.2 (5 + 3 * z20 + 1))) : Nat → Int32) fun g31 => (if (2 : Int32) < 0 ∨ n21 ≤ (2 : Int32).toNatClampNeg then none else nm ((upd g31 (2 : Int32).toNatClampNeg ((τ.2 (5 + 3 * z20 + 1)) - 1)) : Nat → Int32) fun g35 => (f_X6_size τ 1).bind fun z43 => (if z43 ≤ (τ.2 (5 + 3 * z20 + 1)) then f_X6_whereNow_52 (τ) x2 z20 n21 g35 3 0 else f_X6_whereNow_52 (τ) x2 z20 n21 g35 3 1)))))
theorem mc_X6_whereNow : MCode yX6_whereNow cX6_whereNow 5 (some .int) := ⟨wd_1504, wd_5, by decide, by decide⟩
theorem np_X6_whereNow : (parseMethodDescriptor yX6_whereNow.desc).map (fun d => d.parameters.length) = some 2 := by decide +kernel
set_option maxHeartbeats 4000000 in
set_option maxRecDepth 100000 in
theorem c_X6_whereNow {l : Launch} {D : va_G} {κ : Nat → ClassId} {ζ : Nat → Nat} {L : List Nat} {F : Nat → va_E} {τ : MS} {B : Nat → Nat} (hI : MI κ ζ B τ L F) (x1 : Int32) (x2 : Int32) {res : (Int32 × MS)} (hf : f_X6_whereNow τ x1 x2 = some res) : MtI l D cls (ty5 κ) ζ yX6_whereNow cX6_whereNow 5 (some .int) 5 1 33 ([.ref (B 0), .int x1, .int x2] : List Value) L F (fun r L' F' => res.1 = r ∧ MI κ ζ B res.2 L' F' ∧ FrM L F L' F') := by
  refine MtI.of (by decide) (Nat.le_of_ble_eq_true rfl) ?_
  intro p e s m below meth c S hr hlk _ hK hW hST ls hl
  have hl : lv_has ls 5 [(0, .ref (B 0)), (1, .int x1), (2, .int x2)] := hl
  have hFr : FrM L F L F := FrM.rf
  have B70 : ∀  (w70 : MS) (v2 : Int32) (nu0 : Nat) (gu0 : Nat → Int32) (u2 : Int32) (u3 : Int32), f_X6_whereNow_70 w70 v2 nu0 gu0 u2 u3 = some res → ∀ (K70 : List Nat) (G70 : Nat → va_E), ∀ (qu0 : Nat), qu0 ∈ K70 → G70 qu0 = .inl (κ 0, nu0, .inl gu0) → (qu0 ∉ L) → MI κ ζ B w70 K70 G70 → FrM L F K70 G70 → ∀ (H70 : Heap) (l70 : List Loc) (ls : Array Slot) (cc ss : Nat), HW D cls L s H70 l70 K70 G70 → cc + (0) ≤ 1 → ss ≤ 33 * cc → lv_has ls 5 [(2, .int v2)] → W p l e (Rm 5 1 33) s m ([.ref (B 0), .int x1, .int x2] : List Value).toArray below meth c H70 l70 cc ss (EnI D cls s below ([.ref (B 0), .int x1, .int x2] : List Value).toArray 1 33 L (fun r L' F' => res.1 = r ∧ MI κ ζ B res.2 L' F' ∧ FrM L F L' F')) (F0 m 70 ls [.int u3, .int u2, .ref qu0, .ref qu0]) := by
    intro  w70 v2 nu0 gu0 u2 u3 hf K70 G70 qu0 m_qu0 e_qu0 hnw_qu0 hI hFr H70 l70 ls cc ss hW hcc hss hl
    unfold f_X6_whereNow_70 at hf
    obtain ⟨z5, hz, hf⟩ := ob hf
    refine pk_cSI (As := [.int u3]) (rest := [.int u2, .ref qu0, .ref qu0]) S hK hST hW (c_X6_one  u3 hz) mc_X6_one wd_1288 wd_1289 np_X6_one rfl hl.1 rfl (Nat.le_of_ble_eq_true rfl) dX6_whereNow_70 ⟨by decide, by decide⟩ ⟨rmc (by omega), rms (by omega)⟩ (fun r L1 F2 H3 l4 hp hW => ?_)
    obtain ⟨rfl, rfl, rfl⟩ := hp
    obtain ⟨hg, hf⟩ := gd hf
    obtain ⟨g6, eg6, hf⟩ := nm_ok hf
    refine pk_iast S hK hW 0 m_qu0 e_qu0 rfl hg dX6_whereNow_73 (fun H8 l9 hW => ?_)
    rw [← eg6] at hW
    have hI := hI.loc (g' := g6) e_qu0
    have hFr := hFr.loc (e := .inl (κ 0, nu0, .inl g6)) hnw_qu0
    have e_qu0 : (va_up G70 qu0 (.inl (κ 0, nu0, .inl g6))) qu0 = .inl (κ 0, nu0, .inl g6) := up_eq
    generalize va_up G70 qu0 (.inl (κ 0, nu0, .inl g6)) = F7 at hW hI hFr e_qu0
    refine lv_astore (lv' := [(4, .ref qu0), (2, .int v2)]) S.1 S.2.1 dX6_whereNow_74 hl (by decide) rfl (fun ls hl => ?_)
    refine lv_aload S.1 S.2.1 dX6_whereNow_76 (lv_at hl 0 rfl) ?_
    refine lv_iload_n S.1 S.2.1 dX6_whereNow_78 rfl (lv_at hl 1 rfl) ?_
    obtain ⟨hg, hf⟩ := gd hf
    refine pk_iald S hK hW 0 m_qu0 e_qu0 rfl hg dX6_whereNow_79 ?_
    exact pk_iret S hr hlk hW (eqm (P := fun z => z.1 = g6 v2.toNatClampNeg ∧ MI κ ζ B z.2 K70 F7 ∧ FrM L F K70 F7) ⟨rfl, hI, hFr⟩ (Option.some.inj hf)) (by omega) (by omega) dX6_whereNow_80
  have B52 : ∀  (w52 : MS) (v2 : Int32) (v3 : Nat) (nu0 : Nat) (gu0 : Nat → Int32) (u2 : Int32) (u3 : Int32), f_X6_whereNow_52 w52 v2 v3 nu0 gu0 u2 u3 = some res → ∀ (K52 : List Nat) (G52 : Nat → va_E), v3 < 2 → ∀ (qu0 : Nat), qu0 ∈ K52 → G52 qu0 = .inl (κ 0, nu0, .inl gu0) → (qu0 ∉ L) → MI κ ζ B w52 K52 G52 → FrM L F K52 G52 → ∀ (H52 : Heap) (l52 : List Loc) (ls : Array Slot) (cc ss : Nat), HW D cls L s H52 l52 K52 G52 → cc + (0) ≤ 1 → ss ≤ 33 * cc → lv_has ls 5 [(2, .int v2), (3, .ref (B (8 + v3)))] → W p l e (Rm 5 1 33) s m ([.ref (B 0), .int x1, .int x2] : List Value).toArray below meth c H52 l52 cc ss (EnI D cls s below ([.ref (B 0), .int x1, .int x2] : List Value).toArray 1 33 L (fun r L' F' => res.1 = r ∧ MI κ ζ B res.2 L' F' ∧ FrM L F L' F')) (F0 m 52 ls [.int u3, .int u2, .ref qu0, .ref qu0]) := by
    intro  w52 v2 v3 nu0 gu0 u2 u3 hf K52 G52 hv3 qu0 m_qu0 e_qu0 hnw_qu0 hI hFr H52 l52 ls cc ss hW hcc hss hl
    unfold f_X6_whereNow_52 at hf
    obtain ⟨z14, hz, hf⟩ := ob hf
    refine pk_cSI (As := [.int u3]) (rest := [.int u2, .ref qu0, .ref qu0]) S hK hST hW (c_X6_one  u3 hz) mc_X6_one wd_1288 wd_1289 np_X6_one rfl hl.1 rfl (Nat.le_of_ble_eq_true rfl) dX6_whereNow_52 ⟨by decide, by decide⟩ ⟨rmc (by omega), rms (by omega)⟩ (fun r L10 F11 H12 l13 hp hW => ?_)
    obtain ⟨rfl, rfl, rfl⟩ := hp
    obtain ⟨hg, hf⟩ := gd hf
    obtain ⟨g15, eg15, hf⟩ := nm_ok hf
    refine pk_iast S hK hW 0 m_qu0 e_qu0 rfl hg dX6_whereNow_55 (fun H17 l18 hW => ?_)
    rw [← eg15] at hW
    have hI := hI.loc (g' := g15) e_qu0
    have hFr := hFr.loc (e := .inl (κ 0, nu0, .inl g15)) hnw_qu0
    have e_qu0 : (va_up G52 qu0 (.inl (κ 0, nu0, .inl g15))) qu0 = .inl (κ 0, nu0, .inl g15) := up_eq
    generalize va_up G52 qu0 (.inl (κ 0, nu0, .inl g15)) = F16 at hW hI hFr e_qu0
    refine lv_dup S.1 S.2.1 dX6_whereNow_56 rfl ?_
    refine lv_iconst (v := 4) S.1 S.2.1 dX6_whereNow_57 (by decide) ?_
    refine lv_aload_n S.1 S.2.1 dX6_whereNow_58 rfl (lv_at hl 1 rfl) ?_
    refine pk_get S hK hW 1 (hI.mem (by have := hv3; omega)) (hI.mkH hv3) rfl hinX5 (by decide) wd_1101 rfl dX6_whereNow_59 ?_
    refine lv_if_le (tgt := 69) S.1 S.2.1 dX6_whereNow_62 (by decide) (fun c19 => ?_) (fun c19 => ?_)
    · have hf := (if_pos c19).symm.trans hf
      refine lv_iconst (v := 0) S.1 S.2.1 dX6_whereNow_69 (by decide) ?_
      exact B70  w52 v2 nu0 g15 4 0 hf K52 F16 qu0 m_qu0 e_qu0 hnw_qu0 hI hFr _ _ _ _ _ hW (by omega) (by omega) (lv_sub hl [0] rfl)
    · have hf := (if_neg c19).symm.trans hf
      refine lv_iconst (v := 1) S.1 S.2.1 dX6_whereNow_65 (by decide) ?_
      refine lv_goto (tgt := 70) S.1 S.2.1 dX6_whereNow_66 (by decide) ?_
      exact B70  w52 v2 nu0 g15 4 1 hf K52 F16 qu0 m_qu0 e_qu0 hnw_qu0 hI hFr _ _ _ _ _ hW (by omega) (by omega) (lv_sub hl [0] rfl)
  unfold f_X6_whereNow at hf
  refine lv_aload_n S.1 S.2.1 dX6_whereNow_0 rfl (lv_at hl 0 rfl) ?_
  refine pk_get S hK hW 4 (hI.mem (by decide)) hI.this rfl hinX6 (by decide) wd_1159 rfl dX6_whereNow_1 ?_
  refine lv_iload_n S.1 S.2.1 dX6_whereNow_4 rfl (lv_at hl 1 rfl) ?_
  obtain ⟨z20, hz, hf⟩ := ob hf
  obtain ⟨hbz20, ex9⟩ := gtr_ok hz
  obtain ⟨m_w7, g7, e_w7, g70, g71⟩ := hI.wks
  refine pk_aald (y := B (8 + z20)) S hK hW 4 m_w7 e_w7 rfl (by rw [ex9]; exact vp_in_nI hbz20 (by omega)) (by rw [ex9, nI_clamp (by omega)]; exact co_2 (P := fun q => g7 q = some (B (8 + q))) g70 g71 hbz20) dX6_whereNow_5 ?_
  refine lv_astore_n (lv' := [(3, .ref (B (8 + z20))), (0, .ref (B 0)), (1, .int x1), (2, .int x2)]) S.1 S.2.1 dX6_whereNow_6 rfl hl (by decide) rfl (fun ls hl => ?_)
  refine lv_iconst (v := 5) S.1 S.2.1 dX6_whereNow_7 (by decide) ?_
  obtain ⟨hg9, hf⟩ := gd hf
  obtain ⟨n21, en21, hf⟩ := nm_ok hf
  obtain ⟨g22, eg22, hf⟩ := nm_ok hf
  have hn9 : n21 ≤ 32 := by have := fun q => hg9 (Or.inr q); omega
  refine pk_newI (N' := n21) S hK hW 0 rfl wd_51 (fun q => hg9 (Or.inl q)) en21.symm (by omega) (rmc (by omega)) (rms (by omega)) dX6_whereNow_8 (fun q23 H24 hq_q23 hW => ?_)
  rw [← eg22] at hW
  have hI := hI.push (e := .inl (κ 0, n21, .inl g22)) hq_q23 (noE hW hST)
  have hF9 := FrM.push (F := F) (e := .inl (κ 0, n21, .inl g22)) hq_q23
  have hnw_q23 : q23 ∉ L := fun ee => hq_q23 (hFr.1 _ ee)
  have hFr := hFr.tr hF9
  have e_q23 : (va_up F q23 (.inl (κ 0, n21, .inl g22))) q23 = .inl (κ 0, n21, .inl g22) := up_eq
  have m_q23 : q23 ∈ L ++ [q23] := List.mem_append_right _ (List.mem_singleton.mpr rfl)
  generalize va_up F q23 (.inl (κ 0, n21, .inl g22)) = F25 at hW hI hF9 hFr e_q23
  generalize L ++ [q23] = L26 at hW hI hF9 hFr m_q23
  refine lv_dup S.1 S.2.1 dX6_whereNow_10 rfl ?_
  refine lv_iconst (v := 0) S.1 S.2.1 dX6_whereNow_11 (by decide) ?_
  refine lv_aload_n S.1 S.2.1 dX6_whereNow_12 rfl (lv_at hl 0 rfl) ?_
  refine pk_get S hK hW 0 (hI.mem (by have := hbz20; omega)) (hI.mkH hbz20) rfl hinX5 (by decide) wd_1100 rfl dX6_whereNow_13 ?_
  obtain ⟨hg, hf⟩ := gd hf
  obtain ⟨g27, eg27, hf⟩ := nm_ok hf
  refine pk_iast S hK hW 0 m_q23 e_q23 rfl hg dX6_whereNow_16 (fun H29 l30 hW => ?_)
  rw [← eg27] at hW
  have hI := hI.loc (g' := g27) e_q23
  have hFr := hFr.loc (e := .inl (κ 0, n21, .inl g27)) hnw_q23
  have e_q23 : (va_up F25 q23 (.inl (κ 0, n21, .inl g27))) q23 = .inl (κ 0, n21, .inl g27) := up_eq
  generalize va_up F25 q23 (.inl (κ 0, n21, .inl g27)) = F28 at hW hI hFr e_q23
  refine lv_dup S.1 S.2.1 dX6_whereNow_17 rfl ?_
  refine lv_iconst (v := 1) S.1 S.2.1 dX6_whereNow_18 (by decide) ?_
  refine lv_aload_n S.1 S.2.1 dX6_whereNow_19 rfl (lv_at hl 0 rfl) ?_
  refine pk_get S hK hW 1 (hI.mem (by have := hbz20; omega)) (hI.mkH hbz20) rfl hinX5 (by decide) wd_1101 rfl dX6_whereNow_20 ?_
  obtain ⟨hg, hf⟩ := gd hf
  obtain ⟨g31, eg31, hf⟩ := nm_ok hf
  refine pk_iast S hK hW 0 m_q23 e_q23 rfl hg dX6_whereNow_23 (fun H33 l34 hW => ?_)
  rw [← eg31] at hW
  have hI := hI.loc (g' := g31) e_q23
  have hFr := hFr.loc (e := .inl (κ 0, n21, .inl g31)) hnw_q23
  have e_q23 : (va_up F28 q23 (.inl (κ 0, n21, .inl g31))) q23 = .inl (κ 0, n21, .inl g31) := up_eq
  generalize va_up F28 q23 (.inl (κ 0, n21, .inl g31)) = F32 at hW hI hFr e_q23
  refine lv_dup S.1 S.2.1 dX6_whereNow_24 rfl ?_
  refine lv_iconst (v := 2) S.1 S.2.1 dX6_whereNow_25 (by decide) ?_
  refine lv_aload_n S.1 S.2.1 dX6_whereNow_26 rfl (lv_at hl 0 rfl) ?_
  refine pk_get S hK hW 1 (hI.mem (by have := hbz20; omega)) (hI.mkH hbz20) rfl hinX5 (by decide) wd_1101 rfl dX6_whereNow_27 ?_
  refine lv_iconst (v := 1) S.1 S.2.1 dX6_whereNow_30 (by decide) ?_
  refine lv_isub S.1 S.2.1 dX6_whereNow_31 ?_
  obtain ⟨hg, hf⟩ := gd hf
  obtain ⟨g35, eg35, hf⟩ := nm_ok hf
  refine pk_iast S hK hW 0 m_q23 e_q23 rfl hg dX6_whereNow_32 (fun H37 l38 hW => ?_)
  rw [← eg35] at hW
  have hI := hI.loc (g' := g35) e_q23
  have hFr := hFr.loc (e := .inl (κ 0, n21, .inl g35)) hnw_q23
  have e_q23 : (va_up F32 q23 (.inl (κ 0, n21, .inl g35))) q23 = .inl (κ 0, n21, .inl g35) := up_eq
  generalize va_up F32 q23 (.inl (κ 0, n21, .inl g35)) = F36 at hW hI hFr e_q23
  refine lv_dup S.1 S.2.1 dX6_whereNow_33 rfl ?_
  refine lv_iconst (v := 3) S.1 S.2.1 dX6_whereNow_34 (by decide) ?_
  refine lv_aload_n S.1 S.2.1 dX6_whereNow_35 rfl (lv_at hl 0 rfl) ?_
  refine pk_get S hK hW 1 (hI.mem (by have := hbz20; omega)) (hI.mkH hbz20) rfl hinX5 (by decide) wd_1101 rfl dX6_whereNow_36 ?_
  refine lv_aload_n S.1 S.2.1 dX6_whereNow_39 rfl (lv_at hl 1 rfl) ?_
  refine lv_iconst (v := 1) S.1 S.2.1 dX6_whereNow_40 (by decide) ?_
  obtain ⟨z43, hz, hf⟩ := ob hf
  refine pk_cVI (As := [.int 1]) (rest := [.int (τ.2 (5 + 3 * z20 + 1)), .int 3, .ref q23, .ref q23]) S hK hST hW (c_X6_size hI 1 hz) mc_X6_size wd_1199 wd_1201 wd_1703 rfl np_X6_size (hI.mem (by decide)) hI.this rfl rfl hl.1 rfl (Nat.le_of_ble_eq_true rfl) dX6_whereNow_41 ⟨by decide, by decide⟩ ⟨rmc (by omega), rms (by omega)⟩ (fun r L39 F40 H41 l42 hp hW => ?_)
  obtain ⟨rfl, rfl, rfl⟩ := hp
  refine lv_icmp_ge (tgt := 51) S.1 S.2.1 dX6_whereNow_44 (by decide) (fun c44 => ?_) (fun c44 => ?_)
  · have hf := (if_pos c44).symm.trans hf
    refine lv_iconst (v := 0) S.1 S.2.1 dX6_whereNow_51 (by decide) ?_
    exact B52  (τ) x2 z20 n21 g35 3 0 hf L26 F36 hbz20 q23 m_q23 e_q23 hnw_q23 hI hFr _ _ _ _ _ hW (by omega) (by omega) (lv_sub hl [3, 0] rfl)
  · have hf := (if_neg c44).symm.trans hf
    refine lv_iconst (v := 1) S.1 S.2.1 dX6_whereNow_47 (by decide) ?_
    refine lv_goto (tgt := 52) S.1 S.2.1 dX6_whereNow_48 (by decide) ?_
    exact B52  (τ) x2 z20 n21 g35 3 1 hf L26 F36 hbz20 q23 m_q23 e_q23 hnw_q23 hI hFr _ _ _ _ _ hW (by omega) (by omega) (lv_sub hl [3, 0] rfl)
def f_X6_where_64   (w64 : MS) : Option (Int32 × MS) := some (0, w64)
def f_X6_where_57   (w57 : MS) (v1 : Int32) (v2 : Int32) (u1 : Int32) : Option (Int32 × MS) := (f_X6_refuse w57 u1 3).bind fun z5 => (if z5.1 = 0 then (f_X6_whereNow z5.2 v1 v2).bind fun z11 => some (z11.1, z11.2) else f_X6_where_64 z5.2)
def f_X6_where_56   (w56 : MS) (v1 : Int32) (v2 : Int32) : Option (Int32 × MS) := f_X6_where_57 w56 v1 v2 0
def f_X6_where_27   (w27 : MS) (v1 : Int32) (v2 : Int32) (u1 : Int32) : Option (Int32 × MS) := (f_X6_refuse w27 u1 2).bind fun z16 => (if z16.1 = 0 then (if v2 ≤ 0 then f_X6_where_56 z16.2 v1 v2 else (gwk v1).bind fun z19 => (if (z16.2.2 (5 + 3 * z19)) = 1 then f_X6_where_56 z16.2 v1 v2 else f_X6_where_57 z16.2 v1 v2 1)) else f_X6_where_64 z16.2)
def f_X6_where (τ : MS) (x1 : Int32) (x2 : Int32) : Option (Int32 × MS) := (f_X6_isNoWalker x1).bind fun z25 => (f_X6_start τ z25 1).bind fun z30 => (if z30.1 = 0 then (f_X6_isIn x2 0 4).bind fun z36 => (if z36 = 0 then f_X6_where_27 z30.2 x1 x2 1 else f_X6_where_27 z30.2 x1 x2 0) else f_X6_where_64 z30.2)
theorem mc_X6_where : MCode yX6_where cX6_where 3 (some .int) := ⟨wd_1500, wd_5, by decide, by decide⟩
theorem np_X6_where : (parseMethodDescriptor yX6_where.desc).map (fun d => d.parameters.length) = some 2 := by decide +kernel
set_option maxHeartbeats 4000000 in
set_option maxRecDepth 100000 in
theorem c_X6_where {l : Launch} {D : va_G} {κ : Nat → ClassId} {ζ : Nat → Nat} {L : List Nat} {F : Nat → va_E} {τ : MS} {B : Nat → Nat} (hI : MI κ ζ B τ L F) (x1 : Int32) (x2 : Int32) {res : (Int32 × MS)} (hf : f_X6_where τ x1 x2 = some res) : MtI l D cls (ty5 κ) ζ yX6_where cX6_where 3 (some .int) 6 1 33 ([.ref (B 0), .int x1, .int x2] : List Value) L F (fun r L' F' => res.1 = r ∧ MI κ ζ B res.2 L' F' ∧ FrM L F L' F') := by
  refine MtI.of (by decide) (Nat.le_of_ble_eq_true rfl) ?_
  intro p e s m below meth c S hr hlk _ hK hW hST ls hl
  have hl : lv_has ls 3 [(0, .ref (B 0)), (1, .int x1), (2, .int x2)] := hl
  have hFr : FrM L F L F := FrM.rf
  have B64 : ∀  (w64 : MS), f_X6_where_64 w64 = some res → ∀ (K64 : List Nat) (G64 : Nat → va_E), MI κ ζ B w64 K64 G64 → FrM L F K64 G64 → ∀ (H64 : Heap) (l64 : List Loc) (ls : Array Slot) (cc ss : Nat), HW D cls L s H64 l64 K64 G64 → cc + (0) ≤ 1 → ss ≤ 33 * cc → lv_has ls 3 [] → W p l e (Rm 6 1 33) s m ([.ref (B 0), .int x1, .int x2] : List Value).toArray below meth c H64 l64 cc ss (EnI D cls s below ([.ref (B 0), .int x1, .int x2] : List Value).toArray 1 33 L (fun r L' F' => res.1 = r ∧ MI κ ζ B res.2 L' F' ∧ FrM L F L' F')) (F0 m 64 ls []) := by
    intro  w64 hf K64 G64 hI hFr H64 l64 ls cc ss hW hcc hss hl
    unfold f_X6_where_64 at hf
    refine lv_iconst (v := 0) S.1 S.2.1 dX6_where_64 (by decide) ?_
    refine lv_goto (tgt := 74) S.1 S.2.1 dX6_where_65 (by decide) ?_
    exact pk_iret S hr hlk hW (eqm (P := fun z => z.1 = 0 ∧ MI κ ζ B z.2 K64 G64 ∧ FrM L F K64 G64) ⟨rfl, hI, hFr⟩ (Option.some.inj hf)) (by omega) (by omega) dX6_where_74
  have B57 : ∀  (w57 : MS) (v1 : Int32) (v2 : Int32) (u1 : Int32), f_X6_where_57 w57 v1 v2 u1 = some res → ∀ (K57 : List Nat) (G57 : Nat → va_E), MI κ ζ B w57 K57 G57 → FrM L F K57 G57 → ∀ (H57 : Heap) (l57 : List Loc) (ls : Array Slot) (cc ss : Nat), HW D cls L s H57 l57 K57 G57 → cc + (1) ≤ 1 → ss ≤ 33 * cc → lv_has ls 3 [(0, .ref (B 0)), (1, .int v1), (2, .int v2)] → W p l e (Rm 6 1 33) s m ([.ref (B 0), .int x1, .int x2] : List Value).toArray below meth c H57 l57 cc ss (EnI D cls s below ([.ref (B 0), .int x1, .int x2] : List Value).toArray 1 33 L (fun r L' F' => res.1 = r ∧ MI κ ζ B res.2 L' F' ∧ FrM L F L' F')) (F0 m 57 ls [.int u1, .ref (B 0)]) := by
    intro  w57 v1 v2 u1 hf K57 G57 hI hFr H57 l57 ls cc ss hW hcc hss hl
    unfold f_X6_where_57 at hf
    refine lv_iconst (v := 3) S.1 S.2.1 dX6_where_57 (by decide) ?_
    obtain ⟨z5, hz, hf⟩ := ob hf
    refine pk_cVI (As := [.int u1, .int 3]) (rest := []) S hK hST hW (c_X6_refuse hI u1 3 hz) mc_X6_refuse wd_1192 wd_1194 wd_1702 rfl np_X6_refuse (hI.mem (by decide)) hI.this rfl rfl hl.1 rfl (Nat.le_of_ble_eq_true rfl) dX6_where_58 ⟨by decide, by decide⟩ ⟨rmc (by omega), rms (by omega)⟩ (fun r L1 F2 H3 l4 hp hW => ?_)
    obtain ⟨rfl, hI, hF9⟩ := hp
    have hFr := hFr.tr hF9
    refine lv_if_eq (tgt := 68) S.1 S.2.1 dX6_where_61 (by decide) (fun c6 => ?_) (fun c6 => ?_)
    · have hf := (if_pos c6).symm.trans hf
      refine lv_aload_n S.1 S.2.1 dX6_where_68 rfl (lv_at hl 0 rfl) ?_
      refine lv_iload_n S.1 S.2.1 dX6_where_69 rfl (lv_at hl 1 rfl) ?_
      refine lv_iload_n S.1 S.2.1 dX6_where_70 rfl (lv_at hl 2 rfl) ?_
      obtain ⟨z11, hz, hf⟩ := ob hf
      refine pk_cVI (As := [.int v1, .int v2]) (rest := []) S hK hST hW (c_X6_whereNow hI v1 v2 hz) mc_X6_whereNow wd_1501 wd_1503 wd_1722 rfl np_X6_whereNow (hI.mem (by decide)) hI.this rfl rfl hl.1 rfl (Nat.le_of_ble_eq_true rfl) dX6_where_71 ⟨by decide, by decide⟩ ⟨rmc (by omega), rms (by omega)⟩ (fun r L7 F8 H9 l10 hp hW => ?_)
      obtain ⟨rfl, hI, hF9⟩ := hp
      have hFr := hFr.tr hF9
      exact pk_iret S hr hlk hW (eqm (P := fun z => z.1 = z11.1 ∧ MI κ ζ B z.2 L7 F8 ∧ FrM L F L7 F8) ⟨rfl, hI, hFr⟩ (Option.some.inj hf)) (by omega) (by omega) dX6_where_74
    · have hf := (if_neg c6).symm.trans hf
      exact B64  z5.2 hf L1 F2 hI hFr _ _ _ _ _ hW (by omega) (by omega) (lv_sub hl [] rfl)
  have B56 : ∀  (w56 : MS) (v1 : Int32) (v2 : Int32), f_X6_where_56 w56 v1 v2 = some res → ∀ (K56 : List Nat) (G56 : Nat → va_E), MI κ ζ B w56 K56 G56 → FrM L F K56 G56 → ∀ (H56 : Heap) (l56 : List Loc) (ls : Array Slot) (cc ss : Nat), HW D cls L s H56 l56 K56 G56 → cc + (1) ≤ 1 → ss ≤ 33 * cc → lv_has ls 3 [(0, .ref (B 0)), (1, .int v1), (2, .int v2)] → W p l e (Rm 6 1 33) s m ([.ref (B 0), .int x1, .int x2] : List Value).toArray below meth c H56 l56 cc ss (EnI D cls s below ([.ref (B 0), .int x1, .int x2] : List Value).toArray 1 33 L (fun r L' F' => res.1 = r ∧ MI κ ζ B res.2 L' F' ∧ FrM L F L' F')) (F0 m 56 ls [.ref (B 0)]) := by
    intro  w56 v1 v2 hf K56 G56 hI hFr H56 l56 ls cc ss hW hcc hss hl
    unfold f_X6_where_56 at hf
    refine lv_iconst (v := 0) S.1 S.2.1 dX6_where_56 (by decide) ?_
    exact B57  w56 v1 v2 0 hf K56 G56 hI hFr _ _ _ _ _ hW (by omega) (by omega) (lv_sub hl [0, 1, 2] rfl)
  have B27 : ∀  (w27 : MS) (v1 : Int32) (v2 : Int32) (u1 : Int32), f_X6_where_27 w27 v1 v2 u1 = some res → ∀ (K27 : List Nat) (G27 : Nat → va_E), MI κ ζ B w27 K27 G27 → FrM L F K27 G27 → ∀ (H27 : Heap) (l27 : List Loc) (ls : Array Slot) (cc ss : Nat), HW D cls L s H27 l27 K27 G27 → cc + (1) ≤ 1 → ss ≤ 33 * cc → lv_has ls 3 [(0, .ref (B 0)), (1, .int v1), (2, .int v2)] → W p l e (Rm 6 1 33) s m ([.ref (B 0), .int x1, .int x2] : List Value).toArray below meth c H27 l27 cc ss (EnI D cls s below ([.ref (B 0), .int x1, .int x2] : List Value).toArray 1 33 L (fun r L' F' => res.1 = r ∧ MI κ ζ B res.2 L' F' ∧ FrM L F L' F')) (F0 m 27 ls [.int u1, .ref (B 0)]) := by
    intro  w27 v1 v2 u1 hf K27 G27 hI hFr H27 l27 ls cc ss hW hcc hss hl
    unfold f_X6_where_27 at hf
    refine lv_iconst (v := 2) S.1 S.2.1 dX6_where_27 (by decide) ?_
    obtain ⟨z16, hz, hf⟩ := ob hf
    refine pk_cVI (As := [.int u1, .int 2]) (rest := []) S hK hST hW (c_X6_refuse hI u1 2 hz) mc_X6_refuse wd_1192 wd_1194 wd_1702 rfl np_X6_refuse (hI.mem (by decide)) hI.this rfl rfl hl.1 rfl (Nat.le_of_ble_eq_true rfl) dX6_where_28 ⟨by decide, by decide⟩ ⟨rmc (by omega), rms (by omega)⟩ (fun r L12 F13 H14 l15 hp hW => ?_)
    obtain ⟨rfl, hI, hF9⟩ := hp
    have hFr := hFr.tr hF9
    refine lv_if_ne (tgt := 64) S.1 S.2.1 dX6_where_31 (by decide) (fun c17 => ?_) (fun c17 => ?_)
    · have hf := (if_neg c17).symm.trans hf
      exact B64  z16.2 hf L12 F13 hI hFr _ _ _ _ _ hW (by omega) (by omega) (lv_sub hl [] rfl)
    · have hf := (if_pos c17).symm.trans hf
      refine lv_aload_n S.1 S.2.1 dX6_where_34 rfl (lv_at hl 0 rfl) ?_
      refine lv_iload_n S.1 S.2.1 dX6_where_35 rfl (lv_at hl 2 rfl) ?_
      refine lv_if_le (tgt := 56) S.1 S.2.1 dX6_where_36 (by decide) (fun c18 => ?_) (fun c18 => ?_)
      · have hf := (if_pos c18).symm.trans hf
        exact B56  z16.2 v1 v2 hf L12 F13 hI hFr _ _ _ _ _ hW (by omega) (by omega) (lv_sub hl [0, 1, 2] rfl)
      · have hf := (if_neg c18).symm.trans hf
        refine lv_aload_n S.1 S.2.1 dX6_where_39 rfl (lv_at hl 0 rfl) ?_
        refine pk_get S hK hW 4 (hI.mem (by decide)) hI.this rfl hinX6 (by decide) wd_1159 rfl dX6_where_40 ?_
        refine lv_iload_n S.1 S.2.1 dX6_where_43 rfl (lv_at hl 1 rfl) ?_
        obtain ⟨z19, hz, hf⟩ := ob hf
        obtain ⟨hbz19, ex9⟩ := gtr_ok hz
        obtain ⟨m_w7, g7, e_w7, g70, g71⟩ := hI.wks
        refine pk_aald (y := B (8 + z19)) S hK hW 4 m_w7 e_w7 rfl (by rw [ex9]; exact vp_in_nI hbz19 (by omega)) (by rw [ex9, nI_clamp (by omega)]; exact co_2 (P := fun q => g7 q = some (B (8 + q))) g70 g71 hbz19) dX6_where_44 ?_
        refine pk_get S hK hW 0 (hI.mem (by have := hbz19; omega)) (hI.mkH hbz19) rfl hinX5 (by decide) wd_1100 rfl dX6_where_45 ?_
        refine lv_iconst (v := 1) S.1 S.2.1 dX6_where_48 (by decide) ?_
        refine lv_icmp_eq (tgt := 56) S.1 S.2.1 dX6_where_49 (by decide) (fun c20 => ?_) (fun c20 => ?_)
        · have hf := (if_pos c20).symm.trans hf
          exact B56  z16.2 v1 v2 hf L12 F13 hI hFr _ _ _ _ _ hW (by omega) (by omega) (lv_sub hl [0, 1, 2] rfl)
        · have hf := (if_neg c20).symm.trans hf
          refine lv_iconst (v := 1) S.1 S.2.1 dX6_where_52 (by decide) ?_
          refine lv_goto (tgt := 57) S.1 S.2.1 dX6_where_53 (by decide) ?_
          exact B57  z16.2 v1 v2 1 hf L12 F13 hI hFr _ _ _ _ _ hW (by omega) (by omega) (lv_sub hl [0, 1, 2] rfl)
  unfold f_X6_where at hf
  refine lv_aload_n S.1 S.2.1 dX6_where_0 rfl (lv_at hl 0 rfl) ?_
  refine lv_iload_n S.1 S.2.1 dX6_where_1 rfl (lv_at hl 1 rfl) ?_
  obtain ⟨z25, hz, hf⟩ := ob hf
  refine pk_cSI (As := [.int x1]) (rest := [.ref (B 0)]) S hK hST hW (c_X6_isNoWalker  x1 hz) mc_X6_isNoWalker wd_1470 wd_1471 np_X6_isNoWalker rfl hl.1 rfl (Nat.le_of_ble_eq_true rfl) dX6_where_2 ⟨by decide, by decide⟩ ⟨rmc (by omega), rms (by omega)⟩ (fun r L21 F22 H23 l24 hp hW => ?_)
  obtain ⟨rfl, rfl, rfl⟩ := hp
  refine lv_iconst (v := 1) S.1 S.2.1 dX6_where_5 (by decide) ?_
  obtain ⟨z30, hz, hf⟩ := ob hf
  refine pk_cVI (As := [.int z25, .int 1]) (rest := []) S hK hST hW (c_X6_start hI z25 1 hz) mc_X6_start wd_1188 wd_1190 wd_1701 rfl np_X6_start (hI.mem (by decide)) hI.this rfl rfl hl.1 rfl (Nat.le_of_ble_eq_true rfl) dX6_where_6 ⟨by decide, by decide⟩ ⟨rmc (by omega), rms (by omega)⟩ (fun r L26 F27 H28 l29 hp hW => ?_)
  obtain ⟨rfl, hI, hF9⟩ := hp
  have hFr := hFr.tr hF9
  refine lv_if_ne (tgt := 64) S.1 S.2.1 dX6_where_9 (by decide) (fun c31 => ?_) (fun c31 => ?_)
  · have hf := (if_neg c31).symm.trans hf
    exact B64  z30.2 hf L26 F27 hI hFr _ _ _ _ _ hW (by omega) (by omega) (lv_sub hl [] rfl)
  · have hf := (if_pos c31).symm.trans hf
    refine lv_aload_n S.1 S.2.1 dX6_where_12 rfl (lv_at hl 0 rfl) ?_
    refine lv_iload_n S.1 S.2.1 dX6_where_13 rfl (lv_at hl 2 rfl) ?_
    refine lv_iconst (v := 0) S.1 S.2.1 dX6_where_14 (by decide) ?_
    refine lv_iconst (v := 4) S.1 S.2.1 dX6_where_15 (by decide) ?_
    obtain ⟨z36, hz, hf⟩ := ob hf
    refine pk_cSI (As := [.int x2, .int 0, .int 4]) (rest := [.ref (B 0)]) S hK hST hW (c_X6_isIn  x2 0 4 hz) mc_X6_isIn wd_1185 wd_1186 np_X6_isIn rfl hl.1 rfl (Nat.le_of_ble_eq_true rfl) dX6_where_16 ⟨by decide, by decide⟩ ⟨rmc (by omega), rms (by omega)⟩ (fun r L32 F33 H34 l35 hp hW => ?_)
    obtain ⟨rfl, rfl, rfl⟩ := hp
    refine lv_if_ne (tgt := 26) S.1 S.2.1 dX6_where_19 (by decide) (fun c37 => ?_) (fun c37 => ?_)
    · have hf := (if_neg c37).symm.trans hf
      refine lv_iconst (v := 0) S.1 S.2.1 dX6_where_26 (by decide) ?_
      exact B27  z30.2 x1 x2 0 hf L26 F27 hI hFr _ _ _ _ _ hW (by omega) (by omega) (lv_sub hl [0, 1, 2] rfl)
    · have hf := (if_pos c37).symm.trans hf
      refine lv_iconst (v := 1) S.1 S.2.1 dX6_where_22 (by decide) ?_
      refine lv_goto (tgt := 27) S.1 S.2.1 dX6_where_23 (by decide) ?_
      exact B27  z30.2 x1 x2 1 hf L26 F27 hI hFr _ _ _ _ _ hW (by omega) (by omega) (lv_sub hl [0, 1, 2] rfl)
