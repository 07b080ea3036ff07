def f_X3_needTrack (x1 : Int32) : Option (Nat ⊕ Unit) := (if x1 = 0 then some (.inr ()) else (if x1 = 1 then some (.inr ()) else some (.inl 0)))
theorem mc_X3_needTrack : MCode yX3_needTrack cX3_needTrack 1 none := ⟨wd_361, wd_1, by decide, by decide⟩
theorem np_X3_needTrack : (parseMethodDescriptor yX3_needTrack.desc).map (fun d => d.parameters.length) = some 1 := by decide +kernel
set_option maxHeartbeats 4000000 in
set_option maxRecDepth 100000 in
theorem c_X3_needTrack {l : Launch} {D : va_G} {κ : Nat → ClassId} {ζ : Nat → Nat} {L : List Nat} {F : Nat → va_E} (hst : l.stackTraces = false) (x1 : Int32) {res : (Nat ⊕ Unit)} (hf : f_X3_needTrack x1 = some res) : MxV l D cls (ty5 κ) ζ yX3_needTrack cX3_needTrack 1 none 7 1 6 ([.int x1] : List Value) L F (fun L' F' => L = L' ∧ F = F' ∧ ∃ z, res = .inr z) (fun E => ∃ k, res = .inl k ∧ E = xName k) := by
  refine MxV.of (by decide) (Nat.le_of_ble_eq_true rfl) ?_
  intro p e s m below meth c S hr hlk hxt hK hW hST ls hl
  have hl : lv_has ls 1 [(0, .int x1)] := hl
  unfold f_X3_needTrack at hf
  refine lv_iload_n S.1 S.2.1 dX3_needTrack_0 rfl (lv_at hl 0 rfl) ?_
  refine lv_if_eq (tgt := 20) S.1 S.2.1 dX3_needTrack_1 (by decide) (fun c1 => ?_) (fun c1 => ?_)
  · have hf := (if_pos c1).symm.trans hf
    exact xk_vret S hr hlk hW ⟨rfl, rfl, (), (Option.some.inj hf).symm⟩ (by decide) (by decide) dX3_needTrack_20
  · have hf := (if_neg c1).symm.trans hf
    refine lv_iload_n S.1 S.2.1 dX3_needTrack_4 rfl (lv_at hl 0 rfl) ?_
    refine lv_iconst (v := 1) S.1 S.2.1 dX3_needTrack_5 (by decide) ?_
    refine lv_icmp_eq (tgt := 20) S.1 S.2.1 dX3_needTrack_6 (by decide) (fun c2 => ?_) (fun c2 => ?_)
    · have hf := (if_pos c2).symm.trans hf
      exact xk_vret S hr hlk hW ⟨rfl, rfl, (), (Option.some.inj hf).symm⟩ (by decide) (by decide) dX3_needTrack_20
    · have hf := (if_neg c2).symm.trans hf
      exact xk_throwWV S hst hW hST wd_362 wd_18 xs_344 xat_346 xgd_346 hl.1 dX3_needTrack_9 dX3_needTrack_12 dX3_needTrack_13 dX3_needTrack_16 dX3_needTrack_19 hxt hlk ⟨0, (Option.some.inj hf).symm, rfl⟩ (by decide) (by decide) (by decide) (Nat.le_of_ble_eq_true rfl) (by decide) (by decide)
def f_X3_needWithin (x1 : Int32) (x2 : Int32) (x3 : Int32) : Option (Nat ⊕ Unit) := (if x1 < x2 then some (.inl 1) else (if x1 ≤ x3 then some (.inr ()) else some (.inl 1)))
theorem mc_X3_needWithin : MCode yX3_needWithin cX3_needWithin 3 none := ⟨wd_418, wd_1, by decide, by decide⟩
theorem np_X3_needWithin : (parseMethodDescriptor yX3_needWithin.desc).map (fun d => d.parameters.length) = some 3 := by decide +kernel
set_option maxHeartbeats 4000000 in
set_option maxRecDepth 100000 in
theorem c_X3_needWithin {l : Launch} {D : va_G} {κ : Nat → ClassId} {ζ : Nat → Nat} {L : List Nat} {F : Nat → va_E} (hst : l.stackTraces = false) (x1 : Int32) (x2 : Int32) (x3 : Int32) {res : (Nat ⊕ Unit)} (hf : f_X3_needWithin x1 x2 x3 = some res) : MxV l D cls (ty5 κ) ζ yX3_needWithin cX3_needWithin 3 none 7 1 6 ([.int x1, .int x2, .int x3] : List Value) L F (fun L' F' => L = L' ∧ F = F' ∧ ∃ z, res = .inr z) (fun E => ∃ k, res = .inl k ∧ E = xName k) := by
  refine MxV.of (by decide) (Nat.le_of_ble_eq_true rfl) ?_
  intro p e s m below meth c S hr hlk hxt hK hW hST ls hl
  have hl : lv_has ls 3 [(0, .int x1), (1, .int x2), (2, .int x3)] := hl
  unfold f_X3_needWithin at hf
  refine lv_iload_n S.1 S.2.1 dX3_needWithin_0 rfl (lv_at hl 0 rfl) ?_
  refine lv_iload_n S.1 S.2.1 dX3_needWithin_1 rfl (lv_at hl 1 rfl) ?_
  refine lv_icmp_lt (tgt := 10) S.1 S.2.1 dX3_needWithin_2 (by decide) (fun c1 => ?_) (fun c1 => ?_)
  · have hf := (if_pos c1).symm.trans hf
    exact xk_throwWV S hst hW hST wd_419 wd_19 xs_339 xat_341 xgd_341 hl.1 dX3_needWithin_10 dX3_needWithin_13 dX3_needWithin_14 dX3_needWithin_17 dX3_needWithin_20 hxt hlk ⟨1, (Option.some.inj hf).symm, rfl⟩ (by decide) (by decide) (by decide) (Nat.le_of_ble_eq_true rfl) (by decide) (by decide)
  · have hf := (if_neg c1).symm.trans hf
    refine lv_iload_n S.1 S.2.1 dX3_needWithin_5 rfl (lv_at hl 0 rfl) ?_
    refine lv_iload_n S.1 S.2.1 dX3_needWithin_6 rfl (lv_at hl 2 rfl) ?_
    refine lv_icmp_le (tgt := 21) S.1 S.2.1 dX3_needWithin_7 (by decide) (fun c2 => ?_) (fun c2 => ?_)
    · have hf := (if_pos c2).symm.trans hf
      exact xk_vret S hr hlk hW ⟨rfl, rfl, (), (Option.some.inj hf).symm⟩ (by decide) (by decide) dX3_needWithin_21
    · have hf := (if_neg c2).symm.trans hf
      exact xk_throwWV S hst hW hST wd_419 wd_19 xs_339 xat_341 xgd_341 hl.1 dX3_needWithin_10 dX3_needWithin_13 dX3_needWithin_14 dX3_needWithin_17 dX3_needWithin_20 hxt hlk ⟨1, (Option.some.inj hf).symm, rfl⟩ (by decide) (by decide) (by decide) (Nat.le_of_ble_eq_true rfl) (by decide) (by decide)
def f_X3_needPiece (x1 : Int32) (x2 : Int32) : Option (Nat ⊕ Unit) := obx (f_X3_needWithin x1 0 9) fun z1 => obx (f_X3_needWithin x2 0 99) fun z6 => some (.inr ())
theorem mc_X3_needPiece : MCode yX3_needPiece cX3_needPiece 2 none := ⟨wd_415, wd_1, by decide, by decide⟩
theorem np_X3_needPiece : (parseMethodDescriptor yX3_needPiece.desc).map (fun d => d.parameters.length) = some 2 := by decide +kernel
set_option maxHeartbeats 4000000 in
set_option maxRecDepth 100000 in
theorem c_X3_needPiece {l : Launch} {D : va_G} {κ : Nat → ClassId} {ζ : Nat → Nat} {L : List Nat} {F : Nat → va_E} (hst : l.stackTraces = false) (x1 : Int32) (x2 : Int32) {res : (Nat ⊕ Unit)} (hf : f_X3_needPiece x1 x2 = some res) : MxV l D cls (ty5 κ) ζ yX3_needPiece cX3_needPiece 2 none 8 2 12 ([.int x1, .int x2] : List Value) L F (fun L' F' => L = L' ∧ F = F' ∧ ∃ z, res = .inr z) (fun E => ∃ k, res = .inl k ∧ E = xName k) := by
  refine MxV.of (by decide) (Nat.le_of_ble_eq_true rfl) ?_
  intro p e s m below meth c S hr hlk hxt hK hW hST ls hl
  have hl : lv_has ls 2 [(0, .int x1), (1, .int x2)] := hl
  unfold f_X3_needPiece at hf
  refine lv_iload_n S.1 S.2.1 dX3_needPiece_0 rfl (lv_at hl 0 rfl) ?_
  refine lv_iconst (v := 0) S.1 S.2.1 dX3_needPiece_1 (by decide) ?_
  refine lv_bipush (v := 9) S.1 S.2.1 dX3_needPiece_2 (by decide) ?_
  obtain ⟨z1, hz, hxl, hxr⟩ := obx_ok hf
  refine xk_cSV (As := [.int x1, .int 0, .int 9]) (rest := []) S hK hST hW (c_X3_needWithin hst  x1 0 9 hz) mc_X3_needWithin wd_416 wd_417 np_X3_needWithin rfl hl.1 rfl (Nat.le_of_ble_eq_true rfl) dX3_needPiece_4 ⟨by decide, by decide⟩ ⟨by decide, by decide⟩ (fun E ce q9 H4 l5 hE hW h1 h2 h3 => ?_) (fun L2 F3 H4 l5 hp hW => ?_)
  · obtain ⟨k, hk1, hk2⟩ := hE
    exact xk_outV hxt hlk hW ⟨k, hxl k hk1, hk2⟩ h1 h2 h3 (by decide) (by decide)
  obtain ⟨rfl, rfl, z1, hz1⟩ := hp
  have hf := hxr z1 hz1
  refine lv_iload_n S.1 S.2.1 dX3_needPiece_7 rfl (lv_at hl 1 rfl) ?_
  refine lv_iconst (v := 0) S.1 S.2.1 dX3_needPiece_8 (by decide) ?_
  refine lv_bipush (v := 99) S.1 S.2.1 dX3_needPiece_9 (by decide) ?_
  obtain ⟨z1, hz, hxl, hxr⟩ := obx_ok hf
  refine xk_cSV (As := [.int x2, .int 0, .int 99]) (rest := []) S hK hST hW (c_X3_needWithin hst  x2 0 99 hz) mc_X3_needWithin wd_416 wd_417 np_X3_needWithin rfl hl.1 rfl (Nat.le_of_ble_eq_true rfl) dX3_needPiece_11 ⟨by decide, by decide⟩ ⟨by decide, by decide⟩ (fun E ce q9 H9 l10 hE hW h1 h2 h3 => ?_) (fun L7 F8 H9 l10 hp hW => ?_)
  · obtain ⟨k, hk1, hk2⟩ := hE
    exact xk_outV hxt hlk hW ⟨k, hxl k hk1, hk2⟩ h1 h2 h3 (by decide) (by decide)
  obtain ⟨rfl, rfl, z6, hz1⟩ := hp
  have hf := hxr z6 hz1
  exact xk_vret S hr hlk hW ⟨rfl, rfl, (), (Option.some.inj hf).symm⟩ (by decide) (by decide) dX3_needPiece_14
def f_X3_trackOf_15 (σ : CS)  (u0 : Nat) : Option Nat := some (u0)
def f_X3_trackOf (σ : CS) (x1 : Int32) : Option Nat := (if x1 = 0 then f_X3_trackOf_15 σ 0 else f_X3_trackOf_15 σ 1)
theorem mc_X3_trackOf : MCode yX3_trackOf cX3_trackOf 2 (some (.object "Twoends$Row")) := ⟨wd_133, wd_1, by decide, by decide⟩
theorem np_X3_trackOf : (parseMethodDescriptor yX3_trackOf.desc).map (fun d => d.parameters.length) = some 1 := by decide +kernel
set_option maxHeartbeats 4000000 in
set_option maxRecDepth 100000 in
theorem c_X3_trackOf {l : Launch} {D : va_G} {κ : Nat → ClassId} {ζ : Nat → Nat} {L : List Nat} {F : Nat → va_E} {σ : CS} {A : Nat → Nat} (hI : CI κ A σ L F) (x1 : Int32) {res : Nat} (hf : f_X3_trackOf σ x1 = some res) : MtR l D cls (ty5 κ) ζ yX3_trackOf cX3_trackOf 2 (some (.object "Twoends$Row")) 1 0 0 ([.ref (A 0), .int x1] : List Value) L F (fun r L' F' => L = L' ∧ F = F' ∧ res < 7 ∧ A (1 + 2 * res) = r) := by
  refine MtR.of (by decide) (Nat.le_of_ble_eq_true rfl) ?_
  intro p e s m below meth c S hr hlk _ hK hW hST ls hl
  have hl : lv_has ls 2 [(0, .ref (A 0)), (1, .int x1)] := hl
  have B15 : ∀   (u0 : Nat), f_X3_trackOf_15 σ u0 = some res → u0 < 7 → ∀ (H15 : Heap) (l15 : List Loc) (ls : Array Slot), HW D cls L s H15 l15 L F → lv_has ls 2 [] → W p l e (Rm 1 0 0) s m ([.ref (A 0), .int x1] : List Value).toArray below meth c H15 l15 0 0 (EnR D cls s below ([.ref (A 0), .int x1] : List Value).toArray 0 0 L (fun r L' F' => L = L' ∧ F = F' ∧ res < 7 ∧ A (1 + 2 * res) = r)) (F0 m 15 ls [.ref (A (1 + 2 * u0))]) := by
    intro u0 hf hu0 H15 l15 ls hW hl
    unfold f_X3_trackOf_15 at hf
    exact pk_rret S hr (Or.inl ⟨_, rfl⟩) hlk hW ⟨rfl, rfl, eqm (P := fun z => z < 7 ∧ A (1 + 2 * z) = A (1 + 2 * u0)) ⟨hu0, rfl⟩ (Option.some.inj hf)⟩ (by decide) (by decide) dX3_trackOf_15
  unfold f_X3_trackOf at hf
  refine lv_iload_n S.1 S.2.1 dX3_trackOf_0 rfl (lv_at hl 1 rfl) ?_
  refine lv_if_ne (tgt := 11) S.1 S.2.1 dX3_trackOf_1 (by decide) (fun c1 => ?_) (fun c1 => ?_)
  · have hf := (if_neg c1).symm.trans hf
    refine lv_aload_n S.1 S.2.1 dX3_trackOf_11 rfl (lv_at hl 0 rfl) ?_
    refine pk_get S hK hW 1 (hI.mem 0 (by decide)) hI.this rfl hinX3 (by decide) wd_81 rfl dX3_trackOf_12 ?_
    exact B15  1 hf ((by decide : 1 < 7)) _ _ _ hW (lv_sub hl [] rfl)
  · have hf := (if_pos c1).symm.trans hf
    refine lv_aload_n S.1 S.2.1 dX3_trackOf_4 rfl (lv_at hl 0 rfl) ?_
    refine pk_get S hK hW 0 (hI.mem 0 (by decide)) hI.this rfl hinX3 (by decide) wd_80 rfl dX3_trackOf_5 ?_
    refine lv_goto (tgt := 15) S.1 S.2.1 dX3_trackOf_8 (by decide) ?_
    exact B15  0 hf ((by decide : 0 < 7)) _ _ _ hW (lv_sub hl [] rfl)
def f_X3_needRoom (σ : CS) (x1 : Int32) (x2 : Int32) : Option (Nat ⊕ Unit) := (f_X3_trackOf σ x1).bind fun z1 => (f_X0_size (cap z1) (σ.1 z1)).bind fun z6 => (if (z6 + x2) ≤ 20 then some (.inr ()) else some (.inl 2))
theorem mc_X3_needRoom : MCode yX3_needRoom cX3_needRoom 3 none := ⟨wd_437, wd_1, by decide, by decide⟩
theorem np_X3_needRoom : (parseMethodDescriptor yX3_needRoom.desc).map (fun d => d.parameters.length) = some 2 := by decide +kernel
set_option maxHeartbeats 4000000 in
set_option maxRecDepth 100000 in
theorem c_X3_needRoom {l : Launch} {D : va_G} {κ : Nat → ClassId} {ζ : Nat → Nat} {L : List Nat} {F : Nat → va_E} {σ : CS} {A : Nat → Nat} (hst : l.stackTraces = false) (hI : CI κ A σ L F) (x1 : Int32) (x2 : Int32) {res : (Nat ⊕ Unit)} (hf : f_X3_needRoom σ x1 x2 = some res) : MxV l D cls (ty5 κ) ζ yX3_needRoom cX3_needRoom 3 none 7 1 6 ([.ref (A 0), .int x1, .int x2] : List Value) L F (fun L' F' => L = L' ∧ F = F' ∧ ∃ z, res = .inr z) (fun E => ∃ k, res = .inl k ∧ E = xName k) := by
  refine MxV.of (by decide) (Nat.le_of_ble_eq_true rfl) ?_
  intro p e s m below meth c S hr hlk hxt hK hW hST ls hl
  have hl : lv_has ls 3 [(0, .ref (A 0)), (1, .int x1), (2, .int x2)] := hl
  unfold f_X3_needRoom at hf
  refine lv_aload_n S.1 S.2.1 dX3_needRoom_0 rfl (lv_at hl 0 rfl) ?_
  refine lv_iload_n S.1 S.2.1 dX3_needRoom_1 rfl (lv_at hl 1 rfl) ?_
  obtain ⟨z1, hz, hf⟩ := ob hf
  refine pk_cVR (As := [.int x1]) (rest := []) S hK hST hW (c_X3_trackOf hI x1 hz) mc_X3_trackOf wd_130 wd_132 wd_1664 rfl np_X3_trackOf (hI.mem 0 (by decide)) hI.this rfl rfl hl.1 rfl (Nat.le_of_ble_eq_true rfl) dX3_needRoom_2 ⟨by decide, by decide⟩ ⟨by decide, by decide⟩ (fun r L2 F3 H4 l5 hp hW => ?_)
  obtain ⟨rfl, rfl, hbz1, rfl⟩ := hp
  obtain ⟨z6, hz, hf⟩ := ob hf
  refine pk_cVI (As := []) (rest := []) S hK hST hW (c_X0_size (hI.row hbz1)  hz) mc_X0_size wd_140 wd_141 wd_142 rfl np_X0_size (hI.mem _ (by have := hbz1; omega)) (hI.rowH hbz1) rfl rfl hl.1 rfl (Nat.le_of_ble_eq_true rfl) dX3_needRoom_5 ⟨by decide, by decide⟩ ⟨by decide, by decide⟩ (fun r L7 F8 H9 l10 hp hW => ?_)
  obtain ⟨rfl, rfl, rfl⟩ := hp
  refine lv_iload_n S.1 S.2.1 dX3_needRoom_8 rfl (lv_at hl 2 rfl) ?_
  refine lv_iadd S.1 S.2.1 dX3_needRoom_9 ?_
  refine lv_bipush (v := 20) S.1 S.2.1 dX3_needRoom_10 (by decide) ?_
  refine lv_icmp_le (tgt := 26) S.1 S.2.1 dX3_needRoom_12 (by decide) (fun c11 => ?_) (fun c11 => ?_)
  · have hf := (if_pos c11).symm.trans hf
    exact xk_vret S hr hlk hW ⟨rfl, rfl, (), (Option.some.inj hf).symm⟩ (by decide) (by decide) dX3_needRoom_26
  · have hf := (if_neg c11).symm.trans hf
    exact xk_throwWV S hst hW hST wd_438 wd_20 xs_351 xat_242 xgd_242 hl.1 dX3_needRoom_15 dX3_needRoom_18 dX3_needRoom_19 dX3_needRoom_22 dX3_needRoom_25 hxt hlk ⟨2, (Option.some.inj hf).symm, rfl⟩ (by decide) (by decide) (by decide) (Nat.le_of_ble_eq_true rfl) (by decide) (by decide)
def f_X3_codeOf (x1 : Int32) (x2 : Int32) : Option Int32 := (if x1 = 0 then some (0) else some ((100 * x1) + x2))
theorem mc_X3_codeOf : MCode yX3_codeOf cX3_codeOf 2 (some .int) := ⟨wd_455, wd_1, by decide, by decide⟩
theorem np_X3_codeOf : (parseMethodDescriptor yX3_codeOf.desc).map (fun d => d.parameters.length) = some 2 := by decide +kernel
set_option maxHeartbeats 4000000 in
set_option maxRecDepth 100000 in
theorem c_X3_codeOf {l : Launch} {D : va_G} {κ : Nat → ClassId} {ζ : Nat → Nat} {L : List Nat} {F : Nat → va_E} (x1 : Int32) (x2 : Int32) {res : Int32} (hf : f_X3_codeOf x1 x2 = some res) : MtI l D cls (ty5 κ) ζ yX3_codeOf cX3_codeOf 2 (some .int) 1 0 0 ([.int x1, .int x2] : List Value) L F (fun r L' F' => L = L' ∧ F = F' ∧ res = r) := by
  refine MtI.of (by decide) (Nat.le_of_ble_eq_true rfl) ?_
  intro p e s m below meth c S hr hlk _ hK hW hST ls hl
  have hl : lv_has ls 2 [(0, .int x1), (1, .int x2)] := hl
  unfold f_X3_codeOf at hf
  refine lv_iload_n S.1 S.2.1 dX3_codeOf_0 rfl (lv_at hl 0 rfl) ?_
  refine lv_if_ne (tgt := 8) S.1 S.2.1 dX3_codeOf_1 (by decide) (fun c1 => ?_) (fun c1 => ?_)
  · have hf := (if_neg c1).symm.trans hf
    refine lv_bipush (v := 100) S.1 S.2.1 dX3_codeOf_8 (by decide) ?_
    refine lv_iload_n S.1 S.2.1 dX3_codeOf_10 rfl (lv_at hl 0 rfl) ?_
    refine lv_imul S.1 S.2.1 dX3_codeOf_11 ?_
    refine lv_iload_n S.1 S.2.1 dX3_codeOf_12 rfl (lv_at hl 1 rfl) ?_
    refine lv_iadd S.1 S.2.1 dX3_codeOf_13 ?_
    exact pk_iret S hr hlk hW ⟨rfl, rfl, eqm (P := fun z => z = (100 * x1) + x2) rfl (Option.some.inj hf)⟩ (by decide) (by decide) dX3_codeOf_14
  · have hf := (if_pos c1).symm.trans hf
    refine lv_iconst (v := 0) S.1 S.2.1 dX3_codeOf_4 (by decide) ?_
    refine lv_goto (tgt := 14) S.1 S.2.1 dX3_codeOf_5 (by decide) ?_
    exact pk_iret S hr hlk hW ⟨rfl, rfl, eqm (P := fun z => z = 0) rfl (Option.some.inj hf)⟩ (by decide) (by decide) dX3_codeOf_14
def f_X3_slipOf_25   (v3 : Int32) (u0 : Int32) (u1 : Int32) (u2 : Int32) : Option Int32 := some ((u0 * (u1 + u2)) + v3)
def f_X3_slipOf_15   (v2 : Int32) (v3 : Int32) (u0 : Int32) (u1 : Int32) (u2 : Int32) : Option Int32 := (if v2 = 0 then f_X3_slipOf_25 v3 u0 (u1 + u2) 0 else f_X3_slipOf_25 v3 u0 (u1 + u2) 1)
def f_X3_slipOf (x1 : Int32) (x2 : Int32) (x3 : Int32) (x4 : Int32) : Option Int32 := (if x2 = 0 then f_X3_slipOf_15 x3 x4 1000 (4 * x1) 0 else f_X3_slipOf_15 x3 x4 1000 (4 * x1) 2)
theorem mc_X3_slipOf : MCode yX3_slipOf cX3_slipOf 4 (some .int) := ⟨wd_462, wd_1, by decide, by decide⟩
theorem np_X3_slipOf : (parseMethodDescriptor yX3_slipOf.desc).map (fun d => d.parameters.length) = some 4 := by decide +kernel
set_option maxHeartbeats 4000000 in
set_option maxRecDepth 100000 in
theorem c_X3_slipOf {l : Launch} {D : va_G} {κ : Nat → ClassId} {ζ : Nat → Nat} {L : List Nat} {F : Nat → va_E} (x1 : Int32) (x2 : Int32) (x3 : Int32) (x4 : Int32) {res : Int32} (hf : f_X3_slipOf x1 x2 x3 x4 = some res) : MtI l D cls (ty5 κ) ζ yX3_slipOf cX3_slipOf 4 (some .int) 1 0 0 ([.int x1, .int x2, .int x3, .int x4] : List Value) L F (fun r L' F' => L = L' ∧ F = F' ∧ res = r) := by
  refine MtI.of (by decide) (Nat.le_of_ble_eq_true rfl) ?_
  intro p e s m below meth c S hr hlk _ hK hW hST ls hl
  have hl : lv_has ls 4 [(0, .int x1), (1, .int x2), (2, .int x3), (3, .int x4)] := hl
  have B25 : ∀   (v3 : Int32) (u0 : Int32) (u1 : Int32) (u2 : Int32), f_X3_slipOf_25 v3 u0 u1 u2 = some res → ∀ (H25 : Heap) (l25 : List Loc) (ls : Array Slot), HW D cls L s H25 l25 L F → lv_has ls 4 [(3, .int v3)] → W p l e (Rm 1 0 0) s m ([.int x1, .int x2, .int x3, .int x4] : List Value).toArray below meth c H25 l25 0 0 (EnI D cls s below ([.int x1, .int x2, .int x3, .int x4] : List Value).toArray 0 0 L (fun r L' F' => L = L' ∧ F = F' ∧ res = r)) (F0 m 25 ls [.int u2, .int u1, .int u0]) := by
    intro v3 u0 u1 u2 hf H25 l25 ls hW hl
    unfold f_X3_slipOf_25 at hf
    refine lv_iadd S.1 S.2.1 dX3_slipOf_25 ?_
    refine lv_imul S.1 S.2.1 dX3_slipOf_26 ?_
    refine lv_iload_n S.1 S.2.1 dX3_slipOf_27 rfl (lv_at hl 0 rfl) ?_
    refine lv_iadd S.1 S.2.1 dX3_slipOf_28 ?_
    exact pk_iret S hr hlk hW ⟨rfl, rfl, eqm (P := fun z => z = (u0 * (u1 + u2)) + v3) rfl (Option.some.inj hf)⟩ (by decide) (by decide) dX3_slipOf_29
  have B15 : ∀   (v2 : Int32) (v3 : Int32) (u0 : Int32) (u1 : Int32) (u2 : Int32), f_X3_slipOf_15 v2 v3 u0 u1 u2 = some res → ∀ (H15 : Heap) (l15 : List Loc) (ls : Array Slot), HW D cls L s H15 l15 L F → lv_has ls 4 [(2, .int v2), (3, .int v3)] → W p l e (Rm 1 0 0) s m ([.int x1, .int x2, .int x3, .int x4] : List Value).toArray below meth c H15 l15 0 0 (EnI D cls s below ([.int x1, .int x2, .int x3, .int x4] : List Value).toArray 0 0 L (fun r L' F' => L = L' ∧ F = F' ∧ res = r)) (F0 m 15 ls [.int u2, .int u1, .int u0]) := by
    intro v2 v3 u0 u1 u2 hf H15 l15 ls hW hl
    unfold f_X3_slipOf_15 at hf
    refine lv_iadd S.1 S.2.1 dX3_slipOf_15 ?_
    refine lv_iload_n S.1 S.2.1 dX3_slipOf_16 rfl (lv_at hl 0 rfl) ?_
    refine lv_if_eq (tgt := 24) S.1 S.2.1 dX3_slipOf_17 (by decide) (fun c1 => ?_) (fun c1 => ?_)
    · have hf := (if_pos c1).symm.trans hf
      refine lv_iconst (v := 0) S.1 S.2.1 dX3_slipOf_24 (by decide) ?_
      exact B25  v3 u0 (u1 + u2) 0 hf  _ _ _ hW (lv_sub hl [1] rfl)
    · have hf := (if_neg c1).symm.trans hf
      refine lv_iconst (v := 1) S.1 S.2.1 dX3_slipOf_20 (by decide) ?_
      refine lv_goto (tgt := 25) S.1 S.2.1 dX3_slipOf_21 (by decide) ?_
      exact B25  v3 u0 (u1 + u2) 1 hf  _ _ _ hW (lv_sub hl [1] rfl)
  unfold f_X3_slipOf at hf
  refine lv_sipush (v := 1000) S.1 S.2.1 dX3_slipOf_0 (by decide) ?_
  refine lv_iconst (v := 4) S.1 S.2.1 dX3_slipOf_3 (by decide) ?_
  refine lv_iload_n S.1 S.2.1 dX3_slipOf_4 rfl (lv_at hl 0 rfl) ?_
  refine lv_imul S.1 S.2.1 dX3_slipOf_5 ?_
  refine lv_iload_n S.1 S.2.1 dX3_slipOf_6 rfl (lv_at hl 1 rfl) ?_
  refine lv_if_eq (tgt := 14) S.1 S.2.1 dX3_slipOf_7 (by decide) (fun c2 => ?_) (fun c2 => ?_)
  · have hf := (if_pos c2).symm.trans hf
    refine lv_iconst (v := 0) S.1 S.2.1 dX3_slipOf_14 (by decide) ?_
    exact B15  x3 x4 1000 (4 * x1) 0 hf  _ _ _ hW (lv_sub hl [2, 3] rfl)
  · have hf := (if_neg c2).symm.trans hf
    refine lv_iconst (v := 2) S.1 S.2.1 dX3_slipOf_10 (by decide) ?_
    refine lv_goto (tgt := 15) S.1 S.2.1 dX3_slipOf_11 (by decide) ?_
    exact B15  x3 x4 1000 (4 * x1) 2 hf  _ _ _ hW (lv_sub hl [2, 3] rfl)
def f_X3_laySlip_19   (w19 : CS) (v1 : Int32) : Option CS := (f_X0_enterLast (cap 2) (w19.1 2) v1).bind fun z1 => nm ((va_up w19.1 2 z1, w19.2) : CS) fun t6 => some t6
def f_X3_laySlip (σ : CS) (x1 : Int32) : Option CS := (f_X0_isFull (cap 2) (σ.1 2)).bind fun z7 => (if z7 = 0 then f_X3_laySlip_19 σ x1 else (f_X0_leave (cap 2) (σ.1 2) 0).bind fun z13 => nm ((va_up σ.1 2 z13.2, σ.2) : CS) fun t18 => f_X3_laySlip_19 t18 x1)
theorem mc_X3_laySlip : MCode yX3_laySlip cX3_laySlip 2 none := ⟨wd_466, wd_1, by decide, by decide⟩
theorem np_X3_laySlip : (parseMethodDescriptor yX3_laySlip.desc).map (fun d => d.parameters.length) = some 1 := by decide +kernel
set_option maxHeartbeats 4000000 in
set_option maxRecDepth 100000 in
theorem c_X3_laySlip {l : Launch} {D : va_G} {κ : Nat → ClassId} {ζ : Nat → Nat} {L : List Nat} {F : Nat → va_E} {σ : CS} {A : Nat → Nat} (hI : CI κ A σ L F) (x1 : Int32) {res : CS} (hf : f_X3_laySlip σ x1 = some res) : MtV l D cls (ty5 κ) ζ yX3_laySlip cX3_laySlip 2 none 4 0 0 ([.ref (A 0), .int x1] : List Value) L F (fun L' F' => L = L' ∧ CI κ A res L F' ∧ FrA A F F') := by
  refine MtV.of (by decide) (Nat.le_of_ble_eq_true rfl) ?_
  intro p e s m below meth c S hr hlk _ hK hW hST ls hl
  have hl : lv_has ls 2 [(0, .ref (A 0)), (1, .int x1)] := hl
  have hFr : FrA A F F := FrA.rf
  have B19 : ∀   (w19 : CS) (v1 : Int32), f_X3_laySlip_19 w19 v1 = some res → ∀ (G19 : Nat → va_E), CI κ A w19 L G19 → FrA A F G19 → ∀ (H19 : Heap) (l19 : List Loc) (ls : Array Slot), HW D cls L s H19 l19 L G19 → lv_has ls 2 [(0, .ref (A 0)), (1, .int v1)] → W p l e (Rm 4 0 0) s m ([.ref (A 0), .int x1] : List Value).toArray below meth c H19 l19 0 0 (EnV D cls s below ([.ref (A 0), .int x1] : List Value).toArray 0 0 L (fun L' F' => L = L' ∧ CI κ A res L F' ∧ FrA A F F')) (F0 m 19 ls []) := by
    intro w19 v1 hf G19 hI hFr H19 l19 ls hW hl
    unfold f_X3_laySlip_19 at hf
    refine lv_aload_n S.1 S.2.1 dX3_laySlip_19 rfl (lv_at hl 0 rfl) ?_
    refine pk_get S hK hW 2 (hI.mem 0 (by decide)) hI.this rfl hinX3 (by decide) wd_82 rfl dX3_laySlip_20 ?_
    refine lv_iload_n S.1 S.2.1 dX3_laySlip_23 rfl (lv_at hl 1 rfl) ?_
    obtain ⟨z1, hz, hf⟩ := ob hf
    refine pk_cVV (As := [.int v1]) (rest := []) S hK hST hW (c_X0_enterLast (hI.row (by decide : 2 < 7)) v1 hz) mc_X0_enterLast wd_307 wd_252 wd_253 rfl np_X0_enterLast (hI.mem _ (by have := (by decide : 2 < 7); omega)) (hI.rowH (by decide : 2 < 7)) rfl rfl hl.1 rfl (Nat.le_of_ble_eq_true rfl) dX3_laySlip_24 ⟨by decide, by decide⟩ ⟨by decide, by decide⟩ (fun L2 F3 H4 l5 hp hW => ?_)
    obtain ⟨rfl, hI1, hFr1⟩ := hp
    have hFr := hFr.tr (FrA.row (by decide : 2 < 7) hFr1)
    have hI := hI.setRow (by decide : 2 < 7) hI1 hFr1
    obtain ⟨t6, et6, hf⟩ := nm_ok hf
    have hI := eqm (P := fun w => CI κ A w L F3) hI et6.symm
    exact pk_vret S hr hlk hW ⟨rfl, eqm (P := fun z => CI κ A z L F3) hI (Option.some.inj hf), hFr⟩ (by decide) (by decide) dX3_laySlip_27
  unfold f_X3_laySlip at hf
  refine lv_aload_n S.1 S.2.1 dX3_laySlip_0 rfl (lv_at hl 0 rfl) ?_
  refine pk_get S hK hW 2 (hI.mem 0 (by decide)) hI.this rfl hinX3 (by decide) wd_82 rfl dX3_laySlip_1 ?_
  obtain ⟨z7, hz, hf⟩ := ob hf
  refine pk_cVI (As := []) (rest := []) S hK hST hW (c_X0_isFull (hI.row (by decide : 2 < 7))  hz) mc_X0_isFull wd_259 wd_152 wd_153 rfl np_X0_isFull (hI.mem _ (by have := (by decide : 2 < 7); omega)) (hI.rowH (by decide : 2 < 7)) rfl rfl hl.1 rfl (Nat.le_of_ble_eq_true rfl) dX3_laySlip_4 ⟨by decide, by decide⟩ ⟨by decide, by decide⟩ (fun r L8 F9 H10 l11 hp hW => ?_)
  obtain ⟨rfl, rfl, rfl⟩ := hp
  refine lv_if_eq (tgt := 19) S.1 S.2.1 dX3_laySlip_7 (by decide) (fun c12 => ?_) (fun c12 => ?_)
  · have hf := (if_pos c12).symm.trans hf
    exact B19  σ x1 hf F hI hFr _ _ _ hW (lv_sub hl [0, 1] rfl)
  · have hf := (if_neg c12).symm.trans hf
    refine lv_aload_n S.1 S.2.1 dX3_laySlip_10 rfl (lv_at hl 0 rfl) ?_
    refine pk_get S hK hW 2 (hI.mem 0 (by decide)) hI.this rfl hinX3 (by decide) wd_82 rfl dX3_laySlip_11 ?_
    refine lv_iconst (v := 0) S.1 S.2.1 dX3_laySlip_14 (by decide) ?_
    obtain ⟨z13, hz, hf⟩ := ob hf
    refine pk_cVI (As := [.int 0]) (rest := []) S hK hST hW (c_X0_leave (hI.row (by decide : 2 < 7)) 0 hz) mc_X0_leave wd_115 wd_116 wd_117 rfl np_X0_leave (hI.mem _ (by have := (by decide : 2 < 7); omega)) (hI.rowH (by decide : 2 < 7)) rfl rfl hl.1 rfl (Nat.le_of_ble_eq_true rfl) dX3_laySlip_15 ⟨by decide, by decide⟩ ⟨by decide, by decide⟩ (fun r L14 F15 H16 l17 hp hW => ?_)
    obtain ⟨rfl, rfl, hI1, hFr1⟩ := hp
    have hFr := hFr.tr (FrA.row (by decide : 2 < 7) hFr1)
    have hI := hI.setRow (by decide : 2 < 7) hI1 hFr1
    obtain ⟨t18, et18, hf⟩ := nm_ok hf
    have hI := eqm (P := fun w => CI κ A w L F15) hI et18.symm
    refine lv_pop S.1 S.2.1 dX3_laySlip_18 rfl ?_
    exact B19  t18 x1 hf F15 hI hFr _ _ _ hW (lv_sub hl [0, 1] rfl)
def f_X3_disturb (σ : CS) (x1 : Int32) : Option CS := (if x1 = 0 then (f_X1_end (fun k => σ.2 (1 + k))).bind fun z14 => nm ((σ.1, scUp σ.2 1 4 z14) : CS) fun t19 => some t19 else (f_X2_growStale (fun k => σ.2 (5 + 3 * 0 + k))).bind fun z2 => nm ((σ.1, scUp σ.2 (5 + 3 * 0) 3 z2) : CS) fun t7 => (f_X2_growStale (fun k => t7.2 (5 + 3 * 1 + k))).bind fun z8 => nm ((t7.1, scUp t7.2 (5 + 3 * 1) 3 z8) : CS) fun t13 => some t13)
theorem mc_X3_disturb : MCode yX3_disturb cX3_disturb 2 none := ⟨wd_158, wd_1, by decide, by decide⟩
theorem np_X3_disturb : (parseMethodDescriptor yX3_disturb.desc).map (fun d => d.parameters.length) = some 1 := by decide +kernel
set_option maxHeartbeats 4000000 in
set_option maxRecDepth 100000 in
theorem c_X3_disturb {l : Launch} {D : va_G} {κ : Nat → ClassId} {ζ : Nat → Nat} {L : List Nat} {F : Nat → va_E} {σ : CS} {A : Nat → Nat} (hI : CI κ A σ L F) (x1 : Int32) {res : CS} (hf : f_X3_disturb σ x1 = some res) : MtV l D cls (ty5 κ) ζ yX3_disturb cX3_disturb 2 none 2 0 0 ([.ref (A 0), .int x1] : List Value) L F (fun L' F' => L = L' ∧ CI κ A res L F' ∧ FrA A F F') := by
  refine MtV.of (by decide) (Nat.le_of_ble_eq_true rfl) ?_
  intro p e s m below meth c S hr hlk _ hK hW hST ls hl
  have hl : lv_has ls 2 [(0, .ref (A 0)), (1, .int x1)] := hl
  have hFr : FrA A F F := FrA.rf
  unfold f_X3_disturb at hf
  refine lv_iload_n S.1 S.2.1 dX3_disturb_0 rfl (lv_at hl 1 rfl) ?_
  refine lv_if_ne (tgt := 14) S.1 S.2.1 dX3_disturb_1 (by decide) (fun c1 => ?_) (fun c1 => ?_)
  · have hf := (if_neg c1).symm.trans hf
    refine lv_aload_n S.1 S.2.1 dX3_disturb_14 rfl (lv_at hl 0 rfl) ?_
    refine pk_get S hK hW 5 (hI.mem 0 (by decide)) hI.this rfl hinX3 (by decide) wd_85 rfl dX3_disturb_15 ?_
    obtain ⟨z2, hz, hf⟩ := ob hf
    refine pk_cVV (As := []) (rest := []) S hK hST hW (c_X2_growStale (hI.ker (by decide : 0 < 2))  hz) mc_X2_growStale wd_163 wd_164 wd_165 rfl np_X2_growStale (hI.mem _ (by have := (by decide : 0 < 2); omega)) (hI.kerH (by decide : 0 < 2)) rfl rfl hl.1 rfl (Nat.le_of_ble_eq_true rfl) dX3_disturb_18 ⟨by decide, by decide⟩ ⟨by decide, by decide⟩ (fun L3 F4 H5 l6 hp hW => ?_)
    obtain ⟨rfl, hI1, hFr1⟩ := hp
    have hFr := hFr.tr (FrA.ker (i := 16 + 0) (by have := (by decide : 0 < 2); omega) hFr1)
    have hI := hI.setKer (by decide : 0 < 2) hI1 hFr1
    obtain ⟨t7, et7, hf⟩ := nm_ok hf
    have hI := eqm (P := fun w => CI κ A w L F4) hI et7.symm
    refine lv_aload_n S.1 S.2.1 dX3_disturb_21 rfl (lv_at hl 0 rfl) ?_
    refine pk_get S hK hW 6 (hI.mem 0 (by decide)) hI.this rfl hinX3 (by decide) wd_86 rfl dX3_disturb_22 ?_
    obtain ⟨z8, hz, hf⟩ := ob hf
    refine pk_cVV (As := []) (rest := []) S hK hST hW (c_X2_growStale (hI.ker (by decide : 1 < 2))  hz) mc_X2_growStale wd_163 wd_164 wd_165 rfl np_X2_growStale (hI.mem _ (by have := (by decide : 1 < 2); omega)) (hI.kerH (by decide : 1 < 2)) rfl rfl hl.1 rfl (Nat.le_of_ble_eq_true rfl) dX3_disturb_25 ⟨by decide, by decide⟩ ⟨by decide, by decide⟩ (fun L9 F10 H11 l12 hp hW => ?_)
    obtain ⟨rfl, hI1, hFr1⟩ := hp
    have hFr := hFr.tr (FrA.ker (i := 16 + 1) (by have := (by decide : 1 < 2); omega) hFr1)
    have hI := hI.setKer (by decide : 1 < 2) hI1 hFr1
    obtain ⟨t13, et13, hf⟩ := nm_ok hf
    have hI := eqm (P := fun w => CI κ A w L F10) hI et13.symm
    exact pk_vret S hr hlk hW ⟨rfl, eqm (P := fun z => CI κ A z L F10) hI (Option.some.inj hf), hFr⟩ (by decide) (by decide) dX3_disturb_28
  · have hf := (if_pos c1).symm.trans hf
    refine lv_aload_n S.1 S.2.1 dX3_disturb_4 rfl (lv_at hl 0 rfl) ?_
    refine pk_get S hK hW 4 (hI.mem 0 (by decide)) hI.this rfl hinX3 (by decide) wd_84 rfl dX3_disturb_5 ?_
    obtain ⟨z14, hz, hf⟩ := ob hf
    refine pk_cVV (As := []) (rest := []) S hK hST hW (c_X1_end hI.walk  hz) mc_X1_end wd_159 wd_160 wd_161 rfl np_X1_end (hI.mem 15 (by decide)) hI.walkH rfl rfl hl.1 rfl (Nat.le_of_ble_eq_true rfl) dX3_disturb_8 ⟨by decide, by decide⟩ ⟨by decide, by decide⟩ (fun L15 F16 H17 l18 hp hW => ?_)
    obtain ⟨rfl, hI1, hFr1⟩ := hp
    have hFr := hFr.tr (FrA.ker (i := 15) (by decide) hFr1)
    have hI := hI.setWalk hI1 hFr1
    obtain ⟨t19, et19, hf⟩ := nm_ok hf
    have hI := eqm (P := fun w => CI κ A w L F16) hI et19.symm
    refine lv_goto (tgt := 28) S.1 S.2.1 dX3_disturb_11 (by decide) ?_
    exact pk_vret S hr hlk hW ⟨rfl, eqm (P := fun z => CI κ A z L F16) hI (Option.some.inj hf), hFr⟩ (by decide) (by decide) dX3_disturb_28
def f_X3_stepOn_22 (σ : CS)  (v1 : Int32) (v2 : Int32) (v3 : Int32) (u0 : Nat) (u1 : Int32) : Option CS := (f_X0_enter (cap u0) (σ.1 u0) u1 v3).bind fun z1 => nm ((va_up σ.1 u0 z1, σ.2) : CS) fun t6 => (f_X3_slipOf v1 v2 1 v3).bind fun z7 => (f_X3_laySlip t6 z7).bind fun z12 => (f_X3_disturb z12 v1).bind fun z17 => some z17
def f_X3_stepOn (σ : CS) (x1 : Int32) (x2 : Int32) (x3 : Int32) : Option CS := (f_X3_trackOf σ x1).bind fun z22 => (if x2 = 0 then f_X3_stepOn_22 σ x1 x2 x3 z22 0 else (f_X0_size (cap z22) (σ.1 z22)).bind fun z28 => f_X3_stepOn_22 σ x1 x2 x3 z22 z28)
theorem mc_X3_stepOn : MCode yX3_stepOn cX3_stepOn 5 none := ⟨wd_459, wd_1, by decide, by decide⟩
theorem np_X3_stepOn : (parseMethodDescriptor yX3_stepOn.desc).map (fun d => d.parameters.length) = some 3 := by decide +kernel
set_option maxHeartbeats 4000000 in
set_option maxRecDepth 100000 in
theorem c_X3_stepOn {l : Launch} {D : va_G} {κ : Nat → ClassId} {ζ : Nat → Nat} {L : List Nat} {F : Nat → va_E} {σ : CS} {A : Nat → Nat} (hI : CI κ A σ L F) (x1 : Int32) (x2 : Int32) (x3 : Int32) {res : CS} (hf : f_X3_stepOn σ x1 x2 x3 = some res) : MtV l D cls (ty5 κ) ζ yX3_stepOn cX3_stepOn 5 none 5 0 0 ([.ref (A 0), .int x1, .int x2, .int x3] : List Value) L F (fun L' F' => L = L' ∧ CI κ A res L F' ∧ FrA A F F') := by
  refine MtV.of (by decide) (Nat.le_of_ble_eq_true rfl) ?_
  intro p e s m below meth c S hr hlk _ hK hW hST ls hl
  have hl : lv_has ls 5 [(0, .ref (A 0)), (1, .int x1), (2, .int x2), (3, .int x3)] := hl
  have hFr : FrA A F F := FrA.rf
  have B22 : ∀   (v1 : Int32) (v2 : Int32) (v3 : Int32) (u0 : Nat) (u1 : Int32), f_X3_stepOn_22 σ v1 v2 v3 u0 u1 = some res → u0 < 7 → ∀ (H22 : Heap) (l22 : List Loc) (ls : Array Slot), HW D cls L s H22 l22 L F → lv_has ls 5 [(0, .ref (A 0)), (1, .int v1), (2, .int v2), (3, .int v3)] → W p l e (Rm 5 0 0) s m ([.ref (A 0), .int x1, .int x2, .int x3] : List Value).toArray below meth c H22 l22 0 0 (EnV D cls s below ([.ref (A 0), .int x1, .int x2, .int x3] : List Value).toArray 0 0 L (fun L' F' => L = L' ∧ CI κ A res L F' ∧ FrA A F F')) (F0 m 22 ls [.int u1, .ref (A (1 + 2 * u0))]) := by
    intro v1 v2 v3 u0 u1 hf hu0 H22 l22 ls hW hl
    unfold f_X3_stepOn_22 at hf
    refine lv_iload_n S.1 S.2.1 dX3_stepOn_22 rfl (lv_at hl 3 rfl) ?_
    obtain ⟨z1, hz, hf⟩ := ob hf
    refine pk_cVV (As := [.int u1, .int v3]) (rest := []) S hK hST hW (c_X0_enter (hI.row hu0) u1 v3 hz) mc_X0_enter wd_147 wd_148 wd_149 rfl np_X0_enter (hI.mem _ (by have := hu0; omega)) (hI.rowH hu0) rfl rfl hl.1 rfl (Nat.le_of_ble_eq_true rfl) dX3_stepOn_23 ⟨by decide, by decide⟩ ⟨by decide, by decide⟩ (fun L2 F3 H4 l5 hp hW => ?_)
    obtain ⟨rfl, hI1, hFr1⟩ := hp
    have hFr := hFr.tr (FrA.row hu0 hFr1)
    have hI := hI.setRow hu0 hI1 hFr1
    obtain ⟨t6, et6, hf⟩ := nm_ok hf
    have hI := eqm (P := fun w => CI κ A w L F3) hI et6.symm
    refine lv_aload_n S.1 S.2.1 dX3_stepOn_26 rfl (lv_at hl 0 rfl) ?_
    refine lv_iload_n S.1 S.2.1 dX3_stepOn_27 rfl (lv_at hl 1 rfl) ?_
    refine lv_iload_n S.1 S.2.1 dX3_stepOn_28 rfl (lv_at hl 2 rfl) ?_
    refine lv_iconst (v := 1) S.1 S.2.1 dX3_stepOn_29 (by decide) ?_
    refine lv_iload_n S.1 S.2.1 dX3_stepOn_30 rfl (lv_at hl 3 rfl) ?_
    obtain ⟨z7, hz, hf⟩ := ob hf
    refine pk_cSI (As := [.int v1, .int v2, .int 1, .int v3]) (rest := [.ref (A 0)]) S hK hST hW (c_X3_slipOf  v1 v2 1 v3 hz) mc_X3_slipOf wd_460 wd_461 np_X3_slipOf rfl hl.1 rfl (Nat.le_of_ble_eq_true rfl) dX3_stepOn_31 ⟨by decide, by decide⟩ ⟨by decide, by decide⟩ (fun r L8 F9 H10 l11 hp hW => ?_)
    obtain ⟨rfl, rfl, rfl⟩ := hp
    obtain ⟨z12, hz, hf⟩ := ob hf
    refine pk_cVV (As := [.int z7]) (rest := []) S hK hST hW (c_X3_laySlip hI z7 hz) mc_X3_laySlip wd_463 wd_465 wd_1688 rfl np_X3_laySlip (hI.mem 0 (by decide)) hI.this rfl rfl hl.1 rfl (Nat.le_of_ble_eq_true rfl) dX3_stepOn_34 ⟨by decide, by decide⟩ ⟨by decide, by decide⟩ (fun L13 F14 H15 l16 hp hW => ?_)
    obtain ⟨rfl, hI1, hFr1⟩ := hp
    have hI := hI1
    have hFr := hFr.tr hFr1
    refine lv_aload_n S.1 S.2.1 dX3_stepOn_37 rfl (lv_at hl 0 rfl) ?_
    refine lv_iload_n S.1 S.2.1 dX3_stepOn_38 rfl (lv_at hl 1 rfl) ?_
    obtain ⟨z17, hz, hf⟩ := ob hf
    refine pk_cVV (As := [.int v1]) (rest := []) S hK hST hW (c_X3_disturb hI v1 hz) mc_X3_disturb wd_155 wd_157 wd_1665 rfl np_X3_disturb (hI.mem 0 (by decide)) hI.this rfl rfl hl.1 rfl (Nat.le_of_ble_eq_true rfl) dX3_stepOn_39 ⟨by decide, by decide⟩ ⟨by decide, by decide⟩ (fun L18 F19 H20 l21 hp hW => ?_)
    obtain ⟨rfl, hI1, hFr1⟩ := hp
    have hI := hI1
    have hFr := hFr.tr hFr1
    exact pk_vret S hr hlk hW ⟨rfl, eqm (P := fun z => CI κ A z L F19) hI (Option.some.inj hf), hFr⟩ (by decide) (by decide) dX3_stepOn_42
  unfold f_X3_stepOn at hf
  refine lv_aload_n S.1 S.2.1 dX3_stepOn_0 rfl (lv_at hl 0 rfl) ?_
  refine lv_iload_n S.1 S.2.1 dX3_stepOn_1 rfl (lv_at hl 1 rfl) ?_
  obtain ⟨z22, hz, hf⟩ := ob hf
  refine pk_cVR (As := [.int x1]) (rest := []) S hK hST hW (c_X3_trackOf hI x1 hz) mc_X3_trackOf wd_130 wd_132 wd_1664 rfl np_X3_trackOf (hI.mem 0 (by decide)) hI.this rfl rfl hl.1 rfl (Nat.le_of_ble_eq_true rfl) dX3_stepOn_2 ⟨by decide, by decide⟩ ⟨by decide, by decide⟩ (fun r L23 F24 H25 l26 hp hW => ?_)
  obtain ⟨rfl, rfl, hbz22, rfl⟩ := hp
  refine lv_astore (lv' := [(4, .ref (A (1 + 2 * z22))), (0, .ref (A 0)), (1, .int x1), (2, .int x2), (3, .int x3)]) S.1 S.2.1 dX3_stepOn_5 hl (by decide) rfl (fun ls hl => ?_)
  refine lv_aload S.1 S.2.1 dX3_stepOn_7 (lv_at hl 0 rfl) ?_
  refine lv_iload_n S.1 S.2.1 dX3_stepOn_9 rfl (lv_at hl 3 rfl) ?_
  refine lv_if_eq (tgt := 21) S.1 S.2.1 dX3_stepOn_10 (by decide) (fun c27 => ?_) (fun c27 => ?_)
  · have hf := (if_pos c27).symm.trans hf
    refine lv_iconst (v := 0) S.1 S.2.1 dX3_stepOn_21 (by decide) ?_
    exact B22  x1 x2 x3 z22 0 hf hbz22 _ _ _ hW (lv_sub hl [1, 2, 3, 4] rfl)
  · have hf := (if_neg c27).symm.trans hf
    refine lv_aload S.1 S.2.1 dX3_stepOn_13 (lv_at hl 0 rfl) ?_
    obtain ⟨z28, hz, hf⟩ := ob hf
    refine pk_cVI (As := []) (rest := [.ref (A (1 + 2 * z22))]) S hK hST hW (c_X0_size (hI.row hbz22)  hz) mc_X0_size wd_140 wd_141 wd_142 rfl np_X0_size (hI.mem _ (by have := hbz22; omega)) (hI.rowH hbz22) rfl rfl hl.1 rfl (Nat.le_of_ble_eq_true rfl) dX3_stepOn_15 ⟨by decide, by decide⟩ ⟨by decide, by decide⟩ (fun r L29 F30 H31 l32 hp hW => ?_)
    obtain ⟨rfl, rfl, rfl⟩ := hp
    refine lv_goto (tgt := 22) S.1 S.2.1 dX3_stepOn_18 (by decide) ?_
    exact B22  x1 x2 x3 z22 z28 hf hbz22 _ _ _ hW (lv_sub hl [1, 2, 3, 4] rfl)
def f_X3_bringPiece_26 (σ : CS)  (v1 : Int32) (v2 : Int32) (v3 : Int32) (v4 : Int32) : Option (Nat ⊕ (Int32 × CS)) := (f_X3_codeOf v3 v4).bind fun z1 => (f_X3_stepOn σ v1 v2 z1).bind fun z6 => some (.inr (1, z6))
def f_X3_bringPiece (σ : CS) (x1 : Int32) (x2 : Int32) (x3 : Int32) (x4 : Int32) : Option (Nat ⊕ (Int32 × CS)) := obx (f_X3_needTrack x1) fun z11 => obx (f_X3_needPiece x3 x4) fun z16 => obx (f_X3_needRoom σ x1 1) fun z21 => (if x1 = 0 then (if x3 = 0 then some (.inr (0, σ)) else f_X3_bringPiece_26 σ x1 x2 x3 x4) else f_X3_bringPiece_26 σ x1 x2 x3 x4)
theorem mc_X3_bringPiece : MCode yX3_bringPiece cX3_bringPiece 5 (some .boolean) := ⟨wd_358, wd_1, by decide, by decide⟩
theorem np_X3_bringPiece : (parseMethodDescriptor yX3_bringPiece.desc).map (fun d => d.parameters.length) = some 4 := by decide +kernel
set_option maxHeartbeats 4000000 in
set_option maxRecDepth 100000 in
theorem c_X3_bringPiece {l : Launch} {D : va_G} {κ : Nat → ClassId} {ζ : Nat → Nat} {L : List Nat} {F : Nat → va_E} {σ : CS} {A : Nat → Nat} (hst : l.stackTraces = false) (hI : CI κ A σ L F) (x1 : Int32) (x2 : Int32) (x3 : Int32) (x4 : Int32) {res : (Nat ⊕ (Int32 × CS))} (hf : f_X3_bringPiece σ x1 x2 x3 x4 = some res) : MxI l D cls (ty5 κ) ζ yX3_bringPiece cX3_bringPiece 5 (some .boolean) 9 4 24 ([.ref (A 0), .int x1, .int x2, .int x3, .int x4] : List Value) L F (fun r L' F' => L = L' ∧ ∃ z, res = .inr z ∧ z.1 = r ∧ CI κ A z.2 L F' ∧ FrA A F F') (fun E => ∃ k, res = .inl k ∧ E = xName k) := by
  refine MxI.of (by decide) (Nat.le_of_ble_eq_true rfl) ?_
  intro p e s m below meth c S hr hlk hxt hK hW hST ls hl
  have hl : lv_has ls 5 [(0, .ref (A 0)), (1, .int x1), (2, .int x2), (3, .int x3), (4, .int x4)] := hl
  have hFr : FrA A F F := FrA.rf
  have B26 : ∀   (v1 : Int32) (v2 : Int32) (v3 : Int32) (v4 : Int32), f_X3_bringPiece_26 σ v1 v2 v3 v4 = some res → ∀ (H26 : Heap) (l26 : List Loc) (ls : Array Slot), HW D cls L s H26 l26 L F → lv_has ls 5 [(0, .ref (A 0)), (1, .int v1), (2, .int v2), (3, .int v3), (4, .int v4)] → W p l e (Rm 9 4 24) s m ([.ref (A 0), .int x1, .int x2, .int x3, .int x4] : List Value).toArray below meth c H26 l26 4 24 (ExI D cls s below ([.ref (A 0), .int x1, .int x2, .int x3, .int x4] : List Value).toArray 4 24 L F (fun r L' F' => L = L' ∧ ∃ z, res = .inr z ∧ z.1 = r ∧ CI κ A z.2 L F' ∧ FrA A F F') (fun E => ∃ k, res = .inl k ∧ E = xName k)) (F0 m 26 ls []) := by
    intro v1 v2 v3 v4 hf H26 l26 ls hW hl
    unfold f_X3_bringPiece_26 at hf
    refine lv_aload_n S.1 S.2.1 dX3_bringPiece_26 rfl (lv_at hl 0 rfl) ?_
    refine lv_iload_n S.1 S.2.1 dX3_bringPiece_27 rfl (lv_at hl 1 rfl) ?_
    refine lv_iload_n S.1 S.2.1 dX3_bringPiece_28 rfl (lv_at hl 2 rfl) ?_
    refine lv_iload_n S.1 S.2.1 dX3_bringPiece_29 rfl (lv_at hl 3 rfl) ?_
    refine lv_iload S.1 S.2.1 dX3_bringPiece_30 (lv_at hl 4 rfl) ?_
    obtain ⟨z1, hz, hf⟩ := ob hf
    refine pk_cSI (As := [.int v3, .int v4]) (rest := [.int v2, .int v1, .ref (A 0)]) S hK hST hW (c_X3_codeOf  v3 v4 hz) mc_X3_codeOf wd_453 wd_454 np_X3_codeOf rfl hl.1 rfl (Nat.le_of_ble_eq_true rfl) dX3_bringPiece_32 ⟨by decide, by decide⟩ ⟨by decide, by decide⟩ (fun r L2 F3 H4 l5 hp hW => ?_)
    obtain ⟨rfl, rfl, rfl⟩ := hp
    obtain ⟨z6, hz, hf⟩ := ob hf
    refine pk_cVV (As := [.int v1, .int v2, .int z1]) (rest := []) S hK hST hW (c_X3_stepOn hI v1 v2 z1 hz) mc_X3_stepOn wd_456 wd_458 wd_1687 rfl np_X3_stepOn (hI.mem 0 (by decide)) hI.this rfl rfl hl.1 rfl (Nat.le_of_ble_eq_true rfl) dX3_bringPiece_35 ⟨by decide, by decide⟩ ⟨by decide, by decide⟩ (fun L7 F8 H9 l10 hp hW => ?_)
    obtain ⟨rfl, hI1, hFr1⟩ := hp
    have hI := hI1
    have hFr := hFr.tr hFr1
    refine lv_iconst (v := 1) S.1 S.2.1 dX3_bringPiece_38 (by decide) ?_
    exact xk_zret S hr hlk hW (by decide) ⟨rfl, _, (Option.some.inj hf).symm, rfl, hI, hFr⟩ (by decide) (by decide) dX3_bringPiece_39
  unfold f_X3_bringPiece at hf
  refine lv_iload_n S.1 S.2.1 dX3_bringPiece_0 rfl (lv_at hl 1 rfl) ?_
  obtain ⟨z1, hz, hxl, hxr⟩ := obx_ok hf
  refine xk_cSV (As := [.int x1]) (rest := []) S hK hST hW (c_X3_needTrack hst  x1 hz) mc_X3_needTrack wd_359 wd_360 np_X3_needTrack rfl hl.1 rfl (Nat.le_of_ble_eq_true rfl) dX3_bringPiece_1 ⟨by decide, by decide⟩ ⟨by decide, by decide⟩ (fun E ce q9 H14 l15 hE hW h1 h2 h3 => ?_) (fun L12 F13 H14 l15 hp hW => ?_)
  · obtain ⟨k, hk1, hk2⟩ := hE
    exact xk_outI hxt hlk hW ⟨k, hxl k hk1, hk2⟩ h1 h2 h3 (by decide) (by decide)
  obtain ⟨rfl, rfl, z11, hz1⟩ := hp
  have hf := hxr z11 hz1
  refine lv_iload_n S.1 S.2.1 dX3_bringPiece_4 rfl (lv_at hl 3 rfl) ?_
  refine lv_iload S.1 S.2.1 dX3_bringPiece_5 (lv_at hl 4 rfl) ?_
  obtain ⟨z1, hz, hxl, hxr⟩ := obx_ok hf
  refine xk_cSV (As := [.int x3, .int x4]) (rest := []) S hK hST hW (c_X3_needPiece hst  x3 x4 hz) mc_X3_needPiece wd_413 wd_414 np_X3_needPiece rfl hl.1 rfl (Nat.le_of_ble_eq_true rfl) dX3_bringPiece_7 ⟨by decide, by decide⟩ ⟨by decide, by decide⟩ (fun E ce q9 H19 l20 hE hW h1 h2 h3 => ?_) (fun L17 F18 H19 l20 hp hW => ?_)
  · obtain ⟨k, hk1, hk2⟩ := hE
    exact xk_outI hxt hlk hW ⟨k, hxl k hk1, hk2⟩ h1 h2 h3 (by decide) (by decide)
  obtain ⟨rfl, rfl, z16, hz1⟩ := hp
  have hf := hxr z16 hz1
  refine lv_aload_n S.1 S.2.1 dX3_bringPiece_10 rfl (lv_at hl 0 rfl) ?_
  refine lv_iload_n S.1 S.2.1 dX3_bringPiece_11 rfl (lv_at hl 1 rfl) ?_
  refine lv_iconst (v := 1) S.1 S.2.1 dX3_bringPiece_12 (by decide) ?_
  obtain ⟨z1, hz, hxl, hxr⟩ := obx_ok hf
  refine xk_cVV (As := [.int x1, .int 1]) (rest := []) S hK hST hW (c_X3_needRoom hst hI x1 1 hz) mc_X3_needRoom wd_434 wd_436 wd_1686 rfl np_X3_needRoom (hI.mem 0 (by decide)) hI.this rfl rfl hl.1 rfl (Nat.le_of_ble_eq_true rfl) dX3_bringPiece_13 ⟨by decide, by decide⟩ ⟨by decide, by decide⟩ (fun E ce q9 H24 l25 hE hW h1 h2 h3 => ?_) (fun L22 F23 H24 l25 hp hW => ?_)
  · obtain ⟨k, hk1, hk2⟩ := hE
    exact xk_outI hxt hlk hW ⟨k, hxl k hk1, hk2⟩ h1 h2 h3 (by decide) (by decide)
  obtain ⟨rfl, rfl, z21, hz1⟩ := hp
  have hf := hxr z21 hz1
  refine lv_iload_n S.1 S.2.1 dX3_bringPiece_16 rfl (lv_at hl 1 rfl) ?_
  refine lv_if_ne (tgt := 26) S.1 S.2.1 dX3_bringPiece_17 (by decide) (fun c26 => ?_) (fun c26 => ?_)
  · have hf := (if_neg c26).symm.trans hf
    exact B26  x1 x2 x3 x4 hf  _ _ _ hW (lv_sub hl [0, 1, 2, 3, 4] rfl)
  · have hf := (if_pos c26).symm.trans hf
    refine lv_iload_n S.1 S.2.1 dX3_bringPiece_20 rfl (lv_at hl 3 rfl) ?_
    refine lv_if_ne (tgt := 26) S.1 S.2.1 dX3_bringPiece_21 (by decide) (fun c27 => ?_) (fun c27 => ?_)
    · have hf := (if_neg c27).symm.trans hf
      exact B26  x1 x2 x3 x4 hf  _ _ _ hW (lv_sub hl [0, 1, 2, 3, 4] rfl)
    · have hf := (if_pos c27).symm.trans hf
      refine lv_iconst (v := 0) S.1 S.2.1 dX3_bringPiece_24 (by decide) ?_
      exact xk_zret S hr hlk hW (by decide) ⟨rfl, _, (Option.some.inj hf).symm, rfl, hI, hFr⟩ (by decide) (by decide) dX3_bringPiece_25
def f_X3_join (σ : CS) (x1 : Int32) (x2 : Int32) (x3 : Int32) (x4 : Int32) : Option (Nat ⊕ (Int32 × CS)) := obx (f_X3_bringPiece σ x1 x2 x3 x4) fun z1 => (if z1.1 = 0 then some (.inr ((-9), z1.2)) else (f_X3_trackOf z1.2 x1).bind fun z7 => (f_X0_size (cap z7) (z1.2.1 z7)).bind fun z12 => some (.inr (z12, z1.2)))
theorem mc_X3_join : MCode yX3_join cX3_join 5 (some .int) := ⟨wd_354, wd_1, by decide, by decide⟩
theorem np_X3_join : (parseMethodDescriptor yX3_join.desc).map (fun d => d.parameters.length) = some 4 := by decide +kernel
set_option maxHeartbeats 4000000 in
set_option maxRecDepth 100000 in
theorem c_X3_join {l : Launch} {D : va_G} {κ : Nat → ClassId} {ζ : Nat → Nat} {L : List Nat} {F : Nat → va_E} {σ : CS} {A : Nat → Nat} (hst : l.stackTraces = false) (hI : CI κ A σ L F) (x1 : Int32) (x2 : Int32) (x3 : Int32) (x4 : Int32) {res : (Nat ⊕ (Int32 × CS))} (hf : f_X3_join σ x1 x2 x3 x4 = some res) : MxI l D cls (ty5 κ) ζ yX3_join cX3_join 5 (some .int) 10 4 24 ([.ref (A 0), .int x1, .int x2, .int x3, .int x4] : List Value) L F (fun r L' F' => L = L' ∧ ∃ z, res = .inr z ∧ z.1 = r ∧ CI κ A z.2 L F' ∧ FrA A F F') (fun E => ∃ k, res = .inl k ∧ E = xName k) := by
  refine MxI.of (by decide) (Nat.le_of_ble_eq_true rfl) ?_
  intro p e s m below meth c S hr hlk hxt hK hW hST ls hl
  have hl : lv_has ls 5 [(0, .ref (A 0)), (1, .int x1), (2, .int x2), (3, .int x3), (4, .int x4)] := hl
  have hFr : FrA A F F := FrA.rf
  unfold f_X3_join at hf
  refine lv_aload_n S.1 S.2.1 dX3_join_0 rfl (lv_at hl 0 rfl) ?_
  refine lv_iload_n S.1 S.2.1 dX3_join_1 rfl (lv_at hl 1 rfl) ?_
  refine lv_iload_n S.1 S.2.1 dX3_join_2 rfl (lv_at hl 2 rfl) ?_
  refine lv_iload_n S.1 S.2.1 dX3_join_3 rfl (lv_at hl 3 rfl) ?_
  refine lv_iload S.1 S.2.1 dX3_join_4 (lv_at hl 4 rfl) ?_
  obtain ⟨z1, hz, hxl, hxr⟩ := obx_ok hf
  refine xk_cVI (As := [.int x1, .int x2, .int x3, .int x4]) (rest := []) S hK hST hW (c_X3_bringPiece hst hI x1 x2 x3 x4 hz) mc_X3_bringPiece wd_355 wd_357 wd_1684 rfl np_X3_bringPiece (hI.mem 0 (by decide)) hI.this rfl rfl hl.1 rfl (Nat.le_of_ble_eq_true rfl) dX3_join_6 ⟨by decide, by decide⟩ ⟨by decide, by decide⟩ (fun E ce q9 H4 l5 hE hW h1 h2 h3 => ?_) (fun r L2 F3 H4 l5 hp hW => ?_)
  · obtain ⟨k, hk1, hk2⟩ := hE
    exact xk_outI hxt hlk hW ⟨k, hxl k hk1, hk2⟩ h1 h2 h3 (by decide) (by decide)
  obtain ⟨rfl, z1, hz1, rfl, hI1, hFr1⟩ := hp
  have hf := hxr z1 hz1
  have hI := hI1
  have hFr := hFr.tr hFr1
  refine lv_if_eq (tgt := 23) S.1 S.2.1 dX3_join_9 (by decide) (fun c6 => ?_) (fun c6 => ?_)
  · have hf := (if_pos c6).symm.trans hf
    refine lv_bipush (v := (-9)) S.1 S.2.1 dX3_join_23 (by decide) ?_
    exact xk_iret S hr hlk hW ⟨rfl, _, (Option.some.inj hf).symm, rfl, hI, hFr⟩ (by decide) (by decide) dX3_join_25
  · have hf := (if_neg c6).symm.trans hf
    refine lv_aload_n S.1 S.2.1 dX3_join_12 rfl (lv_at hl 0 rfl) ?_
    refine lv_iload_n S.1 S.2.1 dX3_join_13 rfl (lv_at hl 1 rfl) ?_
    obtain ⟨z7, hz, hf⟩ := ob hf
    refine pk_cVR (As := [.int x1]) (rest := []) S hK hST hW (c_X3_trackOf hI x1 hz) mc_X3_trackOf wd_130 wd_132 wd_1664 rfl np_X3_trackOf (hI.mem 0 (by decide)) hI.this rfl rfl hl.1 rfl (Nat.le_of_ble_eq_true rfl) dX3_join_14 ⟨by decide, by decide⟩ ⟨by decide, by decide⟩ (fun r L8 F9 H10 l11 hp hW => ?_)
    obtain ⟨rfl, rfl, hbz7, rfl⟩ := hp
    obtain ⟨z12, hz, hf⟩ := ob hf
    refine pk_cVI (As := []) (rest := []) S hK hST hW (c_X0_size (hI.row hbz7)  hz) mc_X0_size wd_140 wd_141 wd_142 rfl np_X0_size (hI.mem _ (by have := hbz7; omega)) (hI.rowH hbz7) rfl rfl hl.1 rfl (Nat.le_of_ble_eq_true rfl) dX3_join_17 ⟨by decide, by decide⟩ ⟨by decide, by decide⟩ (fun r L13 F14 H15 l16 hp hW => ?_)
    obtain ⟨rfl, rfl, rfl⟩ := hp
    refine lv_goto (tgt := 25) S.1 S.2.1 dX3_join_20 (by decide) ?_
    exact xk_iret S hr hlk hW ⟨rfl, _, (Option.some.inj hf).symm, rfl, hI, hFr⟩ (by decide) (by decide) dX3_join_25
def f_X3_offer (σ : CS) (x1 : Int32) (x2 : Int32) (x3 : Int32) (x4 : Int32) : Option (Nat ⊕ (Int32 × CS)) := obx (f_X3_bringPiece σ x1 x2 x3 x4) fun z1 => (if z1.1 = 0 ∨ z1.1 = 1 then some (.inr (z1.1, z1.2)) else none)
theorem mc_X3_offer : MCode yX3_offer cX3_offer 5 (some .boolean) := ⟨wd_472, wd_1, by decide, by decide⟩
theorem np_X3_offer : (parseMethodDescriptor yX3_offer.desc).map (fun d => d.parameters.length) = some 4 := by decide +kernel
set_option maxHeartbeats 4000000 in
set_option maxRecDepth 100000 in
theorem c_X3_offer {l : Launch} {D : va_G} {κ : Nat → ClassId} {ζ : Nat → Nat} {L : List Nat} {F : Nat → va_E} {σ : CS} {A : Nat → Nat} (hst : l.stackTraces = false) (hI : CI κ A σ L F) (x1 : Int32) (x2 : Int32) (x3 : Int32) (x4 : Int32) {res : (Nat ⊕ (Int32 × CS))} (hf : f_X3_offer σ x1 x2 x3 x4 = some res) : MxI l D cls (ty5 κ) ζ yX3_offer cX3_offer 5 (some .boolean) 10 4 24 ([.ref (A 0), .int x1, .int x2, .int x3, .int x4] : List Value) L F (fun r L' F' => L = L' ∧ ∃ z, res = .inr z ∧ z.1 = r ∧ CI κ A z.2 L F' ∧ FrA A F F') (fun E => ∃ k, res = .inl k ∧ E = xName k) := by
  refine MxI.of (by decide) (Nat.le_of_ble_eq_true rfl) ?_
  intro p e s m below meth c S hr hlk hxt hK hW hST ls hl
  have hl : lv_has ls 5 [(0, .ref (A 0)), (1, .int x1), (2, .int x2), (3, .int x3), (4, .int x4)] := hl
  have hFr : FrA A F F := FrA.rf
  unfold f_X3_offer at hf
  refine lv_aload_n S.1 S.2.1 dX3_offer_0 rfl (lv_at hl 0 rfl) ?_
  refine lv_iload_n S.1 S.2.1 dX3_offer_1 rfl (lv_at hl 1 rfl) ?_
  refine lv_iload_n S.1 S.2.1 dX3_offer_2 rfl (lv_at hl 2 rfl) ?_
  refine lv_iload_n S.1 S.2.1 dX3_offer_3 rfl (lv_at hl 3 rfl) ?_
  refine lv_iload S.1 S.2.1 dX3_offer_4 (lv_at hl 4 rfl) ?_
  obtain ⟨z1, hz, hxl, hxr⟩ := obx_ok hf
  refine xk_cVI (As := [.int x1, .int x2, .int x3, .int x4]) (rest := []) S hK hST hW (c_X3_bringPiece hst hI x1 x2 x3 x4 hz) mc_X3_bringPiece wd_355 wd_357 wd_1684 rfl np_X3_bringPiece (hI.mem 0 (by decide)) hI.this rfl rfl hl.1 rfl (Nat.le_of_ble_eq_true rfl) dX3_offer_6 ⟨by decide, by decide⟩ ⟨by decide, by decide⟩ (fun E ce q9 H4 l5 hE hW h1 h2 h3 => ?_) (fun r L2 F3 H4 l5 hp hW => ?_)
  · obtain ⟨k, hk1, hk2⟩ := hE
    exact xk_outI hxt hlk hW ⟨k, hxl k hk1, hk2⟩ h1 h2 h3 (by decide) (by decide)
  obtain ⟨rfl, z1, hz1, rfl, hI1, hFr1⟩ := hp
  have hf := hxr z1 hz1
  have hI := hI1
  have hFr := hFr.tr hFr1
  obtain ⟨hg, hf⟩ := gdp hf
  exact xk_zret S hr hlk hW hg ⟨rfl, _, (Option.some.inj hf).symm, rfl, hI, hFr⟩ (by decide) (by decide) dX3_offer_9
def f_X3_codeAtEnd (σ : CS) (x1 : Int32) (x2 : Int32) : Option Int32 := (f_X3_trackOf σ x1).bind fun z1 => (f_X0_endPlace (cap z1) (σ.1 z1) x2).bind fun z6 => (f_X0_read (cap z1) (σ.1 z1) z6).bind fun z11 => some (z11)
theorem mc_X3_codeAtEnd : MCode yX3_codeAtEnd cX3_codeAtEnd 4 (some .int) := ⟨wd_296, wd_1, by decide, by decide⟩
theorem np_X3_codeAtEnd : (parseMethodDescriptor yX3_codeAtEnd.desc).map (fun d => d.parameters.length) = some 2 := by decide +kernel
set_option maxHeartbeats 4000000 in
set_option maxRecDepth 100000 in
theorem c_X3_codeAtEnd {l : Launch} {D : va_G} {κ : Nat → ClassId} {ζ : Nat → Nat} {L : List Nat} {F : Nat → va_E} {σ : CS} {A : Nat → Nat} (hI : CI κ A σ L F) (x1 : Int32) (x2 : Int32) {res : Int32} (hf : f_X3_codeAtEnd σ x1 x2 = some res) : MtI l D cls (ty5 κ) ζ yX3_codeAtEnd cX3_codeAtEnd 4 (some .int) 2 0 0 ([.ref (A 0), .int x1, .int x2] : List Value) L F (fun r L' F' => L = L' ∧ F = F' ∧ res = r) := by
  refine MtI.of (by decide) (Nat.le_of_ble_eq_true rfl) ?_
  intro p e s m below meth c S hr hlk _ hK hW hST ls hl
  have hl : lv_has ls 4 [(0, .ref (A 0)), (1, .int x1), (2, .int x2)] := hl
  unfold f_X3_codeAtEnd at hf
  refine lv_aload_n S.1 S.2.1 dX3_codeAtEnd_0 rfl (lv_at hl 0 rfl) ?_
  refine lv_iload_n S.1 S.2.1 dX3_codeAtEnd_1 rfl (lv_at hl 1 rfl) ?_
  obtain ⟨z1, hz, hf⟩ := ob hf
  refine pk_cVR (As := [.int x1]) (rest := []) S hK hST hW (c_X3_trackOf hI x1 hz) mc_X3_trackOf wd_130 wd_132 wd_1664 rfl np_X3_trackOf (hI.mem 0 (by decide)) hI.this rfl rfl hl.1 rfl (Nat.le_of_ble_eq_true rfl) dX3_codeAtEnd_2 ⟨by decide, by decide⟩ ⟨by decide, by decide⟩ (fun r L2 F3 H4 l5 hp hW => ?_)
  obtain ⟨rfl, rfl, hbz1, rfl⟩ := hp
  refine lv_astore_n (lv' := [(3, .ref (A (1 + 2 * z1))), (0, .ref (A 0)), (1, .int x1), (2, .int x2)]) S.1 S.2.1 dX3_codeAtEnd_5 rfl hl (by decide) rfl (fun ls hl => ?_)
  refine lv_aload_n S.1 S.2.1 dX3_codeAtEnd_6 rfl (lv_at hl 0 rfl) ?_
  refine lv_aload_n S.1 S.2.1 dX3_codeAtEnd_7 rfl (lv_at hl 0 rfl) ?_
  refine lv_iload_n S.1 S.2.1 dX3_codeAtEnd_8 rfl (lv_at hl 3 rfl) ?_
  obtain ⟨z6, hz, hf⟩ := ob hf
  refine pk_cVI (As := [.int x2]) (rest := [.ref (A (1 + 2 * z1))]) S hK hST hW (c_X0_endPlace (hI.row hbz1) x2 hz) mc_X0_endPlace wd_111 wd_112 wd_113 rfl np_X0_endPlace (hI.mem _ (by have := hbz1; omega)) (hI.rowH hbz1) rfl rfl hl.1 rfl (Nat.le_of_ble_eq_true rfl) dX3_codeAtEnd_9 ⟨by decide, by decide⟩ ⟨by decide, by decide⟩ (fun r L7 F8 H9 l10 hp hW => ?_)
  obtain ⟨rfl, rfl, rfl⟩ := hp
  obtain ⟨z11, hz, hf⟩ := ob hf
  refine pk_cVI (As := [.int z6]) (rest := []) S hK hST hW (c_X0_read (hI.row hbz1) z6 hz) mc_X0_read wd_171 wd_120 wd_121 rfl np_X0_read (hI.mem _ (by have := hbz1; omega)) (hI.rowH hbz1) rfl rfl hl.1 rfl (Nat.le_of_ble_eq_true rfl) dX3_codeAtEnd_12 ⟨by decide, by decide⟩ ⟨by decide, by decide⟩ (fun r L12 F13 H14 l15 hp hW => ?_)
  obtain ⟨rfl, rfl, rfl⟩ := hp
  exact pk_iret S hr hlk hW ⟨rfl, rfl, eqm (P := fun z => z = z11) rfl (Option.some.inj hf)⟩ (by decide) (by decide) dX3_codeAtEnd_15
def f_X3_push (σ : CS) (x1 : Int32) (x2 : Int32) (x3 : Int32) : Option (Nat ⊕ (Int32 × CS)) := obx (f_X3_needTrack x1) fun z1 => (f_X3_codeAtEnd σ x1 0).bind fun z6 => obx (f_X3_bringPiece σ x1 0 x2 x3) fun z11 => (if z11.1 = 0 then some (.inr ((-9), z11.2)) else some (.inr (z6, z11.2)))
theorem mc_X3_push : MCode yX3_push cX3_push 5 (some .int) := ⟨wd_478, wd_1, by decide, by decide⟩
theorem np_X3_push : (parseMethodDescriptor yX3_push.desc).map (fun d => d.parameters.length) = some 3 := by decide +kernel
set_option maxHeartbeats 4000000 in
set_option maxRecDepth 100000 in
theorem c_X3_push {l : Launch} {D : va_G} {κ : Nat → ClassId} {ζ : Nat → Nat} {L : List Nat} {F : Nat → va_E} {σ : CS} {A : Nat → Nat} (hst : l.stackTraces = false) (hI : CI κ A σ L F) (x1 : Int32) (x2 : Int32) (x3 : Int32) {res : (Nat ⊕ (Int32 × CS))} (hf : f_X3_push σ x1 x2 x3 = some res) : MxI l D cls (ty5 κ) ζ yX3_push cX3_push 5 (some .int) 10 5 30 ([.ref (A 0), .int x1, .int x2, .int x3] : List Value) L F (fun r L' F' => L = L' ∧ ∃ z, res = .inr z ∧ z.1 = r ∧ CI κ A z.2 L F' ∧ FrA A F F') (fun E => ∃ k, res = .inl k ∧ E = xName k) := by
  refine MxI.of (by decide) (Nat.le_of_ble_eq_true rfl) ?_
  intro p e s m below meth c S hr hlk hxt hK hW hST ls hl
  have hl : lv_has ls 5 [(0, .ref (A 0)), (1, .int x1), (2, .int x2), (3, .int x3)] := hl
  have hFr : FrA A F F := FrA.rf
  unfold f_X3_push at hf
  refine lv_iload_n S.1 S.2.1 dX3_push_0 rfl (lv_at hl 1 rfl) ?_
  obtain ⟨z1, hz, hxl, hxr⟩ := obx_ok hf
  refine xk_cSV (As := [.int x1]) (rest := []) S hK hST hW (c_X3_needTrack hst  x1 hz) mc_X3_needTrack wd_359 wd_360 np_X3_needTrack rfl hl.1 rfl (Nat.le_of_ble_eq_true rfl) dX3_push_1 ⟨by decide, by decide⟩ ⟨by decide, by decide⟩ (fun E ce q9 H4 l5 hE hW h1 h2 h3 => ?_) (fun L2 F3 H4 l5 hp hW => ?_)
  · obtain ⟨k, hk1, hk2⟩ := hE
    exact xk_outI hxt hlk hW ⟨k, hxl k hk1, hk2⟩ h1 h2 h3 (by decide) (by decide)
  obtain ⟨rfl, rfl, z1, hz1⟩ := hp
  have hf := hxr z1 hz1
  refine lv_aload_n S.1 S.2.1 dX3_push_4 rfl (lv_at hl 0 rfl) ?_
  refine lv_iload_n S.1 S.2.1 dX3_push_5 rfl (lv_at hl 1 rfl) ?_
  refine lv_iconst (v := 0) S.1 S.2.1 dX3_push_6 (by decide) ?_
  obtain ⟨z6, hz, hf⟩ := ob hf
  refine pk_cVI (As := [.int x1, .int 0]) (rest := []) S hK hST hW (c_X3_codeAtEnd hI x1 0 hz) mc_X3_codeAtEnd wd_293 wd_295 wd_1676 rfl np_X3_codeAtEnd (hI.mem 0 (by decide)) hI.this rfl rfl hl.1 rfl (Nat.le_of_ble_eq_true rfl) dX3_push_7 ⟨by decide, by decide⟩ ⟨by decide, by decide⟩ (fun r L7 F8 H9 l10 hp hW => ?_)
  obtain ⟨rfl, rfl, rfl⟩ := hp
  refine lv_istore (lv' := [(4, .int z6), (0, .ref (A 0)), (1, .int x1), (2, .int x2), (3, .int x3)]) S.1 S.2.1 dX3_push_10 hl (by decide) rfl (fun ls hl => ?_)
  refine lv_aload_n S.1 S.2.1 dX3_push_12 rfl (lv_at hl 1 rfl) ?_
  refine lv_iload_n S.1 S.2.1 dX3_push_13 rfl (lv_at hl 2 rfl) ?_
  refine lv_iconst (v := 0) S.1 S.2.1 dX3_push_14 (by decide) ?_
  refine lv_iload_n S.1 S.2.1 dX3_push_15 rfl (lv_at hl 3 rfl) ?_
  refine lv_iload_n S.1 S.2.1 dX3_push_16 rfl (lv_at hl 4 rfl) ?_
  obtain ⟨z1, hz, hxl, hxr⟩ := obx_ok hf
  refine xk_cVI (As := [.int x1, .int 0, .int x2, .int x3]) (rest := []) S hK hST hW (c_X3_bringPiece hst hI x1 0 x2 x3 hz) mc_X3_bringPiece wd_355 wd_357 wd_1684 rfl np_X3_bringPiece (hI.mem 0 (by decide)) hI.this rfl rfl hl.1 rfl (Nat.le_of_ble_eq_true rfl) dX3_push_17 ⟨by decide, by decide⟩ ⟨by decide, by decide⟩ (fun E ce q9 H14 l15 hE hW h1 h2 h3 => ?_) (fun r L12 F13 H14 l15 hp hW => ?_)
  · obtain ⟨k, hk1, hk2⟩ := hE
    exact xk_outI hxt hlk hW ⟨k, hxl k hk1, hk2⟩ h1 h2 h3 (by decide) (by decide)
  obtain ⟨rfl, z11, hz1, rfl, hI1, hFr1⟩ := hp
  have hf := hxr z11 hz1
  have hI := hI1
  have hFr := hFr.tr hFr1
  refine lv_if_eq (tgt := 28) S.1 S.2.1 dX3_push_20 (by decide) (fun c16 => ?_) (fun c16 => ?_)
  · have hf := (if_pos c16).symm.trans hf
    refine lv_bipush (v := (-9)) S.1 S.2.1 dX3_push_28 (by decide) ?_
    exact xk_iret S hr hlk hW ⟨rfl, _, (Option.some.inj hf).symm, rfl, hI, hFr⟩ (by decide) (by decide) dX3_push_30
  · have hf := (if_neg c16).symm.trans hf
    refine lv_iload S.1 S.2.1 dX3_push_23 (lv_at hl 0 rfl) ?_
    refine lv_goto (tgt := 30) S.1 S.2.1 dX3_push_25 (by decide) ?_
    exact xk_iret S hr hlk hW ⟨rfl, _, (Option.some.inj hf).symm, rfl, hI, hFr⟩ (by decide) (by decide) dX3_push_30
def f_X3_append (σ : CS) (x1 : Int32) (x2 : Int32) (x3 : Int32) : Option (Nat ⊕ (Int32 × CS)) := obx (f_X3_bringPiece σ x1 1 x2 x3) fun z1 => (if z1.1 = 0 then some (.inr ((-9), z1.2)) else (f_X3_trackOf z1.2 x1).bind fun z7 => (f_X0_size (cap z7) (z1.2.1 z7)).bind fun z12 => some (.inr (z12, z1.2)))
theorem mc_X3_append : MCode yX3_append cX3_append 4 (some .int) := ⟨wd_484, wd_1, by decide, by decide⟩
theorem np_X3_append : (parseMethodDescriptor yX3_append.desc).map (fun d => d.parameters.length) = some 3 := by decide +kernel
set_option maxHeartbeats 4000000 in
set_option maxRecDepth 100000 in
theorem c_X3_append {l : Launch} {D : va_G} {κ : Nat → ClassId} {ζ : Nat → Nat} {L : List Nat} {F : Nat → va_E} {σ : CS} {A : Nat → Nat} (hst : l.stackTraces = false) (hI : CI κ A σ L F) (x1 : Int32) (x2 : Int32) (x3 : Int32) {res : (Nat ⊕ (Int32 × CS))} (hf : f_X3_append σ x1 x2 x3 = some res) : MxI l D cls (ty5 κ) ζ yX3_append cX3_append 4 (some .int) 10 4 24 ([.ref (A 0), .int x1, .int x2, .int x3] : List Value) L F (fun r L' F' => L = L' ∧ ∃ z, res = .inr z ∧ z.1 = r ∧ CI κ A z.2 L F' ∧ FrA A F F') (fun E => ∃ k, res = .inl k ∧ E = xName k) := by
  refine MxI.of (by decide) (Nat.le_of_ble_eq_true rfl) ?_
  intro p e s m below meth c S hr hlk hxt hK hW hST ls hl
  have hl : lv_has ls 4 [(0, .ref (A 0)), (1, .int x1), (2, .int x2), (3, .int x3)] := hl
  have hFr : FrA A F F := FrA.rf
  unfold f_X3_append at hf
  refine lv_aload_n S.1 S.2.1 dX3_append_0 rfl (lv_at hl 0 rfl) ?_
  refine lv_iload_n S.1 S.2.1 dX3_append_1 rfl (lv_at hl 1 rfl) ?_
  refine lv_iconst (v := 1) S.1 S.2.1 dX3_append_2 (by decide) ?_
  refine lv_iload_n S.1 S.2.1 dX3_append_3 rfl (lv_at hl 2 rfl) ?_
  refine lv_iload_n S.1 S.2.1 dX3_append_4 rfl (lv_at hl 3 rfl) ?_
  obtain ⟨z1, hz, hxl, hxr⟩ := obx_ok hf
  refine xk_cVI (As := [.int x1, .int 1, .int x2, .int x3]) (rest := []) S hK hST hW (c_X3_bringPiece hst hI x1 1 x2 x3 hz) mc_X3_bringPiece wd_355 wd_357 wd_1684 rfl np_X3_bringPiece (hI.mem 0 (by decide)) hI.this rfl rfl hl.1 rfl (Nat.le_of_ble_eq_true rfl) dX3_append_5 ⟨by decide, by decide⟩ ⟨by decide, by decide⟩ (fun E ce q9 H4 l5 hE hW h1 h2 h3 => ?_) (fun r L2 F3 H4 l5 hp hW => ?_)
  · obtain ⟨k, hk1, hk2⟩ := hE
    exact xk_outI hxt hlk hW ⟨k, hxl k hk1, hk2⟩ h1 h2 h3 (by decide) (by decide)
  obtain ⟨rfl, z1, hz1, rfl, hI1, hFr1⟩ := hp
  have hf := hxr z1 hz1
  have hI := hI1
  have hFr := hFr.tr hFr1
  refine lv_if_eq (tgt := 22) S.1 S.2.1 dX3_append_8 (by decide) (fun c6 => ?_) (fun c6 => ?_)
  · have hf := (if_pos c6).symm.trans hf
    refine lv_bipush (v := (-9)) S.1 S.2.1 dX3_append_22 (by decide) ?_
    exact xk_iret S hr hlk hW ⟨rfl, _, (Option.some.inj hf).symm, rfl, hI, hFr⟩ (by decide) (by decide) dX3_append_24
  · have hf := (if_neg c6).symm.trans hf
    refine lv_aload_n S.1 S.2.1 dX3_append_11 rfl (lv_at hl 0 rfl) ?_
    refine lv_iload_n S.1 S.2.1 dX3_append_12 rfl (lv_at hl 1 rfl) ?_
    obtain ⟨z7, hz, hf⟩ := ob hf
    refine pk_cVR (As := [.int x1]) (rest := []) S hK hST hW (c_X3_trackOf hI x1 hz) mc_X3_trackOf wd_130 wd_132 wd_1664 rfl np_X3_trackOf (hI.mem 0 (by decide)) hI.this rfl rfl hl.1 rfl (Nat.le_of_ble_eq_true rfl) dX3_append_13 ⟨by decide, by decide⟩ ⟨by decide, by decide⟩ (fun r L8 F9 H10 l11 hp hW => ?_)
    obtain ⟨rfl, rfl, hbz7, rfl⟩ := hp
    obtain ⟨z12, hz, hf⟩ := ob hf
    refine pk_cVI (As := []) (rest := []) S hK hST hW (c_X0_size (hI.row hbz7)  hz) mc_X0_size wd_140 wd_141 wd_142 rfl np_X0_size (hI.mem _ (by have := hbz7; omega)) (hI.rowH hbz7) rfl rfl hl.1 rfl (Nat.le_of_ble_eq_true rfl) dX3_append_16 ⟨by decide, by decide⟩ ⟨by decide, by decide⟩ (fun r L13 F14 H15 l16 hp hW => ?_)
    obtain ⟨rfl, rfl, rfl⟩ := hp
    refine lv_goto (tgt := 24) S.1 S.2.1 dX3_append_19 (by decide) ?_
    exact xk_iret S hr hlk hW ⟨rfl, _, (Option.some.inj hf).symm, rfl, hI, hFr⟩ (by decide) (by decide) dX3_append_24
def f_X3_train_36   (k36 : CS × Int32 × Int32 × Int32 × Int32 × Int32 → Option (Nat ⊕ (Int32 × CS))) (t : CS × Int32 × Int32 × Int32 × Int32 × Int32) : Option (Nat ⊕ (Int32 × CS)) := (if t.2.2.2.2.1 ≤ t.2.2.2.2.2 then (f_X3_trackOf t.1 t.2.1).bind fun z2 => (f_X0_size (cap z2) (t.1.1 z2)).bind fun z7 => some (.inr (z7, t.1)) else (f_X3_codeOf (1 + (jrem ((t.2.2.1 - 1) + t.2.2.2.2.2) 9)) (jrem (t.2.2.2.1 + (7 * t.2.2.2.2.2)) 100)).bind fun z12 => (f_X3_stepOn t.1 t.2.1 1 z12).bind fun z17 => nm (t.2.2.2.2.2 + 1 : Int32) fun y22 => k36 (z17, t.2.1, t.2.2.1, t.2.2.2.1, t.2.2.2.2.1, y22))
def f_X3_train (σ : CS) (x1 : Int32) (x2 : Int32) (x3 : Int32) (x4 : Int32) : Option (Nat ⊕ (Int32 × CS)) := obx (f_X3_needTrack x1) fun z23 => obx (f_X3_needWithin x2 1 9) fun z28 => obx (f_X3_needWithin x3 0 99) fun z33 => obx (f_X3_needWithin x4 1 12) fun z38 => obx (f_X3_needRoom σ x1 x4) fun z43 => lpn (f_X3_train_36 ) 64 (σ, x1, x2, x3, x4, 0)
theorem mc_X3_train : MCode yX3_train cX3_train 6 (some .int) := ⟨wd_490, wd_1, by decide, by decide⟩
theorem np_X3_train : (parseMethodDescriptor yX3_train.desc).map (fun d => d.parameters.length) = some 4 := by decide +kernel
set_option maxHeartbeats 4000000 in
set_option maxRecDepth 100000 in
theorem c_X3_train {l : Launch} {D : va_G} {κ : Nat → ClassId} {ζ : Nat → Nat} {L : List Nat} {F : Nat → va_E} {σ : CS} {A : Nat → Nat} (hst : l.stackTraces = false) (hI : CI κ A σ L F) (x1 : Int32) (x2 : Int32) (x3 : Int32) (x4 : Int32) {res : (Nat ⊕ (Int32 × CS))} (hf : f_X3_train σ x1 x2 x3 x4 = some res) : MxI l D cls (ty5 κ) ζ yX3_train cX3_train 6 (some .int) 8 5 30 ([.ref (A 0), .int x1, .int x2, .int x3, .int x4] : List Value) L F (fun r L' F' => L = L' ∧ ∃ z, res = .inr z ∧ z.1 = r ∧ CI κ A z.2 L F' ∧ FrA A F F') (fun E => ∃ k, res = .inl k ∧ E = xName k) := by
  refine MxI.of (by decide) (Nat.le_of_ble_eq_true rfl) ?_
  intro p e s m below meth c S hr hlk hxt hK hW hST ls hl
  have hl : lv_has ls 6 [(0, .ref (A 0)), (1, .int x1), (2, .int x2), (3, .int x3), (4, .int x4)] := hl
  have hFr : FrA A F F := FrA.rf
  have B36 : ∀ (N : Nat), (∀ (w36 : CS) (v1 : Int32) (v2 : Int32) (v3 : Int32) (v4 : Int32) (v5 : Int32), (lpn (f_X3_train_36 ) N) (w36, v1, v2, v3, v4, v5) = some res → ∀ (G36 : Nat → va_E), CI κ A w36 L G36 → FrA A F G36 → ∀ (H36 : Heap) (l36 : List Loc) (ls : Array Slot), HW D cls L s H36 l36 L G36 → lv_has ls 6 [(0, .ref (A 0)), (1, .int v1), (2, .int v2), (3, .int v3), (4, .int v4), (5, .int v5)] → W p l e (Rm 8 5 30) s m ([.ref (A 0), .int x1, .int x2, .int x3, .int x4] : List Value).toArray below meth c H36 l36 5 30 (ExI D cls s below ([.ref (A 0), .int x1, .int x2, .int x3, .int x4] : List Value).toArray 5 30 L F (fun r L' F' => L = L' ∧ ∃ z, res = .inr z ∧ z.1 = r ∧ CI κ A z.2 L F' ∧ FrA A F F') (fun E => ∃ k, res = .inl k ∧ E = xName k)) (F0 m 36 ls [])) := by
    intro  N
    induction N with
    | zero => intro w36 v1 v2 v3 v4 v5 hf G36 hI hFr H36 l36 ls hW hl; cases hf
    | succ N ih =>
      intro w36 v1 v2 v3 v4 v5 hf G36 hI hFr H36 l36 ls hW hl
      have hf : f_X3_train_36 (lpn (f_X3_train_36 ) N) (w36, v1, v2, v3, v4, v5) = some res := hf
      generalize lpn (f_X3_train_36 ) N = k36 at hf ih
      have hk36 := ih
      unfold f_X3_train_36 at hf
      try dsimp only at hf
      refine lv_iload S.1 S.2.1 dX3_train_36 (lv_at hl 5 rfl) ?_
      refine lv_iload S.1 S.2.1 dX3_train_38 (lv_at hl 4 rfl) ?_
      refine lv_icmp_ge (tgt := 79) S.1 S.2.1 dX3_train_40 (by decide) (fun c1 => ?_) (fun c1 => ?_)
      · have hf := (if_pos c1).symm.trans hf
        refine lv_aload_n S.1 S.2.1 dX3_train_79 rfl (lv_at hl 0 rfl) ?_
        refine lv_iload_n S.1 S.2.1 dX3_train_80 rfl (lv_at hl 1 rfl) ?_
        obtain ⟨z2, hz, hf⟩ := ob hf
        refine pk_cVR (As := [.int v1]) (rest := []) S hK hST hW (c_X3_trackOf hI v1 hz) mc_X3_trackOf wd_130 wd_132 wd_1664 rfl np_X3_trackOf (hI.mem 0 (by decide)) hI.this rfl rfl hl.1 rfl (Nat.le_of_ble_eq_true rfl) dX3_train_81 ⟨by decide, by decide⟩ ⟨by decide, by decide⟩ (fun r L3 F4 H5 l6 hp hW => ?_)
        obtain ⟨rfl, rfl, hbz2, rfl⟩ := hp
        obtain ⟨z7, hz, hf⟩ := ob hf
        refine pk_cVI (As := []) (rest := []) S hK hST hW (c_X0_size (hI.row hbz2)  hz) mc_X0_size wd_140 wd_141 wd_142 rfl np_X0_size (hI.mem _ (by have := hbz2; omega)) (hI.rowH hbz2) rfl rfl hl.1 rfl (Nat.le_of_ble_eq_true rfl) dX3_train_84 ⟨by decide, by decide⟩ ⟨by decide, by decide⟩ (fun r L8 F9 H10 l11 hp hW => ?_)
        obtain ⟨rfl, rfl, rfl⟩ := hp
        exact xk_iret S hr hlk hW ⟨rfl, _, (Option.some.inj hf).symm, rfl, hI, hFr⟩ (by decide) (by decide) dX3_train_87
      · have hf := (if_neg c1).symm.trans hf
        refine lv_aload_n S.1 S.2.1 dX3_train_43 rfl (lv_at hl 0 rfl) ?_
        refine lv_iload_n S.1 S.2.1 dX3_train_44 rfl (lv_at hl 1 rfl) ?_
        refine lv_iconst (v := 1) S.1 S.2.1 dX3_train_45 (by decide) ?_
        refine lv_iconst (v := 1) S.1 S.2.1 dX3_train_46 (by decide) ?_
        refine lv_iload_n S.1 S.2.1 dX3_train_47 rfl (lv_at hl 2 rfl) ?_
        refine lv_iconst (v := 1) S.1 S.2.1 dX3_train_48 (by decide) ?_
        refine lv_isub S.1 S.2.1 dX3_train_49 ?_
        refine lv_iload S.1 S.2.1 dX3_train_50 (lv_at hl 5 rfl) ?_
        refine lv_iadd S.1 S.2.1 dX3_train_52 ?_
        refine lv_bipush (v := 9) S.1 S.2.1 dX3_train_53 (by decide) ?_
        refine pk_irem S dX3_train_55 (by decide) ?_
        refine lv_iadd S.1 S.2.1 dX3_train_56 ?_
        refine lv_iload_n S.1 S.2.1 dX3_train_57 rfl (lv_at hl 3 rfl) ?_
        refine lv_bipush (v := 7) S.1 S.2.1 dX3_train_58 (by decide) ?_
        refine lv_iload S.1 S.2.1 dX3_train_60 (lv_at hl 5 rfl) ?_
        refine lv_imul S.1 S.2.1 dX3_train_62 ?_
        refine lv_iadd S.1 S.2.1 dX3_train_63 ?_
        refine lv_bipush (v := 100) S.1 S.2.1 dX3_train_64 (by decide) ?_
        refine pk_irem S dX3_train_66 (by decide) ?_
        obtain ⟨z12, hz, hf⟩ := ob hf
        refine pk_cSI (As := [.int (1 + (jrem ((v2 - 1) + v5) 9)), .int (jrem (v3 + (7 * v5)) 100)]) (rest := [.int 1, .int v1, .ref (A 0)]) S hK hST hW (c_X3_codeOf  (1 + (jrem ((v2 - 1) + v5) 9)) (jrem (v3 + (7 * v5)) 100) hz) mc_X3_codeOf wd_453 wd_454 np_X3_codeOf rfl hl.1 rfl (Nat.le_of_ble_eq_true rfl) dX3_train_67 ⟨by decide, by decide⟩ ⟨by decide, by decide⟩ (fun r L13 F14 H15 l16 hp hW => ?_)
        obtain ⟨rfl, rfl, rfl⟩ := hp
        obtain ⟨z17, hz, hf⟩ := ob hf
        refine pk_cVV (As := [.int v1, .int 1, .int z12]) (rest := []) S hK hST hW (c_X3_stepOn hI v1 1 z12 hz) mc_X3_stepOn wd_456 wd_458 wd_1687 rfl np_X3_stepOn (hI.mem 0 (by decide)) hI.this rfl rfl hl.1 rfl (Nat.le_of_ble_eq_true rfl) dX3_train_70 ⟨by decide, by decide⟩ ⟨by decide, by decide⟩ (fun L18 F19 H20 l21 hp hW => ?_)
        obtain ⟨rfl, hI1, hFr1⟩ := hp
        have hI := hI1
        have hFr := hFr.tr hFr1
        obtain ⟨y22, ey22⟩ : ∃ y : Int32, y = v5 + 1 := ⟨_, rfl⟩
        have hf := nm_at hf ey22
        refine lv_iinc (v := y22) (lv' := [(5, .int y22), (0, .ref (A 0)), (1, .int v1), (2, .int v2), (3, .int v3), (4, .int v4)]) S.1 S.2.1 dX3_train_73 hl (k := 5) rfl (by rw [ey22]; rfl) (by decide) rfl (fun ls hl => ?_)
        refine lv_goto (tgt := 36) S.1 S.2.1 dX3_train_76 (by decide) ?_
        exact hk36 z17 v1 v2 v3 v4 y22 hf F19 hI hFr _ _ _ hW (lv_sub hl [1, 2, 3, 4, 5, 0] rfl)
  unfold f_X3_train at hf
  refine lv_iload_n S.1 S.2.1 dX3_train_0 rfl (lv_at hl 1 rfl) ?_
  obtain ⟨z1, hz, hxl, hxr⟩ := obx_ok hf
  refine xk_cSV (As := [.int x1]) (rest := []) S hK hST hW (c_X3_needTrack hst  x1 hz) mc_X3_needTrack wd_359 wd_360 np_X3_needTrack rfl hl.1 rfl (Nat.le_of_ble_eq_true rfl) dX3_train_1 ⟨by decide, by decide⟩ ⟨by decide, by decide⟩ (fun E ce q9 H26 l27 hE hW h1 h2 h3 => ?_) (fun L24 F25 H26 l27 hp hW => ?_)
  · obtain ⟨k, hk1, hk2⟩ := hE
    exact xk_outI hxt hlk hW ⟨k, hxl k hk1, hk2⟩ h1 h2 h3 (by decide) (by decide)
  obtain ⟨rfl, rfl, z23, hz1⟩ := hp
  have hf := hxr z23 hz1
  refine lv_iload_n S.1 S.2.1 dX3_train_4 rfl (lv_at hl 2 rfl) ?_
  refine lv_iconst (v := 1) S.1 S.2.1 dX3_train_5 (by decide) ?_
  refine lv_bipush (v := 9) S.1 S.2.1 dX3_train_6 (by decide) ?_
  obtain ⟨z1, hz, hxl, hxr⟩ := obx_ok hf
  refine xk_cSV (As := [.int x2, .int 1, .int 9]) (rest := []) S hK hST hW (c_X3_needWithin hst  x2 1 9 hz) mc_X3_needWithin wd_416 wd_417 np_X3_needWithin rfl hl.1 rfl (Nat.le_of_ble_eq_true rfl) dX3_train_8 ⟨by decide, by decide⟩ ⟨by decide, by decide⟩ (fun E ce q9 H31 l32 hE hW h1 h2 h3 => ?_) (fun L29 F30 H31 l32 hp hW => ?_)
  · obtain ⟨k, hk1, hk2⟩ := hE
    exact xk_outI hxt hlk hW ⟨k, hxl k hk1, hk2⟩ h1 h2 h3 (by decide) (by decide)
  obtain ⟨rfl, rfl, z28, hz1⟩ := hp
  have hf := hxr z28 hz1
  refine lv_iload_n S.1 S.2.1 dX3_train_11 rfl (lv_at hl 3 rfl) ?_
  refine lv_iconst (v := 0) S.1 S.2.1 dX3_train_12 (by decide) ?_
  refine lv_bipush (v := 99) S.1 S.2.1 dX3_train_13 (by decide) ?_
  obtain ⟨z1, hz, hxl, hxr⟩ := obx_ok hf
  refine xk_cSV (As := [.int x3, .int 0, .int 99]) (rest := []) S hK hST hW (c_X3_needWithin hst  x3 0 99 hz) mc_X3_needWithin wd_416 wd_417 np_X3_needWithin rfl hl.1 rfl (Nat.le_of_ble_eq_true rfl) dX3_train_15 ⟨by decide, by decide⟩ ⟨by decide, by decide⟩ (fun E ce q9 H36 l37 hE hW h1 h2 h3 => ?_) (fun L34 F35 H36 l37 hp hW => ?_)
  · obtain ⟨k, hk1, hk2⟩ := hE
    exact xk_outI hxt hlk hW ⟨k, hxl k hk1, hk2⟩ h1 h2 h3 (by decide) (by decide)
  obtain ⟨rfl, rfl, z33, hz1⟩ := hp
  have hf := hxr z33 hz1
  refine lv_iload S.1 S.2.1 dX3_train_18 (lv_at hl 4 rfl) ?_
  refine lv_iconst (v := 1) S.1 S.2.1 dX3_train_20 (by decide) ?_
  refine lv_bipush (v := 12) S.1 S.2.1 dX3_train_21 (by decide) ?_
  obtain ⟨z1, hz, hxl, hxr⟩ := obx_ok hf
  refine xk_cSV (As := [.int x4, .int 1, .int 12]) (rest := []) S hK hST hW (c_X3_needWithin hst  x4 1 12 hz) mc_X3_needWithin wd_416 wd_417 np_X3_needWithin rfl hl.1 rfl (Nat.le_of_ble_eq_true rfl) dX3_train_23 ⟨by decide, by decide⟩ ⟨by decide, by decide⟩ (fun E ce q9 H41 l42 hE hW h1 h2 h3 => ?_) (fun L39 F40 H41 l42 hp hW => ?_)
  · obtain ⟨k, hk1, hk2⟩ := hE
    exact xk_outI hxt hlk hW ⟨k, hxl k hk1, hk2⟩ h1 h2 h3 (by decide) (by decide)
  obtain ⟨rfl, rfl, z38, hz1⟩ := hp
  have hf := hxr z38 hz1
  refine lv_aload_n S.1 S.2.1 dX3_train_26 rfl (lv_at hl 0 rfl) ?_
  refine lv_iload_n S.1 S.2.1 dX3_train_27 rfl (lv_at hl 1 rfl) ?_
  refine lv_iload S.1 S.2.1 dX3_train_28 (lv_at hl 4 rfl) ?_
  obtain ⟨z1, hz, hxl, hxr⟩ := obx_ok hf
  refine xk_cVV (As := [.int x1, .int x4]) (rest := []) S hK hST hW (c_X3_needRoom hst hI x1 x4 hz) mc_X3_needRoom wd_434 wd_436 wd_1686 rfl np_X3_needRoom (hI.mem 0 (by decide)) hI.this rfl rfl hl.1 rfl (Nat.le_of_ble_eq_true rfl) dX3_train_30 ⟨by decide, by decide⟩ ⟨by decide, by decide⟩ (fun E ce q9 H46 l47 hE hW h1 h2 h3 => ?_) (fun L44 F45 H46 l47 hp hW => ?_)
  · obtain ⟨k, hk1, hk2⟩ := hE
    exact xk_outI hxt hlk hW ⟨k, hxl k hk1, hk2⟩ h1 h2 h3 (by decide) (by decide)
  obtain ⟨rfl, rfl, z43, hz1⟩ := hp
  have hf := hxr z43 hz1
  refine lv_iconst (v := 0) S.1 S.2.1 dX3_train_33 (by decide) ?_
  refine lv_istore (lv' := [(5, .int 0), (0, .ref (A 0)), (1, .int x1), (2, .int x2), (3, .int x3), (4, .int x4)]) S.1 S.2.1 dX3_train_34 hl (by decide) rfl (fun ls hl => ?_)
  exact B36  64 σ x1 x2 x3 x4 0 hf F hI hFr _ _ _ hW (lv_sub hl [1, 2, 3, 4, 5, 0] rfl)
def f_X3_stepOff (σ : CS) (x1 : Int32) (x2 : Int32) : Option (Int32 × CS) := (f_X3_trackOf σ x1).bind fun z1 => (f_X0_endPlace (cap z1) (σ.1 z1) x2).bind fun z6 => (f_X0_leave (cap z1) (σ.1 z1) z6).bind fun z11 => nm ((va_up σ.1 z1 z11.2, σ.2) : CS) fun t16 => (f_X3_slipOf x1 x2 0 z11.1).bind fun z17 => (f_X3_laySlip t16 z17).bind fun z22 => (f_X3_disturb z22 x1).bind fun z27 => some (z11.1, z27)
theorem mc_X3_stepOff : MCode yX3_stepOff cX3_stepOff 5 (some .int) := ⟨wd_504, wd_1, by decide, by decide⟩
theorem np_X3_stepOff : (parseMethodDescriptor yX3_stepOff.desc).map (fun d => d.parameters.length) = some 2 := by decide +kernel
set_option maxHeartbeats 4000000 in
set_option maxRecDepth 100000 in
theorem c_X3_stepOff {l : Launch} {D : va_G} {κ : Nat → ClassId} {ζ : Nat → Nat} {L : List Nat} {F : Nat → va_E} {σ : CS} {A : Nat → Nat} (hI : CI κ A σ L F) (x1 : Int32) (x2 : Int32) {res : (Int32 × CS)} (hf : f_X3_stepOff σ x1 x2 = some res) : MtI l D cls (ty5 κ) ζ yX3_stepOff cX3_stepOff 5 (some .int) 5 0 0 ([.ref (A 0), .int x1, .int x2] : List Value) L F (fun r L' F' => L = L' ∧ res.1 = r ∧ CI κ A res.2 L F' ∧ FrA A F F') := by
  refine MtI.of (by decide) (Nat.le_of_ble_eq_true rfl) ?_
  intro p e s m below meth c S hr hlk _ hK hW hST ls hl
  have hl : lv_has ls 5 [(0, .ref (A 0)), (1, .int x1), (2, .int x2)] := hl
  have hFr : FrA A F F := FrA.rf
  unfold f_X3_stepOff at hf
  refine lv_aload_n S.1 S.2.1 dX3_stepOff_0 rfl (lv_at hl 0 rfl) ?_
  refine lv_iload_n S.1 S.2.1 dX3_stepOff_1 rfl (lv_at hl 1 rfl) ?_
  obtain ⟨z1, hz, hf⟩ := ob hf
  refine pk_cVR (As := [.int x1]) (rest := []) S hK hST hW (c_X3_trackOf hI x1 hz) mc_X3_trackOf wd_130 wd_132 wd_1664 rfl np_X3_trackOf (hI.mem 0 (by decide)) hI.this rfl rfl hl.1 rfl (Nat.le_of_ble_eq_true rfl) dX3_stepOff_2 ⟨by decide, by decide⟩ ⟨by decide, by decide⟩ (fun r L2 F3 H4 l5 hp hW => ?_)
  obtain ⟨rfl, rfl, hbz1, rfl⟩ := hp
  refine lv_astore_n (lv' := [(3, .ref (A (1 + 2 * z1))), (0, .ref (A 0)), (1, .int x1), (2, .int x2)]) S.1 S.2.1 dX3_stepOff_5 rfl hl (by decide) rfl (fun ls hl => ?_)
  refine lv_aload_n S.1 S.2.1 dX3_stepOff_6 rfl (lv_at hl 0 rfl) ?_
  refine lv_aload_n S.1 S.2.1 dX3_stepOff_7 rfl (lv_at hl 0 rfl) ?_
  refine lv_iload_n S.1 S.2.1 dX3_stepOff_8 rfl (lv_at hl 3 rfl) ?_
  obtain ⟨z6, hz, hf⟩ := ob hf
  refine pk_cVI (As := [.int x2]) (rest := [.ref (A (1 + 2 * z1))]) S hK hST hW (c_X0_endPlace (hI.row hbz1) x2 hz) mc_X0_endPlace wd_111 wd_112 wd_113 rfl np_X0_endPlace (hI.mem _ (by have := hbz1; omega)) (hI.rowH hbz1) rfl rfl hl.1 rfl (Nat.le_of_ble_eq_true rfl) dX3_stepOff_9 ⟨by decide, by decide⟩ ⟨by decide, by decide⟩ (fun r L7 F8 H9 l10 hp hW => ?_)
  obtain ⟨rfl, rfl, rfl⟩ := hp
  obtain ⟨z11, hz, hf⟩ := ob hf
  refine pk_cVI (As := [.int z6]) (rest := []) S hK hST hW (c_X0_leave (hI.row hbz1) z6 hz) mc_X0_leave wd_115 wd_116 wd_117 rfl np_X0_leave (hI.mem _ (by have := hbz1; omega)) (hI.rowH hbz1) rfl rfl hl.1 rfl (Nat.le_of_ble_eq_true rfl) dX3_stepOff_12 ⟨by decide, by decide⟩ ⟨by decide, by decide⟩ (fun r L12 F13 H14 l15 hp hW => ?_)
  obtain ⟨rfl, rfl, hI1, hFr1⟩ := hp
  have hFr := hFr.tr (FrA.row hbz1 hFr1)
  have hI := hI.setRow hbz1 hI1 hFr1
  obtain ⟨t16, et16, hf⟩ := nm_ok hf
  have hI := eqm (P := fun w => CI κ A w L F13) hI et16.symm
  refine lv_istore (lv' := [(4, .int z11.1), (3, .ref (A (1 + 2 * z1))), (0, .ref (A 0)), (1, .int x1), (2, .int x2)]) S.1 S.2.1 dX3_stepOff_15 hl (by decide) rfl (fun ls hl => ?_)
  refine lv_aload_n S.1 S.2.1 dX3_stepOff_17 rfl (lv_at hl 2 rfl) ?_
  refine lv_iload_n S.1 S.2.1 dX3_stepOff_18 rfl (lv_at hl 3 rfl) ?_
  refine lv_iload_n S.1 S.2.1 dX3_stepOff_19 rfl (lv_at hl 4 rfl) ?_
  refine lv_iconst (v := 0) S.1 S.2.1 dX3_stepOff_20 (by decide) ?_
  refine lv_iload S.1 S.2.1 dX3_stepOff_21 (lv_at hl 0 rfl) ?_
  obtain ⟨z17, hz, hf⟩ := ob hf
  refine pk_cSI (As := [.int x1, .int x2, .int 0, .int z11.1]) (rest := [.ref (A 0)]) S hK hST hW (c_X3_slipOf  x1 x2 0 z11.1 hz) mc_X3_slipOf wd_460 wd_461 np_X3_slipOf rfl hl.1 rfl (Nat.le_of_ble_eq_true rfl) dX3_stepOff_23 ⟨by decide, by decide⟩ ⟨by decide, by decide⟩ (fun r L18 F19 H20 l21 hp hW => ?_)
  obtain ⟨rfl, rfl, rfl⟩ := hp
  obtain ⟨z22, hz, hf⟩ := ob hf
  refine pk_cVV (As := [.int z17]) (rest := []) S hK hST hW (c_X3_laySlip hI z17 hz) mc_X3_laySlip wd_463 wd_465 wd_1688 rfl np_X3_laySlip (hI.mem 0 (by decide)) hI.this rfl rfl hl.1 rfl (Nat.le_of_ble_eq_true rfl) dX3_stepOff_26 ⟨by decide, by decide⟩ ⟨by decide, by decide⟩ (fun L23 F24 H25 l26 hp hW => ?_)
  obtain ⟨rfl, hI1, hFr1⟩ := hp
  have hI := hI1
  have hFr := hFr.tr hFr1
  refine lv_aload_n S.1 S.2.1 dX3_stepOff_29 rfl (lv_at hl 2 rfl) ?_
  refine lv_iload_n S.1 S.2.1 dX3_stepOff_30 rfl (lv_at hl 3 rfl) ?_
  obtain ⟨z27, hz, hf⟩ := ob hf
  refine pk_cVV (As := [.int x1]) (rest := []) S hK hST hW (c_X3_disturb hI x1 hz) mc_X3_disturb wd_155 wd_157 wd_1665 rfl np_X3_disturb (hI.mem 0 (by decide)) hI.this rfl rfl hl.1 rfl (Nat.le_of_ble_eq_true rfl) dX3_stepOff_31 ⟨by decide, by decide⟩ ⟨by decide, by decide⟩ (fun L28 F29 H30 l31 hp hW => ?_)
  obtain ⟨rfl, hI1, hFr1⟩ := hp
  have hI := hI1
  have hFr := hFr.tr hFr1
  refine lv_iload S.1 S.2.1 dX3_stepOff_34 (lv_at hl 0 rfl) ?_
  exact pk_iret S hr hlk hW ⟨rfl, eqm (P := fun z => z.1 = z11.1 ∧ CI κ A z.2 L F29 ∧ FrA A F F29) ⟨rfl, hI, hFr⟩ (Option.some.inj hf)⟩ (by decide) (by decide) dX3_stepOff_36
def f_X3_fetchPiece (σ : CS) (x1 : Int32) (x2 : Int32) (x3 : Int32) : Option (Int32 × CS) := (f_X3_trackOf σ x1).bind fun z1 => (f_X0_isEmpty (cap z1) (σ.1 z1)).bind fun z6 => (if z6 = 0 then (f_X3_stepOff σ x1 x2).bind fun z12 => some (z12.1, z12.2) else some (x3, σ))
theorem mc_X3_fetchPiece : MCode yX3_fetchPiece cX3_fetchPiece 4 (some .int) := ⟨wd_500, wd_1, by decide, by decide⟩
theorem np_X3_fetchPiece : (parseMethodDescriptor yX3_fetchPiece.desc).map (fun d => d.parameters.length) = some 3 := by decide +kernel
set_option maxHeartbeats 4000000 in
set_option maxRecDepth 100000 in
theorem c_X3_fetchPiece {l : Launch} {D : va_G} {κ : Nat → ClassId} {ζ : Nat → Nat} {L : List Nat} {F : Nat → va_E} {σ : CS} {A : Nat → Nat} (hI : CI κ A σ L F) (x1 : Int32) (x2 : Int32) (x3 : Int32) {res : (Int32 × CS)} (hf : f_X3_fetchPiece σ x1 x2 x3 = some res) : MtI l D cls (ty5 κ) ζ yX3_fetchPiece cX3_fetchPiece 4 (some .int) 6 0 0 ([.ref (A 0), .int x1, .int x2, .int x3] : List Value) L F (fun r L' F' => L = L' ∧ res.1 = r ∧ CI κ A res.2 L F' ∧ FrA A F F') := by
  refine MtI.of (by decide) (Nat.le_of_ble_eq_true rfl) ?_
  intro p e s m below meth c S hr hlk _ hK hW hST ls hl
  have hl : lv_has ls 4 [(0, .ref (A 0)), (1, .int x1), (2, .int x2), (3, .int x3)] := hl
  have hFr : FrA A F F := FrA.rf
  unfold f_X3_fetchPiece at hf
  refine lv_aload_n S.1 S.2.1 dX3_fetchPiece_0 rfl (lv_at hl 0 rfl) ?_
  refine lv_iload_n S.1 S.2.1 dX3_fetchPiece_1 rfl (lv_at hl 1 rfl) ?_
  obtain ⟨z1, hz, hf⟩ := ob hf
  refine pk_cVR (As := [.int x1]) (rest := []) S hK hST hW (c_X3_trackOf hI x1 hz) mc_X3_trackOf wd_130 wd_132 wd_1664 rfl np_X3_trackOf (hI.mem 0 (by decide)) hI.this rfl rfl hl.1 rfl (Nat.le_of_ble_eq_true rfl) dX3_fetchPiece_2 ⟨by decide, by decide⟩ ⟨by decide, by decide⟩ (fun r L2 F3 H4 l5 hp hW => ?_)
  obtain ⟨rfl, rfl, hbz1, rfl⟩ := hp
  obtain ⟨z6, hz, hf⟩ := ob hf
  refine pk_cVI (As := []) (rest := []) S hK hST hW (c_X0_isEmpty (hI.row hbz1)  hz) mc_X0_isEmpty wd_107 wd_108 wd_109 rfl np_X0_isEmpty (hI.mem _ (by have := hbz1; omega)) (hI.rowH hbz1) rfl rfl hl.1 rfl (Nat.le_of_ble_eq_true rfl) dX3_fetchPiece_5 ⟨by decide, by decide⟩ ⟨by decide, by decide⟩ (fun r L7 F8 H9 l10 hp hW => ?_)
  obtain ⟨rfl, rfl, rfl⟩ := hp
  refine lv_if_eq (tgt := 15) S.1 S.2.1 dX3_fetchPiece_8 (by decide) (fun c11 => ?_) (fun c11 => ?_)
  · have hf := (if_pos c11).symm.trans hf
    refine lv_aload_n S.1 S.2.1 dX3_fetchPiece_15 rfl (lv_at hl 0 rfl) ?_
    refine lv_iload_n S.1 S.2.1 dX3_fetchPiece_16 rfl (lv_at hl 1 rfl) ?_
    refine lv_iload_n S.1 S.2.1 dX3_fetchPiece_17 rfl (lv_at hl 2 rfl) ?_
    obtain ⟨z12, hz, hf⟩ := ob hf
    refine pk_cVI (As := [.int x1, .int x2]) (rest := []) S hK hST hW (c_X3_stepOff hI x1 x2 hz) mc_X3_stepOff wd_501 wd_503 wd_1690 rfl np_X3_stepOff (hI.mem 0 (by decide)) hI.this rfl rfl hl.1 rfl (Nat.le_of_ble_eq_true rfl) dX3_fetchPiece_18 ⟨by decide, by decide⟩ ⟨by decide, by decide⟩ (fun r L13 F14 H15 l16 hp hW => ?_)
    obtain ⟨rfl, rfl, hI1, hFr1⟩ := hp
    have hI := hI1
    have hFr := hFr.tr hFr1
    exact pk_iret S hr hlk hW ⟨rfl, eqm (P := fun z => z.1 = z12.1 ∧ CI κ A z.2 L F14 ∧ FrA A F F14) ⟨rfl, hI, hFr⟩ (Option.some.inj hf)⟩ (by decide) (by decide) dX3_fetchPiece_21
  · have hf := (if_neg c11).symm.trans hf
    refine lv_iload_n S.1 S.2.1 dX3_fetchPiece_11 rfl (lv_at hl 3 rfl) ?_
    refine lv_goto (tgt := 21) S.1 S.2.1 dX3_fetchPiece_12 (by decide) ?_
    exact pk_iret S hr hlk hW ⟨rfl, eqm (P := fun z => z.1 = x3 ∧ CI κ A z.2 L F ∧ FrA A F F) ⟨rfl, hI, hFr⟩ (Option.some.inj hf)⟩ (by decide) (by decide) dX3_fetchPiece_21
def f_X3_take (σ : CS) (x1 : Int32) (x2 : Int32) : Option (Nat ⊕ (Int32 × CS)) := obx (f_X3_needTrack x1) fun z1 => (f_X3_fetchPiece σ x1 x2 ((-9))).bind fun z6 => some (.inr (z6.1, z6.2))
theorem mc_X3_take : MCode yX3_take cX3_take 3 (some .int) := ⟨wd_496, wd_1, by decide, by decide⟩
theorem np_X3_take : (parseMethodDescriptor yX3_take.desc).map (fun d => d.parameters.length) = some 2 := by decide +kernel
set_option maxHeartbeats 4000000 in
set_option maxRecDepth 100000 in
theorem c_X3_take {l : Launch} {D : va_G} {κ : Nat → ClassId} {ζ : Nat → Nat} {L : List Nat} {F : Nat → va_E} {σ : CS} {A : Nat → Nat} (hst : l.stackTraces = false) (hI : CI κ A σ L F) (x1 : Int32) (x2 : Int32) {res : (Nat ⊕ (Int32 × CS))} (hf : f_X3_take σ x1 x2 = some res) : MxI l D cls (ty5 κ) ζ yX3_take cX3_take 3 (some .int) 8 1 6 ([.ref (A 0), .int x1, .int x2] : List Value) L F (fun r L' F' => L = L' ∧ ∃ z, res = .inr z ∧ z.1 = r ∧ CI κ A z.2 L F' ∧ FrA A F F') (fun E => ∃ k, res = .inl k ∧ E = xName k) := by
  refine MxI.of (by decide) (Nat.le_of_ble_eq_true rfl) ?_
  intro p e s m below meth c S hr hlk hxt hK hW hST ls hl
  have hl : lv_has ls 3 [(0, .ref (A 0)), (1, .int x1), (2, .int x2)] := hl
  have hFr : FrA A F F := FrA.rf
  unfold f_X3_take at hf
  refine lv_iload_n S.1 S.2.1 dX3_take_0 rfl (lv_at hl 1 rfl) ?_
  obtain ⟨z1, hz, hxl, hxr⟩ := obx_ok hf
  refine xk_cSV (As := [.int x1]) (rest := []) S hK hST hW (c_X3_needTrack hst  x1 hz) mc_X3_needTrack wd_359 wd_360 np_X3_needTrack rfl hl.1 rfl (Nat.le_of_ble_eq_true rfl) dX3_take_1 ⟨by decide, by decide⟩ ⟨by decide, by decide⟩ (fun E ce q9 H4 l5 hE hW h1 h2 h3 => ?_) (fun L2 F3 H4 l5 hp hW => ?_)
  · obtain ⟨k, hk1, hk2⟩ := hE
    exact xk_outI hxt hlk hW ⟨k, hxl k hk1, hk2⟩ h1 h2 h3 (by decide) (by decide)
  obtain ⟨rfl, rfl, z1, hz1⟩ := hp
  have hf := hxr z1 hz1
  refine lv_aload_n S.1 S.2.1 dX3_take_4 rfl (lv_at hl 0 rfl) ?_
  refine lv_iload_n S.1 S.2.1 dX3_take_5 rfl (lv_at hl 1 rfl) ?_
  refine lv_iload_n S.1 S.2.1 dX3_take_6 rfl (lv_at hl 2 rfl) ?_
  refine lv_bipush (v := (-9)) S.1 S.2.1 dX3_take_7 (by decide) ?_
  obtain ⟨z6, hz, hf⟩ := ob hf
  refine pk_cVI (As := [.int x1, .int x2, .int ((-9))]) (rest := []) S hK hST hW (c_X3_fetchPiece hI x1 x2 ((-9)) hz) mc_X3_fetchPiece wd_497 wd_499 wd_1689 rfl np_X3_fetchPiece (hI.mem 0 (by decide)) hI.this rfl rfl hl.1 rfl (Nat.le_of_ble_eq_true rfl) dX3_take_9 ⟨by decide, by decide⟩ ⟨by decide, by decide⟩ (fun r L7 F8 H9 l10 hp hW => ?_)
  obtain ⟨rfl, rfl, hI1, hFr1⟩ := hp
  have hI := hI1
  have hFr := hFr.tr hFr1
  exact xk_iret S hr hlk hW ⟨rfl, _, (Option.some.inj hf).symm, rfl, hI, hFr⟩ (by decide) (by decide) dX3_take_12
def f_X3_poll (σ : CS) (x1 : Int32) (x2 : Int32) : Option (Nat ⊕ (Int32 × CS)) := obx (f_X3_needTrack x1) fun z1 => (f_X3_fetchPiece σ x1 x2 0).bind fun z6 => some (.inr (z6.1, z6.2))
theorem mc_X3_poll : MCode yX3_poll cX3_poll 3 (some .int) := ⟨wd_510, wd_1, by decide, by decide⟩
theorem np_X3_poll : (parseMethodDescriptor yX3_poll.desc).map (fun d => d.parameters.length) = some 2 := by decide +kernel
set_option maxHeartbeats 4000000 in
set_option maxRecDepth 100000 in
theorem c_X3_poll {l : Launch} {D : va_G} {κ : Nat → ClassId} {ζ : Nat → Nat} {L : List Nat} {F : Nat → va_E} {σ : CS} {A : Nat → Nat} (hst : l.stackTraces = false) (hI : CI κ A σ L F) (x1 : Int32) (x2 : Int32) {res : (Nat ⊕ (Int32 × CS))} (hf : f_X3_poll σ x1 x2 = some res) : MxI l D cls (ty5 κ) ζ yX3_poll cX3_poll 3 (some .int) 8 1 6 ([.ref (A 0), .int x1, .int x2] : List Value) L F (fun r L' F' => L = L' ∧ ∃ z, res = .inr z ∧ z.1 = r ∧ CI κ A z.2 L F' ∧ FrA A F F') (fun E => ∃ k, res = .inl k ∧ E = xName k) := by
  refine MxI.of (by decide) (Nat.le_of_ble_eq_true rfl) ?_
  intro p e s m below meth c S hr hlk hxt hK hW hST ls hl
  have hl : lv_has ls 3 [(0, .ref (A 0)), (1, .int x1), (2, .int x2)] := hl
  have hFr : FrA A F F := FrA.rf
  unfold f_X3_poll at hf
  refine lv_iload_n S.1 S.2.1 dX3_poll_0 rfl (lv_at hl 1 rfl) ?_
  obtain ⟨z1, hz, hxl, hxr⟩ := obx_ok hf
  refine xk_cSV (As := [.int x1]) (rest := []) S hK hST hW (c_X3_needTrack hst  x1 hz) mc_X3_needTrack wd_359 wd_360 np_X3_needTrack rfl hl.1 rfl (Nat.le_of_ble_eq_true rfl) dX3_poll_1 ⟨by decide, by decide⟩ ⟨by decide, by decide⟩ (fun E ce q9 H4 l5 hE hW h1 h2 h3 => ?_) (fun L2 F3 H4 l5 hp hW => ?_)
  · obtain ⟨k, hk1, hk2⟩ := hE
    exact xk_outI hxt hlk hW ⟨k, hxl k hk1, hk2⟩ h1 h2 h3 (by decide) (by decide)
  obtain ⟨rfl, rfl, z1, hz1⟩ := hp
  have hf := hxr z1 hz1
  refine lv_aload_n S.1 S.2.1 dX3_poll_4 rfl (lv_at hl 0 rfl) ?_
  refine lv_iload_n S.1 S.2.1 dX3_poll_5 rfl (lv_at hl 1 rfl) ?_
  refine lv_iload_n S.1 S.2.1 dX3_poll_6 rfl (lv_at hl 2 rfl) ?_
  refine lv_iconst (v := 0) S.1 S.2.1 dX3_poll_7 (by decide) ?_
  obtain ⟨z6, hz, hf⟩ := ob hf
  refine pk_cVI (As := [.int x1, .int x2, .int 0]) (rest := []) S hK hST hW (c_X3_fetchPiece hI x1 x2 0 hz) mc_X3_fetchPiece wd_497 wd_499 wd_1689 rfl np_X3_fetchPiece (hI.mem 0 (by decide)) hI.this rfl rfl hl.1 rfl (Nat.le_of_ble_eq_true rfl) dX3_poll_8 ⟨by decide, by decide⟩ ⟨by decide, by decide⟩ (fun r L7 F8 H9 l10 hp hW => ?_)
  obtain ⟨rfl, rfl, hI1, hFr1⟩ := hp
  have hI := hI1
  have hFr := hFr.tr hFr1
  exact xk_iret S hr hlk hW ⟨rfl, _, (Option.some.inj hf).symm, rfl, hI, hFr⟩ (by decide) (by decide) dX3_poll_11
def f_X3_pop (σ : CS) (x1 : Int32) : Option (Nat ⊕ (Int32 × CS)) := obx (f_X3_needTrack x1) fun z1 => (f_X3_fetchPiece σ x1 0 ((-9))).bind fun z6 => some (.inr (z6.1, z6.2))
theorem mc_X3_pop : MCode yX3_pop cX3_pop 2 (some .int) := ⟨wd_516, wd_1, by decide, by decide⟩
theorem np_X3_pop : (parseMethodDescriptor yX3_pop.desc).map (fun d => d.parameters.length) = some 1 := by decide +kernel
set_option maxHeartbeats 4000000 in
set_option maxRecDepth 100000 in
theorem c_X3_pop {l : Launch} {D : va_G} {κ : Nat → ClassId} {ζ : Nat → Nat} {L : List Nat} {F : Nat → va_E} {σ : CS} {A : Nat → Nat} (hst : l.stackTraces = false) (hI : CI κ A σ L F) (x1 : Int32) {res : (Nat ⊕ (Int32 × CS))} (hf : f_X3_pop σ x1 = some res) : MxI l D cls (ty5 κ) ζ yX3_pop cX3_pop 2 (some .int) 8 1 6 ([.ref (A 0), .int x1] : List Value) L F (fun r L' F' => L = L' ∧ ∃ z, res = .inr z ∧ z.1 = r ∧ CI κ A z.2 L F' ∧ FrA A F F') (fun E => ∃ k, res = .inl k ∧ E = xName k) := by
  refine MxI.of (by decide) (Nat.le_of_ble_eq_true rfl) ?_
  intro p e s m below meth c S hr hlk hxt hK hW hST ls hl
  have hl : lv_has ls 2 [(0, .ref (A 0)), (1, .int x1)] := hl
  have hFr : FrA A F F := FrA.rf
  unfold f_X3_pop at hf
  refine lv_iload_n S.1 S.2.1 dX3_pop_0 rfl (lv_at hl 1 rfl) ?_
  obtain ⟨z1, hz, hxl, hxr⟩ := obx_ok hf
  refine xk_cSV (As := [.int x1]) (rest := []) S hK hST hW (c_X3_needTrack hst  x1 hz) mc_X3_needTrack wd_359 wd_360 np_X3_needTrack rfl hl.1 rfl (Nat.le_of_ble_eq_true rfl) dX3_pop_1 ⟨by decide, by decide⟩ ⟨by decide, by decide⟩ (fun E ce q9 H4 l5 hE hW h1 h2 h3 => ?_) (fun L2 F3 H4 l5 hp hW => ?_)
  · obtain ⟨k, hk1, hk2⟩ := hE
    exact xk_outI hxt hlk hW ⟨k, hxl k hk1, hk2⟩ h1 h2 h3 (by decide) (by decide)
  obtain ⟨rfl, rfl, z1, hz1⟩ := hp
  have hf := hxr z1 hz1
  refine lv_aload_n S.1 S.2.1 dX3_pop_4 rfl (lv_at hl 0 rfl) ?_
  refine lv_iload_n S.1 S.2.1 dX3_pop_5 rfl (lv_at hl 1 rfl) ?_
  refine lv_iconst (v := 0) S.1 S.2.1 dX3_pop_6 (by decide) ?_
  refine lv_bipush (v := (-9)) S.1 S.2.1 dX3_pop_7 (by decide) ?_
  obtain ⟨z6, hz, hf⟩ := ob hf
  refine pk_cVI (As := [.int x1, .int 0, .int ((-9))]) (rest := []) S hK hST hW (c_X3_fetchPiece hI x1 0 ((-9)) hz) mc_X3_fetchPiece wd_497 wd_499 wd_1689 rfl np_X3_fetchPiece (hI.mem 0 (by decide)) hI.this rfl rfl hl.1 rfl (Nat.le_of_ble_eq_true rfl) dX3_pop_9 ⟨by decide, by decide⟩ ⟨by decide, by decide⟩ (fun r L7 F8 H9 l10 hp hW => ?_)
  obtain ⟨rfl, rfl, hI1, hFr1⟩ := hp
  have hI := hI1
  have hFr := hFr.tr hFr1
  exact xk_iret S hr hlk hW ⟨rfl, _, (Option.some.inj hf).symm, rfl, hI, hFr⟩ (by decide) (by decide) dX3_pop_12
def f_X3_serve_17 (σ : CS)  (u1 : Int32) (u2 : Int32) (u3 : Int32) : Option (Nat ⊕ (Int32 × CS)) := (f_X3_fetchPiece σ u1 u2 u3).bind fun z1 => some (.inr (z1.1, z1.2))
def f_X3_serve (σ : CS) (x1 : Int32) (x2 : Int32) : Option (Nat ⊕ (Int32 × CS)) := obx (f_X3_needTrack x1) fun z6 => (if x2 = 0 then f_X3_serve_17 σ x1 0 ((-9)) else f_X3_serve_17 σ x1 0 0)
theorem mc_X3_serve : MCode yX3_serve cX3_serve 3 (some .int) := ⟨wd_522, wd_1, by decide, by decide⟩
theorem np_X3_serve : (parseMethodDescriptor yX3_serve.desc).map (fun d => d.parameters.length) = some 2 := by decide +kernel
set_option maxHeartbeats 4000000 in
set_option maxRecDepth 100000 in
theorem c_X3_serve {l : Launch} {D : va_G} {κ : Nat → ClassId} {ζ : Nat → Nat} {L : List Nat} {F : Nat → va_E} {σ : CS} {A : Nat → Nat} (hst : l.stackTraces = false) (hI : CI κ A σ L F) (x1 : Int32) (x2 : Int32) {res : (Nat ⊕ (Int32 × CS))} (hf : f_X3_serve σ x1 x2 = some res) : MxI l D cls (ty5 κ) ζ yX3_serve cX3_serve 3 (some .int) 8 1 6 ([.ref (A 0), .int x1, .int x2] : List Value) L F (fun r L' F' => L = L' ∧ ∃ z, res = .inr z ∧ z.1 = r ∧ CI κ A z.2 L F' ∧ FrA A F F') (fun E => ∃ k, res = .inl k ∧ E = xName k) := by
  refine MxI.of (by decide) (Nat.le_of_ble_eq_true rfl) ?_
  intro p e s m below meth c S hr hlk hxt hK hW hST ls hl
  have hl : lv_has ls 3 [(0, .ref (A 0)), (1, .int x1), (2, .int x2)] := hl
  have hFr : FrA A F F := FrA.rf
  have B17 : ∀   (u1 : Int32) (u2 : Int32) (u3 : Int32), f_X3_serve_17 σ u1 u2 u3 = some res → ∀ (H17 : Heap) (l17 : List Loc) (ls : Array Slot), HW D cls L s H17 l17 L F → lv_has ls 3 [] → W p l e (Rm 8 1 6) s m ([.ref (A 0), .int x1, .int x2] : List Value).toArray below meth c H17 l17 1 6 (ExI D cls s below ([.ref (A 0), .int x1, .int x2] : List Value).toArray 1 6 L F (fun r L' F' => L = L' ∧ ∃ z, res = .inr z ∧ z.1 = r ∧ CI κ A z.2 L F' ∧ FrA A F F') (fun E => ∃ k, res = .inl k ∧ E = xName k)) (F0 m 17 ls [.int u3, .int u2, .int u1, .ref (A 0)]) := by
    intro u1 u2 u3 hf H17 l17 ls hW hl
    unfold f_X3_serve_17 at hf
    obtain ⟨z1, hz, hf⟩ := ob hf
    refine pk_cVI (As := [.int u1, .int u2, .int u3]) (rest := []) S hK hST hW (c_X3_fetchPiece hI u1 u2 u3 hz) mc_X3_fetchPiece wd_497 wd_499 wd_1689 rfl np_X3_fetchPiece (hI.mem 0 (by decide)) hI.this rfl rfl hl.1 rfl (Nat.le_of_ble_eq_true rfl) dX3_serve_17 ⟨by decide, by decide⟩ ⟨by decide, by decide⟩ (fun r L2 F3 H4 l5 hp hW => ?_)
    obtain ⟨rfl, rfl, hI1, hFr1⟩ := hp
    have hI := hI1
    have hFr := hFr.tr hFr1
    exact xk_iret S hr hlk hW ⟨rfl, _, (Option.some.inj hf).symm, rfl, hI, hFr⟩ (by decide) (by decide) dX3_serve_20
  unfold f_X3_serve at hf
  refine lv_iload_n S.1 S.2.1 dX3_serve_0 rfl (lv_at hl 1 rfl) ?_
  obtain ⟨z1, hz, hxl, hxr⟩ := obx_ok hf
  refine xk_cSV (As := [.int x1]) (rest := []) S hK hST hW (c_X3_needTrack hst  x1 hz) mc_X3_needTrack wd_359 wd_360 np_X3_needTrack rfl hl.1 rfl (Nat.le_of_ble_eq_true rfl) dX3_serve_1 ⟨by decide, by decide⟩ ⟨by decide, by decide⟩ (fun E ce q9 H9 l10 hE hW h1 h2 h3 => ?_) (fun L7 F8 H9 l10 hp hW => ?_)
  · obtain ⟨k, hk1, hk2⟩ := hE
    exact xk_outI hxt hlk hW ⟨k, hxl k hk1, hk2⟩ h1 h2 h3 (by decide) (by decide)
  obtain ⟨rfl, rfl, z6, hz1⟩ := hp
  have hf := hxr z6 hz1
  refine lv_aload_n S.1 S.2.1 dX3_serve_4 rfl (lv_at hl 0 rfl) ?_
  refine lv_iload_n S.1 S.2.1 dX3_serve_5 rfl (lv_at hl 1 rfl) ?_
  refine lv_iconst (v := 0) S.1 S.2.1 dX3_serve_6 (by decide) ?_
  refine lv_iload_n S.1 S.2.1 dX3_serve_7 rfl (lv_at hl 2 rfl) ?_
  refine lv_if_eq (tgt := 15) S.1 S.2.1 dX3_serve_8 (by decide) (fun c11 => ?_) (fun c11 => ?_)
  · have hf := (if_pos c11).symm.trans hf
    refine lv_bipush (v := (-9)) S.1 S.2.1 dX3_serve_15 (by decide) ?_
    exact B17  x1 0 ((-9)) hf  _ _ _ hW (lv_sub hl [] rfl)
  · have hf := (if_neg c11).symm.trans hf
    refine lv_iconst (v := 0) S.1 S.2.1 dX3_serve_11 (by decide) ?_
    refine lv_goto (tgt := 17) S.1 S.2.1 dX3_serve_12 (by decide) ?_
    exact B17  x1 0 0 hf  _ _ _ hW (lv_sub hl [] rfl)
def f_X3_rotate_72  (k46 : (CS × Int32 × Int32 × Int32 × Int32) → Option (Nat ⊕ (Int32 × CS))) (w72 : CS) (v1 : Int32) (v3 : Int32) (v4 : Int32) (v5 : Int32) (v6 : Int32) (u1 : Int32) (u2 : Int32) : Option (Nat ⊕ (Int32 × CS)) := (f_X3_stepOn w72 u1 u2 v6).bind fun z1 => nm (v5 + 1 : Int32) fun y6 => k46 (z1, v1, v3, v4, y6)
def f_X3_rotate_46   (k46 : CS × Int32 × Int32 × Int32 × Int32 → Option (Nat ⊕ (Int32 × CS))) (t : CS × Int32 × Int32 × Int32 × Int32) : Option (Nat ⊕ (Int32 × CS)) := (if t.2.2.2.1 ≤ t.2.2.2.2 then (f_X3_codeAtEnd t.1 t.2.1 0).bind fun z8 => some (.inr (z8, t.1)) else (f_X3_stepOff t.1 t.2.1 t.2.2.1).bind fun z13 => (if t.2.2.1 = 0 then f_X3_rotate_72 k46 z13.2 t.2.1 t.2.2.1 t.2.2.2.1 t.2.2.2.2 z13.1 t.2.1 1 else f_X3_rotate_72 k46 z13.2 t.2.1 t.2.2.1 t.2.2.2.1 t.2.2.2.2 z13.1 t.2.1 0))
def f_X3_rotate_41 (σ : CS)  (v1 : Int32) (v3 : Int32) (u0 : Int32) : Option (Nat ⊕ (Int32 × CS)) := lpn (f_X3_rotate_46 ) 64 (σ, v1, v3, u0, 0)
def f_X3_rotate_21 (σ : CS)  (v1 : Int32) (v2 : Int32) (u0 : Int32) : Option (Nat ⊕ (Int32 × CS)) := (f_X3_trackOf σ v1).bind fun z19 => (f_X0_isEmpty (cap z19) (σ.1 z19)).bind fun z24 => (if z24 = 0 then nm (if 0 ≤ v2 then v2 else 0 - v2 : Int32) fun y30 => f_X3_rotate_41 σ v1 u0 y30 else f_X3_rotate_41 σ v1 u0 0)
def f_X3_rotate (σ : CS) (x1 : Int32) (x2 : Int32) : Option (Nat ⊕ (Int32 × CS)) := obx (f_X3_needTrack x1) fun z31 => obx (f_X3_needWithin x2 ((-6)) 6) fun z36 => (if x2 ≤ 0 then f_X3_rotate_21 σ x1 x2 0 else f_X3_rotate_21 σ x1 x2 1)
theorem mc_X3_rotate : MCode yX3_rotate cX3_rotate 7 (some .int) := ⟨wd_528, wd_1, by decide, by decide⟩
theorem np_X3_rotate : (parseMethodDescriptor yX3_rotate.desc).map (fun d => d.parameters.length) = some 2 := by decide +kernel
set_option maxHeartbeats 4000000 in
set_option maxRecDepth 100000 in
theorem c_X3_rotate {l : Launch} {D : va_G} {κ : Nat → ClassId} {ζ : Nat → Nat} {L : List Nat} {F : Nat → va_E} {σ : CS} {A : Nat → Nat} (hst : l.stackTraces = false) (hI : CI κ A σ L F) (x1 : Int32) (x2 : Int32) {res : (Nat ⊕ (Int32 × CS))} (hf : f_X3_rotate σ x1 x2 = some res) : MxI l D cls (ty5 κ) ζ yX3_rotate cX3_rotate 7 (some .int) 8 2 12 ([.ref (A 0), .int x1, .int x2] : List Value) L F (fun r L' F' => L = L' ∧ ∃ z, res = .inr z ∧ z.1 = r ∧ CI κ A z.2 L F' ∧ FrA A F F') (fun E => ∃ k, res = .inl k ∧ E = xName k) := by
  refine MxI.of (by decide) (Nat.le_of_ble_eq_true rfl) ?_
  intro p e s m below meth c S hr hlk hxt hK hW hST ls hl
  have hl : lv_has ls 7 [(0, .ref (A 0)), (1, .int x1), (2, .int x2)] := hl
  have hFr : FrA A F F := FrA.rf
  have B72 : ∀ (k46 : (CS × Int32 × Int32 × Int32 × Int32) → Option (Nat ⊕ (Int32 × CS))) (hk46 : (∀ (w46 : CS) (v1 : Int32) (v3 : Int32) (v4 : Int32) (v5 : Int32), k46 (w46, v1, v3, v4, v5) = some res → ∀ (G46 : Nat → va_E), CI κ A w46 L G46 → FrA A F G46 → ∀ (H46 : Heap) (l46 : List Loc) (ls : Array Slot), HW D cls L s H46 l46 L G46 → lv_has ls 7 [(0, .ref (A 0)), (1, .int v1), (3, .int v3), (4, .int v4), (5, .int v5)] → W p l e (Rm 8 2 12) s m ([.ref (A 0), .int x1, .int x2] : List Value).toArray below meth c H46 l46 2 12 (ExI D cls s below ([.ref (A 0), .int x1, .int x2] : List Value).toArray 2 12 L F (fun r L' F' => L = L' ∧ ∃ z, res = .inr z ∧ z.1 = r ∧ CI κ A z.2 L F' ∧ FrA A F F') (fun E => ∃ k, res = .inl k ∧ E = xName k)) (F0 m 46 ls []))) (w72 : CS) (v1 : Int32) (v3 : Int32) (v4 : Int32) (v5 : Int32) (v6 : Int32) (u1 : Int32) (u2 : Int32), f_X3_rotate_72 k46 w72 v1 v3 v4 v5 v6 u1 u2 = some res → ∀ (G72 : Nat → va_E), CI κ A w72 L G72 → FrA A F G72 → ∀ (H72 : Heap) (l72 : List Loc) (ls : Array Slot), HW D cls L s H72 l72 L G72 → lv_has ls 7 [(0, .ref (A 0)), (1, .int v1), (3, .int v3), (4, .int v4), (5, .int v5), (6, .int v6)] → W p l e (Rm 8 2 12) s m ([.ref (A 0), .int x1, .int x2] : List Value).toArray below meth c H72 l72 2 12 (ExI D cls s below ([.ref (A 0), .int x1, .int x2] : List Value).toArray 2 12 L F (fun r L' F' => L = L' ∧ ∃ z, res = .inr z ∧ z.1 = r ∧ CI κ A z.2 L F' ∧ FrA A F F') (fun E => ∃ k, res = .inl k ∧ E = xName k)) (F0 m 72 ls [.int u2, .int u1, .ref (A 0)]) := by
    intro k46 hk46 w72 v1 v3 v4 v5 v6 u1 u2 hf G72 hI hFr H72 l72 ls hW hl
    unfold f_X3_rotate_72 at hf
    refine lv_iload S.1 S.2.1 dX3_rotate_72 (lv_at hl 5 rfl) ?_
    obtain ⟨z1, hz, hf⟩ := ob hf
    refine pk_cVV (As := [.int u1, .int u2, .int v6]) (rest := []) S hK hST hW (c_X3_stepOn hI u1 u2 v6 hz) mc_X3_stepOn wd_456 wd_458 wd_1687 rfl np_X3_stepOn (hI.mem 0 (by decide)) hI.this rfl rfl hl.1 rfl (Nat.le_of_ble_eq_true rfl) dX3_rotate_74 ⟨by decide, by decide⟩ ⟨by decide, by decide⟩ (fun L2 F3 H4 l5 hp hW => ?_)
    obtain ⟨rfl, hI1, hFr1⟩ := hp
    have hI := hI1
    have hFr := hFr.tr hFr1
    obtain ⟨y6, ey6⟩ : ∃ y : Int32, y = v5 + 1 := ⟨_, rfl⟩
    have hf := nm_at hf ey6
    refine lv_iinc (v := y6) (lv' := [(5, .int y6), (0, .ref (A 0)), (1, .int v1), (3, .int v3), (4, .int v4), (6, .int v6)]) S.1 S.2.1 dX3_rotate_77 hl (k := 4) rfl (by rw [ey6]; rfl) (by decide) rfl (fun ls hl => ?_)
    refine lv_goto (tgt := 46) S.1 S.2.1 dX3_rotate_80 (by decide) ?_
    exact hk46 z1 v1 v3 v4 y6 hf F3 hI hFr _ _ _ hW (lv_sub hl [1, 2, 3, 4, 0] rfl)
  have B46 : ∀ (N : Nat), (∀ (w46 : CS) (v1 : Int32) (v3 : Int32) (v4 : Int32) (v5 : Int32), (lpn (f_X3_rotate_46 ) N) (w46, v1, v3, v4, v5) = some res → ∀ (G46 : Nat → va_E), CI κ A w46 L G46 → FrA A F G46 → ∀ (H46 : Heap) (l46 : List Loc) (ls : Array Slot), HW D cls L s H46 l46 L G46 → lv_has ls 7 [(0, .ref (A 0)), (1, .int v1), (3, .int v3), (4, .int v4), (5, .int v5)] → W p l e (Rm 8 2 12) s m ([.ref (A 0), .int x1, .int x2] : List Value).toArray below meth c H46 l46 2 12 (ExI D cls s below ([.ref (A 0), .int x1, .int x2] : List Value).toArray 2 12 L F (fun r L' F' => L = L' ∧ ∃ z, res = .inr z ∧ z.1 = r ∧ CI κ A z.2 L F' ∧ FrA A F F') (fun E => ∃ k, res = .inl k ∧ E = xName k)) (F0 m 46 ls [])) := by
    intro  N
    induction N with
    | zero => intro w46 v1 v3 v4 v5 hf G46 hI hFr H46 l46 ls hW hl; cases hf
    | succ N ih =>
      intro w46 v1 v3 v4 v5 hf G46 hI hFr H46 l46 ls hW hl
      have hf : f_X3_rotate_46 (lpn (f_X3_rotate_46 ) N) (w46, v1, v3, v4, v5) = some res := hf
      generalize lpn (f_X3_rotate_46 ) N = k46 at hf ih
      have hk46 := ih
      unfold f_X3_rotate_46 at hf
      try dsimp only at hf
      refine lv_iload S.1 S.2.1 dX3_rotate_46 (lv_at hl 4 rfl) ?_
      refine lv_iload S.1 S.2.1 dX3_rotate_48 (lv_at hl 3 rfl) ?_
      refine lv_icmp_ge (tgt := 83) S.1 S.2.1 dX3_rotate_50 (by decide) (fun c7 => ?_) (fun c7 => ?_)
      · have hf := (if_pos c7).symm.trans hf
        refine lv_aload_n S.1 S.2.1 dX3_rotate_83 rfl (lv_at hl 0 rfl) ?_
        refine lv_iload_n S.1 S.2.1 dX3_rotate_84 rfl (lv_at hl 1 rfl) ?_
        refine lv_iconst (v := 0) S.1 S.2.1 dX3_rotate_85 (by decide) ?_
        obtain ⟨z8, hz, hf⟩ := ob hf
        refine pk_cVI (As := [.int v1, .int 0]) (rest := []) S hK hST hW (c_X3_codeAtEnd hI v1 0 hz) mc_X3_codeAtEnd wd_293 wd_295 wd_1676 rfl np_X3_codeAtEnd (hI.mem 0 (by decide)) hI.this rfl rfl hl.1 rfl (Nat.le_of_ble_eq_true rfl) dX3_rotate_86 ⟨by decide, by decide⟩ ⟨by decide, by decide⟩ (fun r L9 F10 H11 l12 hp hW => ?_)
        obtain ⟨rfl, rfl, rfl⟩ := hp
        exact xk_iret S hr hlk hW ⟨rfl, _, (Option.some.inj hf).symm, rfl, hI, hFr⟩ (by decide) (by decide) dX3_rotate_89
      · have hf := (if_neg c7).symm.trans hf
        refine lv_aload_n S.1 S.2.1 dX3_rotate_53 rfl (lv_at hl 0 rfl) ?_
        refine lv_iload_n S.1 S.2.1 dX3_rotate_54 rfl (lv_at hl 1 rfl) ?_
        refine lv_iload_n S.1 S.2.1 dX3_rotate_55 rfl (lv_at hl 2 rfl) ?_
        obtain ⟨z13, hz, hf⟩ := ob hf
        refine pk_cVI (As := [.int v1, .int v3]) (rest := []) S hK hST hW (c_X3_stepOff hI v1 v3 hz) mc_X3_stepOff wd_501 wd_503 wd_1690 rfl np_X3_stepOff (hI.mem 0 (by decide)) hI.this rfl rfl hl.1 rfl (Nat.le_of_ble_eq_true rfl) dX3_rotate_56 ⟨by decide, by decide⟩ ⟨by decide, by decide⟩ (fun r L14 F15 H16 l17 hp hW => ?_)
        obtain ⟨rfl, rfl, hI1, hFr1⟩ := hp
        have hI := hI1
        have hFr := hFr.tr hFr1
        refine lv_istore (lv' := [(6, .int z13.1), (0, .ref (A 0)), (1, .int v1), (3, .int v3), (4, .int v4), (5, .int v5)]) S.1 S.2.1 dX3_rotate_59 hl (by decide) rfl (fun ls hl => ?_)
        refine lv_aload_n S.1 S.2.1 dX3_rotate_61 rfl (lv_at hl 1 rfl) ?_
        refine lv_iload_n S.1 S.2.1 dX3_rotate_62 rfl (lv_at hl 2 rfl) ?_
        refine lv_iload_n S.1 S.2.1 dX3_rotate_63 rfl (lv_at hl 3 rfl) ?_
        refine lv_if_ne (tgt := 71) S.1 S.2.1 dX3_rotate_64 (by decide) (fun c18 => ?_) (fun c18 => ?_)
        · have hf := (if_neg c18).symm.trans hf
          refine lv_iconst (v := 0) S.1 S.2.1 dX3_rotate_71 (by decide) ?_
          exact B72 k46 hk46 z13.2 v1 v3 v4 v5 z13.1 v1 0 hf F15 hI hFr _ _ _ hW (lv_sub hl [1, 2, 3, 4, 5, 0] rfl)
        · have hf := (if_pos c18).symm.trans hf
          refine lv_iconst (v := 1) S.1 S.2.1 dX3_rotate_67 (by decide) ?_
          refine lv_goto (tgt := 72) S.1 S.2.1 dX3_rotate_68 (by decide) ?_
          exact B72 k46 hk46 z13.2 v1 v3 v4 v5 z13.1 v1 1 hf F15 hI hFr _ _ _ hW (lv_sub hl [1, 2, 3, 4, 5, 0] rfl)
  have B41 : ∀   (v1 : Int32) (v3 : Int32) (u0 : Int32), f_X3_rotate_41 σ v1 v3 u0 = some res → ∀ (H41 : Heap) (l41 : List Loc) (ls : Array Slot), HW D cls L s H41 l41 L F → lv_has ls 7 [(0, .ref (A 0)), (1, .int v1), (3, .int v3)] → W p l e (Rm 8 2 12) s m ([.ref (A 0), .int x1, .int x2] : List Value).toArray below meth c H41 l41 2 12 (ExI D cls s below ([.ref (A 0), .int x1, .int x2] : List Value).toArray 2 12 L F (fun r L' F' => L = L' ∧ ∃ z, res = .inr z ∧ z.1 = r ∧ CI κ A z.2 L F' ∧ FrA A F F') (fun E => ∃ k, res = .inl k ∧ E = xName k)) (F0 m 41 ls [.int u0]) := by
    intro v1 v3 u0 hf H41 l41 ls hW hl
    unfold f_X3_rotate_41 at hf
    refine lv_istore (lv' := [(4, .int u0), (0, .ref (A 0)), (1, .int v1), (3, .int v3)]) S.1 S.2.1 dX3_rotate_41 hl (by decide) rfl (fun ls hl => ?_)
    refine lv_iconst (v := 0) S.1 S.2.1 dX3_rotate_43 (by decide) ?_
    refine lv_istore (lv' := [(5, .int 0), (4, .int u0), (0, .ref (A 0)), (1, .int v1), (3, .int v3)]) S.1 S.2.1 dX3_rotate_44 hl (by decide) rfl (fun ls hl => ?_)
    exact B46  64 σ v1 v3 u0 0 hf F hI hFr _ _ _ hW (lv_sub hl [2, 3, 4, 1, 0] rfl)
  have B21 : ∀   (v1 : Int32) (v2 : Int32) (u0 : Int32), f_X3_rotate_21 σ v1 v2 u0 = some res → ∀ (H21 : Heap) (l21 : List Loc) (ls : Array Slot), HW D cls L s H21 l21 L F → lv_has ls 7 [(0, .ref (A 0)), (1, .int v1), (2, .int v2)] → W p l e (Rm 8 2 12) s m ([.ref (A 0), .int x1, .int x2] : List Value).toArray below meth c H21 l21 2 12 (ExI D cls s below ([.ref (A 0), .int x1, .int x2] : List Value).toArray 2 12 L F (fun r L' F' => L = L' ∧ ∃ z, res = .inr z ∧ z.1 = r ∧ CI κ A z.2 L F' ∧ FrA A F F') (fun E => ∃ k, res = .inl k ∧ E = xName k)) (F0 m 21 ls [.int u0]) := by
    intro v1 v2 u0 hf H21 l21 ls hW hl
    unfold f_X3_rotate_21 at hf
    refine lv_istore_n (lv' := [(3, .int u0), (0, .ref (A 0)), (1, .int v1), (2, .int v2)]) S.1 S.2.1 dX3_rotate_21 rfl hl (by decide) rfl (fun ls hl => ?_)
    refine lv_aload_n S.1 S.2.1 dX3_rotate_22 rfl (lv_at hl 1 rfl) ?_
    refine lv_iload_n S.1 S.2.1 dX3_rotate_23 rfl (lv_at hl 2 rfl) ?_
    obtain ⟨z19, hz, hf⟩ := ob hf
    refine pk_cVR (As := [.int v1]) (rest := []) S hK hST hW (c_X3_trackOf hI v1 hz) mc_X3_trackOf wd_130 wd_132 wd_1664 rfl np_X3_trackOf (hI.mem 0 (by decide)) hI.this rfl rfl hl.1 rfl (Nat.le_of_ble_eq_true rfl) dX3_rotate_24 ⟨by decide, by decide⟩ ⟨by decide, by decide⟩ (fun r L20 F21 H22 l23 hp hW => ?_)
    obtain ⟨rfl, rfl, hbz19, rfl⟩ := hp
    obtain ⟨z24, hz, hf⟩ := ob hf
    refine pk_cVI (As := []) (rest := []) S hK hST hW (c_X0_isEmpty (hI.row hbz19)  hz) mc_X0_isEmpty wd_107 wd_108 wd_109 rfl np_X0_isEmpty (hI.mem _ (by have := hbz19; omega)) (hI.rowH hbz19) rfl rfl hl.1 rfl (Nat.le_of_ble_eq_true rfl) dX3_rotate_27 ⟨by decide, by decide⟩ ⟨by decide, by decide⟩ (fun r L25 F26 H27 l28 hp hW => ?_)
    obtain ⟨rfl, rfl, rfl⟩ := hp
    refine lv_if_eq (tgt := 37) S.1 S.2.1 dX3_rotate_30 (by decide) (fun c29 => ?_) (fun c29 => ?_)
    · have hf := (if_pos c29).symm.trans hf
      refine lv_iload_n S.1 S.2.1 dX3_rotate_37 rfl (lv_at hl 3 rfl) ?_
      refine va_mabs S.1 S.2.1 (S.2.2.1.trans hl.1.symm) S.2.2.2.1 (S.2.2.2.2 _ wd_529) (S.2.2.2.2 _ wd_530) (S.2.2.2.2 _ wd_11) (S.2.2.2.2 _ wd_531) (by decide) (by decide) (by decide) (by decide) dX3_rotate_38 ?_
      refine lv_topi (fun y30 ey30 => ?_)
      have hf := nm_at hf ey30
      exact B41  v1 u0 y30 hf  _ _ _ hW (lv_sub hl [1, 2, 0] rfl)
    · have hf := (if_neg c29).symm.trans hf
      refine lv_iconst (v := 0) S.1 S.2.1 dX3_rotate_33 (by decide) ?_
      refine lv_goto (tgt := 41) S.1 S.2.1 dX3_rotate_34 (by decide) ?_
      exact B41  v1 u0 0 hf  _ _ _ hW (lv_sub hl [1, 2, 0] rfl)
  unfold f_X3_rotate at hf
  refine lv_iload_n S.1 S.2.1 dX3_rotate_0 rfl (lv_at hl 1 rfl) ?_
  obtain ⟨z1, hz, hxl, hxr⟩ := obx_ok hf
  refine xk_cSV (As := [.int x1]) (rest := []) S hK hST hW (c_X3_needTrack hst  x1 hz) mc_X3_needTrack wd_359 wd_360 np_X3_needTrack rfl hl.1 rfl (Nat.le_of_ble_eq_true rfl) dX3_rotate_1 ⟨by decide, by decide⟩ ⟨by decide, by decide⟩ (fun E ce q9 H34 l35 hE hW h1 h2 h3 => ?_) (fun L32 F33 H34 l35 hp hW => ?_)
  · obtain ⟨k, hk1, hk2⟩ := hE
    exact xk_outI hxt hlk hW ⟨k, hxl k hk1, hk2⟩ h1 h2 h3 (by decide) (by decide)
  obtain ⟨rfl, rfl, z31, hz1⟩ := hp
  have hf := hxr z31 hz1
  refine lv_iload_n S.1 S.2.1 dX3_rotate_4 rfl (lv_at hl 2 rfl) ?_
  refine lv_bipush (v := (-6)) S.1 S.2.1 dX3_rotate_5 (by decide) ?_
  refine lv_bipush (v := 6) S.1 S.2.1 dX3_rotate_7 (by decide) ?_
  obtain ⟨z1, hz, hxl, hxr⟩ := obx_ok hf
  refine xk_cSV (As := [.int x2, .int ((-6)), .int 6]) (rest := []) S hK hST hW (c_X3_needWithin hst  x2 ((-6)) 6 hz) mc_X3_needWithin wd_416 wd_417 np_X3_needWithin rfl hl.1 rfl (Nat.le_of_ble_eq_true rfl) dX3_rotate_9 ⟨by decide, by decide⟩ ⟨by decide, by decide⟩ (fun E ce q9 H39 l40 hE hW h1 h2 h3 => ?_) (fun L37 F38 H39 l40 hp hW => ?_)
  · obtain ⟨k, hk1, hk2⟩ := hE
    exact xk_outI hxt hlk hW ⟨k, hxl k hk1, hk2⟩ h1 h2 h3 (by decide) (by decide)
  obtain ⟨rfl, rfl, z36, hz1⟩ := hp
  have hf := hxr z36 hz1
  refine lv_iload_n S.1 S.2.1 dX3_rotate_12 rfl (lv_at hl 2 rfl) ?_
  refine lv_if_le (tgt := 20) S.1 S.2.1 dX3_rotate_13 (by decide) (fun c41 => ?_) (fun c41 => ?_)
  · have hf := (if_pos c41).symm.trans hf
    refine lv_iconst (v := 0) S.1 S.2.1 dX3_rotate_20 (by decide) ?_
    exact B21  x1 x2 0 hf  _ _ _ hW (lv_sub hl [0, 1, 2] rfl)
  · have hf := (if_neg c41).symm.trans hf
    refine lv_iconst (v := 1) S.1 S.2.1 dX3_rotate_16 (by decide) ?_
    refine lv_goto (tgt := 21) S.1 S.2.1 dX3_rotate_17 (by decide) ?_
    exact B21  x1 x2 1 hf  _ _ _ hW (lv_sub hl [0, 1, 2] rfl)
def f_X3_slipTrack (x1 : Int32) : Option Int32 := some (x1 / 4000)
theorem mc_X3_slipTrack : MCode yX3_slipTrack cX3_slipTrack 1 (some .int) := ⟨wd_129, wd_1, by decide, by decide⟩
theorem np_X3_slipTrack : (parseMethodDescriptor yX3_slipTrack.desc).map (fun d => d.parameters.length) = some 1 := by decide +kernel
set_option maxHeartbeats 4000000 in
set_option maxRecDepth 100000 in
theorem c_X3_slipTrack {l : Launch} {D : va_G} {κ : Nat → ClassId} {ζ : Nat → Nat} {L : List Nat} {F : Nat → va_E} (x1 : Int32) {res : Int32} (hf : f_X3_slipTrack x1 = some res) : MtI l D cls (ty5 κ) ζ yX3_slipTrack cX3_slipTrack 1 (some .int) 1 0 0 ([.int x1] : List Value) L F (fun r L' F' => L = L' ∧ F = F' ∧ res = r) := by
  refine MtI.of (by decide) (Nat.le_of_ble_eq_true rfl) ?_
  intro p e s m below meth c S hr hlk _ hK hW hST ls hl
  have hl : lv_has ls 1 [(0, .int x1)] := hl
  unfold f_X3_slipTrack at hf
  refine lv_iload_n S.1 S.2.1 dX3_slipTrack_0 rfl (lv_at hl 0 rfl) ?_
  refine lv_sipush (v := 4000) S.1 S.2.1 dX3_slipTrack_1 (by decide) ?_
  refine lv_idiv S.1 S.2.1 dX3_slipTrack_4 (by decide) ?_
  exact pk_iret S hr hlk hW ⟨rfl, rfl, eqm (P := fun z => z = x1 / 4000) rfl (Option.some.inj hf)⟩ (by decide) (by decide) dX3_slipTrack_5
def f_X3_slipIsPut (x1 : Int32) : Option Int32 := (if (jrem (x1 / 1000) 2) = 1 then some (1) else some (0))
theorem mc_X3_slipIsPut : MCode yX3_slipIsPut cX3_slipIsPut 1 (some .boolean) := ⟨wd_136, wd_1, by decide, by decide⟩
theorem np_X3_slipIsPut : (parseMethodDescriptor yX3_slipIsPut.desc).map (fun d => d.parameters.length) = some 1 := by decide +kernel
set_option maxHeartbeats 4000000 in
set_option maxRecDepth 100000 in
theorem c_X3_slipIsPut {l : Launch} {D : va_G} {κ : Nat → ClassId} {ζ : Nat → Nat} {L : List Nat} {F : Nat → va_E} (x1 : Int32) {res : Int32} (hf : f_X3_slipIsPut x1 = some res) : MtI l D cls (ty5 κ) ζ yX3_slipIsPut cX3_slipIsPut 1 (some .boolean) 1 0 0 ([.int x1] : List Value) L F (fun r L' F' => L = L' ∧ F = F' ∧ res = r) := by
  refine MtI.of (by decide) (Nat.le_of_ble_eq_true rfl) ?_
  intro p e s m below meth c S hr hlk _ hK hW hST ls hl
  have hl : lv_has ls 1 [(0, .int x1)] := hl
  unfold f_X3_slipIsPut at hf
  refine lv_iload_n S.1 S.2.1 dX3_slipIsPut_0 rfl (lv_at hl 0 rfl) ?_
  refine lv_sipush (v := 1000) S.1 S.2.1 dX3_slipIsPut_1 (by decide) ?_
  refine lv_idiv S.1 S.2.1 dX3_slipIsPut_4 (by decide) ?_
  refine lv_iconst (v := 2) S.1 S.2.1 dX3_slipIsPut_5 (by decide) ?_
  refine pk_irem S dX3_slipIsPut_6 (by decide) ?_
  refine lv_iconst (v := 1) S.1 S.2.1 dX3_slipIsPut_7 (by decide) ?_
  refine lv_icmp_ne (tgt := 15) S.1 S.2.1 dX3_slipIsPut_8 (by decide) (fun c1 => ?_) (fun c1 => ?_)
  · have hf := (if_neg c1).symm.trans hf
    refine lv_iconst (v := 0) S.1 S.2.1 dX3_slipIsPut_15 (by decide) ?_
    exact pk_zret S hr hlk hW (by decide) ⟨rfl, rfl, eqm (P := fun z => z = 0) rfl (Option.some.inj hf)⟩ (by decide) (by decide) dX3_slipIsPut_16
  · have hf := (if_pos c1).symm.trans hf
    refine lv_iconst (v := 1) S.1 S.2.1 dX3_slipIsPut_11 (by decide) ?_
    refine lv_goto (tgt := 16) S.1 S.2.1 dX3_slipIsPut_12 (by decide) ?_
    exact pk_zret S hr hlk hW (by decide) ⟨rfl, rfl, eqm (P := fun z => z = 1) rfl (Option.some.inj hf)⟩ (by decide) (by decide) dX3_slipIsPut_16
def f_X3_slipIsBack (x1 : Int32) : Option Int32 := (if (jrem (x1 / 2000) 2) = 1 then some (1) else some (0))
theorem mc_X3_slipIsBack : MCode yX3_slipIsBack cX3_slipIsBack 1 (some .boolean) := ⟨wd_139, wd_1, by decide, by decide⟩
theorem np_X3_slipIsBack : (parseMethodDescriptor yX3_slipIsBack.desc).map (fun d => d.parameters.length) = some 1 := by decide +kernel
set_option maxHeartbeats 4000000 in
set_option maxRecDepth 100000 in
theorem c_X3_slipIsBack {l : Launch} {D : va_G} {κ : Nat → ClassId} {ζ : Nat → Nat} {L : List Nat} {F : Nat → va_E} (x1 : Int32) {res : Int32} (hf : f_X3_slipIsBack x1 = some res) : MtI l D cls (ty5 κ) ζ yX3_slipIsBack cX3_slipIsBack 1 (some .boolean) 1 0 0 ([.int x1] : List Value) L F (fun r L' F' => L = L' ∧ F = F' ∧ res = r) := by
  refine MtI.of (by decide) (Nat.le_of_ble_eq_true rfl) ?_
  intro p e s m below meth c S hr hlk _ hK hW hST ls hl
  have hl : lv_has ls 1 [(0, .int x1)] := hl
  unfold f_X3_slipIsBack at hf
  refine lv_iload_n S.1 S.2.1 dX3_slipIsBack_0 rfl (lv_at hl 0 rfl) ?_
  refine lv_sipush (v := 2000) S.1 S.2.1 dX3_slipIsBack_1 (by decide) ?_
  refine lv_idiv S.1 S.2.1 dX3_slipIsBack_4 (by decide) ?_
  refine lv_iconst (v := 2) S.1 S.2.1 dX3_slipIsBack_5 (by decide) ?_
  refine pk_irem S dX3_slipIsBack_6 (by decide) ?_
  refine lv_iconst (v := 1) S.1 S.2.1 dX3_slipIsBack_7 (by decide) ?_
  refine lv_icmp_ne (tgt := 15) S.1 S.2.1 dX3_slipIsBack_8 (by decide) (fun c1 => ?_) (fun c1 => ?_)
  · have hf := (if_neg c1).symm.trans hf
    refine lv_iconst (v := 0) S.1 S.2.1 dX3_slipIsBack_15 (by decide) ?_
    exact pk_zret S hr hlk hW (by decide) ⟨rfl, rfl, eqm (P := fun z => z = 0) rfl (Option.some.inj hf)⟩ (by decide) (by decide) dX3_slipIsBack_16
  · have hf := (if_pos c1).symm.trans hf
    refine lv_iconst (v := 1) S.1 S.2.1 dX3_slipIsBack_11 (by decide) ?_
    refine lv_goto (tgt := 16) S.1 S.2.1 dX3_slipIsBack_12 (by decide) ?_
    exact pk_zret S hr hlk hW (by decide) ⟨rfl, rfl, eqm (P := fun z => z = 1) rfl (Option.some.inj hf)⟩ (by decide) (by decide) dX3_slipIsBack_16
def f_X3_slipCode (x1 : Int32) : Option Int32 := some (jrem x1 1000)
theorem mc_X3_slipCode : MCode yX3_slipCode cX3_slipCode 1 (some .int) := ⟨wd_146, wd_1, by decide, by decide⟩
theorem np_X3_slipCode : (parseMethodDescriptor yX3_slipCode.desc).map (fun d => d.parameters.length) = some 1 := by decide +kernel
set_option maxHeartbeats 4000000 in
set_option maxRecDepth 100000 in
theorem c_X3_slipCode {l : Launch} {D : va_G} {κ : Nat → ClassId} {ζ : Nat → Nat} {L : List Nat} {F : Nat → va_E} (x1 : Int32) {res : Int32} (hf : f_X3_slipCode x1 = some res) : MtI l D cls (ty5 κ) ζ yX3_slipCode cX3_slipCode 1 (some .int) 1 0 0 ([.int x1] : List Value) L F (fun r L' F' => L = L' ∧ F = F' ∧ res = r) := by
  refine MtI.of (by decide) (Nat.le_of_ble_eq_true rfl) ?_
  intro p e s m below meth c S hr hlk _ hK hW hST ls hl
  have hl : lv_has ls 1 [(0, .int x1)] := hl
  unfold f_X3_slipCode at hf
  refine lv_iload_n S.1 S.2.1 dX3_slipCode_0 rfl (lv_at hl 0 rfl) ?_
  refine lv_sipush (v := 1000) S.1 S.2.1 dX3_slipCode_1 (by decide) ?_
  refine pk_irem S dX3_slipCode_4 (by decide) ?_
  exact pk_iret S hr hlk hW ⟨rfl, rfl, eqm (P := fun z => z = jrem x1 1000) rfl (Option.some.inj hf)⟩ (by decide) (by decide) dX3_slipCode_5
def f_X3_undo_86   (w86 : CS) (v1 : Int32) (v2 : Int32) : Option (Int32 × CS) := (f_X3_disturb w86 v2).bind fun z1 => some (v1, z1)
def f_X3_undo_79   (w79 : CS) (v1 : Int32) (v2 : Int32) (u0 : Nat) (u1 : Int32) : Option (Int32 × CS) := (f_X3_slipCode v1).bind fun z6 => (f_X0_enter (cap u0) (w79.1 u0) u1 z6).bind fun z11 => nm ((va_up w79.1 u0 z11, w79.2) : CS) fun t16 => f_X3_undo_86 t16 v1 v2
def f_X3_undo (σ : CS) : Option (Int32 × CS) := (f_X0_isEmpty (cap 2) (σ.1 2)).bind fun z17 => (if z17 = 0 then (f_X0_endPlace (cap 2) (σ.1 2) 1).bind fun z23 => (f_X0_leave (cap 2) (σ.1 2) z23).bind fun z28 => nm ((va_up σ.1 2 z28.2, σ.2) : CS) fun t33 => (f_X3_slipTrack z28.1).bind fun z34 => (f_X3_trackOf t33 z34).bind fun z39 => (f_X3_slipIsPut z28.1).bind fun z44 => (if z44 = 0 then (f_X3_slipIsBack z28.1).bind fun z50 => (if z50 = 0 then f_X3_undo_79 t33 z28.1 z34 z39 0 else (f_X0_size (cap z39) (t33.1 z39)).bind fun z56 => f_X3_undo_79 t33 z28.1 z34 z39 z56) else (f_X3_slipIsBack z28.1).bind fun z61 => (f_X0_endPlace (cap z39) (t33.1 z39) z61).bind fun z66 => (f_X0_leave (cap z39) (t33.1 z39) z66).bind fun z71 => nm ((va_up t33.1 z39 z71.2, t33.2) : CS) fun t76 => f_X3_undo_86 t76 z28.1 z34) else some ((-9), σ))
theorem mc_X3_undo : MCode yX3_undo cX3_undo 4 (some .int) := ⟨wd_106, wd_1, by decide, by decide⟩
theorem np_X3_undo : (parseMethodDescriptor yX3_undo.desc).map (fun d => d.parameters.length) = some 0 := by decide +kernel
set_option maxHeartbeats 4000000 in
set_option maxRecDepth 100000 in
theorem c_X3_undo {l : Launch} {D : va_G} {κ : Nat → ClassId} {ζ : Nat → Nat} {L : List Nat} {F : Nat → va_E} {σ : CS} {A : Nat → Nat} (hI : CI κ A σ L F)  {res : (Int32 × CS)} (hf : f_X3_undo σ = some res) : MtI l D cls (ty5 κ) ζ yX3_undo cX3_undo 4 (some .int) 3 0 0 ([.ref (A 0)] : List Value) L F (fun r L' F' => L = L' ∧ res.1 = r ∧ CI κ A res.2 L F' ∧ FrA A F F') := by
  refine MtI.of (by decide) (Nat.le_of_ble_eq_true rfl) ?_
  intro p e s m below meth c S hr hlk _ hK hW hST ls hl
  have hl : lv_has ls 4 [(0, .ref (A 0))] := hl
  have hFr : FrA A F F := FrA.rf
  have B86 : ∀   (w86 : CS) (v1 : Int32) (v2 : Int32), f_X3_undo_86 w86 v1 v2 = some res → ∀ (G86 : Nat → va_E), CI κ A w86 L G86 → FrA A F G86 → ∀ (H86 : Heap) (l86 : List Loc) (ls : Array Slot), HW D cls L s H86 l86 L G86 → lv_has ls 4 [(0, .ref (A 0)), (1, .int v1), (2, .int v2)] → W p l e (Rm 3 0 0) s m ([.ref (A 0)] : List Value).toArray below meth c H86 l86 0 0 (EnI D cls s below ([.ref (A 0)] : List Value).toArray 0 0 L (fun r L' F' => L = L' ∧ res.1 = r ∧ CI κ A res.2 L F' ∧ FrA A F F')) (F0 m 86 ls []) := by
    intro w86 v1 v2 hf G86 hI hFr H86 l86 ls hW hl
    unfold f_X3_undo_86 at hf
    refine lv_aload_n S.1 S.2.1 dX3_undo_86 rfl (lv_at hl 0 rfl) ?_
    refine lv_iload_n S.1 S.2.1 dX3_undo_87 rfl (lv_at hl 2 rfl) ?_
    obtain ⟨z1, hz, hf⟩ := ob hf
    refine pk_cVV (As := [.int v2]) (rest := []) S hK hST hW (c_X3_disturb hI v2 hz) mc_X3_disturb wd_155 wd_157 wd_1665 rfl np_X3_disturb (hI.mem 0 (by decide)) hI.this rfl rfl hl.1 rfl (Nat.le_of_ble_eq_true rfl) dX3_undo_88 ⟨by decide, by decide⟩ ⟨by decide, by decide⟩ (fun L2 F3 H4 l5 hp hW => ?_)
    obtain ⟨rfl, hI1, hFr1⟩ := hp
    have hI := hI1
    have hFr := hFr.tr hFr1
    refine lv_iload_n S.1 S.2.1 dX3_undo_91 rfl (lv_at hl 1 rfl) ?_
    exact pk_iret S hr hlk hW ⟨rfl, eqm (P := fun z => z.1 = v1 ∧ CI κ A z.2 L F3 ∧ FrA A F F3) ⟨rfl, hI, hFr⟩ (Option.some.inj hf)⟩ (by decide) (by decide) dX3_undo_92
  have B79 : ∀   (w79 : CS) (v1 : Int32) (v2 : Int32) (u0 : Nat) (u1 : Int32), f_X3_undo_79 w79 v1 v2 u0 u1 = some res → ∀ (G79 : Nat → va_E), u0 < 7 → CI κ A w79 L G79 → FrA A F G79 → ∀ (H79 : Heap) (l79 : List Loc) (ls : Array Slot), HW D cls L s H79 l79 L G79 → lv_has ls 4 [(0, .ref (A 0)), (1, .int v1), (2, .int v2)] → W p l e (Rm 3 0 0) s m ([.ref (A 0)] : List Value).toArray below meth c H79 l79 0 0 (EnI D cls s below ([.ref (A 0)] : List Value).toArray 0 0 L (fun r L' F' => L = L' ∧ res.1 = r ∧ CI κ A res.2 L F' ∧ FrA A F F')) (F0 m 79 ls [.int u1, .ref (A (1 + 2 * u0))]) := by
    intro w79 v1 v2 u0 u1 hf G79 hu0 hI hFr H79 l79 ls hW hl
    unfold f_X3_undo_79 at hf
    refine lv_iload_n S.1 S.2.1 dX3_undo_79 rfl (lv_at hl 1 rfl) ?_
    obtain ⟨z6, hz, hf⟩ := ob hf
    refine pk_cSI (As := [.int v1]) (rest := [.int u1, .ref (A (1 + 2 * u0))]) S hK hST hW (c_X3_slipCode  v1 hz) mc_X3_slipCode wd_144 wd_145 np_X3_slipCode rfl hl.1 rfl (Nat.le_of_ble_eq_true rfl) dX3_undo_80 ⟨by decide, by decide⟩ ⟨by decide, by decide⟩ (fun r L7 F8 H9 l10 hp hW => ?_)
    obtain ⟨rfl, rfl, rfl⟩ := hp
    obtain ⟨z11, hz, hf⟩ := ob hf
    refine pk_cVV (As := [.int u1, .int z6]) (rest := []) S hK hST hW (c_X0_enter (hI.row hu0) u1 z6 hz) mc_X0_enter wd_147 wd_148 wd_149 rfl np_X0_enter (hI.mem _ (by have := hu0; omega)) (hI.rowH hu0) rfl rfl hl.1 rfl (Nat.le_of_ble_eq_true rfl) dX3_undo_83 ⟨by decide, by decide⟩ ⟨by decide, by decide⟩ (fun L12 F13 H14 l15 hp hW => ?_)
    obtain ⟨rfl, hI1, hFr1⟩ := hp
    have hFr := hFr.tr (FrA.row hu0 hFr1)
    have hI := hI.setRow hu0 hI1 hFr1
    obtain ⟨t16, et16, hf⟩ := nm_ok hf
    have hI := eqm (P := fun w => CI κ A w L F13) hI et16.symm
    exact B86  t16 v1 v2 hf F13 hI hFr _ _ _ hW (lv_sub hl [0, 1, 2] rfl)
  unfold f_X3_undo at hf
  refine lv_aload_n S.1 S.2.1 dX3_undo_0 rfl (lv_at hl 0 rfl) ?_
  refine pk_get S hK hW 2 (hI.mem 0 (by decide)) hI.this rfl hinX3 (by decide) wd_82 rfl dX3_undo_1 ?_
  obtain ⟨z17, hz, hf⟩ := ob hf
  refine pk_cVI (As := []) (rest := []) S hK hST hW (c_X0_isEmpty (hI.row (by decide : 2 < 7))  hz) mc_X0_isEmpty wd_107 wd_108 wd_109 rfl np_X0_isEmpty (hI.mem _ (by have := (by decide : 2 < 7); omega)) (hI.rowH (by decide : 2 < 7)) rfl rfl hl.1 rfl (Nat.le_of_ble_eq_true rfl) dX3_undo_4 ⟨by decide, by decide⟩ ⟨by decide, by decide⟩ (fun r L18 F19 H20 l21 hp hW => ?_)
  obtain ⟨rfl, rfl, rfl⟩ := hp
  refine lv_if_eq (tgt := 13) S.1 S.2.1 dX3_undo_7 (by decide) (fun c22 => ?_) (fun c22 => ?_)
  · have hf := (if_pos c22).symm.trans hf
    refine lv_aload_n S.1 S.2.1 dX3_undo_13 rfl (lv_at hl 0 rfl) ?_
    refine pk_get S hK hW 2 (hI.mem 0 (by decide)) hI.this rfl hinX3 (by decide) wd_82 rfl dX3_undo_14 ?_
    refine lv_aload_n S.1 S.2.1 dX3_undo_17 rfl (lv_at hl 0 rfl) ?_
    refine pk_get S hK hW 2 (hI.mem 0 (by decide)) hI.this rfl hinX3 (by decide) wd_82 rfl dX3_undo_18 ?_
    refine lv_iconst (v := 1) S.1 S.2.1 dX3_undo_21 (by decide) ?_
    obtain ⟨z23, hz, hf⟩ := ob hf
    refine pk_cVI (As := [.int 1]) (rest := [.ref (A (1 + 2 * 2))]) S hK hST hW (c_X0_endPlace (hI.row (by decide : 2 < 7)) 1 hz) mc_X0_endPlace wd_111 wd_112 wd_113 rfl np_X0_endPlace (hI.mem _ (by have := (by decide : 2 < 7); omega)) (hI.rowH (by decide : 2 < 7)) rfl rfl hl.1 rfl (Nat.le_of_ble_eq_true rfl) dX3_undo_22 ⟨by decide, by decide⟩ ⟨by decide, by decide⟩ (fun r L24 F25 H26 l27 hp hW => ?_)
    obtain ⟨rfl, rfl, rfl⟩ := hp
    obtain ⟨z28, hz, hf⟩ := ob hf
    refine pk_cVI (As := [.int z23]) (rest := []) S hK hST hW (c_X0_leave (hI.row (by decide : 2 < 7)) z23 hz) mc_X0_leave wd_115 wd_116 wd_117 rfl np_X0_leave (hI.mem _ (by have := (by decide : 2 < 7); omega)) (hI.rowH (by decide : 2 < 7)) rfl rfl hl.1 rfl (Nat.le_of_ble_eq_true rfl) dX3_undo_25 ⟨by decide, by decide⟩ ⟨by decide, by decide⟩ (fun r L29 F30 H31 l32 hp hW => ?_)
    obtain ⟨rfl, rfl, hI1, hFr1⟩ := hp
    have hFr := hFr.tr (FrA.row (by decide : 2 < 7) hFr1)
    have hI := hI.setRow (by decide : 2 < 7) hI1 hFr1
    obtain ⟨t33, et33, hf⟩ := nm_ok hf
    have hI := eqm (P := fun w => CI κ A w L F30) hI et33.symm
    refine lv_istore_n (lv' := [(1, .int z28.1), (0, .ref (A 0))]) S.1 S.2.1 dX3_undo_28 rfl hl (by decide) rfl (fun ls hl => ?_)
    refine lv_iload_n S.1 S.2.1 dX3_undo_29 rfl (lv_at hl 0 rfl) ?_
    obtain ⟨z34, hz, hf⟩ := ob hf
    refine pk_cSI (As := [.int z28.1]) (rest := []) S hK hST hW (c_X3_slipTrack  z28.1 hz) mc_X3_slipTrack wd_127 wd_128 np_X3_slipTrack rfl hl.1 rfl (Nat.le_of_ble_eq_true rfl) dX3_undo_30 ⟨by decide, by decide⟩ ⟨by decide, by decide⟩ (fun r L35 F36 H37 l38 hp hW => ?_)
    obtain ⟨rfl, rfl, rfl⟩ := hp
    refine lv_istore_n (lv' := [(2, .int z34), (1, .int z28.1), (0, .ref (A 0))]) S.1 S.2.1 dX3_undo_33 rfl hl (by decide) rfl (fun ls hl => ?_)
    refine lv_aload_n S.1 S.2.1 dX3_undo_34 rfl (lv_at hl 2 rfl) ?_
    refine lv_iload_n S.1 S.2.1 dX3_undo_35 rfl (lv_at hl 0 rfl) ?_
    obtain ⟨z39, hz, hf⟩ := ob hf
    refine pk_cVR (As := [.int z34]) (rest := []) S hK hST hW (c_X3_trackOf hI z34 hz) mc_X3_trackOf wd_130 wd_132 wd_1664 rfl np_X3_trackOf (hI.mem 0 (by decide)) hI.this rfl rfl hl.1 rfl (Nat.le_of_ble_eq_true rfl) dX3_undo_36 ⟨by decide, by decide⟩ ⟨by decide, by decide⟩ (fun r L40 F41 H42 l43 hp hW => ?_)
    obtain ⟨rfl, rfl, hbz39, rfl⟩ := hp
    refine lv_astore_n (lv' := [(3, .ref (A (1 + 2 * z39))), (2, .int z34), (1, .int z28.1), (0, .ref (A 0))]) S.1 S.2.1 dX3_undo_39 rfl hl (by decide) rfl (fun ls hl => ?_)
    refine lv_iload_n S.1 S.2.1 dX3_undo_40 rfl (lv_at hl 2 rfl) ?_
    obtain ⟨z44, hz, hf⟩ := ob hf
    refine pk_cSI (As := [.int z28.1]) (rest := []) S hK hST hW (c_X3_slipIsPut  z28.1 hz) mc_X3_slipIsPut wd_134 wd_135 np_X3_slipIsPut rfl hl.1 rfl (Nat.le_of_ble_eq_true rfl) dX3_undo_41 ⟨by decide, by decide⟩ ⟨by decide, by decide⟩ (fun r L45 F46 H47 l48 hp hW => ?_)
    obtain ⟨rfl, rfl, rfl⟩ := hp
    refine lv_if_eq (tgt := 63) S.1 S.2.1 dX3_undo_44 (by decide) (fun c49 => ?_) (fun c49 => ?_)
    · have hf := (if_pos c49).symm.trans hf
      refine lv_aload_n S.1 S.2.1 dX3_undo_63 rfl (lv_at hl 0 rfl) ?_
      refine lv_iload_n S.1 S.2.1 dX3_undo_64 rfl (lv_at hl 2 rfl) ?_
      obtain ⟨z50, hz, hf⟩ := ob hf
      refine pk_cSI (As := [.int z28.1]) (rest := [.ref (A (1 + 2 * z39))]) S hK hST hW (c_X3_slipIsBack  z28.1 hz) mc_X3_slipIsBack wd_137 wd_138 np_X3_slipIsBack rfl hl.1 rfl (Nat.le_of_ble_eq_true rfl) dX3_undo_65 ⟨by decide, by decide⟩ ⟨by decide, by decide⟩ (fun r L51 F52 H53 l54 hp hW => ?_)
      obtain ⟨rfl, rfl, rfl⟩ := hp
      refine lv_if_eq (tgt := 78) S.1 S.2.1 dX3_undo_68 (by decide) (fun c55 => ?_) (fun c55 => ?_)
      · have hf := (if_pos c55).symm.trans hf
        refine lv_iconst (v := 0) S.1 S.2.1 dX3_undo_78 (by decide) ?_
        exact B79  t33 z28.1 z34 z39 0 hf F30 hbz39 hI hFr _ _ _ hW (lv_sub hl [3, 2, 1] rfl)
      · have hf := (if_neg c55).symm.trans hf
        refine lv_aload_n S.1 S.2.1 dX3_undo_71 rfl (lv_at hl 0 rfl) ?_
        obtain ⟨z56, hz, hf⟩ := ob hf
        refine pk_cVI (As := []) (rest := [.ref (A (1 + 2 * z39))]) S hK hST hW (c_X0_size (hI.row hbz39)  hz) mc_X0_size wd_140 wd_141 wd_142 rfl np_X0_size (hI.mem _ (by have := hbz39; omega)) (hI.rowH hbz39) rfl rfl hl.1 rfl (Nat.le_of_ble_eq_true rfl) dX3_undo_72 ⟨by decide, by decide⟩ ⟨by decide, by decide⟩ (fun r L57 F58 H59 l60 hp hW => ?_)
        obtain ⟨rfl, rfl, rfl⟩ := hp
        refine lv_goto (tgt := 79) S.1 S.2.1 dX3_undo_75 (by decide) ?_
        exact B79  t33 z28.1 z34 z39 z56 hf F30 hbz39 hI hFr _ _ _ hW (lv_sub hl [3, 2, 1] rfl)
    · have hf := (if_neg c49).symm.trans hf
      refine lv_aload_n S.1 S.2.1 dX3_undo_47 rfl (lv_at hl 0 rfl) ?_
      refine lv_aload_n S.1 S.2.1 dX3_undo_48 rfl (lv_at hl 0 rfl) ?_
      refine lv_iload_n S.1 S.2.1 dX3_undo_49 rfl (lv_at hl 2 rfl) ?_
      obtain ⟨z61, hz, hf⟩ := ob hf
      refine pk_cSI (As := [.int z28.1]) (rest := [.ref (A (1 + 2 * z39)), .ref (A (1 + 2 * z39))]) S hK hST hW (c_X3_slipIsBack  z28.1 hz) mc_X3_slipIsBack wd_137 wd_138 np_X3_slipIsBack rfl hl.1 rfl (Nat.le_of_ble_eq_true rfl) dX3_undo_50 ⟨by decide, by decide⟩ ⟨by decide, by decide⟩ (fun r L62 F63 H64 l65 hp hW => ?_)
      obtain ⟨rfl, rfl, rfl⟩ := hp
      obtain ⟨z66, hz, hf⟩ := ob hf
      refine pk_cVI (As := [.int z61]) (rest := [.ref (A (1 + 2 * z39))]) S hK hST hW (c_X0_endPlace (hI.row hbz39) z61 hz) mc_X0_endPlace wd_111 wd_112 wd_113 rfl np_X0_endPlace (hI.mem _ (by have := hbz39; omega)) (hI.rowH hbz39) rfl rfl hl.1 rfl (Nat.le_of_ble_eq_true rfl) dX3_undo_53 ⟨by decide, by decide⟩ ⟨by decide, by decide⟩ (fun r L67 F68 H69 l70 hp hW => ?_)
      obtain ⟨rfl, rfl, rfl⟩ := hp
      obtain ⟨z71, hz, hf⟩ := ob hf
      refine pk_cVI (As := [.int z66]) (rest := []) S hK hST hW (c_X0_leave (hI.row hbz39) z66 hz) mc_X0_leave wd_115 wd_116 wd_117 rfl np_X0_leave (hI.mem _ (by have := hbz39; omega)) (hI.rowH hbz39) rfl rfl hl.1 rfl (Nat.le_of_ble_eq_true rfl) dX3_undo_56 ⟨by decide, by decide⟩ ⟨by decide, by decide⟩ (fun r L72 F73 H74 l75 hp hW => ?_)
      obtain ⟨rfl, rfl, hI1, hFr1⟩ := hp
      have hFr := hFr.tr (FrA.row hbz39 hFr1)
      have hI := hI.setRow hbz39 hI1 hFr1
      obtain ⟨t76, et76, hf⟩ := nm_ok hf
      have hI := eqm (P := fun w => CI κ A w L F73) hI et76.symm
      refine lv_pop S.1 S.2.1 dX3_undo_59 rfl ?_
      refine lv_goto (tgt := 86) S.1 S.2.1 dX3_undo_60 (by decide) ?_
      exact B86  t76 z28.1 z34 hf F73 hI hFr _ _ _ hW (lv_sub hl [3, 2, 1] rfl)
  · have hf := (if_neg c22).symm.trans hf
    refine lv_bipush (v := (-9)) S.1 S.2.1 dX3_undo_10 (by decide) ?_
    exact pk_iret S hr hlk hW ⟨rfl, eqm (P := fun z => z.1 = (-9) ∧ CI κ A z.2 L F ∧ FrA A F F) ⟨rfl, hI, hFr⟩ (Option.some.inj hf)⟩ (by decide) (by decide) dX3_undo_12
def f_X3_needKindOf_10   (u0 : Int32) (u1 : Int32) : Option (Nat ⊕ Unit) := obx (f_X3_needWithin u0 u1 9) fun z1 => some (.inr ())
def f_X3_needKindOf (x1 : Int32) (x2 : Int32) : Option (Nat ⊕ Unit) := (if x1 = 0 then f_X3_needKindOf_10 x2 1 else f_X3_needKindOf_10 x2 0)
theorem mc_X3_needKindOf : MCode yX3_needKindOf cX3_needKindOf 2 none := ⟨wd_540, wd_1, by decide, by decide⟩
theorem np_X3_needKindOf : (parseMethodDescriptor yX3_needKindOf.desc).map (fun d => d.parameters.length) = some 2 := by decide +kernel
set_option maxHeartbeats 4000000 in
set_option maxRecDepth 100000 in
theorem c_X3_needKindOf {l : Launch} {D : va_G} {κ : Nat → ClassId} {ζ : Nat → Nat} {L : List Nat} {F : Nat → va_E} (hst : l.stackTraces = false) (x1 : Int32) (x2 : Int32) {res : (Nat ⊕ Unit)} (hf : f_X3_needKindOf x1 x2 = some res) : MxV l D cls (ty5 κ) ζ yX3_needKindOf cX3_needKindOf 2 none 8 1 6 ([.int x1, .int x2] : List Value) L F (fun L' F' => L = L' ∧ F = F' ∧ ∃ z, res = .inr z) (fun E => ∃ k, res = .inl k ∧ E = xName k) := by
  refine MxV.of (by decide) (Nat.le_of_ble_eq_true rfl) ?_
  intro p e s m below meth c S hr hlk hxt hK hW hST ls hl
  have hl : lv_has ls 2 [(0, .int x1), (1, .int x2)] := hl
  have B10 : ∀   (u0 : Int32) (u1 : Int32), f_X3_needKindOf_10 u0 u1 = some res → ∀ (H10 : Heap) (l10 : List Loc) (ls : Array Slot), HW D cls L s H10 l10 L F → lv_has ls 2 [] → W p l e (Rm 8 1 6) s m ([.int x1, .int x2] : List Value).toArray below meth c H10 l10 0 0 (ExV D cls s below ([.int x1, .int x2] : List Value).toArray 1 6 L F (fun L' F' => L = L' ∧ F = F' ∧ ∃ z, res = .inr z) (fun E => ∃ k, res = .inl k ∧ E = xName k)) (F0 m 10 ls [.int u1, .int u0]) := by
    intro u0 u1 hf H10 l10 ls hW hl
    unfold f_X3_needKindOf_10 at hf
    refine lv_bipush (v := 9) S.1 S.2.1 dX3_needKindOf_10 (by decide) ?_
    obtain ⟨z1, hz, hxl, hxr⟩ := obx_ok hf
    refine xk_cSV (As := [.int u0, .int u1, .int 9]) (rest := []) S hK hST hW (c_X3_needWithin hst  u0 u1 9 hz) mc_X3_needWithin wd_416 wd_417 np_X3_needWithin rfl hl.1 rfl (Nat.le_of_ble_eq_true rfl) dX3_needKindOf_12 ⟨by decide, by decide⟩ ⟨by decide, by decide⟩ (fun E ce q9 H4 l5 hE hW h1 h2 h3 => ?_) (fun L2 F3 H4 l5 hp hW => ?_)
    · obtain ⟨k, hk1, hk2⟩ := hE
      exact xk_outV hxt hlk hW ⟨k, hxl k hk1, hk2⟩ h1 h2 h3 (by decide) (by decide)
    obtain ⟨rfl, rfl, z1, hz1⟩ := hp
    have hf := hxr z1 hz1
    exact xk_vret S hr hlk hW ⟨rfl, rfl, (), (Option.some.inj hf).symm⟩ (by decide) (by decide) dX3_needKindOf_15
  unfold f_X3_needKindOf at hf
  refine lv_iload_n S.1 S.2.1 dX3_needKindOf_0 rfl (lv_at hl 1 rfl) ?_
  refine lv_iload_n S.1 S.2.1 dX3_needKindOf_1 rfl (lv_at hl 0 rfl) ?_
  refine lv_if_ne (tgt := 9) S.1 S.2.1 dX3_needKindOf_2 (by decide) (fun c6 => ?_) (fun c6 => ?_)
  · have hf := (if_neg c6).symm.trans hf
    refine lv_iconst (v := 0) S.1 S.2.1 dX3_needKindOf_9 (by decide) ?_
    exact B10  x2 0 hf  _ _ _ hW (lv_sub hl [] rfl)
  · have hf := (if_pos c6).symm.trans hf
    refine lv_iconst (v := 1) S.1 S.2.1 dX3_needKindOf_5 (by decide) ?_
    refine lv_goto (tgt := 10) S.1 S.2.1 dX3_needKindOf_6 (by decide) ?_
    exact B10  x2 1 hf  _ _ _ hW (lv_sub hl [] rfl)
def f_X3_tearFor (σ : CS) (x1 : Int32) : Option CS := (f_X0_empty (cap 2) (σ.1 2)).bind fun z1 => nm ((va_up σ.1 2 z1, σ.2) : CS) fun t6 => (f_X3_disturb t6 x1).bind fun z7 => some z7
theorem mc_X3_tearFor : MCode yX3_tearFor cX3_tearFor 2 none := ⟨wd_189, wd_1, by decide, by decide⟩
theorem np_X3_tearFor : (parseMethodDescriptor yX3_tearFor.desc).map (fun d => d.parameters.length) = some 1 := by decide +kernel
set_option maxHeartbeats 4000000 in
set_option maxRecDepth 100000 in
theorem c_X3_tearFor {l : Launch} {D : va_G} {κ : Nat → ClassId} {ζ : Nat → Nat} {L : List Nat} {F : Nat → va_E} {σ : CS} {A : Nat → Nat} (hI : CI κ A σ L F) (x1 : Int32) {res : CS} (hf : f_X3_tearFor σ x1 = some res) : MtV l D cls (ty5 κ) ζ yX3_tearFor cX3_tearFor 2 none 3 0 0 ([.ref (A 0), .int x1] : List Value) L F (fun L' F' => L = L' ∧ CI κ A res L F' ∧ FrA A F F') := by
  refine MtV.of (by decide) (Nat.le_of_ble_eq_true rfl) ?_
  intro p e s m below meth c S hr hlk _ hK hW hST ls hl
  have hl : lv_has ls 2 [(0, .ref (A 0)), (1, .int x1)] := hl
  have hFr : FrA A F F := FrA.rf
  unfold f_X3_tearFor at hf
  refine lv_aload_n S.1 S.2.1 dX3_tearFor_0 rfl (lv_at hl 0 rfl) ?_
  refine pk_get S hK hW 2 (hI.mem 0 (by decide)) hI.this rfl hinX3 (by decide) wd_82 rfl dX3_tearFor_1 ?_
  obtain ⟨z1, hz, hf⟩ := ob hf
  refine pk_cVV (As := []) (rest := []) S hK hST hW (c_X0_empty (hI.row (by decide : 2 < 7))  hz) mc_X0_empty wd_190 wd_191 wd_192 rfl np_X0_empty (hI.mem _ (by have := (by decide : 2 < 7); omega)) (hI.rowH (by decide : 2 < 7)) rfl rfl hl.1 rfl (Nat.le_of_ble_eq_true rfl) dX3_tearFor_4 ⟨by decide, by decide⟩ ⟨by decide, by decide⟩ (fun L2 F3 H4 l5 hp hW => ?_)
  obtain ⟨rfl, hI1, hFr1⟩ := hp
  have hFr := hFr.tr (FrA.row (by decide : 2 < 7) hFr1)
  have hI := hI.setRow (by decide : 2 < 7) hI1 hFr1
  obtain ⟨t6, et6, hf⟩ := nm_ok hf
  have hI := eqm (P := fun w => CI κ A w L F3) hI et6.symm
  refine lv_aload_n S.1 S.2.1 dX3_tearFor_7 rfl (lv_at hl 0 rfl) ?_
  refine lv_iload_n S.1 S.2.1 dX3_tearFor_8 rfl (lv_at hl 1 rfl) ?_
  obtain ⟨z7, hz, hf⟩ := ob hf
  refine pk_cVV (As := [.int x1]) (rest := []) S hK hST hW (c_X3_disturb hI x1 hz) mc_X3_disturb wd_155 wd_157 wd_1665 rfl np_X3_disturb (hI.mem 0 (by decide)) hI.this rfl rfl hl.1 rfl (Nat.le_of_ble_eq_true rfl) dX3_tearFor_9 ⟨by decide, by decide⟩ ⟨by decide, by decide⟩ (fun L8 F9 H10 l11 hp hW => ?_)
  obtain ⟨rfl, hI1, hFr1⟩ := hp
  have hI := hI1
  have hFr := hFr.tr hFr1
  exact pk_vret S hr hlk hW ⟨rfl, eqm (P := fun z => CI κ A z L F9) hI (Option.some.inj hf), hFr⟩ (by decide) (by decide) dX3_tearFor_12
def f_X3_drop (σ : CS) (x1 : Int32) (x2 : Int32) (x3 : Int32) : Option (Nat ⊕ (Int32 × CS)) := obx (f_X3_needTrack x1) fun z1 => obx (f_X3_needKindOf x1 x2) fun z6 => (f_X3_trackOf σ x1).bind fun z11 => (f_X0_placeOfKind (cap z11) (σ.1 z11) x2 x3).bind fun z16 => (if z16 = ((-1)) then some (.inr (0, σ)) else (f_X0_leave (cap z11) (σ.1 z11) z16).bind fun z22 => nm ((va_up σ.1 z11 z22.2, σ.2) : CS) fun t27 => (f_X3_tearFor t27 x1).bind fun z28 => some (.inr (1, z28)))
theorem mc_X3_drop : MCode yX3_drop cX3_drop 6 (some .boolean) := ⟨wd_537, wd_1, by decide, by decide⟩
theorem np_X3_drop : (parseMethodDescriptor yX3_drop.desc).map (fun d => d.parameters.length) = some 3 := by decide +kernel
set_option maxHeartbeats 4000000 in
set_option maxRecDepth 100000 in
theorem c_X3_drop {l : Launch} {D : va_G} {κ : Nat → ClassId} {ζ : Nat → Nat} {L : List Nat} {F : Nat → va_E} {σ : CS} {A : Nat → Nat} (hst : l.stackTraces = false) (hI : CI κ A σ L F) (x1 : Int32) (x2 : Int32) (x3 : Int32) {res : (Nat ⊕ (Int32 × CS))} (hf : f_X3_drop σ x1 x2 x3 = some res) : MxI l D cls (ty5 κ) ζ yX3_drop cX3_drop 6 (some .boolean) 9 2 12 ([.ref (A 0), .int x1, .int x2, .int x3] : List Value) L F (fun r L' F' => L = L' ∧ ∃ z, res = .inr z ∧ z.1 = r ∧ CI κ A z.2 L F' ∧ FrA A F F') (fun E => ∃ k, res = .inl k ∧ E = xName k) := by
  refine MxI.of (by decide) (Nat.le_of_ble_eq_true rfl) ?_
  intro p e s m below meth c S hr hlk hxt hK hW hST ls hl
  have hl : lv_has ls 6 [(0, .ref (A 0)), (1, .int x1), (2, .int x2), (3, .int x3)] := hl
  have hFr : FrA A F F := FrA.rf
  unfold f_X3_drop at hf
  refine lv_iload_n S.1 S.2.1 dX3_drop_0 rfl (lv_at hl 1 rfl) ?_
  obtain ⟨z1, hz, hxl, hxr⟩ := obx_ok hf
  refine xk_cSV (As := [.int x1]) (rest := []) S hK hST hW (c_X3_needTrack hst  x1 hz) mc_X3_needTrack wd_359 wd_360 np_X3_needTrack rfl hl.1 rfl (Nat.le_of_ble_eq_true rfl) dX3_drop_1 ⟨by decide, by decide⟩ ⟨by decide, by decide⟩ (fun E ce q9 H4 l5 hE hW h1 h2 h3 => ?_) (fun L2 F3 H4 l5 hp hW => ?_)
  · obtain ⟨k, hk1, hk2⟩ := hE
    exact xk_outI hxt hlk hW ⟨k, hxl k hk1, hk2⟩ h1 h2 h3 (by decide) (by decide)
  obtain ⟨rfl, rfl, z1, hz1⟩ := hp
  have hf := hxr z1 hz1
  refine lv_iload_n S.1 S.2.1 dX3_drop_4 rfl (lv_at hl 1 rfl) ?_
  refine lv_iload_n S.1 S.2.1 dX3_drop_5 rfl (lv_at hl 2 rfl) ?_
  obtain ⟨z1, hz, hxl, hxr⟩ := obx_ok hf
  refine xk_cSV (As := [.int x1, .int x2]) (rest := []) S hK hST hW (c_X3_needKindOf hst  x1 x2 hz) mc_X3_needKindOf wd_538 wd_539 np_X3_needKindOf rfl hl.1 rfl (Nat.le_of_ble_eq_true rfl) dX3_drop_6 ⟨by decide, by decide⟩ ⟨by decide, by decide⟩ (fun E ce q9 H9 l10 hE hW h1 h2 h3 => ?_) (fun L7 F8 H9 l10 hp hW => ?_)
  · obtain ⟨k, hk1, hk2⟩ := hE
    exact xk_outI hxt hlk hW ⟨k, hxl k hk1, hk2⟩ h1 h2 h3 (by decide) (by decide)
  obtain ⟨rfl, rfl, z6, hz1⟩ := hp
  have hf := hxr z6 hz1
  refine lv_aload_n S.1 S.2.1 dX3_drop_9 rfl (lv_at hl 0 rfl) ?_
  refine lv_iload_n S.1 S.2.1 dX3_drop_10 rfl (lv_at hl 1 rfl) ?_
  obtain ⟨z11, hz, hf⟩ := ob hf
  refine pk_cVR (As := [.int x1]) (rest := []) S hK hST hW (c_X3_trackOf hI x1 hz) mc_X3_trackOf wd_130 wd_132 wd_1664 rfl np_X3_trackOf (hI.mem 0 (by decide)) hI.this rfl rfl hl.1 rfl (Nat.le_of_ble_eq_true rfl) dX3_drop_11 ⟨by decide, by decide⟩ ⟨by decide, by decide⟩ (fun r L12 F13 H14 l15 hp hW => ?_)
  obtain ⟨rfl, rfl, hbz11, rfl⟩ := hp
  refine lv_astore (lv' := [(4, .ref (A (1 + 2 * z11))), (0, .ref (A 0)), (1, .int x1), (2, .int x2), (3, .int x3)]) S.1 S.2.1 dX3_drop_14 hl (by decide) rfl (fun ls hl => ?_)
  refine lv_aload S.1 S.2.1 dX3_drop_16 (lv_at hl 0 rfl) ?_
  refine lv_iload_n S.1 S.2.1 dX3_drop_18 rfl (lv_at hl 3 rfl) ?_
  refine lv_iload_n S.1 S.2.1 dX3_drop_19 rfl (lv_at hl 4 rfl) ?_
  obtain ⟨z16, hz, hf⟩ := ob hf
  refine pk_cVI (As := [.int x2, .int x3]) (rest := []) S hK hST hW (c_X0_placeOfKind (hI.row hbz11) x2 x3 hz) mc_X0_placeOfKind wd_178 wd_179 wd_180 rfl np_X0_placeOfKind (hI.mem _ (by have := hbz11; omega)) (hI.rowH hbz11) rfl rfl hl.1 rfl (Nat.le_of_ble_eq_true rfl) dX3_drop_20 ⟨by decide, by decide⟩ ⟨by decide, by decide⟩ (fun r L17 F18 H19 l20 hp hW => ?_)
  obtain ⟨rfl, rfl, rfl⟩ := hp
  refine lv_istore (lv' := [(5, .int z16), (4, .ref (A (1 + 2 * z11))), (0, .ref (A 0)), (1, .int x1), (2, .int x2), (3, .int x3)]) S.1 S.2.1 dX3_drop_23 hl (by decide) rfl (fun ls hl => ?_)
  refine lv_iload S.1 S.2.1 dX3_drop_25 (lv_at hl 0 rfl) ?_
  refine lv_iconst (v := (-1)) S.1 S.2.1 dX3_drop_27 (by decide) ?_
  refine lv_icmp_ne (tgt := 33) S.1 S.2.1 dX3_drop_28 (by decide) (fun c21 => ?_) (fun c21 => ?_)
  · have hf := (if_neg c21).symm.trans hf
    refine lv_aload S.1 S.2.1 dX3_drop_33 (lv_at hl 1 rfl) ?_
    refine lv_iload S.1 S.2.1 dX3_drop_35 (lv_at hl 0 rfl) ?_
    obtain ⟨z22, hz, hf⟩ := ob hf
    refine pk_cVI (As := [.int z16]) (rest := []) S hK hST hW (c_X0_leave (hI.row hbz11) z16 hz) mc_X0_leave wd_115 wd_116 wd_117 rfl np_X0_leave (hI.mem _ (by have := hbz11; omega)) (hI.rowH hbz11) rfl rfl hl.1 rfl (Nat.le_of_ble_eq_true rfl) dX3_drop_37 ⟨by decide, by decide⟩ ⟨by decide, by decide⟩ (fun r L23 F24 H25 l26 hp hW => ?_)
    obtain ⟨rfl, rfl, hI1, hFr1⟩ := hp
    have hFr := hFr.tr (FrA.row hbz11 hFr1)
    have hI := hI.setRow hbz11 hI1 hFr1
    obtain ⟨t27, et27, hf⟩ := nm_ok hf
    have hI := eqm (P := fun w => CI κ A w L F24) hI et27.symm
    refine lv_pop S.1 S.2.1 dX3_drop_40 rfl ?_
    refine lv_aload_n S.1 S.2.1 dX3_drop_41 rfl (lv_at hl 2 rfl) ?_
    refine lv_iload_n S.1 S.2.1 dX3_drop_42 rfl (lv_at hl 3 rfl) ?_
    obtain ⟨z28, hz, hf⟩ := ob hf
    refine pk_cVV (As := [.int x1]) (rest := []) S hK hST hW (c_X3_tearFor hI x1 hz) mc_X3_tearFor wd_186 wd_188 wd_1667 rfl np_X3_tearFor (hI.mem 0 (by decide)) hI.this rfl rfl hl.1 rfl (Nat.le_of_ble_eq_true rfl) dX3_drop_43 ⟨by decide, by decide⟩ ⟨by decide, by decide⟩ (fun L29 F30 H31 l32 hp hW => ?_)
    obtain ⟨rfl, hI1, hFr1⟩ := hp
    have hI := hI1
    have hFr := hFr.tr hFr1
    refine lv_iconst (v := 1) S.1 S.2.1 dX3_drop_46 (by decide) ?_
    exact xk_zret S hr hlk hW (by decide) ⟨rfl, _, (Option.some.inj hf).symm, rfl, hI, hFr⟩ (by decide) (by decide) dX3_drop_47
  · have hf := (if_pos c21).symm.trans hf
    refine lv_iconst (v := 0) S.1 S.2.1 dX3_drop_31 (by decide) ?_
    exact xk_zret S hr hlk hW (by decide) ⟨rfl, _, (Option.some.inj hf).symm, rfl, hI, hFr⟩ (by decide) (by decide) dX3_drop_32
def f_X3_tearIfAny (σ : CS) (x1 : Int32) (x2 : Int32) : Option CS := (if x2 ≤ 0 then some σ else (f_X3_tearFor σ x1).bind fun z2 => some z2)
theorem mc_X3_tearIfAny : MCode yX3_tearIfAny cX3_tearIfAny 3 none := ⟨wd_185, wd_1, by decide, by decide⟩
theorem np_X3_tearIfAny : (parseMethodDescriptor yX3_tearIfAny.desc).map (fun d => d.parameters.length) = some 2 := by decide +kernel
set_option maxHeartbeats 4000000 in
set_option maxRecDepth 100000 in
theorem c_X3_tearIfAny {l : Launch} {D : va_G} {κ : Nat → ClassId} {ζ : Nat → Nat} {L : List Nat} {F : Nat → va_E} {σ : CS} {A : Nat → Nat} (hI : CI κ A σ L F) (x1 : Int32) (x2 : Int32) {res : CS} (hf : f_X3_tearIfAny σ x1 x2 = some res) : MtV l D cls (ty5 κ) ζ yX3_tearIfAny cX3_tearIfAny 3 none 4 0 0 ([.ref (A 0), .int x1, .int x2] : List Value) L F (fun L' F' => L = L' ∧ CI κ A res L F' ∧ FrA A F F') := by
  refine MtV.of (by decide) (Nat.le_of_ble_eq_true rfl) ?_
  intro p e s m below meth c S hr hlk _ hK hW hST ls hl
  have hl : lv_has ls 3 [(0, .ref (A 0)), (1, .int x1), (2, .int x2)] := hl
  have hFr : FrA A F F := FrA.rf
  unfold f_X3_tearIfAny at hf
  refine lv_iload_n S.1 S.2.1 dX3_tearIfAny_0 rfl (lv_at hl 2 rfl) ?_
  refine lv_if_le (tgt := 9) S.1 S.2.1 dX3_tearIfAny_1 (by decide) (fun c1 => ?_) (fun c1 => ?_)
  · have hf := (if_pos c1).symm.trans hf
    exact pk_vret S hr hlk hW ⟨rfl, eqm (P := fun z => CI κ A z L F) hI (Option.some.inj hf), hFr⟩ (by decide) (by decide) dX3_tearIfAny_9
  · have hf := (if_neg c1).symm.trans hf
    refine lv_aload_n S.1 S.2.1 dX3_tearIfAny_4 rfl (lv_at hl 0 rfl) ?_
    refine lv_iload_n S.1 S.2.1 dX3_tearIfAny_5 rfl (lv_at hl 1 rfl) ?_
    obtain ⟨z2, hz, hf⟩ := ob hf
    refine pk_cVV (As := [.int x1]) (rest := []) S hK hST hW (c_X3_tearFor hI x1 hz) mc_X3_tearFor wd_186 wd_188 wd_1667 rfl np_X3_tearFor (hI.mem 0 (by decide)) hI.this rfl rfl hl.1 rfl (Nat.le_of_ble_eq_true rfl) dX3_tearIfAny_6 ⟨by decide, by decide⟩ ⟨by decide, by decide⟩ (fun L3 F4 H5 l6 hp hW => ?_)
    obtain ⟨rfl, hI1, hFr1⟩ := hp
    have hI := hI1
    have hFr := hFr.tr hFr1
    exact pk_vret S hr hlk hW ⟨rfl, eqm (P := fun z => CI κ A z L F4) hI (Option.some.inj hf), hFr⟩ (by decide) (by decide) dX3_tearIfAny_9
def f_X3_dropAll_64  (k27 : (CS × Int32 × Int32 × Nat × Int32 × Int32 × Int32) → Option (Nat ⊕ (Int32 × CS))) (w64 : CS) (v1 : Int32) (v2 : Int32) (v3 : Nat) (v4 : Int32) (v5 : Int32) (v6 : Int32) : Option (Nat ⊕ (Int32 × CS)) := nm (v6 + 1 : Int32) fun y1 => k27 (w64, v1, v2, v3, v4, v5, y1)
def f_X3_dropAll_27   (k27 : CS × Int32 × Int32 × Nat × Int32 × Int32 × Int32 → Option (Nat ⊕ (Int32 × CS))) (t : CS × Int32 × Int32 × Nat × Int32 × Int32 × Int32) : Option (Nat ⊕ (Int32 × CS)) := (if t.2.2.2.2.1 ≤ t.2.2.2.2.2.2 then (f_X3_tearIfAny t.1 t.2.1 t.2.2.2.2.2.1).bind fun z3 => some (.inr (t.2.2.2.2.2.1, z3)) else nm (t.2.2.2.2.2.2 - t.2.2.2.2.2.1 : Int32) fun y8 => (f_X0_read (cap t.2.2.2.1) (t.1.1 t.2.2.2.1) y8).bind fun z9 => (f_X3_kindOf z9).bind fun z14 => (if z14 = t.2.2.1 then (f_X0_leave (cap t.2.2.2.1) (t.1.1 t.2.2.2.1) y8).bind fun z20 => nm ((va_up t.1.1 t.2.2.2.1 z20.2, t.1.2) : CS) fun t25 => nm (t.2.2.2.2.2.1 + 1 : Int32) fun y26 => f_X3_dropAll_64 k27 t25 t.2.1 t.2.2.1 t.2.2.2.1 t.2.2.2.2.1 y26 t.2.2.2.2.2.2 else f_X3_dropAll_64 k27 t.1 t.2.1 t.2.2.1 t.2.2.2.1 t.2.2.2.2.1 t.2.2.2.2.2.1 t.2.2.2.2.2.2))
def f_X3_dropAll (σ : CS) (x1 : Int32) (x2 : Int32) : Option (Nat ⊕ (Int32 × CS)) := obx (f_X3_needTrack x1) fun z27 => obx (f_X3_needKindOf x1 x2) fun z32 => (f_X3_trackOf σ x1).bind fun z37 => (f_X0_size (cap z37) (σ.1 z37)).bind fun z42 => lpn (f_X3_dropAll_27 ) 64 (σ, x1, x2, z37, z42, 0, 0)
theorem mc_X3_dropAll : MCode yX3_dropAll cX3_dropAll 8 (some .int) := ⟨wd_546, wd_1, by decide, by decide⟩
theorem np_X3_dropAll : (parseMethodDescriptor yX3_dropAll.desc).map (fun d => d.parameters.length) = some 2 := by decide +kernel
set_option maxHeartbeats 4000000 in
set_option maxRecDepth 100000 in
theorem c_X3_dropAll {l : Launch} {D : va_G} {κ : Nat → ClassId} {ζ : Nat → Nat} {L : List Nat} {F : Nat → va_E} {σ : CS} {A : Nat → Nat} (hst : l.stackTraces = false) (hI : CI κ A σ L F) (x1 : Int32) (x2 : Int32) {res : (Nat ⊕ (Int32 × CS))} (hf : f_X3_dropAll σ x1 x2 = some res) : MxI l D cls (ty5 κ) ζ yX3_dropAll cX3_dropAll 8 (some .int) 9 2 12 ([.ref (A 0), .int x1, .int x2] : List Value) L F (fun r L' F' => L = L' ∧ ∃ z, res = .inr z ∧ z.1 = r ∧ CI κ A z.2 L F' ∧ FrA A F F') (fun E => ∃ k, res = .inl k ∧ E = xName k) := by
  refine MxI.of (by decide) (Nat.le_of_ble_eq_true rfl) ?_
  intro p e s m below meth c S hr hlk hxt hK hW hST ls hl
  have hl : lv_has ls 8 [(0, .ref (A 0)), (1, .int x1), (2, .int x2)] := hl
  have hFr : FrA A F F := FrA.rf
  have B64 : ∀ (k27 : (CS × Int32 × Int32 × Nat × Int32 × Int32 × Int32) → Option (Nat ⊕ (Int32 × CS))) (hk27 : (∀ (w27 : CS) (v1 : Int32) (v2 : Int32) (v3 : Nat) (v4 : Int32) (v5 : Int32) (v6 : Int32), k27 (w27, v1, v2, v3, v4, v5, v6) = some res → ∀ (G27 : Nat → va_E), v3 < 7 → CI κ A w27 L G27 → FrA A F G27 → ∀ (H27 : Heap) (l27 : List Loc) (ls : Array Slot), HW D cls L s H27 l27 L G27 → lv_has ls 8 [(0, .ref (A 0)), (1, .int v1), (2, .int v2), (3, .ref (A (1 + 2 * v3))), (4, .int v4), (5, .int v5), (6, .int v6)] → W p l e (Rm 9 2 12) s m ([.ref (A 0), .int x1, .int x2] : List Value).toArray below meth c H27 l27 2 12 (ExI D cls s below ([.ref (A 0), .int x1, .int x2] : List Value).toArray 2 12 L F (fun r L' F' => L = L' ∧ ∃ z, res = .inr z ∧ z.1 = r ∧ CI κ A z.2 L F' ∧ FrA A F F') (fun E => ∃ k, res = .inl k ∧ E = xName k)) (F0 m 27 ls []))) (w64 : CS) (v1 : Int32) (v2 : Int32) (v3 : Nat) (v4 : Int32) (v5 : Int32) (v6 : Int32), f_X3_dropAll_64 k27 w64 v1 v2 v3 v4 v5 v6 = some res → ∀ (G64 : Nat → va_E), v3 < 7 → CI κ A w64 L G64 → FrA A F G64 → ∀ (H64 : Heap) (l64 : List Loc) (ls : Array Slot), HW D cls L s H64 l64 L G64 → lv_has ls 8 [(0, .ref (A 0)), (1, .int v1), (2, .int v2), (3, .ref (A (1 + 2 * v3))), (4, .int v4), (5, .int v5), (6, .int v6)] → W p l e (Rm 9 2 12) s m ([.ref (A 0), .int x1, .int x2] : List Value).toArray below meth c H64 l64 2 12 (ExI D cls s below ([.ref (A 0), .int x1, .int x2] : List Value).toArray 2 12 L F (fun r L' F' => L = L' ∧ ∃ z, res = .inr z ∧ z.1 = r ∧ CI κ A z.2 L F' ∧ FrA A F F') (fun E => ∃ k, res = .inl k ∧ E = xName k)) (F0 m 64 ls []) := by
    intro k27 hk27 w64 v1 v2 v3 v4 v5 v6 hf G64 hv3 hI hFr H64 l64 ls hW hl
    unfold f_X3_dropAll_64 at hf
    obtain ⟨y1, ey1⟩ : ∃ y : Int32, y = v6 + 1 := ⟨_, rfl⟩
    have hf := nm_at hf ey1
    refine lv_iinc (v := y1) (lv' := [(6, .int y1), (0, .ref (A 0)), (1, .int v1), (2, .int v2), (3, .ref (A (1 + 2 * v3))), (4, .int v4), (5, .int v5)]) S.1 S.2.1 dX3_dropAll_64 hl (k := 6) rfl (by rw [ey1]; rfl) (by decide) rfl (fun ls hl => ?_)
    refine lv_goto (tgt := 27) S.1 S.2.1 dX3_dropAll_67 (by decide) ?_
    exact hk27 w64 v1 v2 v3 v4 v5 y1 hf G64 hv3 hI hFr _ _ _ hW (lv_sub hl [1, 2, 3, 4, 5, 6, 0] rfl)
  have B27 : ∀ (N : Nat), (∀ (w27 : CS) (v1 : Int32) (v2 : Int32) (v3 : Nat) (v4 : Int32) (v5 : Int32) (v6 : Int32), (lpn (f_X3_dropAll_27 ) N) (w27, v1, v2, v3, v4, v5, v6) = some res → ∀ (G27 : Nat → va_E), v3 < 7 → CI κ A w27 L G27 → FrA A F G27 → ∀ (H27 : Heap) (l27 : List Loc) (ls : Array Slot), HW D cls L s H27 l27 L G27 → lv_has ls 8 [(0, .ref (A 0)), (1, .int v1), (2, .int v2), (3, .ref (A (1 + 2 * v3))), (4, .int v4), (5, .int v5), (6, .int v6)] → W p l e (Rm 9 2 12) s m ([.ref (A 0), .int x1, .int x2] : List Value).toArray below meth c H27 l27 2 12 (ExI D cls s below ([.ref (A 0), .int x1, .int x2] : List Value).toArray 2 12 L F (fun r L' F' => L = L' ∧ ∃ z, res = .inr z ∧ z.1 = r ∧ CI κ A z.2 L F' ∧ FrA A F F') (fun E => ∃ k, res = .inl k ∧ E = xName k)) (F0 m 27 ls [])) := by
    intro  N
    induction N with
    | zero => intro w27 v1 v2 v3 v4 v5 v6 hf G27 hv3 hI hFr H27 l27 ls hW hl; cases hf
    | succ N ih =>
      intro w27 v1 v2 v3 v4 v5 v6 hf G27 hv3 hI hFr H27 l27 ls hW hl
      have hf : f_X3_dropAll_27 (lpn (f_X3_dropAll_27 ) N) (w27, v1, v2, v3, v4, v5, v6) = some res := hf
      generalize lpn (f_X3_dropAll_27 ) N = k27 at hf ih
      have hk27 := ih
      unfold f_X3_dropAll_27 at hf
      try dsimp only at hf
      refine lv_iload S.1 S.2.1 dX3_dropAll_27 (lv_at hl 6 rfl) ?_
      refine lv_iload S.1 S.2.1 dX3_dropAll_29 (lv_at hl 4 rfl) ?_
      refine lv_icmp_ge (tgt := 70) S.1 S.2.1 dX3_dropAll_31 (by decide) (fun c2 => ?_) (fun c2 => ?_)
      · have hf := (if_pos c2).symm.trans hf
        refine lv_aload_n S.1 S.2.1 dX3_dropAll_70 rfl (lv_at hl 0 rfl) ?_
        refine lv_iload_n S.1 S.2.1 dX3_dropAll_71 rfl (lv_at hl 1 rfl) ?_
        refine lv_iload S.1 S.2.1 dX3_dropAll_72 (lv_at hl 5 rfl) ?_
        obtain ⟨z3, hz, hf⟩ := ob hf
        refine pk_cVV (As := [.int v1, .int v5]) (rest := []) S hK hST hW (c_X3_tearIfAny hI v1 v5 hz) mc_X3_tearIfAny wd_182 wd_184 wd_1666 rfl np_X3_tearIfAny (hI.mem 0 (by decide)) hI.this rfl rfl hl.1 rfl (Nat.le_of_ble_eq_true rfl) dX3_dropAll_74 ⟨by decide, by decide⟩ ⟨by decide, by decide⟩ (fun L4 F5 H6 l7 hp hW => ?_)
        obtain ⟨rfl, hI1, hFr1⟩ := hp
        have hI := hI1
        have hFr := hFr.tr hFr1
        refine lv_iload S.1 S.2.1 dX3_dropAll_77 (lv_at hl 5 rfl) ?_
        exact xk_iret S hr hlk hW ⟨rfl, _, (Option.some.inj hf).symm, rfl, hI, hFr⟩ (by decide) (by decide) dX3_dropAll_79
      · have hf := (if_neg c2).symm.trans hf
        refine lv_iload S.1 S.2.1 dX3_dropAll_34 (lv_at hl 6 rfl) ?_
        refine lv_iload S.1 S.2.1 dX3_dropAll_36 (lv_at hl 5 rfl) ?_
        refine lv_isub S.1 S.2.1 dX3_dropAll_38 ?_
        refine lv_topi (fun y8 ey8 => ?_)
        have hf := nm_at hf ey8
        refine lv_istore (lv' := [(7, .int y8), (0, .ref (A 0)), (1, .int v1), (2, .int v2), (3, .ref (A (1 + 2 * v3))), (4, .int v4), (5, .int v5), (6, .int v6)]) S.1 S.2.1 dX3_dropAll_39 hl (by decide) rfl (fun ls hl => ?_)
        refine lv_aload_n S.1 S.2.1 dX3_dropAll_41 rfl (lv_at hl 4 rfl) ?_
        refine lv_iload S.1 S.2.1 dX3_dropAll_42 (lv_at hl 0 rfl) ?_
        obtain ⟨z9, hz, hf⟩ := ob hf
        refine pk_cVI (As := [.int y8]) (rest := []) S hK hST hW (c_X0_read (hI.row hv3) y8 hz) mc_X0_read wd_171 wd_120 wd_121 rfl np_X0_read (hI.mem _ (by have := hv3; omega)) (hI.rowH hv3) rfl rfl hl.1 rfl (Nat.le_of_ble_eq_true rfl) dX3_dropAll_44 ⟨by decide, by decide⟩ ⟨by decide, by decide⟩ (fun r L10 F11 H12 l13 hp hW => ?_)
        obtain ⟨rfl, rfl, rfl⟩ := hp
        obtain ⟨z14, hz, hf⟩ := ob hf
        refine pk_cSI (As := [.int z9]) (rest := []) S hK hST hW (c_X3_kindOf  z9 hz) mc_X3_kindOf wd_175 wd_176 np_X3_kindOf rfl hl.1 rfl (Nat.le_of_ble_eq_true rfl) dX3_dropAll_47 ⟨by decide, by decide⟩ ⟨by decide, by decide⟩ (fun r L15 F16 H17 l18 hp hW => ?_)
        obtain ⟨rfl, rfl, rfl⟩ := hp
        refine lv_iload_n S.1 S.2.1 dX3_dropAll_50 rfl (lv_at hl 3 rfl) ?_
        refine lv_icmp_ne (tgt := 64) S.1 S.2.1 dX3_dropAll_51 (by decide) (fun c19 => ?_) (fun c19 => ?_)
        · have hf := (if_neg c19).symm.trans hf
          exact B64 k27 hk27 w27 v1 v2 v3 v4 v5 v6 hf G27 hv3 hI hFr _ _ _ hW (lv_sub hl [1, 2, 3, 4, 5, 6, 7] rfl)
        · have hf := (if_pos c19).symm.trans hf
          refine lv_aload_n S.1 S.2.1 dX3_dropAll_54 rfl (lv_at hl 4 rfl) ?_
          refine lv_iload S.1 S.2.1 dX3_dropAll_55 (lv_at hl 0 rfl) ?_
          obtain ⟨z20, hz, hf⟩ := ob hf
          refine pk_cVI (As := [.int y8]) (rest := []) S hK hST hW (c_X0_leave (hI.row hv3) y8 hz) mc_X0_leave wd_115 wd_116 wd_117 rfl np_X0_leave (hI.mem _ (by have := hv3; omega)) (hI.rowH hv3) rfl rfl hl.1 rfl (Nat.le_of_ble_eq_true rfl) dX3_dropAll_57 ⟨by decide, by decide⟩ ⟨by decide, by decide⟩ (fun r L21 F22 H23 l24 hp hW => ?_)
          obtain ⟨rfl, rfl, hI1, hFr1⟩ := hp
          have hFr := hFr.tr (FrA.row hv3 hFr1)
          have hI := hI.setRow hv3 hI1 hFr1
          obtain ⟨t25, et25, hf⟩ := nm_ok hf
          have hI := eqm (P := fun w => CI κ A w L F22) hI et25.symm
          refine lv_pop S.1 S.2.1 dX3_dropAll_60 rfl ?_
          obtain ⟨y26, ey26⟩ : ∃ y : Int32, y = v5 + 1 := ⟨_, rfl⟩
          have hf := nm_at hf ey26
          refine lv_iinc (v := y26) (lv' := [(5, .int y26), (7, .int y8), (0, .ref (A 0)), (1, .int v1), (2, .int v2), (3, .ref (A (1 + 2 * v3))), (4, .int v4), (6, .int v6)]) S.1 S.2.1 dX3_dropAll_61 hl (k := 6) rfl (by rw [ey26]; rfl) (by decide) rfl (fun ls hl => ?_)
          exact B64 k27 hk27 t25 v1 v2 v3 v4 y26 v6 hf F22 hv3 hI hFr _ _ _ hW (lv_sub hl [2, 3, 4, 5, 6, 0, 7] rfl)
  unfold f_X3_dropAll at hf
  refine lv_iload_n S.1 S.2.1 dX3_dropAll_0 rfl (lv_at hl 1 rfl) ?_
  obtain ⟨z1, hz, hxl, hxr⟩ := obx_ok hf
  refine xk_cSV (As := [.int x1]) (rest := []) S hK hST hW (c_X3_needTrack hst  x1 hz) mc_X3_needTrack wd_359 wd_360 np_X3_needTrack rfl hl.1 rfl (Nat.le_of_ble_eq_true rfl) dX3_dropAll_1 ⟨by decide, by decide⟩ ⟨by decide, by decide⟩ (fun E ce q9 H30 l31 hE hW h1 h2 h3 => ?_) (fun L28 F29 H30 l31 hp hW => ?_)
  · obtain ⟨k, hk1, hk2⟩ := hE
    exact xk_outI hxt hlk hW ⟨k, hxl k hk1, hk2⟩ h1 h2 h3 (by decide) (by decide)
  obtain ⟨rfl, rfl, z27, hz1⟩ := hp
  have hf := hxr z27 hz1
  refine lv_iload_n S.1 S.2.1 dX3_dropAll_4 rfl (lv_at hl 1 rfl) ?_
  refine lv_iload_n S.1 S.2.1 dX3_dropAll_5 rfl (lv_at hl 2 rfl) ?_
  obtain ⟨z1, hz, hxl, hxr⟩ := obx_ok hf
  refine xk_cSV (As := [.int x1, .int x2]) (rest := []) S hK hST hW (c_X3_needKindOf hst  x1 x2 hz) mc_X3_needKindOf wd_538 wd_539 np_X3_needKindOf rfl hl.1 rfl (Nat.le_of_ble_eq_true rfl) dX3_dropAll_6 ⟨by decide, by decide⟩ ⟨by decide, by decide⟩ (fun E ce q9 H35 l36 hE hW h1 h2 h3 => ?_) (fun L33 F34 H35 l36 hp hW => ?_)
  · obtain ⟨k, hk1, hk2⟩ := hE
    exact xk_outI hxt hlk hW ⟨k, hxl k hk1, hk2⟩ h1 h2 h3 (by decide) (by decide)
  obtain ⟨rfl, rfl, z32, hz1⟩ := hp
  have hf := hxr z32 hz1
  refine lv_aload_n S.1 S.2.1 dX3_dropAll_9 rfl (lv_at hl 0 rfl) ?_
  refine lv_iload_n S.1 S.2.1 dX3_dropAll_10 rfl (lv_at hl 1 rfl) ?_
  obtain ⟨z37, hz, hf⟩ := ob hf
  refine pk_cVR (As := [.int x1]) (rest := []) S hK hST hW (c_X3_trackOf hI x1 hz) mc_X3_trackOf wd_130 wd_132 wd_1664 rfl np_X3_trackOf (hI.mem 0 (by decide)) hI.this rfl rfl hl.1 rfl (Nat.le_of_ble_eq_true rfl) dX3_dropAll_11 ⟨by decide, by decide⟩ ⟨by decide, by decide⟩ (fun r L38 F39 H40 l41 hp hW => ?_)
  obtain ⟨rfl, rfl, hbz37, rfl⟩ := hp
  refine lv_astore_n (lv' := [(3, .ref (A (1 + 2 * z37))), (0, .ref (A 0)), (1, .int x1), (2, .int x2)]) S.1 S.2.1 dX3_dropAll_14 rfl hl (by decide) rfl (fun ls hl => ?_)
  refine lv_aload_n S.1 S.2.1 dX3_dropAll_15 rfl (lv_at hl 0 rfl) ?_
  obtain ⟨z42, hz, hf⟩ := ob hf
  refine pk_cVI (As := []) (rest := []) S hK hST hW (c_X0_size (hI.row hbz37)  hz) mc_X0_size wd_140 wd_141 wd_142 rfl np_X0_size (hI.mem _ (by have := hbz37; omega)) (hI.rowH hbz37) rfl rfl hl.1 rfl (Nat.le_of_ble_eq_true rfl) dX3_dropAll_16 ⟨by decide, by decide⟩ ⟨by decide, by decide⟩ (fun r L43 F44 H45 l46 hp hW => ?_)
  obtain ⟨rfl, rfl, rfl⟩ := hp
  refine lv_istore (lv' := [(4, .int z42), (3, .ref (A (1 + 2 * z37))), (0, .ref (A 0)), (1, .int x1), (2, .int x2)]) S.1 S.2.1 dX3_dropAll_19 hl (by decide) rfl (fun ls hl => ?_)
  refine lv_iconst (v := 0) S.1 S.2.1 dX3_dropAll_21 (by decide) ?_
  refine lv_istore (lv' := [(5, .int 0), (4, .int z42), (3, .ref (A (1 + 2 * z37))), (0, .ref (A 0)), (1, .int x1), (2, .int x2)]) S.1 S.2.1 dX3_dropAll_22 hl (by decide) rfl (fun ls hl => ?_)
  refine lv_iconst (v := 0) S.1 S.2.1 dX3_dropAll_24 (by decide) ?_
  refine lv_istore (lv' := [(6, .int 0), (5, .int 0), (4, .int z42), (3, .ref (A (1 + 2 * z37))), (0, .ref (A 0)), (1, .int x1), (2, .int x2)]) S.1 S.2.1 dX3_dropAll_25 hl (by decide) rfl (fun ls hl => ?_)
  exact B27  64 σ x1 x2 z37 z42 0 0 hf F hbz37 hI hFr _ _ _ hW (lv_sub hl [4, 5, 6, 3, 2, 1, 0] rfl)
def f_X3_loadOf (x1 : Int32) : Option Int32 := some (jrem x1 100)
theorem mc_X3_loadOf : MCode yX3_loadOf cX3_loadOf 1 (some .int) := ⟨wd_281, wd_1, by decide, by decide⟩
theorem np_X3_loadOf : (parseMethodDescriptor yX3_loadOf.desc).map (fun d => d.parameters.length) = some 1 := by decide +kernel
set_option maxHeartbeats 4000000 in
set_option maxRecDepth 100000 in
theorem c_X3_loadOf {l : Launch} {D : va_G} {κ : Nat → ClassId} {ζ : Nat → Nat} {L : List Nat} {F : Nat → va_E} (x1 : Int32) {res : Int32} (hf : f_X3_loadOf x1 = some res) : MtI l D cls (ty5 κ) ζ yX3_loadOf cX3_loadOf 1 (some .int) 1 0 0 ([.int x1] : List Value) L F (fun r L' F' => L = L' ∧ F = F' ∧ res = r) := by
  refine MtI.of (by decide) (Nat.le_of_ble_eq_true rfl) ?_
  intro p e s m below meth c S hr hlk _ hK hW hST ls hl
  have hl : lv_has ls 1 [(0, .int x1)] := hl
  unfold f_X3_loadOf at hf
  refine lv_iload_n S.1 S.2.1 dX3_loadOf_0 rfl (lv_at hl 0 rfl) ?_
  refine lv_bipush (v := 100) S.1 S.2.1 dX3_loadOf_1 (by decide) ?_
  refine pk_irem S dX3_loadOf_3 (by decide) ?_
  exact pk_iret S hr hlk hW ⟨rfl, rfl, eqm (P := fun z => z = jrem x1 100) rfl (Option.some.inj hf)⟩ (by decide) (by decide) dX3_loadOf_4
def f_X3_shed_119   (w119 : CS) (v1 : Int32) (v7 : Int32) (v8 : Int32) : Option (Nat ⊕ (Int32 × CS)) := (f_X3_tearIfAny w119 v1 v7).bind fun z1 => some (.inr (v8, z1))
def f_X3_shed_113  (k42 : (CS × Int32 × Int32 × Int32 × Int32 × Nat × Int32 × Int32 × Int32 × Int32) → Option (Nat ⊕ (Int32 × CS))) (w113 : CS) (v1 : Int32) (v2 : Int32) (v3 : Int32) (v4 : Int32) (v5 : Nat) (v6 : Int32) (v7 : Int32) (v8 : Int32) (v9 : Int32) : Option (Nat ⊕ (Int32 × CS)) := nm (v9 + 1 : Int32) fun y6 => k42 (w113, v1, v2, v3, v4, v5, v6, v7, v8, y6)
def f_X3_shed_75  (k42 : (CS × Int32 × Int32 × Int32 × Int32 × Nat × Int32 × Int32 × Int32 × Int32) → Option (Nat ⊕ (Int32 × CS))) (w75 : CS) (v1 : Int32) (v2 : Int32) (v3 : Int32) (v4 : Int32) (v5 : Nat) (v6 : Int32) (v7 : Int32) (v8 : Int32) (v9 : Int32) (u0 : Int32) : Option (Nat ⊕ (Int32 × CS)) := (f_X0_read (cap v5) (w75.1 v5) u0).bind fun z7 => (f_X3_loadOf z7).bind fun z12 => (if z12 < v3 then f_X3_shed_113 k42 w75 v1 v2 v3 v4 v5 v6 v7 v8 v9 else (f_X0_leave (cap v5) (w75.1 v5) u0).bind fun z18 => nm ((va_up w75.1 v5 z18.2, w75.2) : CS) fun t23 => nm (v7 + 1 : Int32) fun y24 => nm (v8 + z12 : Int32) fun y25 => f_X3_shed_113 k42 t23 v1 v2 v3 v4 v5 v6 y24 y25 v9)
def f_X3_shed_42   (k42 : CS × Int32 × Int32 × Int32 × Int32 × Nat × Int32 × Int32 × Int32 × Int32 → Option (Nat ⊕ (Int32 × CS))) (t : CS × Int32 × Int32 × Int32 × Int32 × Nat × Int32 × Int32 × Int32 × Int32) : Option (Nat ⊕ (Int32 × CS)) := (if t.2.2.2.2.2.2.1 ≤ t.2.2.2.2.2.2.2.2.2 then f_X3_shed_119 t.1 t.2.1 t.2.2.2.2.2.2.2.1 t.2.2.2.2.2.2.2.2.1 else (if t.2.2.2.2.1 ≤ t.2.2.2.2.2.2.2.1 then f_X3_shed_119 t.1 t.2.1 t.2.2.2.2.2.2.2.1 t.2.2.2.2.2.2.2.2.1 else (if t.2.2.1 = 0 then f_X3_shed_75 k42 t.1 t.2.1 t.2.2.1 t.2.2.2.1 t.2.2.2.2.1 t.2.2.2.2.2.1 t.2.2.2.2.2.2.1 t.2.2.2.2.2.2.2.1 t.2.2.2.2.2.2.2.2.1 t.2.2.2.2.2.2.2.2.2 (t.2.2.2.2.2.2.2.2.2 - t.2.2.2.2.2.2.2.1) else f_X3_shed_75 k42 t.1 t.2.1 t.2.2.1 t.2.2.2.1 t.2.2.2.2.1 t.2.2.2.2.2.1 t.2.2.2.2.2.2.1 t.2.2.2.2.2.2.2.1 t.2.2.2.2.2.2.2.2.1 t.2.2.2.2.2.2.2.2.2 ((t.2.2.2.2.2.2.1 - 1) - t.2.2.2.2.2.2.2.2.2))))
def f_X3_shed (σ : CS) (x1 : Int32) (x2 : Int32) (x3 : Int32) (x4 : Int32) : Option (Nat ⊕ (Int32 × CS)) := obx (f_X3_needTrack x1) fun z29 => obx (f_X3_needWithin x3 0 99) fun z34 => obx (f_X3_needWithin x4 1 20) fun z39 => (f_X3_trackOf σ x1).bind fun z44 => (f_X0_size (cap z44) (σ.1 z44)).bind fun z49 => lpn (f_X3_shed_42 ) 64 (σ, x1, x2, x3, x4, z44, z49, 0, 0, 0)
theorem mc_X3_shed : MCode yX3_shed cX3_shed 12 (some .int) := ⟨wd_552, wd_1, by decide, by decide⟩
theorem np_X3_shed : (parseMethodDescriptor yX3_shed.desc).map (fun d => d.parameters.length) = some 4 := by decide +kernel
set_option maxHeartbeats 4000000 in
set_option maxRecDepth 100000 in
theorem c_X3_shed {l : Launch} {D : va_G} {κ : Nat → ClassId} {ζ : Nat → Nat} {L : List Nat} {F : Nat → va_E} {σ : CS} {A : Nat → Nat} (hst : l.stackTraces = false) (hI : CI κ A σ L F) (x1 : Int32) (x2 : Int32) (x3 : Int32) (x4 : Int32) {res : (Nat ⊕ (Int32 × CS))} (hf : f_X3_shed σ x1 x2 x3 x4 = some res) : MxI l D cls (ty5 κ) ζ yX3_shed cX3_shed 12 (some .int) 8 3 18 ([.ref (A 0), .int x1, .int x2, .int x3, .int x4] : List Value) L F (fun r L' F' => L = L' ∧ ∃ z, res = .inr z ∧ z.1 = r ∧ CI κ A z.2 L F' ∧ FrA A F F') (fun E => ∃ k, res = .inl k ∧ E = xName k) := by
  refine MxI.of (by decide) (Nat.le_of_ble_eq_true rfl) ?_
  intro p e s m below meth c S hr hlk hxt hK hW hST ls hl
  have hl : lv_has ls 12 [(0, .ref (A 0)), (1, .int x1), (2, .int x2), (3, .int x3), (4, .int x4)] := hl
  have hFr : FrA A F F := FrA.rf
  have B119 : ∀   (w119 : CS) (v1 : Int32) (v7 : Int32) (v8 : Int32), f_X3_shed_119 w119 v1 v7 v8 = some res → ∀ (G119 : Nat → va_E), CI κ A w119 L G119 → FrA A F G119 → ∀ (H119 : Heap) (l119 : List Loc) (ls : Array Slot), HW D cls L s H119 l119 L G119 → lv_has ls 12 [(0, .ref (A 0)), (1, .int v1), (7, .int v7), (8, .int v8)] → W p l e (Rm 8 3 18) s m ([.ref (A 0), .int x1, .int x2, .int x3, .int x4] : List Value).toArray below meth c H119 l119 3 18 (ExI D cls s below ([.ref (A 0), .int x1, .int x2, .int x3, .int x4] : List Value).toArray 3 18 L F (fun r L' F' => L = L' ∧ ∃ z, res = .inr z ∧ z.1 = r ∧ CI κ A z.2 L F' ∧ FrA A F F') (fun E => ∃ k, res = .inl k ∧ E = xName k)) (F0 m 119 ls []) := by
    intro w119 v1 v7 v8 hf G119 hI hFr H119 l119 ls hW hl
    unfold f_X3_shed_119 at hf
    refine lv_aload_n S.1 S.2.1 dX3_shed_119 rfl (lv_at hl 0 rfl) ?_
    refine lv_iload_n S.1 S.2.1 dX3_shed_120 rfl (lv_at hl 1 rfl) ?_
    refine lv_iload S.1 S.2.1 dX3_shed_121 (lv_at hl 2 rfl) ?_
    obtain ⟨z1, hz, hf⟩ := ob hf
    refine pk_cVV (As := [.int v1, .int v7]) (rest := []) S hK hST hW (c_X3_tearIfAny hI v1 v7 hz) mc_X3_tearIfAny wd_182 wd_184 wd_1666 rfl np_X3_tearIfAny (hI.mem 0 (by decide)) hI.this rfl rfl hl.1 rfl (Nat.le_of_ble_eq_true rfl) dX3_shed_123 ⟨by decide, by decide⟩ ⟨by decide, by decide⟩ (fun L2 F3 H4 l5 hp hW => ?_)
    obtain ⟨rfl, hI1, hFr1⟩ := hp
    have hI := hI1
    have hFr := hFr.tr hFr1
    refine lv_iload S.1 S.2.1 dX3_shed_126 (lv_at hl 3 rfl) ?_
    exact xk_iret S hr hlk hW ⟨rfl, _, (Option.some.inj hf).symm, rfl, hI, hFr⟩ (by decide) (by decide) dX3_shed_128
  have B113 : ∀ (k42 : (CS × Int32 × Int32 × Int32 × Int32 × Nat × Int32 × Int32 × Int32 × Int32) → Option (Nat ⊕ (Int32 × CS))) (hk42 : (∀ (w42 : CS) (v1 : Int32) (v2 : Int32) (v3 : Int32) (v4 : Int32) (v5 : Nat) (v6 : Int32) (v7 : Int32) (v8 : Int32) (v9 : Int32), k42 (w42, v1, v2, v3, v4, v5, v6, v7, v8, v9) = some res → ∀ (G42 : Nat → va_E), v5 < 7 → CI κ A w42 L G42 → FrA A F G42 → ∀ (H42 : Heap) (l42 : List Loc) (ls : Array Slot), HW D cls L s H42 l42 L G42 → lv_has ls 12 [(0, .ref (A 0)), (1, .int v1), (2, .int v2), (3, .int v3), (4, .int v4), (5, .ref (A (1 + 2 * v5))), (6, .int v6), (7, .int v7), (8, .int v8), (9, .int v9)] → W p l e (Rm 8 3 18) s m ([.ref (A 0), .int x1, .int x2, .int x3, .int x4] : List Value).toArray below meth c H42 l42 3 18 (ExI D cls s below ([.ref (A 0), .int x1, .int x2, .int x3, .int x4] : List Value).toArray 3 18 L F (fun r L' F' => L = L' ∧ ∃ z, res = .inr z ∧ z.1 = r ∧ CI κ A z.2 L F' ∧ FrA A F F') (fun E => ∃ k, res = .inl k ∧ E = xName k)) (F0 m 42 ls []))) (w113 : CS) (v1 : Int32) (v2 : Int32) (v3 : Int32) (v4 : Int32) (v5 : Nat) (v6 : Int32) (v7 : Int32) (v8 : Int32) (v9 : Int32), f_X3_shed_113 k42 w113 v1 v2 v3 v4 v5 v6 v7 v8 v9 = some res → ∀ (G113 : Nat → va_E), v5 < 7 → CI κ A w113 L G113 → FrA A F G113 → ∀ (H113 : Heap) (l113 : List Loc) (ls : Array Slot), HW D cls L s H113 l113 L G113 → lv_has ls 12 [(0, .ref (A 0)), (1, .int v1), (2, .int v2), (3, .int v3), (4, .int v4), (5, .ref (A (1 + 2 * v5))), (6, .int v6), (7, .int v7), (8, .int v8), (9, .int v9)] → W p l e (Rm 8 3 18) s m ([.ref (A 0), .int x1, .int x2, .int x3, .int x4] : List Value).toArray below meth c H113 l113 3 18 (ExI D cls s below ([.ref (A 0), .int x1, .int x2, .int x3, .int x4] : List Value).toArray 3 18 L F (fun r L' F' => L = L' ∧ ∃ z, res = .inr z ∧ z.1 = r ∧ CI κ A z.2 L F' ∧ FrA A F F') (fun E => ∃ k, res = .inl k ∧ E = xName k)) (F0 m 113 ls []) := by
    intro k42 hk42 w113 v1 v2 v3 v4 v5 v6 v7 v8 v9 hf G113 hv5 hI hFr H113 l113 ls hW hl
    unfold f_X3_shed_113 at hf
    obtain ⟨y6, ey6⟩ : ∃ y : Int32, y = v9 + 1 := ⟨_, rfl⟩
    have hf := nm_at hf ey6
    refine lv_iinc (v := y6) (lv' := [(9, .int y6), (0, .ref (A 0)), (1, .int v1), (2, .int v2), (3, .int v3), (4, .int v4), (5, .ref (A (1 + 2 * v5))), (6, .int v6), (7, .int v7), (8, .int v8)]) S.1 S.2.1 dX3_shed_113 hl (k := 9) rfl (by rw [ey6]; rfl) (by decide) rfl (fun ls hl => ?_)
    refine lv_goto (tgt := 42) S.1 S.2.1 dX3_shed_116 (by decide) ?_
    exact hk42 w113 v1 v2 v3 v4 v5 v6 v7 v8 y6 hf G113 hv5 hI hFr _ _ _ hW (lv_sub hl [1, 2, 3, 4, 5, 6, 7, 8, 9, 0] rfl)
  have B75 : ∀ (k42 : (CS × Int32 × Int32 × Int32 × Int32 × Nat × Int32 × Int32 × Int32 × Int32) → Option (Nat ⊕ (Int32 × CS))) (hk42 : (∀ (w42 : CS) (v1 : Int32) (v2 : Int32) (v3 : Int32) (v4 : Int32) (v5 : Nat) (v6 : Int32) (v7 : Int32) (v8 : Int32) (v9 : Int32), k42 (w42, v1, v2, v3, v4, v5, v6, v7, v8, v9) = some res → ∀ (G42 : Nat → va_E), v5 < 7 → CI κ A w42 L G42 → FrA A F G42 → ∀ (H42 : Heap) (l42 : List Loc) (ls : Array Slot), HW D cls L s H42 l42 L G42 → lv_has ls 12 [(0, .ref (A 0)), (1, .int v1), (2, .int v2), (3, .int v3), (4, .int v4), (5, .ref (A (1 + 2 * v5))), (6, .int v6), (7, .int v7), (8, .int v8), (9, .int v9)] → W p l e (Rm 8 3 18) s m ([.ref (A 0), .int x1, .int x2, .int x3, .int x4] : List Value).toArray below meth c H42 l42 3 18 (ExI D cls s below ([.ref (A 0), .int x1, .int x2, .int x3, .int x4] : List Value).toArray 3 18 L F (fun r L' F' => L = L' ∧ ∃ z, res = .inr z ∧ z.1 = r ∧ CI κ A z.2 L F' ∧ FrA A F F') (fun E => ∃ k, res = .inl k ∧ E = xName k)) (F0 m 42 ls []))) (w75 : CS) (v1 : Int32) (v2 : Int32) (v3 : Int32) (v4 : Int32) (v5 : Nat) (v6 : Int32) (v7 : Int32) (v8 : Int32) (v9 : Int32) (u0 : Int32), f_X3_shed_75 k42 w75 v1 v2 v3 v4 v5 v6 v7 v8 v9 u0 = some res → ∀ (G75 : Nat → va_E), v5 < 7 → CI κ A w75 L G75 → FrA A F G75 → ∀ (H75 : Heap) (l75 : List Loc) (ls : Array Slot), HW D cls L s H75 l75 L G75 → lv_has ls 12 [(0, .ref (A 0)), (1, .int v1), (2, .int v2), (3, .int v3), (4, .int v4), (5, .ref (A (1 + 2 * v5))), (6, .int v6), (7, .int v7), (8, .int v8), (9, .int v9)] → W p l e (Rm 8 3 18) s m ([.ref (A 0), .int x1, .int x2, .int x3, .int x4] : List Value).toArray below meth c H75 l75 3 18 (ExI D cls s below ([.ref (A 0), .int x1, .int x2, .int x3, .int x4] : List Value).toArray 3 18 L F (fun r L' F' => L = L' ∧ ∃ z, res = .inr z ∧ z.1 = r ∧ CI κ A z.2 L F' ∧ FrA A F F') (fun E => ∃ k, res = .inl k ∧ E = xName k)) (F0 m 75 ls [.int u0]) := by
    intro k42 hk42 w75 v1 v2 v3 v4 v5 v6 v7 v8 v9 u0 hf G75 hv5 hI hFr H75 l75 ls hW hl
    unfold f_X3_shed_75 at hf
    refine lv_istore (lv' := [(10, .int u0), (0, .ref (A 0)), (1, .int v1), (2, .int v2), (3, .int v3), (4, .int v4), (5, .ref (A (1 + 2 * v5))), (6, .int v6), (7, .int v7), (8, .int v8), (9, .int v9)]) S.1 S.2.1 dX3_shed_75 hl (by decide) rfl (fun ls hl => ?_)
    refine lv_aload S.1 S.2.1 dX3_shed_77 (lv_at hl 6 rfl) ?_
    refine lv_iload S.1 S.2.1 dX3_shed_79 (lv_at hl 0 rfl) ?_
    obtain ⟨z7, hz, hf⟩ := ob hf
    refine pk_cVI (As := [.int u0]) (rest := []) S hK hST hW (c_X0_read (hI.row hv5) u0 hz) mc_X0_read wd_171 wd_120 wd_121 rfl np_X0_read (hI.mem _ (by have := hv5; omega)) (hI.rowH hv5) rfl rfl hl.1 rfl (Nat.le_of_ble_eq_true rfl) dX3_shed_81 ⟨by decide, by decide⟩ ⟨by decide, by decide⟩ (fun r L8 F9 H10 l11 hp hW => ?_)
    obtain ⟨rfl, rfl, rfl⟩ := hp
    obtain ⟨z12, hz, hf⟩ := ob hf
    refine pk_cSI (As := [.int z7]) (rest := []) S hK hST hW (c_X3_loadOf  z7 hz) mc_X3_loadOf wd_279 wd_280 np_X3_loadOf rfl hl.1 rfl (Nat.le_of_ble_eq_true rfl) dX3_shed_84 ⟨by decide, by decide⟩ ⟨by decide, by decide⟩ (fun r L13 F14 H15 l16 hp hW => ?_)
    obtain ⟨rfl, rfl, rfl⟩ := hp
    refine lv_istore (lv' := [(11, .int z12), (10, .int u0), (0, .ref (A 0)), (1, .int v1), (2, .int v2), (3, .int v3), (4, .int v4), (5, .ref (A (1 + 2 * v5))), (6, .int v6), (7, .int v7), (8, .int v8), (9, .int v9)]) S.1 S.2.1 dX3_shed_87 hl (by decide) rfl (fun ls hl => ?_)
    refine lv_iload S.1 S.2.1 dX3_shed_89 (lv_at hl 0 rfl) ?_
    refine lv_iload_n S.1 S.2.1 dX3_shed_91 rfl (lv_at hl 5 rfl) ?_
    refine lv_icmp_lt (tgt := 113) S.1 S.2.1 dX3_shed_92 (by decide) (fun c17 => ?_) (fun c17 => ?_)
    · have hf := (if_pos c17).symm.trans hf
      exact B113 k42 hk42 w75 v1 v2 v3 v4 v5 v6 v7 v8 v9 hf G75 hv5 hI hFr _ _ _ hW (lv_sub hl [2, 3, 4, 5, 6, 7, 8, 9, 10, 11] rfl)
    · have hf := (if_neg c17).symm.trans hf
      refine lv_aload S.1 S.2.1 dX3_shed_95 (lv_at hl 7 rfl) ?_
      refine lv_iload S.1 S.2.1 dX3_shed_97 (lv_at hl 1 rfl) ?_
      obtain ⟨z18, hz, hf⟩ := ob hf
      refine pk_cVI (As := [.int u0]) (rest := []) S hK hST hW (c_X0_leave (hI.row hv5) u0 hz) mc_X0_leave wd_115 wd_116 wd_117 rfl np_X0_leave (hI.mem _ (by have := hv5; omega)) (hI.rowH hv5) rfl rfl hl.1 rfl (Nat.le_of_ble_eq_true rfl) dX3_shed_99 ⟨by decide, by decide⟩ ⟨by decide, by decide⟩ (fun r L19 F20 H21 l22 hp hW => ?_)
      obtain ⟨rfl, rfl, hI1, hFr1⟩ := hp
      have hFr := hFr.tr (FrA.row hv5 hFr1)
      have hI := hI.setRow hv5 hI1 hFr1
      obtain ⟨t23, et23, hf⟩ := nm_ok hf
      have hI := eqm (P := fun w => CI κ A w L F20) hI et23.symm
      refine lv_pop S.1 S.2.1 dX3_shed_102 rfl ?_
      obtain ⟨y24, ey24⟩ : ∃ y : Int32, y = v7 + 1 := ⟨_, rfl⟩
      have hf := nm_at hf ey24
      refine lv_iinc (v := y24) (lv' := [(7, .int y24), (11, .int z12), (10, .int u0), (0, .ref (A 0)), (1, .int v1), (2, .int v2), (3, .int v3), (4, .int v4), (5, .ref (A (1 + 2 * v5))), (6, .int v6), (8, .int v8), (9, .int v9)]) S.1 S.2.1 dX3_shed_103 hl (k := 9) rfl (by rw [ey24]; rfl) (by decide) rfl (fun ls hl => ?_)
      refine lv_iload S.1 S.2.1 dX3_shed_106 (lv_at hl 10 rfl) ?_
      refine lv_iload S.1 S.2.1 dX3_shed_108 (lv_at hl 1 rfl) ?_
      refine lv_iadd S.1 S.2.1 dX3_shed_110 ?_
      refine lv_topi (fun y25 ey25 => ?_)
      have hf := nm_at hf ey25
      refine lv_istore (lv' := [(8, .int y25), (7, .int y24), (11, .int z12), (10, .int u0), (0, .ref (A 0)), (1, .int v1), (2, .int v2), (3, .int v3), (4, .int v4), (5, .ref (A (1 + 2 * v5))), (6, .int v6), (9, .int v9)]) S.1 S.2.1 dX3_shed_111 hl (by decide) rfl (fun ls hl => ?_)
      exact B113 k42 hk42 t23 v1 v2 v3 v4 v5 v6 y24 y25 v9 hf F20 hv5 hI hFr _ _ _ hW (lv_sub hl [4, 5, 6, 7, 8, 9, 10, 1, 0, 11] rfl)
  have B42 : ∀ (N : Nat), (∀ (w42 : CS) (v1 : Int32) (v2 : Int32) (v3 : Int32) (v4 : Int32) (v5 : Nat) (v6 : Int32) (v7 : Int32) (v8 : Int32) (v9 : Int32), (lpn (f_X3_shed_42 ) N) (w42, v1, v2, v3, v4, v5, v6, v7, v8, v9) = some res → ∀ (G42 : Nat → va_E), v5 < 7 → CI κ A w42 L G42 → FrA A F G42 → ∀ (H42 : Heap) (l42 : List Loc) (ls : Array Slot), HW D cls L s H42 l42 L G42 → lv_has ls 12 [(0, .ref (A 0)), (1, .int v1), (2, .int v2), (3, .int v3), (4, .int v4), (5, .ref (A (1 + 2 * v5))), (6, .int v6), (7, .int v7), (8, .int v8), (9, .int v9)] → W p l e (Rm 8 3 18) s m ([.ref (A 0), .int x1, .int x2, .int x3, .int x4] : List Value).toArray below meth c H42 l42 3 18 (ExI D cls s below ([.ref (A 0), .int x1, .int x2, .int x3, .int x4] : List Value).toArray 3 18 L F (fun r L' F' => L = L' ∧ ∃ z, res = .inr z ∧ z.1 = r ∧ CI κ A z.2 L F' ∧ FrA A F F') (fun E => ∃ k, res = .inl k ∧ E = xName k)) (F0 m 42 ls [])) := by
    intro  N
    induction N with
    | zero => intro w42 v1 v2 v3 v4 v5 v6 v7 v8 v9 hf G42 hv5 hI hFr H42 l42 ls hW hl; cases hf
    | succ N ih =>
      intro w42 v1 v2 v3 v4 v5 v6 v7 v8 v9 hf G42 hv5 hI hFr H42 l42 ls hW hl
      have hf : f_X3_shed_42 (lpn (f_X3_shed_42 ) N) (w42, v1, v2, v3, v4, v5, v6, v7, v8, v9) = some res := hf
      generalize lpn (f_X3_shed_42 ) N = k42 at hf ih
      have hk42 := ih
      unfold f_X3_shed_42 at hf
      try dsimp only at hf
      refine lv_iload S.1 S.2.1 dX3_shed_42 (lv_at hl 9 rfl) ?_
      refine lv_iload S.1 S.2.1 dX3_shed_44 (lv_at hl 6 rfl) ?_
      refine lv_icmp_ge (tgt := 119) S.1 S.2.1 dX3_shed_46 (by decide) (fun c26 => ?_) (fun c26 => ?_)
      · have hf := (if_pos c26).symm.trans hf
        exact B119  w42 v1 v7 v8 hf G42 hI hFr _ _ _ hW (lv_sub hl [0, 1, 7, 8] rfl)
      · have hf := (if_neg c26).symm.trans hf
        refine lv_iload S.1 S.2.1 dX3_shed_49 (lv_at hl 7 rfl) ?_
        refine lv_iload S.1 S.2.1 dX3_shed_51 (lv_at hl 4 rfl) ?_
        refine lv_icmp_ge (tgt := 119) S.1 S.2.1 dX3_shed_53 (by decide) (fun c27 => ?_) (fun c27 => ?_)
        · have hf := (if_pos c27).symm.trans hf
          exact B119  w42 v1 v7 v8 hf G42 hI hFr _ _ _ hW (lv_sub hl [0, 1, 7, 8] rfl)
        · have hf := (if_neg c27).symm.trans hf
          refine lv_iload_n S.1 S.2.1 dX3_shed_56 rfl (lv_at hl 2 rfl) ?_
          refine lv_if_eq (tgt := 70) S.1 S.2.1 dX3_shed_57 (by decide) (fun c28 => ?_) (fun c28 => ?_)
          · have hf := (if_pos c28).symm.trans hf
            refine lv_iload S.1 S.2.1 dX3_shed_70 (lv_at hl 9 rfl) ?_
            refine lv_iload S.1 S.2.1 dX3_shed_72 (lv_at hl 7 rfl) ?_
            refine lv_isub S.1 S.2.1 dX3_shed_74 ?_
            exact B75 k42 hk42 w42 v1 v2 v3 v4 v5 v6 v7 v8 v9 (v9 - v7) hf G42 hv5 hI hFr _ _ _ hW (lv_sub hl [0, 1, 2, 3, 4, 5, 6, 7, 8, 9] rfl)
          · have hf := (if_neg c28).symm.trans hf
            refine lv_iload S.1 S.2.1 dX3_shed_60 (lv_at hl 6 rfl) ?_
            refine lv_iconst (v := 1) S.1 S.2.1 dX3_shed_62 (by decide) ?_
            refine lv_isub S.1 S.2.1 dX3_shed_63 ?_
            refine lv_iload S.1 S.2.1 dX3_shed_64 (lv_at hl 9 rfl) ?_
            refine lv_isub S.1 S.2.1 dX3_shed_66 ?_
            refine lv_goto (tgt := 75) S.1 S.2.1 dX3_shed_67 (by decide) ?_
            exact B75 k42 hk42 w42 v1 v2 v3 v4 v5 v6 v7 v8 v9 ((v6 - 1) - v9) hf G42 hv5 hI hFr _ _ _ hW (lv_sub hl [0, 1, 2, 3, 4, 5, 6, 7, 8, 9] rfl)
  unfold f_X3_shed at hf
  refine lv_iload_n S.1 S.2.1 dX3_shed_0 rfl (lv_at hl 1 rfl) ?_
  obtain ⟨z1, hz, hxl, hxr⟩ := obx_ok hf
  refine xk_cSV (As := [.int x1]) (rest := []) S hK hST hW (c_X3_needTrack hst  x1 hz) mc_X3_needTrack wd_359 wd_360 np_X3_needTrack rfl hl.1 rfl (Nat.le_of_ble_eq_true rfl) dX3_shed_1 ⟨by decide, by decide⟩ ⟨by decide, by decide⟩ (fun E ce q9 H32 l33 hE hW h1 h2 h3 => ?_) (fun L30 F31 H32 l33 hp hW => ?_)
  · obtain ⟨k, hk1, hk2⟩ := hE
    exact xk_outI hxt hlk hW ⟨k, hxl k hk1, hk2⟩ h1 h2 h3 (by decide) (by decide)
  obtain ⟨rfl, rfl, z29, hz1⟩ := hp
  have hf := hxr z29 hz1
  refine lv_iload_n S.1 S.2.1 dX3_shed_4 rfl (lv_at hl 3 rfl) ?_
  refine lv_iconst (v := 0) S.1 S.2.1 dX3_shed_5 (by decide) ?_
  refine lv_bipush (v := 99) S.1 S.2.1 dX3_shed_6 (by decide) ?_
  obtain ⟨z1, hz, hxl, hxr⟩ := obx_ok hf
  refine xk_cSV (As := [.int x3, .int 0, .int 99]) (rest := []) S hK hST hW (c_X3_needWithin hst  x3 0 99 hz) mc_X3_needWithin wd_416 wd_417 np_X3_needWithin rfl hl.1 rfl (Nat.le_of_ble_eq_true rfl) dX3_shed_8 ⟨by decide, by decide⟩ ⟨by decide, by decide⟩ (fun E ce q9 H37 l38 hE hW h1 h2 h3 => ?_) (fun L35 F36 H37 l38 hp hW => ?_)
  · obtain ⟨k, hk1, hk2⟩ := hE
    exact xk_outI hxt hlk hW ⟨k, hxl k hk1, hk2⟩ h1 h2 h3 (by decide) (by decide)
  obtain ⟨rfl, rfl, z34, hz1⟩ := hp
  have hf := hxr z34 hz1
  refine lv_iload S.1 S.2.1 dX3_shed_11 (lv_at hl 4 rfl) ?_
  refine lv_iconst (v := 1) S.1 S.2.1 dX3_shed_13 (by decide) ?_
  refine lv_bipush (v := 20) S.1 S.2.1 dX3_shed_14 (by decide) ?_
  obtain ⟨z1, hz, hxl, hxr⟩ := obx_ok hf
  refine xk_cSV (As := [.int x4, .int 1, .int 20]) (rest := []) S hK hST hW (c_X3_needWithin hst  x4 1 20 hz) mc_X3_needWithin wd_416 wd_417 np_X3_needWithin rfl hl.1 rfl (Nat.le_of_ble_eq_true rfl) dX3_shed_16 ⟨by decide, by decide⟩ ⟨by decide, by decide⟩ (fun E ce q9 H42 l43 hE hW h1 h2 h3 => ?_) (fun L40 F41 H42 l43 hp hW => ?_)
  · obtain ⟨k, hk1, hk2⟩ := hE
    exact xk_outI hxt hlk hW ⟨k, hxl k hk1, hk2⟩ h1 h2 h3 (by decide) (by decide)
  obtain ⟨rfl, rfl, z39, hz1⟩ := hp
  have hf := hxr z39 hz1
  refine lv_aload_n S.1 S.2.1 dX3_shed_19 rfl (lv_at hl 0 rfl) ?_
  refine lv_iload_n S.1 S.2.1 dX3_shed_20 rfl (lv_at hl 1 rfl) ?_
  obtain ⟨z44, hz, hf⟩ := ob hf
  refine pk_cVR (As := [.int x1]) (rest := []) S hK hST hW (c_X3_trackOf hI x1 hz) mc_X3_trackOf wd_130 wd_132 wd_1664 rfl np_X3_trackOf (hI.mem 0 (by decide)) hI.this rfl rfl hl.1 rfl (Nat.le_of_ble_eq_true rfl) dX3_shed_21 ⟨by decide, by decide⟩ ⟨by decide, by decide⟩ (fun r L45 F46 H47 l48 hp hW => ?_)
  obtain ⟨rfl, rfl, hbz44, rfl⟩ := hp
  refine lv_astore (lv' := [(5, .ref (A (1 + 2 * z44))), (0, .ref (A 0)), (1, .int x1), (2, .int x2), (3, .int x3), (4, .int x4)]) S.1 S.2.1 dX3_shed_24 hl (by decide) rfl (fun ls hl => ?_)
  refine lv_aload S.1 S.2.1 dX3_shed_26 (lv_at hl 0 rfl) ?_
  obtain ⟨z49, hz, hf⟩ := ob hf
  refine pk_cVI (As := []) (rest := []) S hK hST hW (c_X0_size (hI.row hbz44)  hz) mc_X0_size wd_140 wd_141 wd_142 rfl np_X0_size (hI.mem _ (by have := hbz44; omega)) (hI.rowH hbz44) rfl rfl hl.1 rfl (Nat.le_of_ble_eq_true rfl) dX3_shed_28 ⟨by decide, by decide⟩ ⟨by decide, by decide⟩ (fun r L50 F51 H52 l53 hp hW => ?_)
  obtain ⟨rfl, rfl, rfl⟩ := hp
  refine lv_istore (lv' := [(6, .int z49), (5, .ref (A (1 + 2 * z44))), (0, .ref (A 0)), (1, .int x1), (2, .int x2), (3, .int x3), (4, .int x4)]) S.1 S.2.1 dX3_shed_31 hl (by decide) rfl (fun ls hl => ?_)
  refine lv_iconst (v := 0) S.1 S.2.1 dX3_shed_33 (by decide) ?_
  refine lv_istore (lv' := [(7, .int 0), (6, .int z49), (5, .ref (A (1 + 2 * z44))), (0, .ref (A 0)), (1, .int x1), (2, .int x2), (3, .int x3), (4, .int x4)]) S.1 S.2.1 dX3_shed_34 hl (by decide) rfl (fun ls hl => ?_)
  refine lv_iconst (v := 0) S.1 S.2.1 dX3_shed_36 (by decide) ?_
  refine lv_istore (lv' := [(8, .int 0), (7, .int 0), (6, .int z49), (5, .ref (A (1 + 2 * z44))), (0, .ref (A 0)), (1, .int x1), (2, .int x2), (3, .int x3), (4, .int x4)]) S.1 S.2.1 dX3_shed_37 hl (by decide) rfl (fun ls hl => ?_)
  refine lv_iconst (v := 0) S.1 S.2.1 dX3_shed_39 (by decide) ?_
  refine lv_istore (lv' := [(9, .int 0), (8, .int 0), (7, .int 0), (6, .int z49), (5, .ref (A (1 + 2 * z44))), (0, .ref (A 0)), (1, .int x1), (2, .int x2), (3, .int x3), (4, .int x4)]) S.1 S.2.1 dX3_shed_40 hl (by decide) rfl (fun ls hl => ?_)
  exact B42  64 σ x1 x2 x3 x4 z44 z49 0 0 0 hf F hbz44 hI hFr _ _ _ hW (lv_sub hl [5, 6, 7, 8, 9, 4, 3, 2, 1, 0] rfl)
def f_X3_thin_79  (k33 : (CS × Int32 × Int32 × Int32 × Nat × Int32 × Int32 × Int32 × Int32) → Option (Nat ⊕ (Int32 × CS))) (w79 : CS) (v1 : Int32) (v2 : Int32) (v3 : Int32) (v4 : Nat) (v5 : Int32) (v6 : Int32) (v7 : Int32) (v8 : Int32) : Option (Nat ⊕ (Int32 × CS)) := nm (v8 + 1 : Int32) fun y1 => k33 (w79, v1, v2, v3, v4, v5, v6, v7, y1)
def f_X3_thin_69  (k33 : (CS × Int32 × Int32 × Int32 × Nat × Int32 × Int32 × Int32 × Int32) → Option (Nat ⊕ (Int32 × CS))) (w69 : CS) (v1 : Int32) (v2 : Int32) (v3 : Int32) (v4 : Nat) (v5 : Int32) (v6 : Int32) (v8 : Int32) (u0 : Nat) (u1 : Int32) : Option (Nat ⊕ (Int32 × CS)) := (f_X0_leave (cap u0) (w69.1 u0) u1).bind fun z2 => nm ((va_up w69.1 u0 z2.2, w69.2) : CS) fun t7 => nm (v6 + 1 : Int32) fun y8 => f_X3_thin_79 k33 t7 v1 v2 v3 v4 v5 y8 v3 v8
def f_X3_thin_33   (k33 : CS × Int32 × Int32 × Int32 × Nat × Int32 × Int32 × Int32 × Int32 → Option (Nat ⊕ (Int32 × CS))) (t : CS × Int32 × Int32 × Int32 × Nat × Int32 × Int32 × Int32 × Int32) : Option (Nat ⊕ (Int32 × CS)) := (if t.2.2.2.2.2.1 ≤ t.2.2.2.2.2.2.2.2 then (f_X3_tearIfAny t.1 t.2.1 t.2.2.2.2.2.2.1).bind fun z10 => some (.inr (t.2.2.2.2.2.2.1, z10)) else nm (t.2.2.2.2.2.2.2.1 + (-1) : Int32) fun y15 => (if y15 = 0 then (if t.2.2.1 = 0 then f_X3_thin_69 k33 t.1 t.2.1 t.2.2.1 t.2.2.2.1 t.2.2.2.2.1 t.2.2.2.2.2.1 t.2.2.2.2.2.2.1 t.2.2.2.2.2.2.2.2 t.2.2.2.2.1 (t.2.2.2.2.2.2.2.2 - t.2.2.2.2.2.2.1) else f_X3_thin_69 k33 t.1 t.2.1 t.2.2.1 t.2.2.2.1 t.2.2.2.2.1 t.2.2.2.2.2.1 t.2.2.2.2.2.2.1 t.2.2.2.2.2.2.2.2 t.2.2.2.2.1 ((t.2.2.2.2.2.1 - 1) - t.2.2.2.2.2.2.2.2)) else f_X3_thin_79 k33 t.1 t.2.1 t.2.2.1 t.2.2.2.1 t.2.2.2.2.1 t.2.2.2.2.2.1 t.2.2.2.2.2.2.1 y15 t.2.2.2.2.2.2.2.2))
def f_X3_thin (σ : CS) (x1 : Int32) (x2 : Int32) (x3 : Int32) : Option (Nat ⊕ (Int32 × CS)) := obx (f_X3_needTrack x1) fun z18 => obx (f_X3_needWithin x3 2 5) fun z23 => (f_X3_trackOf σ x1).bind fun z28 => (f_X0_size (cap z28) (σ.1 z28)).bind fun z33 => lpn (f_X3_thin_33 ) 64 (σ, x1, x2, x3, z28, z33, 0, x3, 0)
theorem mc_X3_thin : MCode yX3_thin cX3_thin 9 (some .int) := ⟨wd_558, wd_1, by decide, by decide⟩
theorem np_X3_thin : (parseMethodDescriptor yX3_thin.desc).map (fun d => d.parameters.length) = some 3 := by decide +kernel
set_option maxHeartbeats 4000000 in
set_option maxRecDepth 100000 in
theorem c_X3_thin {l : Launch} {D : va_G} {κ : Nat → ClassId} {ζ : Nat → Nat} {L : List Nat} {F : Nat → va_E} {σ : CS} {A : Nat → Nat} (hst : l.stackTraces = false) (hI : CI κ A σ L F) (x1 : Int32) (x2 : Int32) (x3 : Int32) {res : (Nat ⊕ (Int32 × CS))} (hf : f_X3_thin σ x1 x2 x3 = some res) : MxI l D cls (ty5 κ) ζ yX3_thin cX3_thin 9 (some .int) 8 2 12 ([.ref (A 0), .int x1, .int x2, .int x3] : List Value) L F (fun r L' F' => L = L' ∧ ∃ z, res = .inr z ∧ z.1 = r ∧ CI κ A z.2 L F' ∧ FrA A F F') (fun E => ∃ k, res = .inl k ∧ E = xName k) := by
  refine MxI.of (by decide) (Nat.le_of_ble_eq_true rfl) ?_
  intro p e s m below meth c S hr hlk hxt hK hW hST ls hl
  have hl : lv_has ls 9 [(0, .ref (A 0)), (1, .int x1), (2, .int x2), (3, .int x3)] := hl
  have hFr : FrA A F F := FrA.rf
  have B79 : ∀ (k33 : (CS × Int32 × Int32 × Int32 × Nat × Int32 × Int32 × Int32 × Int32) → Option (Nat ⊕ (Int32 × CS))) (hk33 : (∀ (w33 : CS) (v1 : Int32) (v2 : Int32) (v3 : Int32) (v4 : Nat) (v5 : Int32) (v6 : Int32) (v7 : Int32) (v8 : Int32), k33 (w33, v1, v2, v3, v4, v5, v6, v7, v8) = some res → ∀ (G33 : Nat → va_E), v4 < 7 → CI κ A w33 L G33 → FrA A F G33 → ∀ (H33 : Heap) (l33 : List Loc) (ls : Array Slot), HW D cls L s H33 l33 L G33 → lv_has ls 9 [(0, .ref (A 0)), (1, .int v1), (2, .int v2), (3, .int v3), (4, .ref (A (1 + 2 * v4))), (5, .int v5), (6, .int v6), (7, .int v7), (8, .int v8)] → W p l e (Rm 8 2 12) s m ([.ref (A 0), .int x1, .int x2, .int x3] : List Value).toArray below meth c H33 l33 2 12 (ExI D cls s below ([.ref (A 0), .int x1, .int x2, .int x3] : List Value).toArray 2 12 L F (fun r L' F' => L = L' ∧ ∃ z, res = .inr z ∧ z.1 = r ∧ CI κ A z.2 L F' ∧ FrA A F F') (fun E => ∃ k, res = .inl k ∧ E = xName k)) (F0 m 33 ls []))) (w79 : CS) (v1 : Int32) (v2 : Int32) (v3 : Int32) (v4 : Nat) (v5 : Int32) (v6 : Int32) (v7 : Int32) (v8 : Int32), f_X3_thin_79 k33 w79 v1 v2 v3 v4 v5 v6 v7 v8 = some res → ∀ (G79 : Nat → va_E), v4 < 7 → CI κ A w79 L G79 → FrA A F G79 → ∀ (H79 : Heap) (l79 : List Loc) (ls : Array Slot), HW D cls L s H79 l79 L G79 → lv_has ls 9 [(0, .ref (A 0)), (1, .int v1), (2, .int v2), (3, .int v3), (4, .ref (A (1 + 2 * v4))), (5, .int v5), (6, .int v6), (7, .int v7), (8, .int v8)] → W p l e (Rm 8 2 12) s m ([.ref (A 0), .int x1, .int x2, .int x3] : List Value).toArray below meth c H79 l79 2 12 (ExI D cls s below ([.ref (A 0), .int x1, .int x2, .int x3] : List Value).toArray 2 12 L F (fun r L' F' => L = L' ∧ ∃ z, res = .inr z ∧ z.1 = r ∧ CI κ A z.2 L F' ∧ FrA A F F') (fun E => ∃ k, res = .inl k ∧ E = xName k)) (F0 m 79 ls []) := by
    intro k33 hk33 w79 v1 v2 v3 v4 v5 v6 v7 v8 hf G79 hv4 hI hFr H79 l79 ls hW hl
    unfold f_X3_thin_79 at hf
    obtain ⟨y1, ey1⟩ : ∃ y : Int32, y = v8 + 1 := ⟨_, rfl⟩
    have hf := nm_at hf ey1
    refine lv_iinc (v := y1) (lv' := [(8, .int y1), (0, .ref (A 0)), (1, .int v1), (2, .int v2), (3, .int v3), (4, .ref (A (1 + 2 * v4))), (5, .int v5), (6, .int v6), (7, .int v7)]) S.1 S.2.1 dX3_thin_79 hl (k := 8) rfl (by rw [ey1]; rfl) (by decide) rfl (fun ls hl => ?_)
    refine lv_goto (tgt := 33) S.1 S.2.1 dX3_thin_82 (by decide) ?_
    exact hk33 w79 v1 v2 v3 v4 v5 v6 v7 y1 hf G79 hv4 hI hFr _ _ _ hW (lv_sub hl [1, 2, 3, 4, 5, 6, 7, 8, 0] rfl)
  have B69 : ∀ (k33 : (CS × Int32 × Int32 × Int32 × Nat × Int32 × Int32 × Int32 × Int32) → Option (Nat ⊕ (Int32 × CS))) (hk33 : (∀ (w33 : CS) (v1 : Int32) (v2 : Int32) (v3 : Int32) (v4 : Nat) (v5 : Int32) (v6 : Int32) (v7 : Int32) (v8 : Int32), k33 (w33, v1, v2, v3, v4, v5, v6, v7, v8) = some res → ∀ (G33 : Nat → va_E), v4 < 7 → CI κ A w33 L G33 → FrA A F G33 → ∀ (H33 : Heap) (l33 : List Loc) (ls : Array Slot), HW D cls L s H33 l33 L G33 → lv_has ls 9 [(0, .ref (A 0)), (1, .int v1), (2, .int v2), (3, .int v3), (4, .ref (A (1 + 2 * v4))), (5, .int v5), (6, .int v6), (7, .int v7), (8, .int v8)] → W p l e (Rm 8 2 12) s m ([.ref (A 0), .int x1, .int x2, .int x3] : List Value).toArray below meth c H33 l33 2 12 (ExI D cls s below ([.ref (A 0), .int x1, .int x2, .int x3] : List Value).toArray 2 12 L F (fun r L' F' => L = L' ∧ ∃ z, res = .inr z ∧ z.1 = r ∧ CI κ A z.2 L F' ∧ FrA A F F') (fun E => ∃ k, res = .inl k ∧ E = xName k)) (F0 m 33 ls []))) (w69 : CS) (v1 : Int32) (v2 : Int32) (v3 : Int32) (v4 : Nat) (v5 : Int32) (v6 : Int32) (v8 : Int32) (u0 : Nat) (u1 : Int32), f_X3_thin_69 k33 w69 v1 v2 v3 v4 v5 v6 v8 u0 u1 = some res → ∀ (G69 : Nat → va_E), v4 < 7 → u0 < 7 → CI κ A w69 L G69 → FrA A F G69 → ∀ (H69 : Heap) (l69 : List Loc) (ls : Array Slot), HW D cls L s H69 l69 L G69 → lv_has ls 9 [(0, .ref (A 0)), (1, .int v1), (2, .int v2), (3, .int v3), (4, .ref (A (1 + 2 * v4))), (5, .int v5), (6, .int v6), (8, .int v8)] → W p l e (Rm 8 2 12) s m ([.ref (A 0), .int x1, .int x2, .int x3] : List Value).toArray below meth c H69 l69 2 12 (ExI D cls s below ([.ref (A 0), .int x1, .int x2, .int x3] : List Value).toArray 2 12 L F (fun r L' F' => L = L' ∧ ∃ z, res = .inr z ∧ z.1 = r ∧ CI κ A z.2 L F' ∧ FrA A F F') (fun E => ∃ k, res = .inl k ∧ E = xName k)) (F0 m 69 ls [.int u1, .ref (A (1 + 2 * u0))]) := by
    intro k33 hk33 w69 v1 v2 v3 v4 v5 v6 v8 u0 u1 hf G69 hv4 hu0 hI hFr H69 l69 ls hW hl
    unfold f_X3_thin_69 at hf
    obtain ⟨z2, hz, hf⟩ := ob hf
    refine pk_cVI (As := [.int u1]) (rest := []) S hK hST hW (c_X0_leave (hI.row hu0) u1 hz) mc_X0_leave wd_115 wd_116 wd_117 rfl np_X0_leave (hI.mem _ (by have := hu0; omega)) (hI.rowH hu0) rfl rfl hl.1 rfl (Nat.le_of_ble_eq_true rfl) dX3_thin_69 ⟨by decide, by decide⟩ ⟨by decide, by decide⟩ (fun r L3 F4 H5 l6 hp hW => ?_)
    obtain ⟨rfl, rfl, hI1, hFr1⟩ := hp
    have hFr := hFr.tr (FrA.row hu0 hFr1)
    have hI := hI.setRow hu0 hI1 hFr1
    obtain ⟨t7, et7, hf⟩ := nm_ok hf
    have hI := eqm (P := fun w => CI κ A w L F4) hI et7.symm
    refine lv_pop S.1 S.2.1 dX3_thin_72 rfl ?_
    obtain ⟨y8, ey8⟩ : ∃ y : Int32, y = v6 + 1 := ⟨_, rfl⟩
    have hf := nm_at hf ey8
    refine lv_iinc (v := y8) (lv' := [(6, .int y8), (0, .ref (A 0)), (1, .int v1), (2, .int v2), (3, .int v3), (4, .ref (A (1 + 2 * v4))), (5, .int v5), (8, .int v8)]) S.1 S.2.1 dX3_thin_73 hl (k := 6) rfl (by rw [ey8]; rfl) (by decide) rfl (fun ls hl => ?_)
    refine lv_iload_n S.1 S.2.1 dX3_thin_76 rfl (lv_at hl 4 rfl) ?_
    refine lv_istore (lv' := [(7, .int v3), (6, .int y8), (0, .ref (A 0)), (1, .int v1), (2, .int v2), (3, .int v3), (4, .ref (A (1 + 2 * v4))), (5, .int v5), (8, .int v8)]) S.1 S.2.1 dX3_thin_77 hl (by decide) rfl (fun ls hl => ?_)
    exact B79 k33 hk33 t7 v1 v2 v3 v4 v5 y8 v3 v8 hf F4 hv4 hI hFr _ _ _ hW (lv_sub hl [2, 3, 4, 5, 6, 7, 1, 0, 8] rfl)
  have B33 : ∀ (N : Nat), (∀ (w33 : CS) (v1 : Int32) (v2 : Int32) (v3 : Int32) (v4 : Nat) (v5 : Int32) (v6 : Int32) (v7 : Int32) (v8 : Int32), (lpn (f_X3_thin_33 ) N) (w33, v1, v2, v3, v4, v5, v6, v7, v8) = some res → ∀ (G33 : Nat → va_E), v4 < 7 → CI κ A w33 L G33 → FrA A F G33 → ∀ (H33 : Heap) (l33 : List Loc) (ls : Array Slot), HW D cls L s H33 l33 L G33 → lv_has ls 9 [(0, .ref (A 0)), (1, .int v1), (2, .int v2), (3, .int v3), (4, .ref (A (1 + 2 * v4))), (5, .int v5), (6, .int v6), (7, .int v7), (8, .int v8)] → W p l e (Rm 8 2 12) s m ([.ref (A 0), .int x1, .int x2, .int x3] : List Value).toArray below meth c H33 l33 2 12 (ExI D cls s below ([.ref (A 0), .int x1, .int x2, .int x3] : List Value).toArray 2 12 L F (fun r L' F' => L = L' ∧ ∃ z, res = .inr z ∧ z.1 = r ∧ CI κ A z.2 L F' ∧ FrA A F F') (fun E => ∃ k, res = .inl k ∧ E = xName k)) (F0 m 33 ls [])) := by
    intro  N
    induction N with
    | zero => intro w33 v1 v2 v3 v4 v5 v6 v7 v8 hf G33 hv4 hI hFr H33 l33 ls hW hl; cases hf
    | succ N ih =>
      intro w33 v1 v2 v3 v4 v5 v6 v7 v8 hf G33 hv4 hI hFr H33 l33 ls hW hl
      have hf : f_X3_thin_33 (lpn (f_X3_thin_33 ) N) (w33, v1, v2, v3, v4, v5, v6, v7, v8) = some res := hf
      generalize lpn (f_X3_thin_33 ) N = k33 at hf ih
      have hk33 := ih
      unfold f_X3_thin_33 at hf
      try dsimp only at hf
      refine lv_iload S.1 S.2.1 dX3_thin_33 (lv_at hl 8 rfl) ?_
      refine lv_iload S.1 S.2.1 dX3_thin_35 (lv_at hl 5 rfl) ?_
      refine lv_icmp_ge (tgt := 85) S.1 S.2.1 dX3_thin_37 (by decide) (fun c9 => ?_) (fun c9 => ?_)
      · have hf := (if_pos c9).symm.trans hf
        refine lv_aload_n S.1 S.2.1 dX3_thin_85 rfl (lv_at hl 0 rfl) ?_
        refine lv_iload_n S.1 S.2.1 dX3_thin_86 rfl (lv_at hl 1 rfl) ?_
        refine lv_iload S.1 S.2.1 dX3_thin_87 (lv_at hl 6 rfl) ?_
        obtain ⟨z10, hz, hf⟩ := ob hf
        refine pk_cVV (As := [.int v1, .int v6]) (rest := []) S hK hST hW (c_X3_tearIfAny hI v1 v6 hz) mc_X3_tearIfAny wd_182 wd_184 wd_1666 rfl np_X3_tearIfAny (hI.mem 0 (by decide)) hI.this rfl rfl hl.1 rfl (Nat.le_of_ble_eq_true rfl) dX3_thin_89 ⟨by decide, by decide⟩ ⟨by decide, by decide⟩ (fun L11 F12 H13 l14 hp hW => ?_)
        obtain ⟨rfl, hI1, hFr1⟩ := hp
        have hI := hI1
        have hFr := hFr.tr hFr1
        refine lv_iload S.1 S.2.1 dX3_thin_92 (lv_at hl 6 rfl) ?_
        exact xk_iret S hr hlk hW ⟨rfl, _, (Option.some.inj hf).symm, rfl, hI, hFr⟩ (by decide) (by decide) dX3_thin_94
      · have hf := (if_neg c9).symm.trans hf
        obtain ⟨y15, ey15⟩ : ∃ y : Int32, y = v7 + (-1) := ⟨_, rfl⟩
        have hf := nm_at hf ey15
        refine lv_iinc (v := y15) (lv' := [(7, .int y15), (0, .ref (A 0)), (1, .int v1), (2, .int v2), (3, .int v3), (4, .ref (A (1 + 2 * v4))), (5, .int v5), (6, .int v6), (8, .int v8)]) S.1 S.2.1 dX3_thin_40 hl (k := 7) rfl (by rw [ey15]; rfl) (by decide) rfl (fun ls hl => ?_)
        refine lv_iload S.1 S.2.1 dX3_thin_43 (lv_at hl 0 rfl) ?_
        refine lv_if_ne (tgt := 79) S.1 S.2.1 dX3_thin_45 (by decide) (fun c16 => ?_) (fun c16 => ?_)
        · have hf := (if_neg c16).symm.trans hf
          exact B79 k33 hk33 w33 v1 v2 v3 v4 v5 v6 y15 v8 hf G33 hv4 hI hFr _ _ _ hW (lv_sub hl [1, 2, 3, 4, 5, 6, 7, 0, 8] rfl)
        · have hf := (if_pos c16).symm.trans hf
          refine lv_aload S.1 S.2.1 dX3_thin_48 (lv_at hl 5 rfl) ?_
          refine lv_iload_n S.1 S.2.1 dX3_thin_50 rfl (lv_at hl 3 rfl) ?_
          refine lv_if_eq (tgt := 64) S.1 S.2.1 dX3_thin_51 (by decide) (fun c17 => ?_) (fun c17 => ?_)
          · have hf := (if_pos c17).symm.trans hf
            refine lv_iload S.1 S.2.1 dX3_thin_64 (lv_at hl 8 rfl) ?_
            refine lv_iload S.1 S.2.1 dX3_thin_66 (lv_at hl 7 rfl) ?_
            refine lv_isub S.1 S.2.1 dX3_thin_68 ?_
            exact B69 k33 hk33 w33 v1 v2 v3 v4 v5 v6 v8 v4 (v8 - v6) hf G33 hv4 hv4 hI hFr _ _ _ hW (lv_sub hl [1, 2, 3, 4, 5, 6, 7, 8] rfl)
          · have hf := (if_neg c17).symm.trans hf
            refine lv_iload S.1 S.2.1 dX3_thin_54 (lv_at hl 6 rfl) ?_
            refine lv_iconst (v := 1) S.1 S.2.1 dX3_thin_56 (by decide) ?_
            refine lv_isub S.1 S.2.1 dX3_thin_57 ?_
            refine lv_iload S.1 S.2.1 dX3_thin_58 (lv_at hl 8 rfl) ?_
            refine lv_isub S.1 S.2.1 dX3_thin_60 ?_
            refine lv_goto (tgt := 69) S.1 S.2.1 dX3_thin_61 (by decide) ?_
            exact B69 k33 hk33 w33 v1 v2 v3 v4 v5 v6 v8 v4 ((v5 - 1) - v8) hf G33 hv4 hv4 hI hFr _ _ _ hW (lv_sub hl [1, 2, 3, 4, 5, 6, 7, 8] rfl)
  unfold f_X3_thin at hf
  refine lv_iload_n S.1 S.2.1 dX3_thin_0 rfl (lv_at hl 1 rfl) ?_
  obtain ⟨z1, hz, hxl, hxr⟩ := obx_ok hf
  refine xk_cSV (As := [.int x1]) (rest := []) S hK hST hW (c_X3_needTrack hst  x1 hz) mc_X3_needTrack wd_359 wd_360 np_X3_needTrack rfl hl.1 rfl (Nat.le_of_ble_eq_true rfl) dX3_thin_1 ⟨by decide, by decide⟩ ⟨by decide, by decide⟩ (fun E ce q9 H21 l22 hE hW h1 h2 h3 => ?_) (fun L19 F20 H21 l22 hp hW => ?_)
  · obtain ⟨k, hk1, hk2⟩ := hE
    exact xk_outI hxt hlk hW ⟨k, hxl k hk1, hk2⟩ h1 h2 h3 (by decide) (by decide)
  obtain ⟨rfl, rfl, z18, hz1⟩ := hp
  have hf := hxr z18 hz1
  refine lv_iload_n S.1 S.2.1 dX3_thin_4 rfl (lv_at hl 3 rfl) ?_
  refine lv_iconst (v := 2) S.1 S.2.1 dX3_thin_5 (by decide) ?_
  refine lv_iconst (v := 5) S.1 S.2.1 dX3_thin_6 (by decide) ?_
  obtain ⟨z1, hz, hxl, hxr⟩ := obx_ok hf
  refine xk_cSV (As := [.int x3, .int 2, .int 5]) (rest := []) S hK hST hW (c_X3_needWithin hst  x3 2 5 hz) mc_X3_needWithin wd_416 wd_417 np_X3_needWithin rfl hl.1 rfl (Nat.le_of_ble_eq_true rfl) dX3_thin_7 ⟨by decide, by decide⟩ ⟨by decide, by decide⟩ (fun E ce q9 H26 l27 hE hW h1 h2 h3 => ?_) (fun L24 F25 H26 l27 hp hW => ?_)
  · obtain ⟨k, hk1, hk2⟩ := hE
    exact xk_outI hxt hlk hW ⟨k, hxl k hk1, hk2⟩ h1 h2 h3 (by decide) (by decide)
  obtain ⟨rfl, rfl, z23, hz1⟩ := hp
  have hf := hxr z23 hz1
  refine lv_aload_n S.1 S.2.1 dX3_thin_10 rfl (lv_at hl 0 rfl) ?_
  refine lv_iload_n S.1 S.2.1 dX3_thin_11 rfl (lv_at hl 1 rfl) ?_
  obtain ⟨z28, hz, hf⟩ := ob hf
  refine pk_cVR (As := [.int x1]) (rest := []) S hK hST hW (c_X3_trackOf hI x1 hz) mc_X3_trackOf wd_130 wd_132 wd_1664 rfl np_X3_trackOf (hI.mem 0 (by decide)) hI.this rfl rfl hl.1 rfl (Nat.le_of_ble_eq_true rfl) dX3_thin_12 ⟨by decide, by decide⟩ ⟨by decide, by decide⟩ (fun r L29 F30 H31 l32 hp hW => ?_)
  obtain ⟨rfl, rfl, hbz28, rfl⟩ := hp
  refine lv_astore (lv' := [(4, .ref (A (1 + 2 * z28))), (0, .ref (A 0)), (1, .int x1), (2, .int x2), (3, .int x3)]) S.1 S.2.1 dX3_thin_15 hl (by decide) rfl (fun ls hl => ?_)
  refine lv_aload S.1 S.2.1 dX3_thin_17 (lv_at hl 0 rfl) ?_
  obtain ⟨z33, hz, hf⟩ := ob hf
  refine pk_cVI (As := []) (rest := []) S hK hST hW (c_X0_size (hI.row hbz28)  hz) mc_X0_size wd_140 wd_141 wd_142 rfl np_X0_size (hI.mem _ (by have := hbz28; omega)) (hI.rowH hbz28) rfl rfl hl.1 rfl (Nat.le_of_ble_eq_true rfl) dX3_thin_19 ⟨by decide, by decide⟩ ⟨by decide, by decide⟩ (fun r L34 F35 H36 l37 hp hW => ?_)
  obtain ⟨rfl, rfl, rfl⟩ := hp
  refine lv_istore (lv' := [(5, .int z33), (4, .ref (A (1 + 2 * z28))), (0, .ref (A 0)), (1, .int x1), (2, .int x2), (3, .int x3)]) S.1 S.2.1 dX3_thin_22 hl (by decide) rfl (fun ls hl => ?_)
  refine lv_iconst (v := 0) S.1 S.2.1 dX3_thin_24 (by decide) ?_
  refine lv_istore (lv' := [(6, .int 0), (5, .int z33), (4, .ref (A (1 + 2 * z28))), (0, .ref (A 0)), (1, .int x1), (2, .int x2), (3, .int x3)]) S.1 S.2.1 dX3_thin_25 hl (by decide) rfl (fun ls hl => ?_)
  refine lv_iload_n S.1 S.2.1 dX3_thin_27 rfl (lv_at hl 6 rfl) ?_
  refine lv_istore (lv' := [(7, .int x3), (6, .int 0), (5, .int z33), (4, .ref (A (1 + 2 * z28))), (0, .ref (A 0)), (1, .int x1), (2, .int x2), (3, .int x3)]) S.1 S.2.1 dX3_thin_28 hl (by decide) rfl (fun ls hl => ?_)
  refine lv_iconst (v := 0) S.1 S.2.1 dX3_thin_30 (by decide) ?_
  refine lv_istore (lv' := [(8, .int 0), (7, .int x3), (6, .int 0), (5, .int z33), (4, .ref (A (1 + 2 * z28))), (0, .ref (A 0)), (1, .int x1), (2, .int x2), (3, .int x3)]) S.1 S.2.1 dX3_thin_31 hl (by decide) rfl (fun ls hl => ?_)
  exact B33  64 σ x1 x2 x3 z28 z33 0 x3 0 hf F hbz28 hI hFr _ _ _ hW (lv_sub hl [5, 6, 7, 8, 4, 3, 2, 1, 0] rfl)
def f_X3_turn_20   (k20 : CS × Int32 × Nat × Int32 × Int32 → Option (Nat ⊕ (Int32 × CS))) (t : CS × Int32 × Nat × Int32 × Int32) : Option (Nat ⊕ (Int32 × CS)) := (if t.2.2.2.2 ≤ t.2.2.2.1 then (f_X0_size (cap t.2.2.1) (t.1.1 t.2.2.1)).bind fun z2 => (f_X3_tearIfAny t.1 t.2.1 z2).bind fun z7 => (f_X3_codeAtEnd z7 t.2.1 0).bind fun z12 => some (.inr (z12, z7)) else (f_X0_read (cap t.2.2.1) (t.1.1 t.2.2.1) t.2.2.2.1).bind fun z17 => (f_X0_read (cap t.2.2.1) (t.1.1 t.2.2.1) t.2.2.2.2).bind fun z22 => (f_X0_overwrite (cap t.2.2.1) (t.1.1 t.2.2.1) t.2.2.2.1 z22).bind fun z27 => nm ((va_up t.1.1 t.2.2.1 z27, t.1.2) : CS) fun t32 => (f_X0_overwrite (cap t.2.2.1) (t32.1 t.2.2.1) t.2.2.2.2 z17).bind fun z33 => nm ((va_up t32.1 t.2.2.1 z33, t32.2) : CS) fun t38 => nm (t.2.2.2.1 + 1 : Int32) fun y39 => nm (t.2.2.2.2 + (-1) : Int32) fun y40 => k20 (t38, t.2.1, t.2.2.1, y39, y40))
def f_X3_turn (σ : CS) (x1 : Int32) : Option (Nat ⊕ (Int32 × CS)) := obx (f_X3_needTrack x1) fun z41 => (f_X3_trackOf σ x1).bind fun z46 => (f_X0_size (cap z46) (σ.1 z46)).bind fun z51 => nm (z51 - 1 : Int32) fun y56 => lpn (f_X3_turn_20 ) 64 (σ, x1, z46, 0, y56)
theorem mc_X3_turn : MCode yX3_turn cX3_turn 6 (some .int) := ⟨wd_564, wd_1, by decide, by decide⟩
theorem np_X3_turn : (parseMethodDescriptor yX3_turn.desc).map (fun d => d.parameters.length) = some 1 := by decide +kernel
set_option maxHeartbeats 4000000 in
set_option maxRecDepth 100000 in
theorem c_X3_turn {l : Launch} {D : va_G} {κ : Nat → ClassId} {ζ : Nat → Nat} {L : List Nat} {F : Nat → va_E} {σ : CS} {A : Nat → Nat} (hst : l.stackTraces = false) (hI : CI κ A σ L F) (x1 : Int32) {res : (Nat ⊕ (Int32 × CS))} (hf : f_X3_turn σ x1 = some res) : MxI l D cls (ty5 κ) ζ yX3_turn cX3_turn 6 (some .int) 8 1 6 ([.ref (A 0), .int x1] : List Value) L F (fun r L' F' => L = L' ∧ ∃ z, res = .inr z ∧ z.1 = r ∧ CI κ A z.2 L F' ∧ FrA A F F') (fun E => ∃ k, res = .inl k ∧ E = xName k) := by
  refine MxI.of (by decide) (Nat.le_of_ble_eq_true rfl) ?_
  intro p e s m below meth c S hr hlk hxt hK hW hST ls hl
  have hl : lv_has ls 6 [(0, .ref (A 0)), (1, .int x1)] := hl
  have hFr : FrA A F F := FrA.rf
  have B20 : ∀ (N : Nat), (∀ (w20 : CS) (v1 : Int32) (v2 : Nat) (v3 : Int32) (v4 : Int32), (lpn (f_X3_turn_20 ) N) (w20, v1, v2, v3, v4) = some res → ∀ (G20 : Nat → va_E), v2 < 7 → CI κ A w20 L G20 → FrA A F G20 → ∀ (H20 : Heap) (l20 : List Loc) (ls : Array Slot), HW D cls L s H20 l20 L G20 → lv_has ls 6 [(0, .ref (A 0)), (1, .int v1), (2, .ref (A (1 + 2 * v2))), (3, .int v3), (4, .int v4)] → W p l e (Rm 8 1 6) s m ([.ref (A 0), .int x1] : List Value).toArray below meth c H20 l20 1 6 (ExI D cls s below ([.ref (A 0), .int x1] : List Value).toArray 1 6 L F (fun r L' F' => L = L' ∧ ∃ z, res = .inr z ∧ z.1 = r ∧ CI κ A z.2 L F' ∧ FrA A F F') (fun E => ∃ k, res = .inl k ∧ E = xName k)) (F0 m 20 ls [])) := by
    intro  N
    induction N with
    | zero => intro w20 v1 v2 v3 v4 hf G20 hv2 hI hFr H20 l20 ls hW hl; cases hf
    | succ N ih =>
      intro w20 v1 v2 v3 v4 hf G20 hv2 hI hFr H20 l20 ls hW hl
      have hf : f_X3_turn_20 (lpn (f_X3_turn_20 ) N) (w20, v1, v2, v3, v4) = some res := hf
      generalize lpn (f_X3_turn_20 ) N = k20 at hf ih
      have hk20 := ih
      unfold f_X3_turn_20 at hf
      try dsimp only at hf
      refine lv_iload_n S.1 S.2.1 dX3_turn_20 rfl (lv_at hl 3 rfl) ?_
      refine lv_iload S.1 S.2.1 dX3_turn_21 (lv_at hl 4 rfl) ?_
      refine lv_icmp_ge (tgt := 61) S.1 S.2.1 dX3_turn_23 (by decide) (fun c1 => ?_) (fun c1 => ?_)
      · have hf := (if_pos c1).symm.trans hf
        refine lv_aload_n S.1 S.2.1 dX3_turn_61 rfl (lv_at hl 0 rfl) ?_
        refine lv_iload_n S.1 S.2.1 dX3_turn_62 rfl (lv_at hl 1 rfl) ?_
        refine lv_aload_n S.1 S.2.1 dX3_turn_63 rfl (lv_at hl 2 rfl) ?_
        obtain ⟨z2, hz, hf⟩ := ob hf
        refine pk_cVI (As := []) (rest := [.int v1, .ref (A 0)]) S hK hST hW (c_X0_size (hI.row hv2)  hz) mc_X0_size wd_140 wd_141 wd_142 rfl np_X0_size (hI.mem _ (by have := hv2; omega)) (hI.rowH hv2) rfl rfl hl.1 rfl (Nat.le_of_ble_eq_true rfl) dX3_turn_64 ⟨by decide, by decide⟩ ⟨by decide, by decide⟩ (fun r L3 F4 H5 l6 hp hW => ?_)
        obtain ⟨rfl, rfl, rfl⟩ := hp
        obtain ⟨z7, hz, hf⟩ := ob hf
        refine pk_cVV (As := [.int v1, .int z2]) (rest := []) S hK hST hW (c_X3_tearIfAny hI v1 z2 hz) mc_X3_tearIfAny wd_182 wd_184 wd_1666 rfl np_X3_tearIfAny (hI.mem 0 (by decide)) hI.this rfl rfl hl.1 rfl (Nat.le_of_ble_eq_true rfl) dX3_turn_67 ⟨by decide, by decide⟩ ⟨by decide, by decide⟩ (fun L8 F9 H10 l11 hp hW => ?_)
        obtain ⟨rfl, hI1, hFr1⟩ := hp
        have hI := hI1
        have hFr := hFr.tr hFr1
        refine lv_aload_n S.1 S.2.1 dX3_turn_70 rfl (lv_at hl 0 rfl) ?_
        refine lv_iload_n S.1 S.2.1 dX3_turn_71 rfl (lv_at hl 1 rfl) ?_
        refine lv_iconst (v := 0) S.1 S.2.1 dX3_turn_72 (by decide) ?_
        obtain ⟨z12, hz, hf⟩ := ob hf
        refine pk_cVI (As := [.int v1, .int 0]) (rest := []) S hK hST hW (c_X3_codeAtEnd hI v1 0 hz) mc_X3_codeAtEnd wd_293 wd_295 wd_1676 rfl np_X3_codeAtEnd (hI.mem 0 (by decide)) hI.this rfl rfl hl.1 rfl (Nat.le_of_ble_eq_true rfl) dX3_turn_73 ⟨by decide, by decide⟩ ⟨by decide, by decide⟩ (fun r L13 F14 H15 l16 hp hW => ?_)
        obtain ⟨rfl, rfl, rfl⟩ := hp
        exact xk_iret S hr hlk hW ⟨rfl, _, (Option.some.inj hf).symm, rfl, hI, hFr⟩ (by decide) (by decide) dX3_turn_76
      · have hf := (if_neg c1).symm.trans hf
        refine lv_aload_n S.1 S.2.1 dX3_turn_26 rfl (lv_at hl 2 rfl) ?_
        refine lv_iload_n S.1 S.2.1 dX3_turn_27 rfl (lv_at hl 3 rfl) ?_
        obtain ⟨z17, hz, hf⟩ := ob hf
        refine pk_cVI (As := [.int v3]) (rest := []) S hK hST hW (c_X0_read (hI.row hv2) v3 hz) mc_X0_read wd_171 wd_120 wd_121 rfl np_X0_read (hI.mem _ (by have := hv2; omega)) (hI.rowH hv2) rfl rfl hl.1 rfl (Nat.le_of_ble_eq_true rfl) dX3_turn_28 ⟨by decide, by decide⟩ ⟨by decide, by decide⟩ (fun r L18 F19 H20 l21 hp hW => ?_)
        obtain ⟨rfl, rfl, rfl⟩ := hp
        refine lv_istore (lv' := [(5, .int z17), (0, .ref (A 0)), (1, .int v1), (2, .ref (A (1 + 2 * v2))), (3, .int v3), (4, .int v4)]) S.1 S.2.1 dX3_turn_31 hl (by decide) rfl (fun ls hl => ?_)
        refine lv_aload_n S.1 S.2.1 dX3_turn_33 rfl (lv_at hl 3 rfl) ?_
        refine lv_iload_n S.1 S.2.1 dX3_turn_34 rfl (lv_at hl 4 rfl) ?_
        refine lv_aload_n S.1 S.2.1 dX3_turn_35 rfl (lv_at hl 3 rfl) ?_
        refine lv_iload S.1 S.2.1 dX3_turn_36 (lv_at hl 5 rfl) ?_
        obtain ⟨z22, hz, hf⟩ := ob hf
        refine pk_cVI (As := [.int v4]) (rest := [.int v3, .ref (A (1 + 2 * v2))]) S hK hST hW (c_X0_read (hI.row hv2) v4 hz) mc_X0_read wd_171 wd_120 wd_121 rfl np_X0_read (hI.mem _ (by have := hv2; omega)) (hI.rowH hv2) rfl rfl hl.1 rfl (Nat.le_of_ble_eq_true rfl) dX3_turn_38 ⟨by decide, by decide⟩ ⟨by decide, by decide⟩ (fun r L23 F24 H25 l26 hp hW => ?_)
        obtain ⟨rfl, rfl, rfl⟩ := hp
        obtain ⟨z27, hz, hf⟩ := ob hf
        refine pk_cVV (As := [.int v3, .int z22]) (rest := []) S hK hST hW (c_X0_overwrite (hI.row hv2) v3 z22 hz) mc_X0_overwrite wd_565 wd_124 wd_125 rfl np_X0_overwrite (hI.mem _ (by have := hv2; omega)) (hI.rowH hv2) rfl rfl hl.1 rfl (Nat.le_of_ble_eq_true rfl) dX3_turn_41 ⟨by decide, by decide⟩ ⟨by decide, by decide⟩ (fun L28 F29 H30 l31 hp hW => ?_)
        obtain ⟨rfl, hI1, hFr1⟩ := hp
        have hFr := hFr.tr (FrA.row hv2 hFr1)
        have hI := hI.setRow hv2 hI1 hFr1
        obtain ⟨t32, et32, hf⟩ := nm_ok hf
        have hI := eqm (P := fun w => CI κ A w L F29) hI et32.symm
        refine lv_aload_n S.1 S.2.1 dX3_turn_44 rfl (lv_at hl 3 rfl) ?_
        refine lv_iload S.1 S.2.1 dX3_turn_45 (lv_at hl 5 rfl) ?_
        refine lv_iload S.1 S.2.1 dX3_turn_47 (lv_at hl 0 rfl) ?_
        obtain ⟨z33, hz, hf⟩ := ob hf
        refine pk_cVV (As := [.int v4, .int z17]) (rest := []) S hK hST hW (c_X0_overwrite (hI.row hv2) v4 z17 hz) mc_X0_overwrite wd_565 wd_124 wd_125 rfl np_X0_overwrite (hI.mem _ (by have := hv2; omega)) (hI.rowH hv2) rfl rfl hl.1 rfl (Nat.le_of_ble_eq_true rfl) dX3_turn_49 ⟨by decide, by decide⟩ ⟨by decide, by decide⟩ (fun L34 F35 H36 l37 hp hW => ?_)
        obtain ⟨rfl, hI1, hFr1⟩ := hp
        have hFr := hFr.tr (FrA.row hv2 hFr1)
        have hI := hI.setRow hv2 hI1 hFr1
        obtain ⟨t38, et38, hf⟩ := nm_ok hf
        have hI := eqm (P := fun w => CI κ A w L F35) hI et38.symm
        obtain ⟨y39, ey39⟩ : ∃ y : Int32, y = v3 + 1 := ⟨_, rfl⟩
        have hf := nm_at hf ey39
        refine lv_iinc (v := y39) (lv' := [(3, .int y39), (5, .int z17), (0, .ref (A 0)), (1, .int v1), (2, .ref (A (1 + 2 * v2))), (4, .int v4)]) S.1 S.2.1 dX3_turn_52 hl (k := 4) rfl (by rw [ey39]; rfl) (by decide) rfl (fun ls hl => ?_)
        obtain ⟨y40, ey40⟩ : ∃ y : Int32, y = v4 + (-1) := ⟨_, rfl⟩
        have hf := nm_at hf ey40
        refine lv_iinc (v := y40) (lv' := [(4, .int y40), (3, .int y39), (5, .int z17), (0, .ref (A 0)), (1, .int v1), (2, .ref (A (1 + 2 * v2)))]) S.1 S.2.1 dX3_turn_55 hl (k := 5) rfl (by rw [ey40]; rfl) (by decide) rfl (fun ls hl => ?_)
        refine lv_goto (tgt := 20) S.1 S.2.1 dX3_turn_58 (by decide) ?_
        exact hk20 t38 v1 v2 y39 y40 hf F35 hv2 hI hFr _ _ _ hW (lv_sub hl [3, 4, 5, 1, 0] rfl)
  unfold f_X3_turn at hf
  refine lv_iload_n S.1 S.2.1 dX3_turn_0 rfl (lv_at hl 1 rfl) ?_
  obtain ⟨z1, hz, hxl, hxr⟩ := obx_ok hf
  refine xk_cSV (As := [.int x1]) (rest := []) S hK hST hW (c_X3_needTrack hst  x1 hz) mc_X3_needTrack wd_359 wd_360 np_X3_needTrack rfl hl.1 rfl (Nat.le_of_ble_eq_true rfl) dX3_turn_1 ⟨by decide, by decide⟩ ⟨by decide, by decide⟩ (fun E ce q9 H44 l45 hE hW h1 h2 h3 => ?_) (fun L42 F43 H44 l45 hp hW => ?_)
  · obtain ⟨k, hk1, hk2⟩ := hE
    exact xk_outI hxt hlk hW ⟨k, hxl k hk1, hk2⟩ h1 h2 h3 (by decide) (by decide)
  obtain ⟨rfl, rfl, z41, hz1⟩ := hp
  have hf := hxr z41 hz1
  refine lv_aload_n S.1 S.2.1 dX3_turn_4 rfl (lv_at hl 0 rfl) ?_
  refine lv_iload_n S.1 S.2.1 dX3_turn_5 rfl (lv_at hl 1 rfl) ?_
  obtain ⟨z46, hz, hf⟩ := ob hf
  refine pk_cVR (As := [.int x1]) (rest := []) S hK hST hW (c_X3_trackOf hI x1 hz) mc_X3_trackOf wd_130 wd_132 wd_1664 rfl np_X3_trackOf (hI.mem 0 (by decide)) hI.this rfl rfl hl.1 rfl (Nat.le_of_ble_eq_true rfl) dX3_turn_6 ⟨by decide, by decide⟩ ⟨by decide, by decide⟩ (fun r L47 F48 H49 l50 hp hW => ?_)
  obtain ⟨rfl, rfl, hbz46, rfl⟩ := hp
  refine lv_astore_n (lv' := [(2, .ref (A (1 + 2 * z46))), (0, .ref (A 0)), (1, .int x1)]) S.1 S.2.1 dX3_turn_9 rfl hl (by decide) rfl (fun ls hl => ?_)
  refine lv_iconst (v := 0) S.1 S.2.1 dX3_turn_10 (by decide) ?_
  refine lv_istore_n (lv' := [(3, .int 0), (2, .ref (A (1 + 2 * z46))), (0, .ref (A 0)), (1, .int x1)]) S.1 S.2.1 dX3_turn_11 rfl hl (by decide) rfl (fun ls hl => ?_)
  refine lv_aload_n S.1 S.2.1 dX3_turn_12 rfl (lv_at hl 1 rfl) ?_
  obtain ⟨z51, hz, hf⟩ := ob hf
  refine pk_cVI (As := []) (rest := []) S hK hST hW (c_X0_size (hI.row hbz46)  hz) mc_X0_size wd_140 wd_141 wd_142 rfl np_X0_size (hI.mem _ (by have := hbz46; omega)) (hI.rowH hbz46) rfl rfl hl.1 rfl (Nat.le_of_ble_eq_true rfl) dX3_turn_13 ⟨by decide, by decide⟩ ⟨by decide, by decide⟩ (fun r L52 F53 H54 l55 hp hW => ?_)
  obtain ⟨rfl, rfl, rfl⟩ := hp
  refine lv_iconst (v := 1) S.1 S.2.1 dX3_turn_16 (by decide) ?_
  refine lv_isub S.1 S.2.1 dX3_turn_17 ?_
  refine lv_topi (fun y56 ey56 => ?_)
  have hf := nm_at hf ey56
  refine lv_istore (lv' := [(4, .int y56), (3, .int 0), (2, .ref (A (1 + 2 * z46))), (0, .ref (A 0)), (1, .int x1)]) S.1 S.2.1 dX3_turn_18 hl (by decide) rfl (fun ls hl => ?_)
  exact B20  64 σ x1 z46 0 y56 hf F hbz46 hI hFr _ _ _ hW (lv_sub hl [3, 4, 2, 1, 0] rfl)
def f_X3_clear (σ : CS) (x1 : Int32) : Option (Nat ⊕ (Int32 × CS)) := obx (f_X3_needTrack x1) fun z1 => (f_X3_trackOf σ x1).bind fun z6 => (f_X0_size (cap z6) (σ.1 z6)).bind fun z11 => (f_X0_empty (cap z6) (σ.1 z6)).bind fun z16 => nm ((va_up σ.1 z6 z16, σ.2) : CS) fun t21 => (f_X3_tearIfAny t21 x1 z11).bind fun z22 => some (.inr (z11, z22))
theorem mc_X3_clear : MCode yX3_clear cX3_clear 4 (some .int) := ⟨wd_571, wd_1, by decide, by decide⟩
theorem np_X3_clear : (parseMethodDescriptor yX3_clear.desc).map (fun d => d.parameters.length) = some 1 := by decide +kernel
set_option maxHeartbeats 4000000 in
set_option maxRecDepth 100000 in
theorem c_X3_clear {l : Launch} {D : va_G} {κ : Nat → ClassId} {ζ : Nat → Nat} {L : List Nat} {F : Nat → va_E} {σ : CS} {A : Nat → Nat} (hst : l.stackTraces = false) (hI : CI κ A σ L F) (x1 : Int32) {res : (Nat ⊕ (Int32 × CS))} (hf : f_X3_clear σ x1 = some res) : MxI l D cls (ty5 κ) ζ yX3_clear cX3_clear 4 (some .int) 8 1 6 ([.ref (A 0), .int x1] : List Value) L F (fun r L' F' => L = L' ∧ ∃ z, res = .inr z ∧ z.1 = r ∧ CI κ A z.2 L F' ∧ FrA A F F') (fun E => ∃ k, res = .inl k ∧ E = xName k) := by
  refine MxI.of (by decide) (Nat.le_of_ble_eq_true rfl) ?_
  intro p e s m below meth c S hr hlk hxt hK hW hST ls hl
  have hl : lv_has ls 4 [(0, .ref (A 0)), (1, .int x1)] := hl
  have hFr : FrA A F F := FrA.rf
  unfold f_X3_clear at hf
  refine lv_iload_n S.1 S.2.1 dX3_clear_0 rfl (lv_at hl 1 rfl) ?_
  obtain ⟨z1, hz, hxl, hxr⟩ := obx_ok hf
  refine xk_cSV (As := [.int x1]) (rest := []) S hK hST hW (c_X3_needTrack hst  x1 hz) mc_X3_needTrack wd_359 wd_360 np_X3_needTrack rfl hl.1 rfl (Nat.le_of_ble_eq_true rfl) dX3_clear_1 ⟨by decide, by decide⟩ ⟨by decide, by decide⟩ (fun E ce q9 H4 l5 hE hW h1 h2 h3 => ?_) (fun L2 F3 H4 l5 hp hW => ?_)
  · obtain ⟨k, hk1, hk2⟩ := hE
    exact xk_outI hxt hlk hW ⟨k, hxl k hk1, hk2⟩ h1 h2 h3 (by decide) (by decide)
  obtain ⟨rfl, rfl, z1, hz1⟩ := hp
  have hf := hxr z1 hz1
  refine lv_aload_n S.1 S.2.1 dX3_clear_4 rfl (lv_at hl 0 rfl) ?_
  refine lv_iload_n S.1 S.2.1 dX3_clear_5 rfl (lv_at hl 1 rfl) ?_
  obtain ⟨z6, hz, hf⟩ := ob hf
  refine pk_cVR (As := [.int x1]) (rest := []) S hK hST hW (c_X3_trackOf hI x1 hz) mc_X3_trackOf wd_130 wd_132 wd_1664 rfl np_X3_trackOf (hI.mem 0 (by decide)) hI.this rfl rfl hl.1 rfl (Nat.le_of_ble_eq_true rfl) dX3_clear_6 ⟨by decide, by decide⟩ ⟨by decide, by decide⟩ (fun r L7 F8 H9 l10 hp hW => ?_)
  obtain ⟨rfl, rfl, hbz6, rfl⟩ := hp
  refine lv_astore_n (lv' := [(2, .ref (A (1 + 2 * z6))), (0, .ref (A 0)), (1, .int x1)]) S.1 S.2.1 dX3_clear_9 rfl hl (by decide) rfl (fun ls hl => ?_)
  refine lv_aload_n S.1 S.2.1 dX3_clear_10 rfl (lv_at hl 0 rfl) ?_
  obtain ⟨z11, hz, hf⟩ := ob hf
  refine pk_cVI (As := []) (rest := []) S hK hST hW (c_X0_size (hI.row hbz6)  hz) mc_X0_size wd_140 wd_141 wd_142 rfl np_X0_size (hI.mem _ (by have := hbz6; omega)) (hI.rowH hbz6) rfl rfl hl.1 rfl (Nat.le_of_ble_eq_true rfl) dX3_clear_11 ⟨by decide, by decide⟩ ⟨by decide, by decide⟩ (fun r L12 F13 H14 l15 hp hW => ?_)
  obtain ⟨rfl, rfl, rfl⟩ := hp
  refine lv_istore_n (lv' := [(3, .int z11), (2, .ref (A (1 + 2 * z6))), (0, .ref (A 0)), (1, .int x1)]) S.1 S.2.1 dX3_clear_14 rfl hl (by decide) rfl (fun ls hl => ?_)
  refine lv_aload_n S.1 S.2.1 dX3_clear_15 rfl (lv_at hl 1 rfl) ?_
  obtain ⟨z16, hz, hf⟩ := ob hf
  refine pk_cVV (As := []) (rest := []) S hK hST hW (c_X0_empty (hI.row hbz6)  hz) mc_X0_empty wd_190 wd_191 wd_192 rfl np_X0_empty (hI.mem _ (by have := hbz6; omega)) (hI.rowH hbz6) rfl rfl hl.1 rfl (Nat.le_of_ble_eq_true rfl) dX3_clear_16 ⟨by decide, by decide⟩ ⟨by decide, by decide⟩ (fun L17 F18 H19 l20 hp hW => ?_)
  obtain ⟨rfl, hI1, hFr1⟩ := hp
  have hFr := hFr.tr (FrA.row hbz6 hFr1)
  have hI := hI.setRow hbz6 hI1 hFr1
  obtain ⟨t21, et21, hf⟩ := nm_ok hf
  have hI := eqm (P := fun w => CI κ A w L F18) hI et21.symm
  refine lv_aload_n S.1 S.2.1 dX3_clear_19 rfl (lv_at hl 2 rfl) ?_
  refine lv_iload_n S.1 S.2.1 dX3_clear_20 rfl (lv_at hl 3 rfl) ?_
  refine lv_iload_n S.1 S.2.1 dX3_clear_21 rfl (lv_at hl 0 rfl) ?_
  obtain ⟨z22, hz, hf⟩ := ob hf
  refine pk_cVV (As := [.int x1, .int z11]) (rest := []) S hK hST hW (c_X3_tearIfAny hI x1 z11 hz) mc_X3_tearIfAny wd_182 wd_184 wd_1666 rfl np_X3_tearIfAny (hI.mem 0 (by decide)) hI.this rfl rfl hl.1 rfl (Nat.le_of_ble_eq_true rfl) dX3_clear_22 ⟨by decide, by decide⟩ ⟨by decide, by decide⟩ (fun L23 F24 H25 l26 hp hW => ?_)
  obtain ⟨rfl, hI1, hFr1⟩ := hp
  have hI := hI1
  have hFr := hFr.tr hFr1
  refine lv_iload_n S.1 S.2.1 dX3_clear_25 rfl (lv_at hl 0 rfl) ?_
  exact xk_iret S hr hlk hW ⟨rfl, _, (Option.some.inj hf).symm, rfl, hI, hFr⟩ (by decide) (by decide) dX3_clear_26
def f_X3_isLikeOneOf (σ : CS) (x1 : Nat) (x2 : Int32) : Option Int32 := (f_X3_kindOf x2).bind fun z1 => (f_X0_placeOfKind (cap x1) (σ.1 x1) z1 0).bind fun z6 => (if z6 = ((-1)) then some (0) else some (1))
theorem mc_X3_isLikeOneOf : MCode yX3_isLikeOneOf cX3_isLikeOneOf 2 (some .boolean) := ⟨wd_174, wd_1, by decide, by decide⟩
theorem np_X3_isLikeOneOf : (parseMethodDescriptor yX3_isLikeOneOf.desc).map (fun d => d.parameters.length) = some 2 := by decide +kernel
set_option maxHeartbeats 4000000 in
set_option maxRecDepth 100000 in
theorem c_X3_isLikeOneOf {l : Launch} {D : va_G} {κ : Nat → ClassId} {ζ : Nat → Nat} {L : List Nat} {F : Nat → va_E} {σ : CS} {A : Nat → Nat} (hI : CI κ A σ L F) (x1 : Nat) (hx1 : x1 < 7) (x2 : Int32) {res : Int32} (hf : f_X3_isLikeOneOf σ x1 x2 = some res) : MtI l D cls (ty5 κ) ζ yX3_isLikeOneOf cX3_isLikeOneOf 2 (some .boolean) 3 0 0 ([.ref (A (1 + 2 * x1)), .int x2] : List Value) L F (fun r L' F' => L = L' ∧ F = F' ∧ res = r) := by
  refine MtI.of (by decide) (Nat.le_of_ble_eq_true rfl) ?_
  intro p e s m below meth c S hr hlk _ hK hW hST ls hl
  have hl : lv_has ls 2 [(0, .ref (A (1 + 2 * x1))), (1, .int x2)] := hl
  unfold f_X3_isLikeOneOf at hf
  refine lv_aload_n S.1 S.2.1 dX3_isLikeOneOf_0 rfl (lv_at hl 0 rfl) ?_
  refine lv_iload_n S.1 S.2.1 dX3_isLikeOneOf_1 rfl (lv_at hl 1 rfl) ?_
  obtain ⟨z1, hz, hf⟩ := ob hf
  refine pk_cSI (As := [.int x2]) (rest := [.ref (A (1 + 2 * x1))]) S hK hST hW (c_X3_kindOf  x2 hz) mc_X3_kindOf wd_175 wd_176 np_X3_kindOf rfl hl.1 rfl (Nat.le_of_ble_eq_true rfl) dX3_isLikeOneOf_2 ⟨by decide, by decide⟩ ⟨by decide, by decide⟩ (fun r L2 F3 H4 l5 hp hW => ?_)
  obtain ⟨rfl, rfl, rfl⟩ := hp
  refine lv_iconst (v := 0) S.1 S.2.1 dX3_isLikeOneOf_5 (by decide) ?_
  obtain ⟨z6, hz, hf⟩ := ob hf
  refine pk_cVI (As := [.int z1, .int 0]) (rest := []) S hK hST hW (c_X0_placeOfKind (hI.row hx1) z1 0 hz) mc_X0_placeOfKind wd_178 wd_179 wd_180 rfl np_X0_placeOfKind (hI.mem _ (by have := hx1; omega)) (hI.rowH hx1) rfl rfl hl.1 rfl (Nat.le_of_ble_eq_true rfl) dX3_isLikeOneOf_6 ⟨by decide, by decide⟩ ⟨by decide, by decide⟩ (fun r L7 F8 H9 l10 hp hW => ?_)
  obtain ⟨rfl, rfl, rfl⟩ := hp
  refine lv_iconst (v := (-1)) S.1 S.2.1 dX3_isLikeOneOf_9 (by decide) ?_
  refine lv_icmp_eq (tgt := 17) S.1 S.2.1 dX3_isLikeOneOf_10 (by decide) (fun c11 => ?_) (fun c11 => ?_)
  · have hf := (if_pos c11).symm.trans hf
    refine lv_iconst (v := 0) S.1 S.2.1 dX3_isLikeOneOf_17 (by decide) ?_
    exact pk_zret S hr hlk hW (by decide) ⟨rfl, rfl, eqm (P := fun z => z = 0) rfl (Option.some.inj hf)⟩ (by decide) (by decide) dX3_isLikeOneOf_18
  · have hf := (if_neg c11).symm.trans hf
    refine lv_iconst (v := 1) S.1 S.2.1 dX3_isLikeOneOf_13 (by decide) ?_
    refine lv_goto (tgt := 18) S.1 S.2.1 dX3_isLikeOneOf_14 (by decide) ?_
    exact pk_zret S hr hlk hW (by decide) ⟨rfl, rfl, eqm (P := fun z => z = 1) rfl (Option.some.inj hf)⟩ (by decide) (by decide) dX3_isLikeOneOf_18
def f_X3_purge_58  (k13 : (CS × Int32 × Int32 × Int32 × Int32) → Option (Int32 × CS)) (w58 : CS) (v1 : Int32) (v2 : Int32) (v3 : Int32) (v4 : Int32) : Option (Int32 × CS) := nm (v4 + 1 : Int32) fun y1 => k13 (w58, v1, v2, v3, y1)
def f_X3_purge_13   (k13 : CS × Int32 × Int32 × Int32 × Int32 → Option (Int32 × CS)) (t : CS × Int32 × Int32 × Int32 × Int32) : Option (Int32 × CS) := (if t.2.2.1 ≤ t.2.2.2.2 then (f_X3_tearIfAny t.1 1 t.2.2.2.1).bind fun z3 => some (t.2.2.2.1, z3) else nm (t.2.2.2.2 - t.2.2.2.1 : Int32) fun y8 => (f_X0_read (cap 1) (t.1.1 1) y8).bind fun z9 => (f_X3_isLikeOneOf t.1 0 z9).bind fun z14 => (if z14 = t.2.1 then f_X3_purge_58 k13 t.1 t.2.1 t.2.2.1 t.2.2.2.1 t.2.2.2.2 else (f_X0_leave (cap 1) (t.1.1 1) y8).bind fun z20 => nm ((va_up t.1.1 1 z20.2, t.1.2) : CS) fun t25 => nm (t.2.2.2.1 + 1 : Int32) fun y26 => f_X3_purge_58 k13 t25 t.2.1 t.2.2.1 y26 t.2.2.2.2))
def f_X3_purge (σ : CS) (x1 : Int32) : Option (Int32 × CS) := (f_X0_size (cap 1) (σ.1 1)).bind fun z27 => lpn (f_X3_purge_13 ) 64 (σ, x1, z27, 0, 0)
theorem mc_X3_purge : MCode yX3_purge cX3_purge 6 (some .int) := ⟨wd_170, wd_1, by decide, by decide⟩
theorem np_X3_purge : (parseMethodDescriptor yX3_purge.desc).map (fun d => d.parameters.length) = some 1 := by decide +kernel
set_option maxHeartbeats 4000000 in
set_option maxRecDepth 100000 in
theorem c_X3_purge {l : Launch} {D : va_G} {κ : Nat → ClassId} {ζ : Nat → Nat} {L : List Nat} {F : Nat → va_E} {σ : CS} {A : Nat → Nat} (hI : CI κ A σ L F) (x1 : Int32) {res : (Int32 × CS)} (hf : f_X3_purge σ x1 = some res) : MtI l D cls (ty5 κ) ζ yX3_purge cX3_purge 6 (some .int) 5 0 0 ([.ref (A 0), .int x1] : List Value) L F (fun r L' F' => L = L' ∧ res.1 = r ∧ CI κ A res.2 L F' ∧ FrA A F F') := by
  refine MtI.of (by decide) (Nat.le_of_ble_eq_true rfl) ?_
  intro p e s m below meth c S hr hlk _ hK hW hST ls hl
  have hl : lv_has ls 6 [(0, .ref (A 0)), (1, .int x1)] := hl
  have hFr : FrA A F F := FrA.rf
  have B58 : ∀ (k13 : (CS × Int32 × Int32 × Int32 × Int32) → Option (Int32 × CS)) (hk13 : (∀ (w13 : CS) (v1 : Int32) (v2 : Int32) (v3 : Int32) (v4 : Int32), k13 (w13, v1, v2, v3, v4) = some res → ∀ (G13 : Nat → va_E), CI κ A w13 L G13 → FrA A F G13 → ∀ (H13 : Heap) (l13 : List Loc) (ls : Array Slot), HW D cls L s H13 l13 L G13 → lv_has ls 6 [(0, .ref (A 0)), (1, .int v1), (2, .int v2), (3, .int v3), (4, .int v4)] → W p l e (Rm 5 0 0) s m ([.ref (A 0), .int x1] : List Value).toArray below meth c H13 l13 0 0 (EnI D cls s below ([.ref (A 0), .int x1] : List Value).toArray 0 0 L (fun r L' F' => L = L' ∧ res.1 = r ∧ CI κ A res.2 L F' ∧ FrA A F F')) (F0 m 13 ls []))) (w58 : CS) (v1 : Int32) (v2 : Int32) (v3 : Int32) (v4 : Int32), f_X3_purge_58 k13 w58 v1 v2 v3 v4 = some res → ∀ (G58 : Nat → va_E), CI κ A w58 L G58 → FrA A F G58 → ∀ (H58 : Heap) (l58 : List Loc) (ls : Array Slot), HW D cls L s H58 l58 L G58 → lv_has ls 6 [(0, .ref (A 0)), (1, .int v1), (2, .int v2), (3, .int v3), (4, .int v4)] → W p l e (Rm 5 0 0) s m ([.ref (A 0), .int x1] : List Value).toArray below meth c H58 l58 0 0 (EnI D cls s below ([.ref (A 0), .int x1] : List Value).toArray 0 0 L (fun r L' F' => L = L' ∧ res.1 = r ∧ CI κ A res.2 L F' ∧ FrA A F F')) (F0 m 58 ls []) := by
    intro k13 hk13 w58 v1 v2 v3 v4 hf G58 hI hFr H58 l58 ls hW hl
    unfold f_X3_purge_58 at hf
    obtain ⟨y1, ey1⟩ : ∃ y : Int32, y = v4 + 1 := ⟨_, rfl⟩
    have hf := nm_at hf ey1
    refine lv_iinc (v := y1) (lv' := [(4, .int y1), (0, .ref (A 0)), (1, .int v1), (2, .int v2), (3, .int v3)]) S.1 S.2.1 dX3_purge_58 hl (k := 4) rfl (by rw [ey1]; rfl) (by decide) rfl (fun ls hl => ?_)
    refine lv_goto (tgt := 13) S.1 S.2.1 dX3_purge_61 (by decide) ?_
    exact hk13 w58 v1 v2 v3 y1 hf G58 hI hFr _ _ _ hW (lv_sub hl [1, 2, 3, 4, 0] rfl)
  have B13 : ∀ (N : Nat), (∀ (w13 : CS) (v1 : Int32) (v2 : Int32) (v3 : Int32) (v4 : Int32), (lpn (f_X3_purge_13 ) N) (w13, v1, v2, v3, v4) = some res → ∀ (G13 : Nat → va_E), CI κ A w13 L G13 → FrA A F G13 → ∀ (H13 : Heap) (l13 : List Loc) (ls : Array Slot), HW D cls L s H13 l13 L G13 → lv_has ls 6 [(0, .ref (A 0)), (1, .int v1), (2, .int v2), (3, .int v3), (4, .int v4)] → W p l e (Rm 5 0 0) s m ([.ref (A 0), .int x1] : List Value).toArray below meth c H13 l13 0 0 (EnI D cls s below ([.ref (A 0), .int x1] : List Value).toArray 0 0 L (fun r L' F' => L = L' ∧ res.1 = r ∧ CI κ A res.2 L F' ∧ FrA A F F')) (F0 m 13 ls [])) := by
    intro  N
    induction N with
    | zero => intro w13 v1 v2 v3 v4 hf G13 hI hFr H13 l13 ls hW hl; cases hf
    | succ N ih =>
      intro w13 v1 v2 v3 v4 hf G13 hI hFr H13 l13 ls hW hl
      have hf : f_X3_purge_13 (lpn (f_X3_purge_13 ) N) (w13, v1, v2, v3, v4) = some res := hf
      generalize lpn (f_X3_purge_13 ) N = k13 at hf ih
      have hk13 := ih
      unfold f_X3_purge_13 at hf
      try dsimp only at hf
      refine lv_iload S.1 S.2.1 dX3_purge_13 (lv_at hl 4 rfl) ?_
      refine lv_iload_n S.1 S.2.1 dX3_purge_15 rfl (lv_at hl 2 rfl) ?_
      refine lv_icmp_ge (tgt := 64) S.1 S.2.1 dX3_purge_16 (by decide) (fun c2 => ?_) (fun c2 => ?_)
      · have hf := (if_pos c2).symm.trans hf
        refine lv_aload_n S.1 S.2.1 dX3_purge_64 rfl (lv_at hl 0 rfl) ?_
        refine lv_iconst (v := 1) S.1 S.2.1 dX3_purge_65 (by decide) ?_
        refine lv_iload_n S.1 S.2.1 dX3_purge_66 rfl (lv_at hl 3 rfl) ?_
        obtain ⟨z3, hz, hf⟩ := ob hf
        refine pk_cVV (As := [.int 1, .int v3]) (rest := []) S hK hST hW (c_X3_tearIfAny hI 1 v3 hz) mc_X3_tearIfAny wd_182 wd_184 wd_1666 rfl np_X3_tearIfAny (hI.mem 0 (by decide)) hI.this rfl rfl hl.1 rfl (Nat.le_of_ble_eq_true rfl) dX3_purge_67 ⟨by decide, by decide⟩ ⟨by decide, by decide⟩ (fun L4 F5 H6 l7 hp hW => ?_)
        obtain ⟨rfl, hI1, hFr1⟩ := hp
        have hI := hI1
        have hFr := hFr.tr hFr1
        refine lv_iload_n S.1 S.2.1 dX3_purge_70 rfl (lv_at hl 3 rfl) ?_
        exact pk_iret S hr hlk hW ⟨rfl, eqm (P := fun z => z.1 = v3 ∧ CI κ A z.2 L F5 ∧ FrA A F F5) ⟨rfl, hI, hFr⟩ (Option.some.inj hf)⟩ (by decide) (by decide) dX3_purge_71
      · have hf := (if_neg c2).symm.trans hf
        refine lv_iload S.1 S.2.1 dX3_purge_19 (lv_at hl 4 rfl) ?_
        refine lv_iload_n S.1 S.2.1 dX3_purge_21 rfl (lv_at hl 3 rfl) ?_
        refine lv_isub S.1 S.2.1 dX3_purge_22 ?_
        refine lv_topi (fun y8 ey8 => ?_)
        have hf := nm_at hf ey8
        refine lv_istore (lv' := [(5, .int y8), (0, .ref (A 0)), (1, .int v1), (2, .int v2), (3, .int v3), (4, .int v4)]) S.1 S.2.1 dX3_purge_23 hl (by decide) rfl (fun ls hl => ?_)
        refine lv_aload_n S.1 S.2.1 dX3_purge_25 rfl (lv_at hl 1 rfl) ?_
        refine pk_get S hK hW 0 (hI.mem 0 (by decide)) hI.this rfl hinX3 (by decide) wd_80 rfl dX3_purge_26 ?_
        refine lv_aload_n S.1 S.2.1 dX3_purge_29 rfl (lv_at hl 1 rfl) ?_
        refine pk_get S hK hW 1 (hI.mem 0 (by decide)) hI.this rfl hinX3 (by decide) wd_81 rfl dX3_purge_30 ?_
        refine lv_iload S.1 S.2.1 dX3_purge_33 (lv_at hl 0 rfl) ?_
        obtain ⟨z9, hz, hf⟩ := ob hf
        refine pk_cVI (As := [.int y8]) (rest := [.ref (A (1 + 2 * 0))]) S hK hST hW (c_X0_read (hI.row (by decide : 1 < 7)) y8 hz) mc_X0_read wd_171 wd_120 wd_121 rfl np_X0_read (hI.mem _ (by have := (by decide : 1 < 7); omega)) (hI.rowH (by decide : 1 < 7)) rfl rfl hl.1 rfl (Nat.le_of_ble_eq_true rfl) dX3_purge_35 ⟨by decide, by decide⟩ ⟨by decide, by decide⟩ (fun r L10 F11 H12 l13 hp hW => ?_)
        obtain ⟨rfl, rfl, rfl⟩ := hp
        obtain ⟨z14, hz, hf⟩ := ob hf
        refine pk_cSI (As := [.ref (A (1 + 2 * 0)), .int z9]) (rest := []) S hK hST hW (c_X3_isLikeOneOf hI 0 ((by decide : 0 < 7)) z9 hz) mc_X3_isLikeOneOf wd_172 wd_173 np_X3_isLikeOneOf rfl hl.1 rfl (Nat.le_of_ble_eq_true rfl) dX3_purge_38 ⟨by decide, by decide⟩ ⟨by decide, by decide⟩ (fun r L15 F16 H17 l18 hp hW => ?_)
        obtain ⟨rfl, rfl, rfl⟩ := hp
        refine lv_iload_n S.1 S.2.1 dX3_purge_41 rfl (lv_at hl 2 rfl) ?_
        refine lv_icmp_eq (tgt := 58) S.1 S.2.1 dX3_purge_42 (by decide) (fun c19 => ?_) (fun c19 => ?_)
        · have hf := (if_pos c19).symm.trans hf
          exact B58 k13 hk13 w13 v1 v2 v3 v4 hf G13 hI hFr _ _ _ hW (lv_sub hl [1, 2, 3, 4, 5] rfl)
        · have hf := (if_neg c19).symm.trans hf
          refine lv_aload_n S.1 S.2.1 dX3_purge_45 rfl (lv_at hl 1 rfl) ?_
          refine pk_get S hK hW 1 (hI.mem 0 (by decide)) hI.this rfl hinX3 (by decide) wd_81 rfl dX3_purge_46 ?_
          refine lv_iload S.1 S.2.1 dX3_purge_49 (lv_at hl 0 rfl) ?_
          obtain ⟨z20, hz, hf⟩ := ob hf
          refine pk_cVI (As := [.int y8]) (rest := []) S hK hST hW (c_X0_leave (hI.row (by decide : 1 < 7)) y8 hz) mc_X0_leave wd_115 wd_116 wd_117 rfl np_X0_leave (hI.mem _ (by have := (by decide : 1 < 7); omega)) (hI.rowH (by decide : 1 < 7)) rfl rfl hl.1 rfl (Nat.le_of_ble_eq_true rfl) dX3_purge_51 ⟨by decide, by decide⟩ ⟨by decide, by decide⟩ (fun r L21 F22 H23 l24 hp hW => ?_)
          obtain ⟨rfl, rfl, hI1, hFr1⟩ := hp
          have hFr := hFr.tr (FrA.row (by decide : 1 < 7) hFr1)
          have hI := hI.setRow (by decide : 1 < 7) hI1 hFr1
          obtain ⟨t25, et25, hf⟩ := nm_ok hf
          have hI := eqm (P := fun w => CI κ A w L F22) hI et25.symm
          refine lv_pop S.1 S.2.1 dX3_purge_54 rfl ?_
          obtain ⟨y26, ey26⟩ : ∃ y : Int32, y = v3 + 1 := ⟨_, rfl⟩
          have hf := nm_at hf ey26
          refine lv_iinc (v := y26) (lv' := [(3, .int y26), (5, .int y8), (0, .ref (A 0)), (1, .int v1), (2, .int v2), (4, .int v4)]) S.1 S.2.1 dX3_purge_55 hl (k := 4) rfl (by rw [ey26]; rfl) (by decide) rfl (fun ls hl => ?_)
          exact B58 k13 hk13 t25 v1 v2 y26 v4 hf F22 hI hFr _ _ _ hW (lv_sub hl [2, 3, 4, 0, 5] rfl)
  unfold f_X3_purge at hf
  refine lv_aload_n S.1 S.2.1 dX3_purge_0 rfl (lv_at hl 0 rfl) ?_
  refine pk_get S hK hW 1 (hI.mem 0 (by decide)) hI.this rfl hinX3 (by decide) wd_81 rfl dX3_purge_1 ?_
  obtain ⟨z27, hz, hf⟩ := ob hf
  refine pk_cVI (As := []) (rest := []) S hK hST hW (c_X0_size (hI.row (by decide : 1 < 7))  hz) mc_X0_size wd_140 wd_141 wd_142 rfl np_X0_size (hI.mem _ (by have := (by decide : 1 < 7); omega)) (hI.rowH (by decide : 1 < 7)) rfl rfl hl.1 rfl (Nat.le_of_ble_eq_true rfl) dX3_purge_4 ⟨by decide, by decide⟩ ⟨by decide, by decide⟩ (fun r L28 F29 H30 l31 hp hW => ?_)
  obtain ⟨rfl, rfl, rfl⟩ := hp
  refine lv_istore_n (lv' := [(2, .int z27), (0, .ref (A 0)), (1, .int x1)]) S.1 S.2.1 dX3_purge_7 rfl hl (by decide) rfl (fun ls hl => ?_)
  refine lv_iconst (v := 0) S.1 S.2.1 dX3_purge_8 (by decide) ?_
  refine lv_istore_n (lv' := [(3, .int 0), (2, .int z27), (0, .ref (A 0)), (1, .int x1)]) S.1 S.2.1 dX3_purge_9 rfl hl (by decide) rfl (fun ls hl => ?_)
  refine lv_iconst (v := 0) S.1 S.2.1 dX3_purge_10 (by decide) ?_
  refine lv_istore (lv' := [(4, .int 0), (3, .int 0), (2, .int z27), (0, .ref (A 0)), (1, .int x1)]) S.1 S.2.1 dX3_purge_11 hl (by decide) rfl (fun ls hl => ?_)
  exact B13  64 σ x1 z27 0 0 hf F hI hFr _ _ _ hW (lv_sub hl [3, 4, 2, 1, 0] rfl)
def f_X3_walk (σ : CS) (x1 : Int32) : Option (Int32 × CS) := (f_X0_size (cap 0) (σ.1 0)).bind fun z1 => (f_X1_begin (fun k => σ.2 (1 + k)) x1 z1).bind fun z6 => nm ((σ.1, scUp σ.2 1 4 z6) : CS) fun t11 => (f_X0_size (cap 0) (t11.1 0)).bind fun z12 => some (z12, t11)
theorem mc_X3_walk : MCode yX3_walk cX3_walk 2 (some .int) := ⟨wd_197, wd_1, by decide, by decide⟩
theorem np_X3_walk : (parseMethodDescriptor yX3_walk.desc).map (fun d => d.parameters.length) = some 1 := by decide +kernel
set_option maxHeartbeats 4000000 in
set_option maxRecDepth 100000 in
theorem c_X3_walk {l : Launch} {D : va_G} {κ : Nat → ClassId} {ζ : Nat → Nat} {L : List Nat} {F : Nat → va_E} {σ : CS} {A : Nat → Nat} (hI : CI κ A σ L F) (x1 : Int32) {res : (Int32 × CS)} (hf : f_X3_walk σ x1 = some res) : MtI l D cls (ty5 κ) ζ yX3_walk cX3_walk 2 (some .int) 2 0 0 ([.ref (A 0), .int x1] : List Value) L F (fun r L' F' => L = L' ∧ res.1 = r ∧ CI κ A res.2 L F' ∧ FrA A F F') := by
  refine MtI.of (by decide) (Nat.le_of_ble_eq_true rfl) ?_
  intro p e s m below meth c S hr hlk _ hK hW hST ls hl
  have hl : lv_has ls 2 [(0, .ref (A 0)), (1, .int x1)] := hl
  have hFr : FrA A F F := FrA.rf
  unfold f_X3_walk at hf
  refine lv_aload_n S.1 S.2.1 dX3_walk_0 rfl (lv_at hl 0 rfl) ?_
  refine pk_get S hK hW 4 (hI.mem 0 (by decide)) hI.this rfl hinX3 (by decide) wd_84 rfl dX3_walk_1 ?_
  refine lv_iload_n S.1 S.2.1 dX3_walk_4 rfl (lv_at hl 1 rfl) ?_
  refine lv_aload_n S.1 S.2.1 dX3_walk_5 rfl (lv_at hl 0 rfl) ?_
  refine pk_get S hK hW 0 (hI.mem 0 (by decide)) hI.this rfl hinX3 (by decide) wd_80 rfl dX3_walk_6 ?_
  obtain ⟨z1, hz, hf⟩ := ob hf
  refine pk_cVI (As := []) (rest := [.int x1, .ref (A 15)]) S hK hST hW (c_X0_size (hI.row (by decide : 0 < 7))  hz) mc_X0_size wd_140 wd_141 wd_142 rfl np_X0_size (hI.mem _ (by have := (by decide : 0 < 7); omega)) (hI.rowH (by decide : 0 < 7)) rfl rfl hl.1 rfl (Nat.le_of_ble_eq_true rfl) dX3_walk_9 ⟨by decide, by decide⟩ ⟨by decide, by decide⟩ (fun r L2 F3 H4 l5 hp hW => ?_)
  obtain ⟨rfl, rfl, rfl⟩ := hp
  obtain ⟨z6, hz, hf⟩ := ob hf
  refine pk_cVV (As := [.int x1, .int z1]) (rest := []) S hK hST hW (c_X1_begin hI.walk x1 z1 hz) mc_X1_begin wd_198 wd_199 wd_200 rfl np_X1_begin (hI.mem 15 (by decide)) hI.walkH rfl rfl hl.1 rfl (Nat.le_of_ble_eq_true rfl) dX3_walk_12 ⟨by decide, by decide⟩ ⟨by decide, by decide⟩ (fun L7 F8 H9 l10 hp hW => ?_)
  obtain ⟨rfl, hI1, hFr1⟩ := hp
  have hFr := hFr.tr (FrA.ker (i := 15) (by decide) hFr1)
  have hI := hI.setWalk hI1 hFr1
  obtain ⟨t11, et11, hf⟩ := nm_ok hf
  have hI := eqm (P := fun w => CI κ A w L F8) hI et11.symm
  refine lv_aload_n S.1 S.2.1 dX3_walk_15 rfl (lv_at hl 0 rfl) ?_
  refine pk_get S hK hW 0 (hI.mem 0 (by decide)) hI.this rfl hinX3 (by decide) wd_80 rfl dX3_walk_16 ?_
  obtain ⟨z12, hz, hf⟩ := ob hf
  refine pk_cVI (As := []) (rest := []) S hK hST hW (c_X0_size (hI.row (by decide : 0 < 7))  hz) mc_X0_size wd_140 wd_141 wd_142 rfl np_X0_size (hI.mem _ (by have := (by decide : 0 < 7); omega)) (hI.rowH (by decide : 0 < 7)) rfl rfl hl.1 rfl (Nat.le_of_ble_eq_true rfl) dX3_walk_19 ⟨by decide, by decide⟩ ⟨by decide, by decide⟩ (fun r L13 F14 H15 l16 hp hW => ?_)
  obtain ⟨rfl, rfl, rfl⟩ := hp
  exact pk_iret S hr hlk hW ⟨rfl, eqm (P := fun z => z.1 = z12 ∧ CI κ A z.2 L F8 ∧ FrA A F F8) ⟨rfl, hI, hFr⟩ (Option.some.inj hf)⟩ (by decide) (by decide) dX3_walk_22
def f_X3_needWalk (σ : CS) : Option (Nat ⊕ Unit) := (if (σ.2 1) = 0 then some (.inl 2) else some (.inr ()))
theorem mc_X3_needWalk : MCode yX3_needWalk cX3_needWalk 1 none := ⟨wd_581, wd_1, by decide, by decide⟩
theorem np_X3_needWalk : (parseMethodDescriptor yX3_needWalk.desc).map (fun d => d.parameters.length) = some 0 := by decide +kernel
set_option maxHeartbeats 4000000 in
set_option maxRecDepth 100000 in
theorem c_X3_needWalk {l : Launch} {D : va_G} {κ : Nat → ClassId} {ζ : Nat → Nat} {L : List Nat} {F : Nat → va_E} {σ : CS} {A : Nat → Nat} (hst : l.stackTraces = false) (hI : CI κ A σ L F)  {res : (Nat ⊕ Unit)} (hf : f_X3_needWalk σ = some res) : MxV l D cls (ty5 κ) ζ yX3_needWalk cX3_needWalk 1 none 7 1 6 ([.ref (A 0)] : List Value) L F (fun L' F' => L = L' ∧ F = F' ∧ ∃ z, res = .inr z) (fun E => ∃ k, res = .inl k ∧ E = xName k) := by
  refine MxV.of (by decide) (Nat.le_of_ble_eq_true rfl) ?_
  intro p e s m below meth c S hr hlk hxt hK hW hST ls hl
  have hl : lv_has ls 1 [(0, .ref (A 0))] := hl
  unfold f_X3_needWalk at hf
  refine lv_aload_n S.1 S.2.1 dX3_needWalk_0 rfl (lv_at hl 0 rfl) ?_
  refine pk_get S hK hW 4 (hI.mem 0 (by decide)) hI.this rfl hinX3 (by decide) wd_84 rfl dX3_needWalk_1 ?_
  refine pk_getN S hK hW 0 (hI.mem 15 (by decide)) hI.walkH rfl hinX1 (by decide) (va_Nw.use rfl (hST.1.1 _ wn_0)) rfl dX3_needWalk_4 ?_
  refine lv_if_ne (tgt := 21) S.1 S.2.1 dX3_needWalk_7 (by decide) (fun c1 => ?_) (fun c1 => ?_)
  · have hf := (if_neg c1).symm.trans hf
    exact xk_vret S hr hlk hW ⟨rfl, rfl, (), (Option.some.inj hf).symm⟩ (by decide) (by decide) dX3_needWalk_21
  · have hf := (if_pos c1).symm.trans hf
    exact xk_throwWV S hst hW hST wd_438 wd_20 xs_357 xat_242 xgd_242 hl.1 dX3_needWalk_10 dX3_needWalk_13 dX3_needWalk_14 dX3_needWalk_17 dX3_needWalk_20 hxt hlk ⟨2, (Option.some.inj hf).symm, rfl⟩ (by decide) (by decide) (by decide) (Nat.le_of_ble_eq_true rfl) (by decide) (by decide)
def f_X3_step (σ : CS) : Option (Nat ⊕ (Int32 × CS)) := obx (f_X3_needWalk σ) fun z1 => (f_X0_size (cap 0) (σ.1 0)).bind fun z6 => (f_X1_hasNext (fun k => σ.2 (1 + k)) z6).bind fun z11 => (if z11 = 0 then some (.inr ((-9), σ)) else (f_X1_goOn (fun k => σ.2 (1 + k))).bind fun z17 => nm ((σ.1, scUp σ.2 1 4 z17) : CS) fun t22 => (f_X0_read (cap 0) (t22.1 0) (t22.2 4)).bind fun z23 => some (.inr (z23, t22)))
theorem mc_X3_step : MCode yX3_step cX3_step 1 (some .int) := ⟨wd_577, wd_1, by decide, by decide⟩
theorem np_X3_step : (parseMethodDescriptor yX3_step.desc).map (fun d => d.parameters.length) = some 0 := by decide +kernel
set_option maxHeartbeats 4000000 in
set_option maxRecDepth 100000 in
theorem c_X3_step {l : Launch} {D : va_G} {κ : Nat → ClassId} {ζ : Nat → Nat} {L : List Nat} {F : Nat → va_E} {σ : CS} {A : Nat → Nat} (hst : l.stackTraces = false) (hI : CI κ A σ L F)  {res : (Nat ⊕ (Int32 × CS))} (hf : f_X3_step σ = some res) : MxI l D cls (ty5 κ) ζ yX3_step cX3_step 1 (some .int) 8 1 6 ([.ref (A 0)] : List Value) L F (fun r L' F' => L = L' ∧ ∃ z, res = .inr z ∧ z.1 = r ∧ CI κ A z.2 L F' ∧ FrA A F F') (fun E => ∃ k, res = .inl k ∧ E = xName k) := by
  refine MxI.of (by decide) (Nat.le_of_ble_eq_true rfl) ?_
  intro p e s m below meth c S hr hlk hxt hK hW hST ls hl
  have hl : lv_has ls 1 [(0, .ref (A 0))] := hl
  have hFr : FrA A F F := FrA.rf
  unfold f_X3_step at hf
  refine lv_aload_n S.1 S.2.1 dX3_step_0 rfl (lv_at hl 0 rfl) ?_
  obtain ⟨z1, hz, hxl, hxr⟩ := obx_ok hf
  refine xk_cVV (As := []) (rest := []) S hK hST hW (c_X3_needWalk hst hI  hz) mc_X3_needWalk wd_578 wd_580 wd_1691 rfl np_X3_needWalk (hI.mem 0 (by decide)) hI.this rfl rfl hl.1 rfl (Nat.le_of_ble_eq_true rfl) dX3_step_1 ⟨by decide, by decide⟩ ⟨by decide, by decide⟩ (fun E ce q9 H4 l5 hE hW h1 h2 h3 => ?_) (fun L2 F3 H4 l5 hp hW => ?_)
  · obtain ⟨k, hk1, hk2⟩ := hE
    exact xk_outI hxt hlk hW ⟨k, hxl k hk1, hk2⟩ h1 h2 h3 (by decide) (by decide)
  obtain ⟨rfl, rfl, z1, hz1⟩ := hp
  have hf := hxr z1 hz1
  refine lv_aload_n S.1 S.2.1 dX3_step_4 rfl (lv_at hl 0 rfl) ?_
  refine pk_get S hK hW 4 (hI.mem 0 (by decide)) hI.this rfl hinX3 (by decide) wd_84 rfl dX3_step_5 ?_
  refine lv_aload_n S.1 S.2.1 dX3_step_8 rfl (lv_at hl 0 rfl) ?_
  refine pk_get S hK hW 0 (hI.mem 0 (by decide)) hI.this rfl hinX3 (by decide) wd_80 rfl dX3_step_9 ?_
  obtain ⟨z6, hz, hf⟩ := ob hf
  refine pk_cVI (As := []) (rest := [.ref (A 15)]) S hK hST hW (c_X0_size (hI.row (by decide : 0 < 7))  hz) mc_X0_size wd_140 wd_141 wd_142 rfl np_X0_size (hI.mem _ (by have := (by decide : 0 < 7); omega)) (hI.rowH (by decide : 0 < 7)) rfl rfl hl.1 rfl (Nat.le_of_ble_eq_true rfl) dX3_step_12 ⟨by decide, by decide⟩ ⟨by decide, by decide⟩ (fun r L7 F8 H9 l10 hp hW => ?_)
  obtain ⟨rfl, rfl, rfl⟩ := hp
  obtain ⟨z11, hz, hf⟩ := ob hf
  refine pk_cVI (As := [.int z6]) (rest := []) S hK hST hW (c_X1_hasNext hI.walk z6 hz) mc_X1_hasNext wd_332 wd_333 wd_334 rfl np_X1_hasNext (hI.mem 15 (by decide)) hI.walkH rfl rfl hl.1 rfl (Nat.le_of_ble_eq_true rfl) dX3_step_15 ⟨by decide, by decide⟩ ⟨by decide, by decide⟩ (fun r L12 F13 H14 l15 hp hW => ?_)
  obtain ⟨rfl, rfl, rfl⟩ := hp
  refine lv_if_ne (tgt := 24) S.1 S.2.1 dX3_step_18 (by decide) (fun c16 => ?_) (fun c16 => ?_)
  · have hf := (if_neg c16).symm.trans hf
    refine lv_aload_n S.1 S.2.1 dX3_step_24 rfl (lv_at hl 0 rfl) ?_
    refine pk_get S hK hW 4 (hI.mem 0 (by decide)) hI.this rfl hinX3 (by decide) wd_84 rfl dX3_step_25 ?_
    obtain ⟨z17, hz, hf⟩ := ob hf
    refine pk_cVV (As := []) (rest := []) S hK hST hW (c_X1_goOn hI.walk  hz) mc_X1_goOn wd_583 wd_584 wd_585 rfl np_X1_goOn (hI.mem 15 (by decide)) hI.walkH rfl rfl hl.1 rfl (Nat.le_of_ble_eq_true rfl) dX3_step_28 ⟨by decide, by decide⟩ ⟨by decide, by decide⟩ (fun L18 F19 H20 l21 hp hW => ?_)
    obtain ⟨rfl, hI1, hFr1⟩ := hp
    have hFr := hFr.tr (FrA.ker (i := 15) (by decide) hFr1)
    have hI := hI.setWalk hI1 hFr1
    obtain ⟨t22, et22, hf⟩ := nm_ok hf
    have hI := eqm (P := fun w => CI κ A w L F19) hI et22.symm
    refine lv_aload_n S.1 S.2.1 dX3_step_31 rfl (lv_at hl 0 rfl) ?_
    refine pk_get S hK hW 0 (hI.mem 0 (by decide)) hI.this rfl hinX3 (by decide) wd_80 rfl dX3_step_32 ?_
    refine lv_aload_n S.1 S.2.1 dX3_step_35 rfl (lv_at hl 0 rfl) ?_
    refine pk_get S hK hW 4 (hI.mem 0 (by decide)) hI.this rfl hinX3 (by decide) wd_84 rfl dX3_step_36 ?_
    refine pk_getN S hK hW 3 (hI.mem 15 (by decide)) hI.walkH rfl hinX1 (by decide) (va_Nw.use rfl (hST.1.1 _ wn_2)) rfl dX3_step_39 ?_
    obtain ⟨z23, hz, hf⟩ := ob hf
    refine pk_cVI (As := [.int (t22.2 4)]) (rest := []) S hK hST hW (c_X0_read (hI.row (by decide : 0 < 7)) (t22.2 4) hz) mc_X0_read wd_171 wd_120 wd_121 rfl np_X0_read (hI.mem _ (by have := (by decide : 0 < 7); omega)) (hI.rowH (by decide : 0 < 7)) rfl rfl hl.1 rfl (Nat.le_of_ble_eq_true rfl) dX3_step_42 ⟨by decide, by decide⟩ ⟨by decide, by decide⟩ (fun r L24 F25 H26 l27 hp hW => ?_)
    obtain ⟨rfl, rfl, rfl⟩ := hp
    exact xk_iret S hr hlk hW ⟨rfl, _, (Option.some.inj hf).symm, rfl, hI, hFr⟩ (by decide) (by decide) dX3_step_45
  · have hf := (if_pos c16).symm.trans hf
    refine lv_bipush (v := (-9)) S.1 S.2.1 dX3_step_21 (by decide) ?_
    exact xk_iret S hr hlk hW ⟨rfl, _, (Option.some.inj hf).symm, rfl, hI, hFr⟩ (by decide) (by decide) dX3_step_23
def f_X3_pluck (σ : CS) : Option (Nat ⊕ (Int32 × CS)) := obx (f_X3_needWalk σ) fun z1 => (if (σ.2 4) = ((-1)) then some (.inr ((-9), σ)) else (f_X0_leave (cap 0) (σ.1 0) (σ.2 4)).bind fun z7 => nm ((va_up σ.1 0 z7.2, σ.2) : CS) fun t12 => (f_X1_letGo (fun k => t12.2 (1 + k))).bind fun z13 => nm ((t12.1, scUp t12.2 1 4 z13) : CS) fun t18 => (f_X0_empty (cap 2) (t18.1 2)).bind fun z19 => nm ((va_up t18.1 2 z19, t18.2) : CS) fun t24 => (f_X0_size (cap 0) (t24.1 0)).bind fun z25 => some (.inr (z25, t24)))
theorem mc_X3_pluck : MCode yX3_pluck cX3_pluck 1 (some .int) := ⟨wd_592, wd_1, by decide, by decide⟩
theorem np_X3_pluck : (parseMethodDescriptor yX3_pluck.desc).map (fun d => d.parameters.length) = some 0 := by decide +kernel
set_option maxHeartbeats 4000000 in
set_option maxRecDepth 100000 in
theorem c_X3_pluck {l : Launch} {D : va_G} {κ : Nat → ClassId} {ζ : Nat → Nat} {L : List Nat} {F : Nat → va_E} {σ : CS} {A : Nat → Nat} (hst : l.stackTraces = false) (hI : CI κ A σ L F)  {res : (Nat ⊕ (Int32 × CS))} (hf : f_X3_pluck σ = some res) : MxI l D cls (ty5 κ) ζ yX3_pluck cX3_pluck 1 (some .int) 8 1 6 ([.ref (A 0)] : List Value) L F (fun r L' F' => L = L' ∧ ∃ z, res = .inr z ∧ z.1 = r ∧ CI κ A z.2 L F' ∧ FrA A F F') (fun E => ∃ k, res = .inl k ∧ E = xName k) := by
  refine MxI.of (by decide) (Nat.le_of_ble_eq_true rfl) ?_
  intro p e s m below meth c S hr hlk hxt hK hW hST ls hl
  have hl : lv_has ls 1 [(0, .ref (A 0))] := hl
  have hFr : FrA A F F := FrA.rf
  unfold f_X3_pluck at hf
  refine lv_aload_n S.1 S.2.1 dX3_pluck_0 rfl (lv_at hl 0 rfl) ?_
  obtain ⟨z1, hz, hxl, hxr⟩ := obx_ok hf
  refine xk_cVV (As := []) (rest := []) S hK hST hW (c_X3_needWalk hst hI  hz) mc_X3_needWalk wd_578 wd_580 wd_1691 rfl np_X3_needWalk (hI.mem 0 (by decide)) hI.this rfl rfl hl.1 rfl (Nat.le_of_ble_eq_true rfl) dX3_pluck_1 ⟨by decide, by decide⟩ ⟨by decide, by decide⟩ (fun E ce q9 H4 l5 hE hW h1 h2 h3 => ?_) (fun L2 F3 H4 l5 hp hW => ?_)
  · obtain ⟨k, hk1, hk2⟩ := hE
    exact xk_outI hxt hlk hW ⟨k, hxl k hk1, hk2⟩ h1 h2 h3 (by decide) (by decide)
  obtain ⟨rfl, rfl, z1, hz1⟩ := hp
  have hf := hxr z1 hz1
  refine lv_aload_n S.1 S.2.1 dX3_pluck_4 rfl (lv_at hl 0 rfl) ?_
  refine pk_get S hK hW 4 (hI.mem 0 (by decide)) hI.this rfl hinX3 (by decide) wd_84 rfl dX3_pluck_5 ?_
  refine pk_getN S hK hW 3 (hI.mem 15 (by decide)) hI.walkH rfl hinX1 (by decide) (va_Nw.use rfl (hST.1.1 _ wn_2)) rfl dX3_pluck_8 ?_
  refine lv_iconst (v := (-1)) S.1 S.2.1 dX3_pluck_11 (by decide) ?_
  refine lv_icmp_ne (tgt := 18) S.1 S.2.1 dX3_pluck_12 (by decide) (fun c6 => ?_) (fun c6 => ?_)
  · have hf := (if_neg c6).symm.trans hf
    refine lv_aload_n S.1 S.2.1 dX3_pluck_18 rfl (lv_at hl 0 rfl) ?_
    refine pk_get S hK hW 0 (hI.mem 0 (by decide)) hI.this rfl hinX3 (by decide) wd_80 rfl dX3_pluck_19 ?_
    refine lv_aload_n S.1 S.2.1 dX3_pluck_22 rfl (lv_at hl 0 rfl) ?_
    refine pk_get S hK hW 4 (hI.mem 0 (by decide)) hI.this rfl hinX3 (by decide) wd_84 rfl dX3_pluck_23 ?_
    refine pk_getN S hK hW 3 (hI.mem 15 (by decide)) hI.walkH rfl hinX1 (by decide) (va_Nw.use rfl (hST.1.1 _ wn_2)) rfl dX3_pluck_26 ?_
    obtain ⟨z7, hz, hf⟩ := ob hf
    refine pk_cVI (As := [.int (σ.2 4)]) (rest := []) S hK hST hW (c_X0_leave (hI.row (by decide : 0 < 7)) (σ.2 4) hz) mc_X0_leave wd_115 wd_116 wd_117 rfl np_X0_leave (hI.mem _ (by have := (by decide : 0 < 7); omega)) (hI.rowH (by decide : 0 < 7)) rfl rfl hl.1 rfl (Nat.le_of_ble_eq_true rfl) dX3_pluck_29 ⟨by decide, by decide⟩ ⟨by decide, by decide⟩ (fun r L8 F9 H10 l11 hp hW => ?_)
    obtain ⟨rfl, rfl, hI1, hFr1⟩ := hp
    have hFr := hFr.tr (FrA.row (by decide : 0 < 7) hFr1)
    have hI := hI.setRow (by decide : 0 < 7) hI1 hFr1
    obtain ⟨t12, et12, hf⟩ := nm_ok hf
    have hI := eqm (P := fun w => CI κ A w L F9) hI et12.symm
    refine lv_pop S.1 S.2.1 dX3_pluck_32 rfl ?_
    refine lv_aload_n S.1 S.2.1 dX3_pluck_33 rfl (lv_at hl 0 rfl) ?_
    refine pk_get S hK hW 4 (hI.mem 0 (by decide)) hI.this rfl hinX3 (by decide) wd_84 rfl dX3_pluck_34 ?_
    obtain ⟨z13, hz, hf⟩ := ob hf
    refine pk_cVV (As := []) (rest := []) S hK hST hW (c_X1_letGo hI.walk  hz) mc_X1_letGo wd_593 wd_594 wd_595 rfl np_X1_letGo (hI.mem 15 (by decide)) hI.walkH rfl rfl hl.1 rfl (Nat.le_of_ble_eq_true rfl) dX3_pluck_37 ⟨by decide, by decide⟩ ⟨by decide, by decide⟩ (fun L14 F15 H16 l17 hp hW => ?_)
    obtain ⟨rfl, hI1, hFr1⟩ := hp
    have hFr := hFr.tr (FrA.ker (i := 15) (by decide) hFr1)
    have hI := hI.setWalk hI1 hFr1
    obtain ⟨t18, et18, hf⟩ := nm_ok hf
    have hI := eqm (P := fun w => CI κ A w L F15) hI et18.symm
    refine lv_aload_n S.1 S.2.1 dX3_pluck_40 rfl (lv_at hl 0 rfl) ?_
    refine pk_get S hK hW 2 (hI.mem 0 (by decide)) hI.this rfl hinX3 (by decide) wd_82 rfl dX3_pluck_41 ?_
    obtain ⟨z19, hz, hf⟩ := ob hf
    refine pk_cVV (As := []) (rest := []) S hK hST hW (c_X0_empty (hI.row (by decide : 2 < 7))  hz) mc_X0_empty wd_190 wd_191 wd_192 rfl np_X0_empty (hI.mem _ (by have := (by decide : 2 < 7); omega)) (hI.rowH (by decide : 2 < 7)) rfl rfl hl.1 rfl (Nat.le_of_ble_eq_true rfl) dX3_pluck_44 ⟨by decide, by decide⟩ ⟨by decide, by decide⟩ (fun L20 F21 H22 l23 hp hW => ?_)
    obtain ⟨rfl, hI1, hFr1⟩ := hp
    have hFr := hFr.tr (FrA.row (by decide : 2 < 7) hFr1)
    have hI := hI.setRow (by decide : 2 < 7) hI1 hFr1
    obtain ⟨t24, et24, hf⟩ := nm_ok hf
    have hI := eqm (P := fun w => CI κ A w L F21) hI et24.symm
    refine lv_aload_n S.1 S.2.1 dX3_pluck_47 rfl (lv_at hl 0 rfl) ?_
    refine pk_get S hK hW 0 (hI.mem 0 (by decide)) hI.this rfl hinX3 (by decide) wd_80 rfl dX3_pluck_48 ?_
    obtain ⟨z25, hz, hf⟩ := ob hf
    refine pk_cVI (As := []) (rest := []) S hK hST hW (c_X0_size (hI.row (by decide : 0 < 7))  hz) mc_X0_size wd_140 wd_141 wd_142 rfl np_X0_size (hI.mem _ (by have := (by decide : 0 < 7); omega)) (hI.rowH (by decide : 0 < 7)) rfl rfl hl.1 rfl (Nat.le_of_ble_eq_true rfl) dX3_pluck_51 ⟨by decide, by decide⟩ ⟨by decide, by decide⟩ (fun r L26 F27 H28 l29 hp hW => ?_)
    obtain ⟨rfl, rfl, rfl⟩ := hp
    exact xk_iret S hr hlk hW ⟨rfl, _, (Option.some.inj hf).symm, rfl, hI, hFr⟩ (by decide) (by decide) dX3_pluck_54
  · have hf := (if_pos c6).symm.trans hf
    refine lv_bipush (v := (-9)) S.1 S.2.1 dX3_pluck_15 (by decide) ?_
    exact xk_iret S hr hlk hW ⟨rfl, _, (Option.some.inj hf).symm, rfl, hI, hFr⟩ (by decide) (by decide) dX3_pluck_17
def f_X3_needPlace (x1 : Int32) (x2 : Int32) : Option (Nat ⊕ Unit) := (if x1 < 0 then some (.inl 0) else (if x1 ≤ x2 then some (.inr ()) else some (.inl 0)))
theorem mc_X3_needPlace : MCode yX3_needPlace cX3_needPlace 2 none := ⟨wd_605, wd_1, by decide, by decide⟩
theorem np_X3_needPlace : (parseMethodDescriptor yX3_needPlace.desc).map (fun d => d.parameters.length) = some 2 := by decide +kernel
set_option maxHeartbeats 4000000 in
set_option maxRecDepth 100000 in
theorem c_X3_needPlace {l : Launch} {D : va_G} {κ : Nat → ClassId} {ζ : Nat → Nat} {L : List Nat} {F : Nat → va_E} (hst : l.stackTraces = false) (x1 : Int32) (x2 : Int32) {res : (Nat ⊕ Unit)} (hf : f_X3_needPlace x1 x2 = some res) : MxV l D cls (ty5 κ) ζ yX3_needPlace cX3_needPlace 2 none 7 1 6 ([.int x1, .int x2] : List Value) L F (fun L' F' => L = L' ∧ F = F' ∧ ∃ z, res = .inr z) (fun E => ∃ k, res = .inl k ∧ E = xName k) := by
  refine MxV.of (by decide) (Nat.le_of_ble_eq_true rfl) ?_
  intro p e s m below meth c S hr hlk hxt hK hW hST ls hl
  have hl : lv_has ls 2 [(0, .int x1), (1, .int x2)] := hl
  unfold f_X3_needPlace at hf
  refine lv_iload_n S.1 S.2.1 dX3_needPlace_0 rfl (lv_at hl 0 rfl) ?_
  refine lv_if_lt (tgt := 9) S.1 S.2.1 dX3_needPlace_1 (by decide) (fun c1 => ?_) (fun c1 => ?_)
  · have hf := (if_pos c1).symm.trans hf
    exact xk_throwWV S hst hW hST wd_362 wd_18 xs_349 xat_346 xgd_346 hl.1 dX3_needPlace_9 dX3_needPlace_12 dX3_needPlace_13 dX3_needPlace_16 dX3_needPlace_19 hxt hlk ⟨0, (Option.some.inj hf).symm, rfl⟩ (by decide) (by decide) (by decide) (Nat.le_of_ble_eq_true rfl) (by decide) (by decide)
  · have hf := (if_neg c1).symm.trans hf
    refine lv_iload_n S.1 S.2.1 dX3_needPlace_4 rfl (lv_at hl 0 rfl) ?_
    refine lv_iload_n S.1 S.2.1 dX3_needPlace_5 rfl (lv_at hl 1 rfl) ?_
    refine lv_icmp_le (tgt := 20) S.1 S.2.1 dX3_needPlace_6 (by decide) (fun c2 => ?_) (fun c2 => ?_)
    · have hf := (if_pos c2).symm.trans hf
      exact xk_vret S hr hlk hW ⟨rfl, rfl, (), (Option.some.inj hf).symm⟩ (by decide) (by decide) dX3_needPlace_20
    · have hf := (if_neg c2).symm.trans hf
      exact xk_throwWV S hst hW hST wd_362 wd_18 xs_349 xat_346 xgd_346 hl.1 dX3_needPlace_9 dX3_needPlace_12 dX3_needPlace_13 dX3_needPlace_16 dX3_needPlace_19 hxt hlk ⟨0, (Option.some.inj hf).symm, rfl⟩ (by decide) (by decide) (by decide) (Nat.le_of_ble_eq_true rfl) (by decide) (by decide)
def f_X3_insert (σ : CS) (x1 : Int32) (x2 : Int32) (x3 : Int32) : Option (Nat ⊕ (Int32 × CS)) := obx (f_X3_needPlace x1 20) fun z1 => obx (f_X3_needPiece x2 x3) fun z6 => obx (f_X3_needRoom σ 1 1) fun z11 => (f_X0_size (cap 1) (σ.1 1)).bind fun z16 => (if x1 ≤ z16 then (f_X3_codeOf x2 x3).bind fun z22 => (f_X0_enter (cap 1) (σ.1 1) x1 z22).bind fun z27 => nm ((va_up σ.1 1 z27, σ.2) : CS) fun t32 => (f_X3_tearFor t32 1).bind fun z33 => (f_X0_size (cap 1) (z33.1 1)).bind fun z38 => some (.inr (z38, z33)) else some (.inr ((-9), σ)))
theorem mc_X3_insert : MCode yX3_insert cX3_insert 4 (some .int) := ⟨wd_602, wd_1, by decide, by decide⟩
theorem np_X3_insert : (parseMethodDescriptor yX3_insert.desc).map (fun d => d.parameters.length) = some 3 := by decide +kernel
set_option maxHeartbeats 4000000 in
set_option maxRecDepth 100000 in
theorem c_X3_insert {l : Launch} {D : va_G} {κ : Nat → ClassId} {ζ : Nat → Nat} {L : List Nat} {F : Nat → va_E} {σ : CS} {A : Nat → Nat} (hst : l.stackTraces = false) (hI : CI κ A σ L F) (x1 : Int32) (x2 : Int32) (x3 : Int32) {res : (Nat ⊕ (Int32 × CS))} (hf : f_X3_insert σ x1 x2 x3 = some res) : MxI l D cls (ty5 κ) ζ yX3_insert cX3_insert 4 (some .int) 9 4 24 ([.ref (A 0), .int x1, .int x2, .int x3] : List Value) L F (fun r L' F' => L = L' ∧ ∃ z, res = .inr z ∧ z.1 = r ∧ CI κ A z.2 L F' ∧ FrA A F F') (fun E => ∃ k, res = .inl k ∧ E = xName k) := by
  refine MxI.of (by decide) (Nat.le_of_ble_eq_true rfl) ?_
  intro p e s m below meth c S hr hlk hxt hK hW hST ls hl
  have hl : lv_has ls 4 [(0, .ref (A 0)), (1, .int x1), (2, .int x2), (3, .int x3)] := hl
  have hFr : FrA A F F := FrA.rf
  unfold f_X3_insert at hf
  refine lv_iload_n S.1 S.2.1 dX3_insert_0 rfl (lv_at hl 1 rfl) ?_
  refine lv_bipush (v := 20) S.1 S.2.1 dX3_insert_1 (by decide) ?_
  obtain ⟨z1, hz, hxl, hxr⟩ := obx_ok hf
  refine xk_cSV (As := [.int x1, .int 20]) (rest := []) S hK hST hW (c_X3_needPlace hst  x1 20 hz) mc_X3_needPlace wd_603 wd_604 np_X3_needPlace rfl hl.1 rfl (Nat.le_of_ble_eq_true rfl) dX3_insert_3 ⟨by decide, by decide⟩ ⟨by decide, by decide⟩ (fun E ce q9 H4 l5 hE hW h1 h2 h3 => ?_) (fun L2 F3 H4 l5 hp hW => ?_)
  · obtain ⟨k, hk1, hk2⟩ := hE
    exact xk_outI hxt hlk hW ⟨k, hxl k hk1, hk2⟩ h1 h2 h3 (by decide) (by decide)
  obtain ⟨rfl, rfl, z1, hz1⟩ := hp
  have hf := hxr z1 hz1
  refine lv_iload_n S.1 S.2.1 dX3_insert_6 rfl (lv_at hl 2 rfl) ?_
  refine lv_iload_n S.1 S.2.1 dX3_insert_7 rfl (lv_at hl 3 rfl) ?_
  obtain ⟨z1, hz, hxl, hxr⟩ := obx_ok hf
  refine xk_cSV (As := [.int x2, .int x3]) (rest := []) S hK hST hW (c_X3_needPiece hst  x2 x3 hz) mc_X3_needPiece wd_413 wd_414 np_X3_needPiece rfl hl.1 rfl (Nat.le_of_ble_eq_true rfl) dX3_insert_8 ⟨by decide, by decide⟩ ⟨by decide, by decide⟩ (fun E ce q9 H9 l10 hE hW h1 h2 h3 => ?_) (fun L7 F8 H9 l10 hp hW => ?_)
  · obtain ⟨k, hk1, hk2⟩ := hE
    exact xk_outI hxt hlk hW ⟨k, hxl k hk1, hk2⟩ h1 h2 h3 (by decide) (by decide)
  obtain ⟨rfl, rfl, z6, hz1⟩ := hp
  have hf := hxr z6 hz1
  refine lv_aload_n S.1 S.2.1 dX3_insert_11 rfl (lv_at hl 0 rfl) ?_
  refine lv_iconst (v := 1) S.1 S.2.1 dX3_insert_12 (by decide) ?_
  refine lv_iconst (v := 1) S.1 S.2.1 dX3_insert_13 (by decide) ?_
  obtain ⟨z1, hz, hxl, hxr⟩ := obx_ok hf
  refine xk_cVV (As := [.int 1, .int 1]) (rest := []) S hK hST hW (c_X3_needRoom hst hI 1 1 hz) mc_X3_needRoom wd_434 wd_436 wd_1686 rfl np_X3_needRoom (hI.mem 0 (by decide)) hI.this rfl rfl hl.1 rfl (Nat.le_of_ble_eq_true rfl) dX3_insert_14 ⟨by decide, by decide⟩ ⟨by decide, by decide⟩ (fun E ce q9 H14 l15 hE hW h1 h2 h3 => ?_) (fun L12 F13 H14 l15 hp hW => ?_)
  · obtain ⟨k, hk1, hk2⟩ := hE
    exact xk_outI hxt hlk hW ⟨k, hxl k hk1, hk2⟩ h1 h2 h3 (by decide) (by decide)
  obtain ⟨rfl, rfl, z11, hz1⟩ := hp
  have hf := hxr z11 hz1
  refine lv_iload_n S.1 S.2.1 dX3_insert_17 rfl (lv_at hl 1 rfl) ?_
  refine lv_aload_n S.1 S.2.1 dX3_insert_18 rfl (lv_at hl 0 rfl) ?_
  refine pk_get S hK hW 1 (hI.mem 0 (by decide)) hI.this rfl hinX3 (by decide) wd_81 rfl dX3_insert_19 ?_
  obtain ⟨z16, hz, hf⟩ := ob hf
  refine pk_cVI (As := []) (rest := [.int x1]) S hK hST hW (c_X0_size (hI.row (by decide : 1 < 7))  hz) mc_X0_size wd_140 wd_141 wd_142 rfl np_X0_size (hI.mem _ (by have := (by decide : 1 < 7); omega)) (hI.rowH (by decide : 1 < 7)) rfl rfl hl.1 rfl (Nat.le_of_ble_eq_true rfl) dX3_insert_22 ⟨by decide, by decide⟩ ⟨by decide, by decide⟩ (fun r L17 F18 H19 l20 hp hW => ?_)
  obtain ⟨rfl, rfl, rfl⟩ := hp
  refine lv_icmp_le (tgt := 31) S.1 S.2.1 dX3_insert_25 (by decide) (fun c21 => ?_) (fun c21 => ?_)
  · have hf := (if_pos c21).symm.trans hf
    refine lv_aload_n S.1 S.2.1 dX3_insert_31 rfl (lv_at hl 0 rfl) ?_
    refine pk_get S hK hW 1 (hI.mem 0 (by decide)) hI.this rfl hinX3 (by decide) wd_81 rfl dX3_insert_32 ?_
    refine lv_iload_n S.1 S.2.1 dX3_insert_35 rfl (lv_at hl 1 rfl) ?_
    refine lv_iload_n S.1 S.2.1 dX3_insert_36 rfl (lv_at hl 2 rfl) ?_
    refine lv_iload_n S.1 S.2.1 dX3_insert_37 rfl (lv_at hl 3 rfl) ?_
    obtain ⟨z22, hz, hf⟩ := ob hf
    refine pk_cSI (As := [.int x2, .int x3]) (rest := [.int x1, .ref (A (1 + 2 * 1))]) S hK hST hW (c_X3_codeOf  x2 x3 hz) mc_X3_codeOf wd_453 wd_454 np_X3_codeOf rfl hl.1 rfl (Nat.le_of_ble_eq_true rfl) dX3_insert_38 ⟨by decide, by decide⟩ ⟨by decide, by decide⟩ (fun r L23 F24 H25 l26 hp hW => ?_)
    obtain ⟨rfl, rfl, rfl⟩ := hp
    obtain ⟨z27, hz, hf⟩ := ob hf
    refine pk_cVV (As := [.int x1, .int z22]) (rest := []) S hK hST hW (c_X0_enter (hI.row (by decide : 1 < 7)) x1 z22 hz) mc_X0_enter wd_147 wd_148 wd_149 rfl np_X0_enter (hI.mem _ (by have := (by decide : 1 < 7); omega)) (hI.rowH (by decide : 1 < 7)) rfl rfl hl.1 rfl (Nat.le_of_ble_eq_true rfl) dX3_insert_41 ⟨by decide, by decide⟩ ⟨by decide, by decide⟩ (fun L28 F29 H30 l31 hp hW => ?_)
    obtain ⟨rfl, hI1, hFr1⟩ := hp
    have hFr := hFr.tr (FrA.row (by decide : 1 < 7) hFr1)
    have hI := hI.setRow (by decide : 1 < 7) hI1 hFr1
    obtain ⟨t32, et32, hf⟩ := nm_ok hf
    have hI := eqm (P := fun w => CI κ A w L F29) hI et32.symm
    refine lv_aload_n S.1 S.2.1 dX3_insert_44 rfl (lv_at hl 0 rfl) ?_
    refine lv_iconst (v := 1) S.1 S.2.1 dX3_insert_45 (by decide) ?_
    obtain ⟨z33, hz, hf⟩ := ob hf
    refine pk_cVV (As := [.int 1]) (rest := []) S hK hST hW (c_X3_tearFor hI 1 hz) mc_X3_tearFor wd_186 wd_188 wd_1667 rfl np_X3_tearFor (hI.mem 0 (by decide)) hI.this rfl rfl hl.1 rfl (Nat.le_of_ble_eq_true rfl) dX3_insert_46 ⟨by decide, by decide⟩ ⟨by decide, by decide⟩ (fun L34 F35 H36 l37 hp hW => ?_)
    obtain ⟨rfl, hI1, hFr1⟩ := hp
    have hI := hI1
    have hFr := hFr.tr hFr1
    refine lv_aload_n S.1 S.2.1 dX3_insert_49 rfl (lv_at hl 0 rfl) ?_
    refine pk_get S hK hW 1 (hI.mem 0 (by decide)) hI.this rfl hinX3 (by decide) wd_81 rfl dX3_insert_50 ?_
    obtain ⟨z38, hz, hf⟩ := ob hf
    refine pk_cVI (As := []) (rest := []) S hK hST hW (c_X0_size (hI.row (by decide : 1 < 7))  hz) mc_X0_size wd_140 wd_141 wd_142 rfl np_X0_size (hI.mem _ (by have := (by decide : 1 < 7); omega)) (hI.rowH (by decide : 1 < 7)) rfl rfl hl.1 rfl (Nat.le_of_ble_eq_true rfl) dX3_insert_53 ⟨by decide, by decide⟩ ⟨by decide, by decide⟩ (fun r L39 F40 H41 l42 hp hW => ?_)
    obtain ⟨rfl, rfl, rfl⟩ := hp
    exact xk_iret S hr hlk hW ⟨rfl, _, (Option.some.inj hf).symm, rfl, hI, hFr⟩ (by decide) (by decide) dX3_insert_56
  · have hf := (if_neg c21).symm.trans hf
    refine lv_bipush (v := (-9)) S.1 S.2.1 dX3_insert_28 (by decide) ?_
    exact xk_iret S hr hlk hW ⟨rfl, _, (Option.some.inj hf).symm, rfl, hI, hFr⟩ (by decide) (by decide) dX3_insert_30
def f_X3_cut (σ : CS) (x1 : Int32) : Option (Nat ⊕ (Int32 × CS)) := obx (f_X3_needPlace x1 19) fun z1 => (f_X0_size (cap 1) (σ.1 1)).bind fun z6 => (if x1 < z6 then (f_X0_leave (cap 1) (σ.1 1) x1).bind fun z12 => nm ((va_up σ.1 1 z12.2, σ.2) : CS) fun t17 => (f_X3_tearFor t17 1).bind fun z18 => some (.inr (z12.1, z18)) else some (.inr ((-9), σ)))
theorem mc_X3_cut : MCode yX3_cut cX3_cut 3 (some .int) := ⟨wd_612, wd_1, by decide, by decide⟩
theorem np_X3_cut : (parseMethodDescriptor yX3_cut.desc).map (fun d => d.parameters.length) = some 1 := by decide +kernel
set_option maxHeartbeats 4000000 in
set_option maxRecDepth 100000 in
theorem c_X3_cut {l : Launch} {D : va_G} {κ : Nat → ClassId} {ζ : Nat → Nat} {L : List Nat} {F : Nat → va_E} {σ : CS} {A : Nat → Nat} (hst : l.stackTraces = false) (hI : CI κ A σ L F) (x1 : Int32) {res : (Nat ⊕ (Int32 × CS))} (hf : f_X3_cut σ x1 = some res) : MxI l D cls (ty5 κ) ζ yX3_cut cX3_cut 3 (some .int) 8 1 6 ([.ref (A 0), .int x1] : List Value) L F (fun r L' F' => L = L' ∧ ∃ z, res = .inr z ∧ z.1 = r ∧ CI κ A z.2 L F' ∧ FrA A F F') (fun E => ∃ k, res = .inl k ∧ E = xName k) := by
  refine MxI.of (by decide) (Nat.le_of_ble_eq_true rfl) ?_
  intro p e s m below meth c S hr hlk hxt hK hW hST ls hl
  have hl : lv_has ls 3 [(0, .ref (A 0)), (1, .int x1)] := hl
  have hFr : FrA A F F := FrA.rf
  unfold f_X3_cut at hf
  refine lv_iload_n S.1 S.2.1 dX3_cut_0 rfl (lv_at hl 1 rfl) ?_
  refine lv_bipush (v := 19) S.1 S.2.1 dX3_cut_1 (by decide) ?_
  obtain ⟨z1, hz, hxl, hxr⟩ := obx_ok hf
  refine xk_cSV (As := [.int x1, .int 19]) (rest := []) S hK hST hW (c_X3_needPlace hst  x1 19 hz) mc_X3_needPlace wd_603 wd_604 np_X3_needPlace rfl hl.1 rfl (Nat.le_of_ble_eq_true rfl) dX3_cut_3 ⟨by decide, by decide⟩ ⟨by decide, by decide⟩ (fun E ce q9 H4 l5 hE hW h1 h2 h3 => ?_) (fun L2 F3 H4 l5 hp hW => ?_)
  · obtain ⟨k, hk1, hk2⟩ := hE
    exact xk_outI hxt hlk hW ⟨k, hxl k hk1, hk2⟩ h1 h2 h3 (by decide) (by decide)
  obtain ⟨rfl, rfl, z1, hz1⟩ := hp
  have hf := hxr z1 hz1
  refine lv_iload_n S.1 S.2.1 dX3_cut_6 rfl (lv_at hl 1 rfl) ?_
  refine lv_aload_n S.1 S.2.1 dX3_cut_7 rfl (lv_at hl 0 rfl) ?_
  refine pk_get S hK hW 1 (hI.mem 0 (by decide)) hI.this rfl hinX3 (by decide) wd_81 rfl dX3_cut_8 ?_
  obtain ⟨z6, hz, hf⟩ := ob hf
  refine pk_cVI (As := []) (rest := [.int x1]) S hK hST hW (c_X0_size (hI.row (by decide : 1 < 7))  hz) mc_X0_size wd_140 wd_141 wd_142 rfl np_X0_size (hI.mem _ (by have := (by decide : 1 < 7); omega)) (hI.rowH (by decide : 1 < 7)) rfl rfl hl.1 rfl (Nat.le_of_ble_eq_true rfl) dX3_cut_11 ⟨by decide, by decide⟩ ⟨by decide, by decide⟩ (fun r L7 F8 H9 l10 hp hW => ?_)
  obtain ⟨rfl, rfl, rfl⟩ := hp
  refine lv_icmp_lt (tgt := 20) S.1 S.2.1 dX3_cut_14 (by decide) (fun c11 => ?_) (fun c11 => ?_)
  · have hf := (if_pos c11).symm.trans hf
    refine lv_aload_n S.1 S.2.1 dX3_cut_20 rfl (lv_at hl 0 rfl) ?_
    refine pk_get S hK hW 1 (hI.mem 0 (by decide)) hI.this rfl hinX3 (by decide) wd_81 rfl dX3_cut_21 ?_
    refine lv_iload_n S.1 S.2.1 dX3_cut_24 rfl (lv_at hl 1 rfl) ?_
    obtain ⟨z12, hz, hf⟩ := ob hf
    refine pk_cVI (As := [.int x1]) (rest := []) S hK hST hW (c_X0_leave (hI.row (by decide : 1 < 7)) x1 hz) mc_X0_leave wd_115 wd_116 wd_117 rfl np_X0_leave (hI.mem _ (by have := (by decide : 1 < 7); omega)) (hI.rowH (by decide : 1 < 7)) rfl rfl hl.1 rfl (Nat.le_of_ble_eq_true rfl) dX3_cut_25 ⟨by decide, by decide⟩ ⟨by decide, by decide⟩ (fun r L13 F14 H15 l16 hp hW => ?_)
    obtain ⟨rfl, rfl, hI1, hFr1⟩ := hp
    have hFr := hFr.tr (FrA.row (by decide : 1 < 7) hFr1)
    have hI := hI.setRow (by decide : 1 < 7) hI1 hFr1
    obtain ⟨t17, et17, hf⟩ := nm_ok hf
    have hI := eqm (P := fun w => CI κ A w L F14) hI et17.symm
    refine lv_istore_n (lv' := [(2, .int z12.1), (0, .ref (A 0)), (1, .int x1)]) S.1 S.2.1 dX3_cut_28 rfl hl (by decide) rfl (fun ls hl => ?_)
    refine lv_aload_n S.1 S.2.1 dX3_cut_29 rfl (lv_at hl 1 rfl) ?_
    refine lv_iconst (v := 1) S.1 S.2.1 dX3_cut_30 (by decide) ?_
    obtain ⟨z18, hz, hf⟩ := ob hf
    refine pk_cVV (As := [.int 1]) (rest := []) S hK hST hW (c_X3_tearFor hI 1 hz) mc_X3_tearFor wd_186 wd_188 wd_1667 rfl np_X3_tearFor (hI.mem 0 (by decide)) hI.this rfl rfl hl.1 rfl (Nat.le_of_ble_eq_true rfl) dX3_cut_31 ⟨by decide, by decide⟩ ⟨by decide, by decide⟩ (fun L19 F20 H21 l22 hp hW => ?_)
    obtain ⟨rfl, hI1, hFr1⟩ := hp
    have hI := hI1
    have hFr := hFr.tr hFr1
    refine lv_iload_n S.1 S.2.1 dX3_cut_34 rfl (lv_at hl 0 rfl) ?_
    exact xk_iret S hr hlk hW ⟨rfl, _, (Option.some.inj hf).symm, rfl, hI, hFr⟩ (by decide) (by decide) dX3_cut_35
  · have hf := (if_neg c11).symm.trans hf
    refine lv_bipush (v := (-9)) S.1 S.2.1 dX3_cut_17 (by decide) ?_
    exact xk_iret S hr hlk hW ⟨rfl, _, (Option.some.inj hf).symm, rfl, hI, hFr⟩ (by decide) (by decide) dX3_cut_19
def f_X3_layAnew (σ : CS) (x1 : Int32) (x2 : Int32) : Option CS := (f_X0_overwrite (cap 1) (σ.1 1) x1 x2).bind fun z1 => nm ((va_up σ.1 1 z1, σ.2) : CS) fun t6 => (f_X0_empty (cap 2) (t6.1 2)).bind fun z7 => nm ((va_up t6.1 2 z7, t6.2) : CS) fun t12 => some t12
theorem mc_X3_layAnew : MCode yX3_layAnew cX3_layAnew 3 none := ⟨wd_622, wd_1, by decide, by decide⟩
theorem np_X3_layAnew : (parseMethodDescriptor yX3_layAnew.desc).map (fun d => d.parameters.length) = some 2 := by decide +kernel
set_option maxHeartbeats 4000000 in
set_option maxRecDepth 100000 in
theorem c_X3_layAnew {l : Launch} {D : va_G} {κ : Nat → ClassId} {ζ : Nat → Nat} {L : List Nat} {F : Nat → va_E} {σ : CS} {A : Nat → Nat} (hI : CI κ A σ L F) (x1 : Int32) (x2 : Int32) {res : CS} (hf : f_X3_layAnew σ x1 x2 = some res) : MtV l D cls (ty5 κ) ζ yX3_layAnew cX3_layAnew 3 none 2 0 0 ([.ref (A 0), .int x1, .int x2] : List Value) L F (fun L' F' => L = L' ∧ CI κ A res L F' ∧ FrA A F F') := by
  refine MtV.of (by decide) (Nat.le_of_ble_eq_true rfl) ?_
  intro p e s m below meth c S hr hlk _ hK hW hST ls hl
  have hl : lv_has ls 3 [(0, .ref (A 0)), (1, .int x1), (2, .int x2)] := hl
  have hFr : FrA A F F := FrA.rf
  unfold f_X3_layAnew at hf
  refine lv_aload_n S.1 S.2.1 dX3_layAnew_0 rfl (lv_at hl 0 rfl) ?_
  refine pk_get S hK hW 1 (hI.mem 0 (by decide)) hI.this rfl hinX3 (by decide) wd_81 rfl dX3_layAnew_1 ?_
  refine lv_iload_n S.1 S.2.1 dX3_layAnew_4 rfl (lv_at hl 1 rfl) ?_
  refine lv_iload_n S.1 S.2.1 dX3_layAnew_5 rfl (lv_at hl 2 rfl) ?_
  obtain ⟨z1, hz, hf⟩ := ob hf
  refine pk_cVV (As := [.int x1, .int x2]) (rest := []) S hK hST hW (c_X0_overwrite (hI.row (by decide : 1 < 7)) x1 x2 hz) mc_X0_overwrite wd_565 wd_124 wd_125 rfl np_X0_overwrite (hI.mem _ (by have := (by decide : 1 < 7); omega)) (hI.rowH (by decide : 1 < 7)) rfl rfl hl.1 rfl (Nat.le_of_ble_eq_true rfl) dX3_layAnew_6 ⟨by decide, by decide⟩ ⟨by decide, by decide⟩ (fun L2 F3 H4 l5 hp hW => ?_)
  obtain ⟨rfl, hI1, hFr1⟩ := hp
  have hFr := hFr.tr (FrA.row (by decide : 1 < 7) hFr1)
  have hI := hI.setRow (by decide : 1 < 7) hI1 hFr1
  obtain ⟨t6, et6, hf⟩ := nm_ok hf
  have hI := eqm (P := fun w => CI κ A w L F3) hI et6.symm
  refine lv_aload_n S.1 S.2.1 dX3_layAnew_9 rfl (lv_at hl 0 rfl) ?_
  refine pk_get S hK hW 2 (hI.mem 0 (by decide)) hI.this rfl hinX3 (by decide) wd_82 rfl dX3_layAnew_10 ?_
  obtain ⟨z7, hz, hf⟩ := ob hf
  refine pk_cVV (As := []) (rest := []) S hK hST hW (c_X0_empty (hI.row (by decide : 2 < 7))  hz) mc_X0_empty wd_190 wd_191 wd_192 rfl np_X0_empty (hI.mem _ (by have := (by decide : 2 < 7); omega)) (hI.rowH (by decide : 2 < 7)) rfl rfl hl.1 rfl (Nat.le_of_ble_eq_true rfl) dX3_layAnew_13 ⟨by decide, by decide⟩ ⟨by decide, by decide⟩ (fun L8 F9 H10 l11 hp hW => ?_)
  obtain ⟨rfl, hI1, hFr1⟩ := hp
  have hFr := hFr.tr (FrA.row (by decide : 2 < 7) hFr1)
  have hI := hI.setRow (by decide : 2 < 7) hI1 hFr1
  obtain ⟨t12, et12, hf⟩ := nm_ok hf
  have hI := eqm (P := fun w => CI κ A w L F9) hI et12.symm
  exact pk_vret S hr hlk hW ⟨rfl, eqm (P := fun z => CI κ A z L F9) hI (Option.some.inj hf), hFr⟩ (by decide) (by decide) dX3_layAnew_16
def f_X3_replace (σ : CS) (x1 : Int32) (x2 : Int32) (x3 : Int32) : Option (Nat ⊕ (Int32 × CS)) := obx (f_X3_needPlace x1 19) fun z1 => obx (f_X3_needPiece x2 x3) fun z6 => (f_X0_size (cap 1) (σ.1 1)).bind fun z11 => (if x1 < z11 then (f_X0_read (cap 1) (σ.1 1) x1).bind fun z17 => (f_X3_codeOf x2 x3).bind fun z22 => (f_X3_layAnew σ x1 z22).bind fun z27 => some (.inr (z17, z27)) else some (.inr ((-9), σ)))
theorem mc_X3_replace : MCode yX3_replace cX3_replace 5 (some .int) := ⟨wd_618, wd_1, by decide, by decide⟩
theorem np_X3_replace : (parseMethodDescriptor yX3_replace.desc).map (fun d => d.parameters.length) = some 3 := by decide +kernel
set_option maxHeartbeats 4000000 in
set_option maxRecDepth 100000 in
theorem c_X3_replace {l : Launch} {D : va_G} {κ : Nat → ClassId} {ζ : Nat → Nat} {L : List Nat} {F : Nat → va_E} {σ : CS} {A : Nat → Nat} (hst : l.stackTraces = false) (hI : CI κ A σ L F) (x1 : Int32) (x2 : Int32) (x3 : Int32) {res : (Nat ⊕ (Int32 × CS))} (hf : f_X3_replace σ x1 x2 x3 = some res) : MxI l D cls (ty5 κ) ζ yX3_replace cX3_replace 5 (some .int) 9 3 18 ([.ref (A 0), .int x1, .int x2, .int x3] : List Value) L F (fun r L' F' => L = L' ∧ ∃ z, res = .inr z ∧ z.1 = r ∧ CI κ A z.2 L F' ∧ FrA A F F') (fun E => ∃ k, res = .inl k ∧ E = xName k) := by
  refine MxI.of (by decide) (Nat.le_of_ble_eq_true rfl) ?_
  intro p e s m below meth c S hr hlk hxt hK hW hST ls hl
  have hl : lv_has ls 5 [(0, .ref (A 0)), (1, .int x1), (2, .int x2), (3, .int x3)] := hl
  have hFr : FrA A F F := FrA.rf
  unfold f_X3_replace at hf
  refine lv_iload_n S.1 S.2.1 dX3_replace_0 rfl (lv_at hl 1 rfl) ?_
  refine lv_bipush (v := 19) S.1 S.2.1 dX3_replace_1 (by decide) ?_
  obtain ⟨z1, hz, hxl, hxr⟩ := obx_ok hf
  refine xk_cSV (As := [.int x1, .int 19]) (rest := []) S hK hST hW (c_X3_needPlace hst  x1 19 hz) mc_X3_needPlace wd_603 wd_604 np_X3_needPlace rfl hl.1 rfl (Nat.le_of_ble_eq_true rfl) dX3_replace_3 ⟨by decide, by decide⟩ ⟨by decide, by decide⟩ (fun E ce q9 H4 l5 hE hW h1 h2 h3 => ?_) (fun L2 F3 H4 l5 hp hW => ?_)
  · obtain ⟨k, hk1, hk2⟩ := hE
    exact xk_outI hxt hlk hW ⟨k, hxl k hk1, hk2⟩ h1 h2 h3 (by decide) (by decide)
  obtain ⟨rfl, rfl, z1, hz1⟩ := hp
  have hf := hxr z1 hz1
  refine lv_iload_n S.1 S.2.1 dX3_replace_6 rfl (lv_at hl 2 rfl) ?_
  refine lv_iload_n S.1 S.2.1 dX3_replace_7 rfl (lv_at hl 3 rfl) ?_
  obtain ⟨z1, hz, hxl, hxr⟩ := obx_ok hf
  refine xk_cSV (As := [.int x2, .int x3]) (rest := []) S hK hST hW (c_X3_needPiece hst  x2 x3 hz) mc_X3_needPiece wd_413 wd_414 np_X3_needPiece rfl hl.1 rfl (Nat.le_of_ble_eq_true rfl) dX3_replace_8 ⟨by decide, by decide⟩ ⟨by decide, by decide⟩ (fun E ce q9 H9 l10 hE hW h1 h2 h3 => ?_) (fun L7 F8 H9 l10 hp hW => ?_)
  · obtain ⟨k, hk1, hk2⟩ := hE
    exact xk_outI hxt hlk hW ⟨k, hxl k hk1, hk2⟩ h1 h2 h3 (by decide) (by decide)
  obtain ⟨rfl, rfl, z6, hz1⟩ := hp
  have hf := hxr z6 hz1
  refine lv_iload_n S.1 S.2.1 dX3_replace_11 rfl (lv_at hl 1 rfl) ?_
  refine lv_aload_n S.1 S.2.1 dX3_replace_12 rfl (lv_at hl 0 rfl) ?_
  refine pk_get S hK hW 1 (hI.mem 0 (by decide)) hI.this rfl hinX3 (by decide) wd_81 rfl dX3_replace_13 ?_
  obtain ⟨z11, hz, hf⟩ := ob hf
  refine pk_cVI (As := []) (rest := [.int x1]) S hK hST hW (c_X0_size (hI.row (by decide : 1 < 7))  hz) mc_X0_size wd_140 wd_141 wd_142 rfl np_X0_size (hI.mem _ (by have := (by decide : 1 < 7); omega)) (hI.rowH (by decide : 1 < 7)) rfl rfl hl.1 rfl (Nat.le_of_ble_eq_true rfl) dX3_replace_16 ⟨by decide, by decide⟩ ⟨by decide, by decide⟩ (fun r L12 F13 H14 l15 hp hW => ?_)
  obtain ⟨rfl, rfl, rfl⟩ := hp
  refine lv_icmp_lt (tgt := 25) S.1 S.2.1 dX3_replace_19 (by decide) (fun c16 => ?_) (fun c16 => ?_)
  · have hf := (if_pos c16).symm.trans hf
    refine lv_aload_n S.1 S.2.1 dX3_replace_25 rfl (lv_at hl 0 rfl) ?_
    refine pk_get S hK hW 1 (hI.mem 0 (by decide)) hI.this rfl hinX3 (by decide) wd_81 rfl dX3_replace_26 ?_
    refine lv_iload_n S.1 S.2.1 dX3_replace_29 rfl (lv_at hl 1 rfl) ?_
    obtain ⟨z17, hz, hf⟩ := ob hf
    refine pk_cVI (As := [.int x1]) (rest := []) S hK hST hW (c_X0_read (hI.row (by decide : 1 < 7)) x1 hz) mc_X0_read wd_171 wd_120 wd_121 rfl np_X0_read (hI.mem _ (by have := (by decide : 1 < 7); omega)) (hI.rowH (by decide : 1 < 7)) rfl rfl hl.1 rfl (Nat.le_of_ble_eq_true rfl) dX3_replace_30 ⟨by decide, by decide⟩ ⟨by decide, by decide⟩ (fun r L18 F19 H20 l21 hp hW => ?_)
    obtain ⟨rfl, rfl, rfl⟩ := hp
    refine lv_istore (lv' := [(4, .int z17), (0, .ref (A 0)), (1, .int x1), (2, .int x2), (3, .int x3)]) S.1 S.2.1 dX3_replace_33 hl (by decide) rfl (fun ls hl => ?_)
    refine lv_aload_n S.1 S.2.1 dX3_replace_35 rfl (lv_at hl 1 rfl) ?_
    refine lv_iload_n S.1 S.2.1 dX3_replace_36 rfl (lv_at hl 2 rfl) ?_
    refine lv_iload_n S.1 S.2.1 dX3_replace_37 rfl (lv_at hl 3 rfl) ?_
    refine lv_iload_n S.1 S.2.1 dX3_replace_38 rfl (lv_at hl 4 rfl) ?_
    obtain ⟨z22, hz, hf⟩ := ob hf
    refine pk_cSI (As := [.int x2, .int x3]) (rest := [.int x1, .ref (A 0)]) S hK hST hW (c_X3_codeOf  x2 x3 hz) mc_X3_codeOf wd_453 wd_454 np_X3_codeOf rfl hl.1 rfl (Nat.le_of_ble_eq_true rfl) dX3_replace_39 ⟨by decide, by decide⟩ ⟨by decide, by decide⟩ (fun r L23 F24 H25 l26 hp hW => ?_)
    obtain ⟨rfl, rfl, rfl⟩ := hp
    obtain ⟨z27, hz, hf⟩ := ob hf
    refine pk_cVV (As := [.int x1, .int z22]) (rest := []) S hK hST hW (c_X3_layAnew hI x1 z22 hz) mc_X3_layAnew wd_619 wd_621 wd_1692 rfl np_X3_layAnew (hI.mem 0 (by decide)) hI.this rfl rfl hl.1 rfl (Nat.le_of_ble_eq_true rfl) dX3_replace_42 ⟨by decide, by decide⟩ ⟨by decide, by decide⟩ (fun L28 F29 H30 l31 hp hW => ?_)
    obtain ⟨rfl, hI1, hFr1⟩ := hp
    have hI := hI1
    have hFr := hFr.tr hFr1
    refine lv_iload S.1 S.2.1 dX3_replace_45 (lv_at hl 0 rfl) ?_
    exact xk_iret S hr hlk hW ⟨rfl, _, (Option.some.inj hf).symm, rfl, hI, hFr⟩ (by decide) (by decide) dX3_replace_47
  · have hf := (if_neg c16).symm.trans hf
    refine lv_bipush (v := (-9)) S.1 S.2.1 dX3_replace_22 (by decide) ?_
    exact xk_iret S hr hlk hW ⟨rfl, _, (Option.some.inj hf).symm, rfl, hI, hFr⟩ (by decide) (by decide) dX3_replace_24
