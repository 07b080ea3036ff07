def f_X6_isIn (x1 : Int32) (x2 : Int32) (x3 : Int32) : Option Int32 := (if x1 < x2 then some (0) else (if x3 < x1 then some (0) else some (1)))
theorem mc_X6_isIn : MCode yX6_isIn cX6_isIn 3 (some .boolean) := ⟨wd_1187, wd_5, by decide, by decide⟩
theorem np_X6_isIn : (parseMethodDescriptor yX6_isIn.desc).map (fun d => d.parameters.length) = some 3 := by decide +kernel
set_option maxHeartbeats 4000000 in
set_option maxRecDepth 100000 in
theorem c_X6_isIn {l : Launch} {D : va_G} {κ : Nat → ClassId} {ζ : Nat → Nat} {L : List Nat} {F : Nat → va_E} (x1 : Int32) (x2 : Int32) (x3 : Int32) {res : Int32} (hf : f_X6_isIn x1 x2 x3 = some res) : MtI l D cls (ty5 κ) ζ yX6_isIn cX6_isIn 3 (some .boolean) 1 0 0 ([.int x1, .int x2, .int x3] : List Value) L F (fun r L' F' => L = L' ∧ F = F' ∧ res = r) := by
  refine MtI.of (by decide) (Nat.le_of_ble_eq_true rfl) ?_
  intro p e s m below meth c S hr hlk _ hK hW hST ls hl
  have hl : lv_has ls 3 [(0, .int x1), (1, .int x2), (2, .int x3)] := hl
  unfold f_X6_isIn at hf
  refine lv_iload_n S.1 S.2.1 dX6_isIn_0 rfl (lv_at hl 0 rfl) ?_
  refine lv_iload_n S.1 S.2.1 dX6_isIn_1 rfl (lv_at hl 1 rfl) ?_
  refine lv_icmp_lt (tgt := 14) S.1 S.2.1 dX6_isIn_2 (by decide) (fun c1 => ?_) (fun c1 => ?_)
  · have hf := (if_pos c1).symm.trans hf
    refine lv_iconst (v := 0) S.1 S.2.1 dX6_isIn_14 (by decide) ?_
    exact pk_zret S hr hlk hW (by decide) ⟨rfl, rfl, eqm (P := fun z => z = 0) rfl (Option.some.inj hf)⟩ (by omega) (by omega) dX6_isIn_15
  · have hf := (if_neg c1).symm.trans hf
    refine lv_iload_n S.1 S.2.1 dX6_isIn_5 rfl (lv_at hl 0 rfl) ?_
    refine lv_iload_n S.1 S.2.1 dX6_isIn_6 rfl (lv_at hl 2 rfl) ?_
    refine lv_icmp_gt (tgt := 14) S.1 S.2.1 dX6_isIn_7 (by decide) (fun c2 => ?_) (fun c2 => ?_)
    · have hf := (if_pos c2).symm.trans hf
      refine lv_iconst (v := 0) S.1 S.2.1 dX6_isIn_14 (by decide) ?_
      exact pk_zret S hr hlk hW (by decide) ⟨rfl, rfl, eqm (P := fun z => z = 0) rfl (Option.some.inj hf)⟩ (by omega) (by omega) dX6_isIn_15
    · have hf := (if_neg c2).symm.trans hf
      refine lv_iconst (v := 1) S.1 S.2.1 dX6_isIn_10 (by decide) ?_
      refine lv_goto (tgt := 15) S.1 S.2.1 dX6_isIn_11 (by decide) ?_
      exact pk_zret S hr hlk hW (by decide) ⟨rfl, rfl, eqm (P := fun z => z = 1) rfl (Option.some.inj hf)⟩ (by omega) (by omega) dX6_isIn_15
def f_X6_one (x1 : Int32) : Option Int32 := (if x1 = 0 then some (0) else some (1))
theorem mc_X6_one : MCode yX6_one cX6_one 1 (some .int) := ⟨wd_1290, wd_5, by decide, by decide⟩
theorem np_X6_one : (parseMethodDescriptor yX6_one.desc).map (fun d => d.parameters.length) = some 1 := by decide +kernel
set_option maxHeartbeats 4000000 in
set_option maxRecDepth 100000 in
theorem c_X6_one {l : Launch} {D : va_G} {κ : Nat → ClassId} {ζ : Nat → Nat} {L : List Nat} {F : Nat → va_E} (x1 : Int32) {res : Int32} (hf : f_X6_one x1 = some res) : MtI l D cls (ty5 κ) ζ yX6_one cX6_one 1 (some .int) 1 0 0 ([.int x1] : List Value) L F (fun r L' F' => L = L' ∧ F = F' ∧ res = r) := by
  refine MtI.of (by decide) (Nat.le_of_ble_eq_true rfl) ?_
  intro p e s m below meth c S hr hlk _ hK hW hST ls hl
  have hl : lv_has ls 1 [(0, .int x1)] := hl
  unfold f_X6_one at hf
  refine lv_iload_n S.1 S.2.1 dX6_one_0 rfl (lv_at hl 0 rfl) ?_
  refine lv_if_eq (tgt := 8) S.1 S.2.1 dX6_one_1 (by decide) (fun c1 => ?_) (fun c1 => ?_)
  · have hf := (if_pos c1).symm.trans hf
    refine lv_iconst (v := 0) S.1 S.2.1 dX6_one_8 (by decide) ?_
    exact pk_iret S hr hlk hW ⟨rfl, rfl, eqm (P := fun z => z = 0) rfl (Option.some.inj hf)⟩ (by omega) (by omega) dX6_one_9
  · have hf := (if_neg c1).symm.trans hf
    refine lv_iconst (v := 1) S.1 S.2.1 dX6_one_4 (by decide) ?_
    refine lv_goto (tgt := 9) S.1 S.2.1 dX6_one_5 (by decide) ?_
    exact pk_iret S hr hlk hW ⟨rfl, rfl, eqm (P := fun z => z = 1) rfl (Option.some.inj hf)⟩ (by omega) (by omega) dX6_one_9
def f_X6_refuse_16   (w16 : MS) : Option (Int32 × MS) := (if (w16.2 0) ≤ 0 then some (0, w16) else some (1, w16))
def f_X6_refuse (τ : MS) (x1 : Int32) (x2 : Int32) : Option (Int32 × MS) := (if x1 = 0 then f_X6_refuse_16 (τ) else (if (τ.2 0) = 0 then nm ((τ.1, va_up τ.2 0 x2) : MS) fun t7 => f_X6_refuse_16 t7 else f_X6_refuse_16 (τ)))
theorem mc_X6_refuse : MCode yX6_refuse cX6_refuse 3 (some .boolean) := ⟨wd_1195, wd_5, by decide, by decide⟩
theorem np_X6_refuse : (parseMethodDescriptor yX6_refuse.desc).map (fun d => d.parameters.length) = some 2 := by decide +kernel
set_option maxHeartbeats 4000000 in
set_option maxRecDepth 100000 in
theorem c_X6_refuse {l : Launch} {D : va_G} {κ : Nat → ClassId} {ζ : Nat → Nat} {L : List Nat} {F : Nat → va_E} {τ : MS} {B : Nat → Nat} (hI : MI κ ζ B τ L F) (x1 : Int32) (x2 : Int32) {res : (Int32 × MS)} (hf : f_X6_refuse τ x1 x2 = some res) : MtI l D cls (ty5 κ) ζ yX6_refuse cX6_refuse 3 (some .boolean) 1 0 0 ([.ref (B 0), .int x1, .int x2] : List Value) L F (fun r L' F' => res.1 = r ∧ MI κ ζ B res.2 L' F' ∧ FrM L F L' F') := by
  refine MtI.of (by decide) (Nat.le_of_ble_eq_true rfl) ?_
  intro p e s m below meth c S hr hlk _ hK hW hST ls hl
  have hl : lv_has ls 3 [(0, .ref (B 0)), (1, .int x1), (2, .int x2)] := hl
  have hFr : FrM L F L F := FrM.rf
  have B16 : ∀  (w16 : MS), f_X6_refuse_16 w16 = some res → ∀ (K16 : List Nat) (G16 : Nat → va_E), MI κ ζ B w16 K16 G16 → FrM L F K16 G16 → ∀ (H16 : Heap) (l16 : List Loc) (ls : Array Slot) (cc ss : Nat), HW D cls L s H16 l16 K16 G16 → cc + (0) ≤ 0 → ss ≤ 33 * cc → lv_has ls 3 [(0, .ref (B 0))] → W p l e (Rm 1 0 0) s m ([.ref (B 0), .int x1, .int x2] : List Value).toArray below meth c H16 l16 cc ss (EnI D cls s below ([.ref (B 0), .int x1, .int x2] : List Value).toArray 0 0 L (fun r L' F' => res.1 = r ∧ MI κ ζ B res.2 L' F' ∧ FrM L F L' F')) (F0 m 16 ls []) := by
    intro  w16 hf K16 G16 hI hFr H16 l16 ls cc ss hW hcc hss hl
    unfold f_X6_refuse_16 at hf
    refine lv_aload_n S.1 S.2.1 dX6_refuse_16 rfl (lv_at hl 0 rfl) ?_
    refine pk_get S hK hW 0 (hI.mem (by decide)) hI.this rfl hinX6 (by decide) wd_1155 rfl dX6_refuse_17 ?_
    refine lv_if_le (tgt := 27) S.1 S.2.1 dX6_refuse_20 (by decide) (fun c1 => ?_) (fun c1 => ?_)
    · have hf := (if_pos c1).symm.trans hf
      refine lv_iconst (v := 0) S.1 S.2.1 dX6_refuse_27 (by decide) ?_
      exact pk_zret S hr hlk hW (by decide) (eqm (P := fun z => z.1 = 0 ∧ MI κ ζ B z.2 K16 G16 ∧ FrM L F K16 G16) ⟨rfl, hI, hFr⟩ (Option.some.inj hf)) (by omega) (by omega) dX6_refuse_28
    · have hf := (if_neg c1).symm.trans hf
      refine lv_iconst (v := 1) S.1 S.2.1 dX6_refuse_23 (by decide) ?_
      refine lv_goto (tgt := 28) S.1 S.2.1 dX6_refuse_24 (by decide) ?_
      exact pk_zret S hr hlk hW (by decide) (eqm (P := fun z => z.1 = 1 ∧ MI κ ζ B z.2 K16 G16 ∧ FrM L F K16 G16) ⟨rfl, hI, hFr⟩ (Option.some.inj hf)) (by omega) (by omega) dX6_refuse_28
  unfold f_X6_refuse at hf
  refine lv_iload_n S.1 S.2.1 dX6_refuse_0 rfl (lv_at hl 1 rfl) ?_
  refine lv_if_eq (tgt := 16) S.1 S.2.1 dX6_refuse_1 (by decide) (fun c2 => ?_) (fun c2 => ?_)
  · have hf := (if_pos c2).symm.trans hf
    exact B16  (τ) hf L F hI hFr _ _ _ _ _ hW (by omega) (by omega) (lv_sub hl [0] rfl)
  · have hf := (if_neg c2).symm.trans hf
    refine lv_aload_n S.1 S.2.1 dX6_refuse_4 rfl (lv_at hl 0 rfl) ?_
    refine pk_get S hK hW 0 (hI.mem (by decide)) hI.this rfl hinX6 (by decide) wd_1155 rfl dX6_refuse_5 ?_
    refine lv_if_ne (tgt := 16) S.1 S.2.1 dX6_refuse_8 (by decide) (fun c3 => ?_) (fun c3 => ?_)
    · have hf := (if_neg c3).symm.trans hf
      exact B16  (τ) hf L F hI hFr _ _ _ _ _ hW (by omega) (by omega) (lv_sub hl [0] rfl)
    · have hf := (if_pos c3).symm.trans hf
      refine lv_aload_n S.1 S.2.1 dX6_refuse_11 rfl (lv_at hl 0 rfl) ?_
      refine lv_iload_n S.1 S.2.1 dX6_refuse_12 rfl (lv_at hl 2 rfl) ?_
      refine pk_put (v := .int x2) S hK hW 0 (hI.mem (by decide)) hI.this rfl hinX6 tyX6_ok nmX6 (by decide) wd_1155 rfl rfl rfl rfl (Nat.le_of_ble_eq_true rfl) dX6_refuse_13 (fun H4 l5 hW => ?_)
      have hF9 := FrM.cell (L := L) (w := (([.int (τ.2 0), .ref (B 1), .ref (B 5), .ref (B 6), .ref (B 7), .int (τ.2 1), .int (τ.2 2), .int (τ.2 3), .int (τ.2 4)] : List Value).set 0 (.int x2))) hI.this (Or.inr rfl)
      have hI := hI.setSc 0 0 (by decide) x2 rfl
      generalize va_up F (B 0) (.inr (11, (([.int (τ.2 0), .ref (B 1), .ref (B 5), .ref (B 6), .ref (B 7), .int (τ.2 1), .int (τ.2 2), .int (τ.2 3), .int (τ.2 4)] : List Value).set 0 (.int x2)))) = F6 at hW hI hF9
      have hFr := hFr.tr hF9
      obtain ⟨t7, et7, hf⟩ := nm_ok hf
      have hI := eqm (P := fun w => MI κ ζ B w L F6) hI et7.symm
      exact B16  t7 hf L F6 hI hFr _ _ _ _ _ hW (by omega) (by omega) (lv_sub hl [0] rfl)
def f_X6_start (τ : MS) (x1 : Int32) (x2 : Int32) : Option (Int32 × MS) := nm ((τ.1, va_up τ.2 0 0) : MS) fun t4 => (f_X6_refuse t4 x1 x2).bind fun z9 => (if z9.1 = 0 ∨ z9.1 = 1 then some (z9.1, z9.2) else none)
theorem mc_X6_start : MCode yX6_start cX6_start 3 (some .boolean) := ⟨wd_1191, wd_5, by decide, by decide⟩
theorem np_X6_start : (parseMethodDescriptor yX6_start.desc).map (fun d => d.parameters.length) = some 2 := by decide +kernel
set_option maxHeartbeats 4000000 in
set_option maxRecDepth 100000 in
theorem c_X6_start {l : Launch} {D : va_G} {κ : Nat → ClassId} {ζ : Nat → Nat} {L : List Nat} {F : Nat → va_E} {τ : MS} {B : Nat → Nat} (hI : MI κ ζ B τ L F) (x1 : Int32) (x2 : Int32) {res : (Int32 × MS)} (hf : f_X6_start τ x1 x2 = some res) : MtI l D cls (ty5 κ) ζ yX6_start cX6_start 3 (some .boolean) 2 0 0 ([.ref (B 0), .int x1, .int x2] : List Value) L F (fun r L' F' => res.1 = r ∧ MI κ ζ B res.2 L' F' ∧ FrM L F L' F') := by
  refine MtI.of (by decide) (Nat.le_of_ble_eq_true rfl) ?_
  intro p e s m below meth c S hr hlk _ hK hW hST ls hl
  have hl : lv_has ls 3 [(0, .ref (B 0)), (1, .int x1), (2, .int x2)] := hl
  have hFr : FrM L F L F := FrM.rf
  unfold f_X6_start at hf
  refine lv_aload_n S.1 S.2.1 dX6_start_0 rfl (lv_at hl 0 rfl) ?_
  refine lv_iconst (v := 0) S.1 S.2.1 dX6_start_1 (by decide) ?_
  refine pk_put (v := .int 0) S hK hW 0 (hI.mem (by decide)) hI.this rfl hinX6 tyX6_ok nmX6 (by decide) wd_1155 rfl rfl rfl rfl (Nat.le_of_ble_eq_true rfl) dX6_start_2 (fun H1 l2 hW => ?_)
  have hF9 := FrM.cell (L := L) (w := (([.int (τ.2 0), .ref (B 1), .ref (B 5), .ref (B 6), .ref (B 7), .int (τ.2 1), .int (τ.2 2), .int (τ.2 3), .int (τ.2 4)] : List Value).set 0 (.int 0))) hI.this (Or.inr rfl)
  have hI := hI.setSc 0 0 (by decide) 0 rfl
  generalize va_up F (B 0) (.inr (11, (([.int (τ.2 0), .ref (B 1), .ref (B 5), .ref (B 6), .ref (B 7), .int (τ.2 1), .int (τ.2 2), .int (τ.2 3), .int (τ.2 4)] : List Value).set 0 (.int 0)))) = F3 at hW hI hF9
  have hFr := hFr.tr hF9
  obtain ⟨t4, et4, hf⟩ := nm_ok hf
  have hI := eqm (P := fun w => MI κ ζ B w L F3) hI et4.symm
  refine lv_aload_n S.1 S.2.1 dX6_start_5 rfl (lv_at hl 0 rfl) ?_
  refine lv_iload_n S.1 S.2.1 dX6_start_6 rfl (lv_at hl 1 rfl) ?_
  refine lv_iload_n S.1 S.2.1 dX6_start_7 rfl (lv_at hl 2 rfl) ?_
  obtain ⟨z9, hz, hf⟩ := ob hf
  refine pk_cVI (As := [.int x1, .int x2]) (rest := []) S hK hST hW (c_X6_refuse hI x1 x2 hz) mc_X6_refuse wd_1192 wd_1194 wd_1702 rfl np_X6_refuse (hI.mem (by decide)) hI.this rfl rfl hl.1 rfl (Nat.le_of_ble_eq_true rfl) dX6_start_8 ⟨by decide, by decide⟩ ⟨rmc (by omega), rms (by omega)⟩ (fun r L5 F6 H7 l8 hp hW => ?_)
  obtain ⟨rfl, hI, hF9⟩ := hp
  have hFr := hFr.tr hF9
  obtain ⟨hg, hf⟩ := gdp hf
  exact pk_zret S hr hlk hW hg (eqm (P := fun z => z.1 = z9.1 ∧ MI κ ζ B z.2 L5 F6 ∧ FrM L F L5 F6) ⟨rfl, hI, hFr⟩ (Option.some.inj hf)) (by omega) (by omega) dX6_start_11
def f_X6_isNoTrack (x1 : Int32) : Option Int32 := (f_X6_isIn x1 0 1).bind fun z5 => (if z5 = 0 then some (1) else some (0))
theorem mc_X6_isNoTrack : MCode yX6_isNoTrack cX6_isNoTrack 1 (some .boolean) := ⟨wd_1184, wd_5, by decide, by decide⟩
theorem np_X6_isNoTrack : (parseMethodDescriptor yX6_isNoTrack.desc).map (fun d => d.parameters.length) = some 1 := by decide +kernel
set_option maxHeartbeats 4000000 in
set_option maxRecDepth 100000 in
theorem c_X6_isNoTrack {l : Launch} {D : va_G} {κ : Nat → ClassId} {ζ : Nat → Nat} {L : List Nat} {F : Nat → va_E} (x1 : Int32) {res : Int32} (hf : f_X6_isNoTrack x1 = some res) : MtI l D cls (ty5 κ) ζ yX6_isNoTrack cX6_isNoTrack 1 (some .boolean) 2 0 0 ([.int x1] : List Value) L F (fun r L' F' => L = L' ∧ F = F' ∧ res = r) := by
  refine MtI.of (by decide) (Nat.le_of_ble_eq_true rfl) ?_
  intro p e s m below meth c S hr hlk _ hK hW hST ls hl
  have hl : lv_has ls 1 [(0, .int x1)] := hl
  unfold f_X6_isNoTrack at hf
  refine lv_iload_n S.1 S.2.1 dX6_isNoTrack_0 rfl (lv_at hl 0 rfl) ?_
  refine lv_iconst (v := 0) S.1 S.2.1 dX6_isNoTrack_1 (by decide) ?_
  refine lv_iconst (v := 1) S.1 S.2.1 dX6_isNoTrack_2 (by decide) ?_
  obtain ⟨z5, hz, hf⟩ := ob hf
  refine pk_cSI (As := [.int x1, .int 0, .int 1]) (rest := []) S hK hST hW (c_X6_isIn  x1 0 1 hz) mc_X6_isIn wd_1185 wd_1186 np_X6_isIn rfl hl.1 rfl (Nat.le_of_ble_eq_true rfl) dX6_isNoTrack_3 ⟨by decide, by decide⟩ ⟨rmc (by omega), rms (by omega)⟩ (fun r L1 F2 H3 l4 hp hW => ?_)
  obtain ⟨rfl, rfl, rfl⟩ := hp
  refine lv_if_ne (tgt := 13) S.1 S.2.1 dX6_isNoTrack_6 (by decide) (fun c6 => ?_) (fun c6 => ?_)
  · have hf := (if_neg c6).symm.trans hf
    refine lv_iconst (v := 0) S.1 S.2.1 dX6_isNoTrack_13 (by decide) ?_
    exact pk_zret S hr hlk hW (by decide) ⟨rfl, rfl, eqm (P := fun z => z = 0) rfl (Option.some.inj hf)⟩ (by omega) (by omega) dX6_isNoTrack_14
  · have hf := (if_pos c6).symm.trans hf
    refine lv_iconst (v := 1) S.1 S.2.1 dX6_isNoTrack_9 (by decide) ?_
    refine lv_goto (tgt := 14) S.1 S.2.1 dX6_isNoTrack_10 (by decide) ?_
    exact pk_zret S hr hlk hW (by decide) ⟨rfl, rfl, eqm (P := fun z => z = 1) rfl (Option.some.inj hf)⟩ (by omega) (by omega) dX6_isNoTrack_14
def f_X6_isNoPiece_20    : Option Int32 := some (1)
def f_X6_isNoPiece (x1 : Int32) (x2 : Int32) : Option Int32 := (f_X6_isIn x1 0 9).bind fun z5 => (if z5 = 0 then f_X6_isNoPiece_20 else (f_X6_isIn x2 0 99).bind fun z11 => (if z11 = 0 then f_X6_isNoPiece_20 else some (0)))
theorem mc_X6_isNoPiece : MCode yX6_isNoPiece cX6_isNoPiece 2 (some .boolean) := ⟨wd_1198, wd_5, by decide, by decide⟩
theorem np_X6_isNoPiece : (parseMethodDescriptor yX6_isNoPiece.desc).map (fun d => d.parameters.length) = some 2 := by decide +kernel
set_option maxHeartbeats 4000000 in
set_option maxRecDepth 100000 in
theorem c_X6_isNoPiece {l : Launch} {D : va_G} {κ : Nat → ClassId} {ζ : Nat → Nat} {L : List Nat} {F : Nat → va_E} (x1 : Int32) (x2 : Int32) {res : Int32} (hf : f_X6_isNoPiece x1 x2 = some res) : MtI l D cls (ty5 κ) ζ yX6_isNoPiece cX6_isNoPiece 2 (some .boolean) 2 0 0 ([.int x1, .int x2] : List Value) L F (fun r L' F' => L = L' ∧ F = F' ∧ res = r) := by
  refine MtI.of (by decide) (Nat.le_of_ble_eq_true rfl) ?_
  intro p e s m below meth c S hr hlk _ hK hW hST ls hl
  have hl : lv_has ls 2 [(0, .int x1), (1, .int x2)] := hl
  have B20 :  f_X6_isNoPiece_20 = some res → ∀ (H20 : Heap) (l20 : List Loc) (ls : Array Slot) (cc ss : Nat), HW D cls L s H20 l20 L F → cc + (0) ≤ 0 → ss ≤ 33 * cc → lv_has ls 2 [] → W p l e (Rm 2 0 0) s m ([.int x1, .int x2] : List Value).toArray below meth c H20 l20 cc ss (EnI D cls s below ([.int x1, .int x2] : List Value).toArray 0 0 L (fun r L' F' => L = L' ∧ F = F' ∧ res = r)) (F0 m 20 ls []) := by
    intro   hf H20 l20 ls cc ss hW hcc hss hl
    unfold f_X6_isNoPiece_20 at hf
    refine lv_iconst (v := 1) S.1 S.2.1 dX6_isNoPiece_20 (by decide) ?_
    refine lv_goto (tgt := 25) S.1 S.2.1 dX6_isNoPiece_21 (by decide) ?_
    exact pk_zret S hr hlk hW (by decide) ⟨rfl, rfl, eqm (P := fun z => z = 1) rfl (Option.some.inj hf)⟩ (by omega) (by omega) dX6_isNoPiece_25
  unfold f_X6_isNoPiece at hf
  refine lv_iload_n S.1 S.2.1 dX6_isNoPiece_0 rfl (lv_at hl 0 rfl) ?_
  refine lv_iconst (v := 0) S.1 S.2.1 dX6_isNoPiece_1 (by decide) ?_
  refine lv_bipush (v := 9) S.1 S.2.1 dX6_isNoPiece_2 (by decide) ?_
  obtain ⟨z5, hz, hf⟩ := ob hf
  refine pk_cSI (As := [.int x1, .int 0, .int 9]) (rest := []) S hK hST hW (c_X6_isIn  x1 0 9 hz) mc_X6_isIn wd_1185 wd_1186 np_X6_isIn rfl hl.1 rfl (Nat.le_of_ble_eq_true rfl) dX6_isNoPiece_4 ⟨by decide, by decide⟩ ⟨rmc (by omega), rms (by omega)⟩ (fun r L1 F2 H3 l4 hp hW => ?_)
  obtain ⟨rfl, rfl, rfl⟩ := hp
  refine lv_if_eq (tgt := 20) S.1 S.2.1 dX6_isNoPiece_7 (by decide) (fun c6 => ?_) (fun c6 => ?_)
  · have hf := (if_pos c6).symm.trans hf
    exact B20   hf  _ _ _ _ _ hW (by omega) (by omega) (lv_sub hl [] rfl)
  · have hf := (if_neg c6).symm.trans hf
    refine lv_iload_n S.1 S.2.1 dX6_isNoPiece_10 rfl (lv_at hl 1 rfl) ?_
    refine lv_iconst (v := 0) S.1 S.2.1 dX6_isNoPiece_11 (by decide) ?_
    refine lv_bipush (v := 99) S.1 S.2.1 dX6_isNoPiece_12 (by decide) ?_
    obtain ⟨z11, hz, hf⟩ := ob hf
    refine pk_cSI (As := [.int x2, .int 0, .int 99]) (rest := []) S hK hST hW (c_X6_isIn  x2 0 99 hz) mc_X6_isIn wd_1185 wd_1186 np_X6_isIn rfl hl.1 rfl (Nat.le_of_ble_eq_true rfl) dX6_isNoPiece_14 ⟨by decide, by decide⟩ ⟨rmc (by omega), rms (by omega)⟩ (fun r L7 F8 H9 l10 hp hW => ?_)
    obtain ⟨rfl, rfl, rfl⟩ := hp
    refine lv_if_ne (tgt := 24) S.1 S.2.1 dX6_isNoPiece_17 (by decide) (fun c12 => ?_) (fun c12 => ?_)
    · have hf := (if_neg c12).symm.trans hf
      refine lv_iconst (v := 0) S.1 S.2.1 dX6_isNoPiece_24 (by decide) ?_
      exact pk_zret S hr hlk hW (by decide) ⟨rfl, rfl, eqm (P := fun z => z = 0) rfl (Option.some.inj hf)⟩ (by omega) (by omega) dX6_isNoPiece_25
    · have hf := (if_pos c12).symm.trans hf
      exact B20   hf  _ _ _ _ _ hW (by omega) (by omega) (lv_sub hl [] rfl)
def f_X6_code (x1 : Int32) (x2 : Int32) : Option Int32 := (if x1 = 0 then some (0) else some ((100 * x1) + x2))
theorem mc_X6_code : MCode yX6_code cX6_code 2 (some .int) := ⟨wd_1221, wd_5, by decide, by decide⟩
theorem np_X6_code : (parseMethodDescriptor yX6_code.desc).map (fun d => d.parameters.length) = some 2 := by decide +kernel
set_option maxHeartbeats 4000000 in
set_option maxRecDepth 100000 in
theorem c_X6_code {l : Launch} {D : va_G} {κ : Nat → ClassId} {ζ : Nat → Nat} {L : List Nat} {F : Nat → va_E} (x1 : Int32) (x2 : Int32) {res : Int32} (hf : f_X6_code x1 x2 = some res) : MtI l D cls (ty5 κ) ζ yX6_code cX6_code 2 (some .int) 1 0 0 ([.int x1, .int x2] : List Value) L F (fun r L' F' => L = L' ∧ F = F' ∧ res = r) := by
  refine MtI.of (by decide) (Nat.le_of_ble_eq_true rfl) ?_
  intro p e s m below meth c S hr hlk _ hK hW hST ls hl
  have hl : lv_has ls 2 [(0, .int x1), (1, .int x2)] := hl
  unfold f_X6_code at hf
  refine lv_iload_n S.1 S.2.1 dX6_code_0 rfl (lv_at hl 0 rfl) ?_
  refine lv_if_ne (tgt := 8) S.1 S.2.1 dX6_code_1 (by decide) (fun c1 => ?_) (fun c1 => ?_)
  · have hf := (if_neg c1).symm.trans hf
    refine lv_bipush (v := 100) S.1 S.2.1 dX6_code_8 (by decide) ?_
    refine lv_iload_n S.1 S.2.1 dX6_code_10 rfl (lv_at hl 0 rfl) ?_
    refine lv_imul S.1 S.2.1 dX6_code_11 ?_
    refine lv_iload_n S.1 S.2.1 dX6_code_12 rfl (lv_at hl 1 rfl) ?_
    refine lv_iadd S.1 S.2.1 dX6_code_13 ?_
    exact pk_iret S hr hlk hW ⟨rfl, rfl, eqm (P := fun z => z = (100 * x1) + x2) rfl (Option.some.inj hf)⟩ (by omega) (by omega) dX6_code_14
  · have hf := (if_pos c1).symm.trans hf
    refine lv_iconst (v := 0) S.1 S.2.1 dX6_code_4 (by decide) ?_
    refine lv_goto (tgt := 14) S.1 S.2.1 dX6_code_5 (by decide) ?_
    exact pk_iret S hr hlk hW ⟨rfl, rfl, eqm (P := fun z => z = 0) rfl (Option.some.inj hf)⟩ (by omega) (by omega) dX6_code_14
def f_X6_kind (x1 : Int32) : Option Int32 := some (x1 / 100)
theorem mc_X6_kind : MCode yX6_kind cX6_kind 1 (some .int) := ⟨wd_1372, wd_5, by decide, by decide⟩
theorem np_X6_kind : (parseMethodDescriptor yX6_kind.desc).map (fun d => d.parameters.length) = some 1 := by decide +kernel
set_option maxHeartbeats 4000000 in
set_option maxRecDepth 100000 in
theorem c_X6_kind {l : Launch} {D : va_G} {κ : Nat → ClassId} {ζ : Nat → Nat} {L : List Nat} {F : Nat → va_E} (x1 : Int32) {res : Int32} (hf : f_X6_kind x1 = some res) : MtI l D cls (ty5 κ) ζ yX6_kind cX6_kind 1 (some .int) 1 0 0 ([.int x1] : List Value) L F (fun r L' F' => L = L' ∧ F = F' ∧ res = r) := by
  refine MtI.of (by decide) (Nat.le_of_ble_eq_true rfl) ?_
  intro p e s m below meth c S hr hlk _ hK hW hST ls hl
  have hl : lv_has ls 1 [(0, .int x1)] := hl
  unfold f_X6_kind at hf
  refine lv_iload_n S.1 S.2.1 dX6_kind_0 rfl (lv_at hl 0 rfl) ?_
  refine lv_bipush (v := 100) S.1 S.2.1 dX6_kind_1 (by decide) ?_
  refine lv_idiv S.1 S.2.1 dX6_kind_3 (by decide) ?_
  exact pk_iret S hr hlk hW ⟨rfl, rfl, eqm (P := fun z => z = x1 / 100) rfl (Option.some.inj hf)⟩ (by omega) (by omega) dX6_kind_4
def f_X6_load (x1 : Int32) : Option Int32 := some (jrem x1 100)
theorem mc_X6_load : MCode yX6_load cX6_load 1 (some .int) := ⟨wd_1396, wd_5, by decide, by decide⟩
theorem np_X6_load : (parseMethodDescriptor yX6_load.desc).map (fun d => d.parameters.length) = some 1 := by decide +kernel
set_option maxHeartbeats 4000000 in
set_option maxRecDepth 100000 in
theorem c_X6_load {l : Launch} {D : va_G} {κ : Nat → ClassId} {ζ : Nat → Nat} {L : List Nat} {F : Nat → va_E} (x1 : Int32) {res : Int32} (hf : f_X6_load x1 = some res) : MtI l D cls (ty5 κ) ζ yX6_load cX6_load 1 (some .int) 1 0 0 ([.int x1] : List Value) L F (fun r L' F' => L = L' ∧ F = F' ∧ res = r) := by
  refine MtI.of (by decide) (Nat.le_of_ble_eq_true rfl) ?_
  intro p e s m below meth c S hr hlk _ hK hW hST ls hl
  have hl : lv_has ls 1 [(0, .int x1)] := hl
  unfold f_X6_load at hf
  refine lv_iload_n S.1 S.2.1 dX6_load_0 rfl (lv_at hl 0 rfl) ?_
  refine lv_bipush (v := 100) S.1 S.2.1 dX6_load_1 (by decide) ?_
  refine pk_irem S dX6_load_3 (by decide) ?_
  exact pk_iret S hr hlk hW ⟨rfl, rfl, eqm (P := fun z => z = jrem x1 100) rfl (Option.some.inj hf)⟩ (by omega) (by omega) dX6_load_4
def f_X6_size (τ : MS) (x1 : Int32) : Option Int32 := (gtr x1).bind fun z5 => some (nI (τ.1 z5).length)
theorem mc_X6_size : MCode yX6_size cX6_size 2 (some .int) := ⟨wd_1202, wd_5, by decide, by decide⟩
theorem np_X6_size : (parseMethodDescriptor yX6_size.desc).map (fun d => d.parameters.length) = some 1 := by decide +kernel
set_option maxHeartbeats 4000000 in
set_option maxRecDepth 100000 in
theorem c_X6_size {l : Launch} {D : va_G} {κ : Nat → ClassId} {ζ : Nat → Nat} {L : List Nat} {F : Nat → va_E} {τ : MS} {B : Nat → Nat} (hI : MI κ ζ B τ L F) (x1 : Int32) {res : Int32} (hf : f_X6_size τ x1 = some res) : MtI l D cls (ty5 κ) ζ yX6_size cX6_size 2 (some .int) 4 0 0 ([.ref (B 0), .int x1] : List Value) L F (fun r L' F' => L = L' ∧ F = F' ∧ res = r) := by
  refine MtI.of (by decide) (Nat.le_of_ble_eq_true rfl) ?_
  intro p e s m below meth c S hr hlk _ hK hW hST ls hl
  have hl : lv_has ls 2 [(0, .ref (B 0)), (1, .int x1)] := hl
  unfold f_X6_size at hf
  refine lv_aload_n S.1 S.2.1 dX6_size_0 rfl (lv_at hl 0 rfl) ?_
  refine pk_get S hK hW 1 (hI.mem (by decide)) hI.this rfl hinX6 (by decide) wd_1156 rfl dX6_size_1 ?_
  refine lv_iload_n S.1 S.2.1 dX6_size_4 rfl (lv_at hl 1 rfl) ?_
  obtain ⟨z5, hz, hf⟩ := ob hf
  obtain ⟨md9, f9, hR9, -, -⟩ := hI.tracks
  refine pk_cVR (As := [.int x1]) (rest := []) S hK hST hW (c_tracks hI hz) mc_Jx4a65c_get_915e3 wd_1203 wd_1204 wd_1205 rfl np_Jx4a65c_get_915e3 hR9.1 hR9.2.1 rfl rfl hl.1 rfl (Nat.le_of_ble_eq_true rfl) dX6_size_5 ⟨by decide, by decide⟩ ⟨rmc (by omega), rms (by omega)⟩ (fun r L1 F2 H3 l4 hp hW => ?_)
  obtain ⟨rfl, rfl, rfl⟩ := hp
  have hbz5 : z5 < 4 := Nat.lt_of_lt_of_le (gtr_ok hz).1 (by decide)
  obtain ⟨ar0, hL0, -⟩ := hI.list hbz5
  obtain ⟨m_h0, md0, e_h0⟩ := hL0.obj
  refine va_castS S.1 S.2.1 S.2.2.2.1 (S.2.2.2.2 _ wd_1070) (hK.1 4 _ rfl).2 (pk_recv (r := (RJx4a65c, TJx4a65c, 3)) hK hW m_h0 e_h0 rfl) dX6_size_8 ?_
  obtain ⟨ar9, hL9, hup9⟩ := hI.list hbz5
  obtain ⟨m_h9, md9, e_h9⟩ := hL9.obj
  refine pk_cVI (As := []) (rest := []) S hK hST hW (c_lsize hL9) mc_Jx4a65c_size_8abf5 wd_1215 wd_1216 wd_1217 rfl np_Jx4a65c_size_8abf5 m_h9 e_h9 rfl rfl hl.1 rfl (Nat.le_of_ble_eq_true rfl) dX6_size_11 ⟨by decide, by decide⟩ ⟨rmc (by omega), rms (by omega)⟩ (fun r L6 F7 H8 l9 hp hW => ?_)
  obtain ⟨rfl, rfl, rfl⟩ := hp
  exact pk_iret S hr hlk hW ⟨rfl, rfl, eqm (P := fun z => z = nI (τ.1 z5).length) rfl (Option.some.inj hf)⟩ (by omega) (by omega) dX6_size_14
def f_X6_get (τ : MS) (x1 : Int32) (x2 : Int32) : Option Int32 := (gtr x1).bind fun z5 => (lget (τ.1 z5) x2).bind fun z10 => some (z10)
theorem mc_X6_get : MCode yX6_get cX6_get 3 (some .int) := ⟨wd_1302, wd_5, by decide, by decide⟩
theorem np_X6_get : (parseMethodDescriptor yX6_get.desc).map (fun d => d.parameters.length) = some 2 := by decide +kernel
set_option maxHeartbeats 4000000 in
set_option maxRecDepth 100000 in
theorem c_X6_get {l : Launch} {D : va_G} {κ : Nat → ClassId} {ζ : Nat → Nat} {L : List Nat} {F : Nat → va_E} {τ : MS} {B : Nat → Nat} (hI : MI κ ζ B τ L F) (x1 : Int32) (x2 : Int32) {res : Int32} (hf : f_X6_get τ x1 x2 = some res) : MtI l D cls (ty5 κ) ζ yX6_get cX6_get 3 (some .int) 5 0 0 ([.ref (B 0), .int x1, .int x2] : List Value) L F (fun r L' F' => L = L' ∧ F = F' ∧ res = r) := by
  refine MtI.of (by decide) (Nat.le_of_ble_eq_true rfl) ?_
  intro p e s m below meth c S hr hlk _ hK hW hST ls hl
  have hl : lv_has ls 3 [(0, .ref (B 0)), (1, .int x1), (2, .int x2)] := hl
  unfold f_X6_get at hf
  refine lv_aload_n S.1 S.2.1 dX6_get_0 rfl (lv_at hl 0 rfl) ?_
  refine pk_get S hK hW 1 (hI.mem (by decide)) hI.this rfl hinX6 (by decide) wd_1156 rfl dX6_get_1 ?_
  refine lv_iload_n S.1 S.2.1 dX6_get_4 rfl (lv_at hl 1 rfl) ?_
  obtain ⟨z5, hz, hf⟩ := ob hf
  obtain ⟨md9, f9, hR9, -, -⟩ := hI.tracks
  refine pk_cVR (As := [.int x1]) (rest := []) S hK hST hW (c_tracks hI hz) mc_Jx4a65c_get_915e3 wd_1203 wd_1204 wd_1205 rfl np_Jx4a65c_get_915e3 hR9.1 hR9.2.1 rfl rfl hl.1 rfl (Nat.le_of_ble_eq_true rfl) dX6_get_5 ⟨by decide, by decide⟩ ⟨rmc (by omega), rms (by omega)⟩ (fun r L1 F2 H3 l4 hp hW => ?_)
  obtain ⟨rfl, rfl, rfl⟩ := hp
  have hbz5 : z5 < 4 := Nat.lt_of_lt_of_le (gtr_ok hz).1 (by decide)
  obtain ⟨ar0, hL0, -⟩ := hI.list hbz5
  obtain ⟨m_h0, md0, e_h0⟩ := hL0.obj
  refine va_castS S.1 S.2.1 S.2.2.2.1 (S.2.2.2.2 _ wd_1070) (hK.1 4 _ rfl).2 (pk_recv (r := (RJx4a65c, TJx4a65c, 3)) hK hW m_h0 e_h0 rfl) dX6_get_8 ?_
  refine lv_iload_n S.1 S.2.1 dX6_get_11 rfl (lv_at hl 2 rfl) ?_
  obtain ⟨ar9, hL9, hup9⟩ := hI.list hbz5
  obtain ⟨m_h9, md9, e_h9⟩ := hL9.obj
  obtain ⟨z10, hz, hf⟩ := ob hf
  refine pk_cVR (As := [.int x2]) (rest := []) S hK hST hW (c_mget hL9 hz) mc_Jx4a65c_get_915e3 wd_1203 wd_1204 wd_1205 rfl np_Jx4a65c_get_915e3 m_h9 e_h9 rfl rfl hl.1 rfl (Nat.le_of_ble_eq_true rfl) dX6_get_12 ⟨by decide, by decide⟩ ⟨rmc (by omega), rms (by omega)⟩ (fun y11 L6 F7 H8 l9 hp hW => ?_)
  obtain ⟨rfl, rfl, hby11⟩ := hp
  refine va_castS S.1 S.2.1 S.2.2.2.1 (S.2.2.2.2 _ wd_1303) (hK.1 2 _ rfl).2 (bx_cell hK hW hST hby11) dX6_get_15 ?_
  refine pk_cVIr (As := []) (rest := []) S hK hST hW (c_J6_intValue_8abf5 hby11) mc_J6_intValue_8abf5 wd_1304 wd_1305 wd_1306 rfl np_J6_intValue_8abf5 (bx_cell hK hW hST hby11) rfl hl.1 rfl (Nat.le_of_ble_eq_true rfl) dX6_get_18 ⟨by decide, by decide⟩ ⟨rmc (by omega), rms (by omega)⟩ (fun r L12 F13 H14 l15 hp hW => ?_)
  obtain ⟨rfl, rfl, rfl⟩ := hp
  exact pk_iret S hr hlk hW ⟨rfl, rfl, eqm (P := fun z => z = z10) rfl (Option.some.inj hf)⟩ (by omega) (by omega) dX6_get_21
def f_X6_changed_54  (k22 : (MS × Int32 × Int32) → Option MS) (w54 : MS) (v2 : Int32) (v3 : Int32) : Option MS := nm (v3 + 1 : Int32) fun y1 => k22 (w54, v2, y1)
def f_X6_changed_22   (k22 : (MS × Int32 × Int32) → Option MS) (t : (MS × Int32 × Int32)) : Option MS := (if 2 ≤ t.2.2 then some t.1 else (if t.2.2 = t.2.1 then f_X6_changed_54 k22 t.1 t.2.1 t.2.2 else (gwk t.2.2).bind fun z4 => (if (t.1.2 (5 + 3 * z4)) = 0 then f_X6_changed_54 k22 t.1 t.2.1 t.2.2 else (gwk t.2.2).bind fun z6 => nm ((t.1.1, va_up t.1.2 (5 + 3 * z6 + 0) 2) : MS) fun t10 => f_X6_changed_54 k22 t10 t.2.1 t.2.2)))
def f_X6_changed (τ : MS) (x1 : Int32) (x2 : Int32) : Option MS := (if x1 = 0 then nm ((τ.1, va_up τ.2 1 0) : MS) fun t15 => nm ((t15.1, va_up t15.2 2 0) : MS) fun t19 => nm ((t19.1, va_up t19.2 3 ((-1))) : MS) fun t23 => some t23 else lpn (f_X6_changed_22 ) 24 (τ, x2, 0))
theorem mc_X6_changed : MCode yX6_changed cX6_changed 4 none := ⟨wd_1275, wd_5, by decide, by decide⟩
theorem np_X6_changed : (parseMethodDescriptor yX6_changed.desc).map (fun d => d.parameters.length) = some 2 := by decide +kernel
set_option maxHeartbeats 4000000 in
set_option maxRecDepth 100000 in
theorem c_X6_changed {l : Launch} {D : va_G} {κ : Nat → ClassId} {ζ : Nat → Nat} {L : List Nat} {F : Nat → va_E} {τ : MS} {B : Nat → Nat} (hI : MI κ ζ B τ L F) (x1 : Int32) (x2 : Int32) {res : MS} (hf : f_X6_changed τ x1 x2 = some res) : MtV l D cls (ty5 κ) ζ yX6_changed cX6_changed 4 none 1 0 0 ([.ref (B 0), .int x1, .int x2] : List Value) L F (fun L' F' => MI κ ζ B res L' F' ∧ FrM L F L' F') := by
  refine MtV.of (by decide) (Nat.le_of_ble_eq_true rfl) ?_
  intro p e s m below meth c S hr hlk _ hK hW hST ls hl
  have hl : lv_has ls 4 [(0, .ref (B 0)), (1, .int x1), (2, .int x2)] := hl
  have hFr : FrM L F L F := FrM.rf
  have B54 : ∀ (k22 : (MS × Int32 × Int32) → Option MS) (nd22 : Nat) (hk22 : (∀ (w22 : MS) (v2 : Int32) (v3 : Int32), k22 (w22, v2, v3) = some res → ∀ (K22 : List Nat) (G22 : Nat → va_E), MI κ ζ B w22 K22 G22 → FrM L F K22 G22 → ∀ (H22 : Heap) (l22 : List Loc) (ls : Array Slot) (cc ss : Nat), HW D cls L s H22 l22 K22 G22 → cc + (nd22) ≤ 0 → ss ≤ 33 * cc → lv_has ls 4 [(0, .ref (B 0)), (2, .int v2), (3, .int v3)] → W p l e (Rm 1 0 0) s m ([.ref (B 0), .int x1, .int x2] : List Value).toArray below meth c H22 l22 cc ss (EnV D cls s below ([.ref (B 0), .int x1, .int x2] : List Value).toArray 0 0 L (fun L' F' => MI κ ζ B res L' F' ∧ FrM L F L' F')) (F0 m 22 ls []))) (hnd22 : 0 ≤ nd22) (w54 : MS) (v2 : Int32) (v3 : Int32), f_X6_changed_54 k22 w54 v2 v3 = some res → ∀ (K54 : List Nat) (G54 : Nat → va_E), MI κ ζ B w54 K54 G54 → FrM L F K54 G54 → ∀ (H54 : Heap) (l54 : List Loc) (ls : Array Slot) (cc ss : Nat), HW D cls L s H54 l54 K54 G54 → cc + (0 + nd22) ≤ 0 → ss ≤ 33 * cc → lv_has ls 4 [(0, .ref (B 0)), (2, .int v2), (3, .int v3)] → W p l e (Rm 1 0 0) s m ([.ref (B 0), .int x1, .int x2] : List Value).toArray below meth c H54 l54 cc ss (EnV D cls s below ([.ref (B 0), .int x1, .int x2] : List Value).toArray 0 0 L (fun L' F' => MI κ ζ B res L' F' ∧ FrM L F L' F')) (F0 m 54 ls []) := by
    intro k22 nd22 hk22 hnd22 w54 v2 v3 hf K54 G54 hI hFr H54 l54 ls cc ss hW hcc hss hl
    unfold f_X6_changed_54 at hf
    obtain ⟨y1, ey1⟩ : ∃ y : Int32, y = v3 + 1 := ⟨_, rfl⟩
    have hf := nm_at hf ey1
    refine lv_iinc (v := y1) (lv' := [(3, .int y1), (0, .ref (B 0)), (2, .int v2)]) S.1 S.2.1 dX6_changed_54 hl (k := 2) rfl (by rw [ey1]; rfl) (by decide) rfl (fun ls hl => ?_)
    refine lv_goto (tgt := 22) S.1 S.2.1 dX6_changed_57 (by decide) ?_
    exact hk22 w54 v2 y1 hf K54 G54 hI hFr _ _ _ _ _ hW (by omega) (by omega) (lv_sub hl [1, 2, 0] rfl)
  have B22 : ∀  (N : Nat), (∀ (w22 : MS) (v2 : Int32) (v3 : Int32), (lpn (f_X6_changed_22 ) N) (w22, v2, v3) = some res → ∀ (K22 : List Nat) (G22 : Nat → va_E), MI κ ζ B w22 K22 G22 → FrM L F K22 G22 → ∀ (H22 : Heap) (l22 : List Loc) (ls : Array Slot) (cc ss : Nat), HW D cls L s H22 l22 K22 G22 → cc + (N * 0 + 0) ≤ 0 → ss ≤ 33 * cc → lv_has ls 4 [(0, .ref (B 0)), (2, .int v2), (3, .int v3)] → W p l e (Rm 1 0 0) s m ([.ref (B 0), .int x1, .int x2] : List Value).toArray below meth c H22 l22 cc ss (EnV D cls s below ([.ref (B 0), .int x1, .int x2] : List Value).toArray 0 0 L (fun L' F' => MI κ ζ B res L' F' ∧ FrM L F L' F')) (F0 m 22 ls [])) := by
    intro  N
    induction N with
    | zero => intro w22 v2 v3 hf K22 G22 hI hFr H22 l22 ls cc ss hW hcc hss hl; cases hf
    | succ N ih =>
      intro w22 v2 v3 hf K22 G22 hI hFr H22 l22 ls cc ss hW hcc hss hl
      have hf : f_X6_changed_22  (lpn (f_X6_changed_22 ) N) (w22, v2, v3) = some res := hf
      generalize lpn (f_X6_changed_22 ) N = k22 at hf ih
      have hnd22 : 0 ≤ N * 0 + 0 := by omega
      have hcc : cc + (0 + (N * 0 + 0)) ≤ 0 := by omega
      have hk22 := ih
      generalize N * 0 + 0 = nd22 at hnd22 hcc hk22
      unfold f_X6_changed_22 at hf
      try dsimp only at hf
      refine lv_iload_n S.1 S.2.1 dX6_changed_22 rfl (lv_at hl 2 rfl) ?_
      refine lv_iconst (v := 2) S.1 S.2.1 dX6_changed_23 (by decide) ?_
      refine lv_icmp_ge (tgt := 60) S.1 S.2.1 dX6_changed_24 (by decide) (fun c2 => ?_) (fun c2 => ?_)
      · have hf := (if_pos c2).symm.trans hf
        exact pk_vret S hr hlk hW ⟨eqm (P := fun z => MI κ ζ B z K22 G22) hI (Option.some.inj hf), hFr⟩ (by omega) (by omega) dX6_changed_60
      · have hf := (if_neg c2).symm.trans hf
        refine lv_iload_n S.1 S.2.1 dX6_changed_27 rfl (lv_at hl 2 rfl) ?_
        refine lv_iload_n S.1 S.2.1 dX6_changed_28 rfl (lv_at hl 1 rfl) ?_
        refine lv_icmp_eq (tgt := 54) S.1 S.2.1 dX6_changed_29 (by decide) (fun c3 => ?_) (fun c3 => ?_)
        · have hf := (if_pos c3).symm.trans hf
          exact B54 k22 nd22 hk22 hnd22 w22 v2 v3 hf K22 G22 hI hFr _ _ _ _ _ hW (by omega) (by omega) (lv_sub hl [0, 1, 2] rfl)
        · have hf := (if_neg c3).symm.trans hf
          refine lv_aload_n S.1 S.2.1 dX6_changed_32 rfl (lv_at hl 0 rfl) ?_
          refine pk_get S hK hW 4 (hI.mem (by decide)) hI.this rfl hinX6 (by decide) wd_1159 rfl dX6_changed_33 ?_
          refine lv_iload_n S.1 S.2.1 dX6_changed_36 rfl (lv_at hl 2 rfl) ?_
          obtain ⟨z4, hz, hf⟩ := ob hf
          obtain ⟨hbz4, ex9⟩ := gtr_ok hz
          obtain ⟨m_w7, g7, e_w7, g70, g71⟩ := hI.wks
          refine pk_aald (y := B (8 + z4)) S hK hW 4 m_w7 e_w7 rfl (by rw [ex9]; exact vp_in_nI hbz4 (by omega)) (by rw [ex9, nI_clamp (by omega)]; exact co_2 (P := fun q => g7 q = some (B (8 + q))) g70 g71 hbz4) dX6_changed_37 ?_
          refine pk_get S hK hW 0 (hI.mem (by have := hbz4; omega)) (hI.mkH hbz4) rfl hinX5 (by decide) wd_1100 rfl dX6_changed_38 ?_
          refine lv_if_eq (tgt := 54) S.1 S.2.1 dX6_changed_41 (by decide) (fun c5 => ?_) (fun c5 => ?_)
          · have hf := (if_pos c5).symm.trans hf
            exact B54 k22 nd22 hk22 hnd22 w22 v2 v3 hf K22 G22 hI hFr _ _ _ _ _ hW (by omega) (by omega) (lv_sub hl [0, 1, 2] rfl)
          · have hf := (if_neg c5).symm.trans hf
            refine lv_aload_n S.1 S.2.1 dX6_changed_44 rfl (lv_at hl 0 rfl) ?_
            refine pk_get S hK hW 4 (hI.mem (by decide)) hI.this rfl hinX6 (by decide) wd_1159 rfl dX6_changed_45 ?_
            refine lv_iload_n S.1 S.2.1 dX6_changed_48 rfl (lv_at hl 2 rfl) ?_
            obtain ⟨z6, hz, hf⟩ := ob hf
            obtain ⟨hbz6, ex9⟩ := gtr_ok hz
            obtain ⟨m_w7, g7, e_w7, g70, g71⟩ := hI.wks
            refine pk_aald (y := B (8 + z6)) S hK hW 4 m_w7 e_w7 rfl (by rw [ex9]; exact vp_in_nI hbz6 (by omega)) (by rw [ex9, nI_clamp (by omega)]; exact co_2 (P := fun q => g7 q = some (B (8 + q))) g70 g71 hbz6) dX6_changed_49 ?_
            refine lv_iconst (v := 2) S.1 S.2.1 dX6_changed_50 (by decide) ?_
            refine pk_put (v := .int 2) S hK hW 0 (hI.mem (by have := hbz6; omega)) (hI.mkH hbz6) rfl hinX5 tyX5_ok nmX5 (by decide) wd_1100 rfl rfl rfl rfl (Nat.le_of_ble_eq_true rfl) dX6_changed_51 (fun H7 l8 hW => ?_)
            have hF9 := FrM.cell (L := K22) (w := (([.int (w22.2 (5 + 3 * z6)), .int (w22.2 (5 + 3 * z6 + 1)), .int (w22.2 (5 + 3 * z6 + 2))] : List Value).set 0 (.int 2))) (hI.mkH hbz6) (Or.inl rfl)
            have hI := hI.setMk hbz6 0 (by decide) 2
            generalize va_up G22 (B (8 + z6)) (.inr (10, (([.int (w22.2 (5 + 3 * z6)), .int (w22.2 (5 + 3 * z6 + 1)), .int (w22.2 (5 + 3 * z6 + 2))] : List Value).set 0 (.int 2)))) = F9 at hW hI hF9
            have hFr := hFr.tr hF9
            obtain ⟨t10, et10, hf⟩ := nm_ok hf
            have hI := eqm (P := fun w => MI κ ζ B w K22 F9) hI et10.symm
            exact B54 k22 nd22 hk22 hnd22 t10 v2 v3 hf K22 F9 hI hFr _ _ _ _ _ hW (by omega) (by omega) (lv_sub hl [0, 1, 2] rfl)
  unfold f_X6_changed at hf
  refine lv_iload_n S.1 S.2.1 dX6_changed_0 rfl (lv_at hl 1 rfl) ?_
  refine lv_if_ne (tgt := 20) S.1 S.2.1 dX6_changed_1 (by decide) (fun c11 => ?_) (fun c11 => ?_)
  · have hf := (if_neg c11).symm.trans hf
    refine lv_iconst (v := 0) S.1 S.2.1 dX6_changed_20 (by decide) ?_
    refine lv_istore_n (lv' := [(3, .int 0), (0, .ref (B 0)), (1, .int x1), (2, .int x2)]) S.1 S.2.1 dX6_changed_21 rfl hl (by decide) rfl (fun ls hl => ?_)
    exact B22  24 (τ) x2 0 hf L F hI hFr _ _ _ _ _ hW (by omega) (by omega) (lv_sub hl [1, 3, 0] rfl)
  · have hf := (if_pos c11).symm.trans hf
    refine lv_aload_n S.1 S.2.1 dX6_changed_4 rfl (lv_at hl 0 rfl) ?_
    refine lv_iconst (v := 0) S.1 S.2.1 dX6_changed_5 (by decide) ?_
    refine pk_put (v := .int 0) S hK hW 5 (hI.mem (by decide)) hI.this rfl hinX6 tyX6_ok nmX6 (by decide) wd_1160 rfl rfl rfl rfl (Nat.le_of_ble_eq_true rfl) dX6_changed_6 (fun H12 l13 hW => ?_)
    have hF9 := FrM.cell (L := L) (w := (([.int (τ.2 0), .ref (B 1), .ref (B 5), .ref (B 6), .ref (B 7), .int (τ.2 1), .int (τ.2 2), .int (τ.2 3), .int (τ.2 4)] : List Value).set 5 (.int 0))) hI.this (Or.inr rfl)
    have hI := hI.setSc 1 5 (by decide) 0 rfl
    generalize va_up F (B 0) (.inr (11, (([.int (τ.2 0), .ref (B 1), .ref (B 5), .ref (B 6), .ref (B 7), .int (τ.2 1), .int (τ.2 2), .int (τ.2 3), .int (τ.2 4)] : List Value).set 5 (.int 0)))) = F14 at hW hI hF9
    have hFr := hFr.tr hF9
    obtain ⟨t15, et15, hf⟩ := nm_ok hf
    have hI := eqm (P := fun w => MI κ ζ B w L F14) hI et15.symm
    refine lv_aload_n S.1 S.2.1 dX6_changed_9 rfl (lv_at hl 0 rfl) ?_
    refine lv_iconst (v := 0) S.1 S.2.1 dX6_changed_10 (by decide) ?_
    refine pk_put (v := .int 0) S hK hW 6 (hI.mem (by decide)) hI.this rfl hinX6 tyX6_ok nmX6 (by decide) wd_1161 rfl rfl rfl rfl (Nat.le_of_ble_eq_true rfl) dX6_changed_11 (fun H16 l17 hW => ?_)
    have hF9 := FrM.cell (L := L) (w := (([.int (t15.2 0), .ref (B 1), .ref (B 5), .ref (B 6), .ref (B 7), .int (t15.2 1), .int (t15.2 2), .int (t15.2 3), .int (t15.2 4)] : List Value).set 6 (.int 0))) hI.this (Or.inr rfl)
    have hI := hI.setSc 2 6 (by decide) 0 rfl
    generalize va_up F14 (B 0) (.inr (11, (([.int (t15.2 0), .ref (B 1), .ref (B 5), .ref (B 6), .ref (B 7), .int (t15.2 1), .int (t15.2 2), .int (t15.2 3), .int (t15.2 4)] : List Value).set 6 (.int 0)))) = F18 at hW hI hF9
    have hFr := hFr.tr hF9
    obtain ⟨t19, et19, hf⟩ := nm_ok hf
    have hI := eqm (P := fun w => MI κ ζ B w L F18) hI et19.symm
    refine lv_aload_n S.1 S.2.1 dX6_changed_14 rfl (lv_at hl 0 rfl) ?_
    refine lv_iconst (v := (-1)) S.1 S.2.1 dX6_changed_15 (by decide) ?_
    refine pk_put (v := .int ((-1))) S hK hW 7 (hI.mem (by decide)) hI.this rfl hinX6 tyX6_ok nmX6 (by decide) wd_1162 rfl rfl rfl rfl (Nat.le_of_ble_eq_true rfl) dX6_changed_16 (fun H20 l21 hW => ?_)
    have hF9 := FrM.cell (L := L) (w := (([.int (t19.2 0), .ref (B 1), .ref (B 5), .ref (B 6), .ref (B 7), .int (t19.2 1), .int (t19.2 2), .int (t19.2 3), .int (t19.2 4)] : List Value).set 7 (.int ((-1))))) hI.this (Or.inr rfl)
    have hI := hI.setSc 3 7 (by decide) ((-1)) rfl
    generalize va_up F18 (B 0) (.inr (11, (([.int (t19.2 0), .ref (B 1), .ref (B 5), .ref (B 6), .ref (B 7), .int (t19.2 1), .int (t19.2 2), .int (t19.2 3), .int (t19.2 4)] : List Value).set 7 (.int ((-1)))))) = F22 at hW hI hF9
    have hFr := hFr.tr hF9
    obtain ⟨t23, et23, hf⟩ := nm_ok hf
    have hI := eqm (P := fun w => MI κ ζ B w L F22) hI et23.symm
    exact pk_vret S hr hlk hW ⟨eqm (P := fun z => MI κ ζ B z L F22) hI (Option.some.inj hf), hFr⟩ (by omega) (by omega) dX6_changed_19
def f_X6_come (τ : MS) (x1 : Int32) (x2 : Int32) (x3 : Int32) : Option MS := (gtr x1).bind fun z5 => (lins (τ.1 z5) x2 x3).bind fun z15 => nm ((va_up τ.1 z5 z15, τ.2) : MS) fun t16 => (f_X6_changed t16 x1 ((-1))).bind fun z21 => some z21
theorem mc_X6_come : MCode yX6_come cX6_come 4 none := ⟨wd_1232, wd_5, by decide, by decide⟩
theorem np_X6_come : (parseMethodDescriptor yX6_come.desc).map (fun d => d.parameters.length) = some 3 := by decide +kernel
set_option maxHeartbeats 4000000 in
set_option maxRecDepth 100000 in
theorem c_X6_come {l : Launch} {D : va_G} {κ : Nat → ClassId} {ζ : Nat → Nat} {L : List Nat} {F : Nat → va_E} {τ : MS} {B : Nat → Nat} (hI : MI κ ζ B τ L F) (x1 : Int32) (x2 : Int32) (x3 : Int32) {res : MS} (hf : f_X6_come τ x1 x2 x3 = some res) : MtV l D cls (ty5 κ) ζ yX6_come cX6_come 4 none 8 2 66 ([.ref (B 0), .int x1, .int x2, .int x3] : List Value) L F (fun L' F' => MI κ ζ B res L' F' ∧ FrM L F L' F') := by
  refine MtV.of (by decide) (Nat.le_of_ble_eq_true rfl) ?_
  intro p e s m below meth c S hr hlk _ hK hW hST ls hl
  have hl : lv_has ls 4 [(0, .ref (B 0)), (1, .int x1), (2, .int x2), (3, .int x3)] := hl
  have hFr : FrM L F L F := FrM.rf
  unfold f_X6_come at hf
  refine lv_aload_n S.1 S.2.1 dX6_come_0 rfl (lv_at hl 0 rfl) ?_
  refine pk_get S hK hW 1 (hI.mem (by decide)) hI.this rfl hinX6 (by decide) wd_1156 rfl dX6_come_1 ?_
  refine lv_iload_n S.1 S.2.1 dX6_come_4 rfl (lv_at hl 1 rfl) ?_
  obtain ⟨z5, hz, hf⟩ := ob hf
  obtain ⟨md9, f9, hR9, -, -⟩ := hI.tracks
  refine pk_cVR (As := [.int x1]) (rest := []) S hK hST hW (c_tracks hI hz) mc_Jx4a65c_get_915e3 wd_1203 wd_1204 wd_1205 rfl np_Jx4a65c_get_915e3 hR9.1 hR9.2.1 rfl rfl hl.1 rfl (Nat.le_of_ble_eq_true rfl) dX6_come_5 ⟨by decide, by decide⟩ ⟨rmc (by omega), rms (by omega)⟩ (fun r L1 F2 H3 l4 hp hW => ?_)
  obtain ⟨rfl, rfl, rfl⟩ := hp
  have hbz5 : z5 < 4 := Nat.lt_of_lt_of_le (gtr_ok hz).1 (by decide)
  obtain ⟨ar0, hL0, -⟩ := hI.list hbz5
  obtain ⟨m_h0, md0, e_h0⟩ := hL0.obj
  refine va_castS S.1 S.2.1 S.2.2.2.1 (S.2.2.2.2 _ wd_1070) (hK.1 4 _ rfl).2 (pk_recv (r := (RJx4a65c, TJx4a65c, 3)) hK hW m_h0 e_h0 rfl) dX6_come_8 ?_
  refine lv_iload_n S.1 S.2.1 dX6_come_11 rfl (lv_at hl 2 rfl) ?_
  refine lv_iload_n S.1 S.2.1 dX6_come_12 rfl (lv_at hl 3 rfl) ?_
  refine pk_cSR (As := [.int x3]) (rest := [.int x2, .ref (B (3 + z5))]) S hK hST hW (c_J6_valueOf_2dffe (v := x3)) mc_J6_valueOf_2dffe wd_1233 wd_1234 np_J6_valueOf_2dffe rfl hl.1 rfl (Nat.le_of_ble_eq_true rfl) dX6_come_13 ⟨by decide, by decide⟩ ⟨rmc (by omega), rms (by omega)⟩ (fun y10 L6 F7 H8 l9 hp hW => ?_)
  obtain ⟨hs9, hby10, hf9⟩ := hp
  have hI := hI.keep0 hs9 hf9 (noE hW hST)
  have hF9 : FrM L F L6 F7 := ⟨hs9, fun x hx _ => hf9 x hx⟩
  have hFr := hFr.tr hF9
  obtain ⟨ar9, hL9, hup9⟩ := hI.list hbz5
  obtain ⟨m_h9, md9, e_h9⟩ := hL9.obj
  obtain ⟨z15, hz, hf⟩ := ob hf
  refine pk_cVV (As := [.int x2, .ref y10]) (rest := []) S hK hST hW (c_mins hL9 hz hby10) mc_Jx4a65c_add_7a177 wd_1250 wd_1251 wd_1252 rfl np_Jx4a65c_add_7a177 m_h9 e_h9 rfl rfl hl.1 rfl (Nat.le_of_ble_eq_true rfl) dX6_come_16 ⟨by decide, by decide⟩ ⟨rmc (by omega), rms (by omega)⟩ (fun L11 F12 H13 l14 hp hW => ?_)
  obtain ⟨ar8, hL8, hN8⟩ := hp
  obtain ⟨hI, hF9⟩ := hup9 _ _ _ _ hL8 hN8 (noE hW hST)
  have hFr := hFr.tr hF9
  obtain ⟨t16, et16, hf⟩ := nm_ok hf
  have hI := eqm (P := fun w => MI κ ζ B w L11 F12) hI et16.symm
  refine lv_aload_n S.1 S.2.1 dX6_come_19 rfl (lv_at hl 0 rfl) ?_
  refine lv_iload_n S.1 S.2.1 dX6_come_20 rfl (lv_at hl 1 rfl) ?_
  refine lv_iconst (v := (-1)) S.1 S.2.1 dX6_come_21 (by decide) ?_
  obtain ⟨z21, hz, hf⟩ := ob hf
  refine pk_cVV (As := [.int x1, .int ((-1))]) (rest := []) S hK hST hW (c_X6_changed hI x1 ((-1)) hz) mc_X6_changed wd_1272 wd_1274 wd_1708 rfl np_X6_changed (hI.mem (by decide)) hI.this rfl rfl hl.1 rfl (Nat.le_of_ble_eq_true rfl) dX6_come_22 ⟨by decide, by decide⟩ ⟨rmc (by omega), rms (by omega)⟩ (fun L17 F18 H19 l20 hp hW => ?_)
  obtain ⟨hI, hF9⟩ := hp
  have hFr := hFr.tr hF9
  exact pk_vret S hr hlk hW ⟨eqm (P := fun z => MI κ ζ B z L17 F18) hI (Option.some.inj hf), hFr⟩ (by omega) (by omega) dX6_come_25
def f_X6_go (τ : MS) (x1 : Int32) (x2 : Int32) : Option (Int32 × MS) := (gtr x1).bind fun z5 => (ldel (τ.1 z5) x2).bind fun z10 => nm ((va_up τ.1 z5 z10, τ.2) : MS) fun t12 => nm (((τ.1 z5).getD x2.toNatClampNeg 0) : Int32) fun y17 => (f_X6_changed t12 x1 ((-1))).bind fun z22 => some (y17, z22)
theorem mc_X6_go : MCode yX6_go cX6_go 4 (some .int) := ⟨wd_1332, wd_5, by decide, by decide⟩
theorem np_X6_go : (parseMethodDescriptor yX6_go.desc).map (fun d => d.parameters.length) = some 2 := by decide +kernel
set_option maxHeartbeats 4000000 in
set_option maxRecDepth 100000 in
theorem c_X6_go {l : Launch} {D : va_G} {κ : Nat → ClassId} {ζ : Nat → Nat} {L : List Nat} {F : Nat → va_E} {τ : MS} {B : Nat → Nat} (hI : MI κ ζ B τ L F) (x1 : Int32) (x2 : Int32) {res : (Int32 × MS)} (hf : f_X6_go τ x1 x2 = some res) : MtI l D cls (ty5 κ) ζ yX6_go cX6_go 4 (some .int) 5 0 0 ([.ref (B 0), .int x1, .int x2] : List Value) L F (fun r L' F' => res.1 = r ∧ MI κ ζ B res.2 L' F' ∧ FrM L F L' F') := by
  refine MtI.of (by decide) (Nat.le_of_ble_eq_true rfl) ?_
  intro p e s m below meth c S hr hlk _ hK hW hST ls hl
  have hl : lv_has ls 4 [(0, .ref (B 0)), (1, .int x1), (2, .int x2)] := hl
  have hFr : FrM L F L F := FrM.rf
  unfold f_X6_go at hf
  refine lv_aload_n S.1 S.2.1 dX6_go_0 rfl (lv_at hl 0 rfl) ?_
  refine pk_get S hK hW 1 (hI.mem (by decide)) hI.this rfl hinX6 (by decide) wd_1156 rfl dX6_go_1 ?_
  refine lv_iload_n S.1 S.2.1 dX6_go_4 rfl (lv_at hl 1 rfl) ?_
  obtain ⟨z5, hz, hf⟩ := ob hf
  obtain ⟨md9, f9, hR9, -, -⟩ := hI.tracks
  refine pk_cVR (As := [.int x1]) (rest := []) S hK hST hW (c_tracks hI hz) mc_Jx4a65c_get_915e3 wd_1203 wd_1204 wd_1205 rfl np_Jx4a65c_get_915e3 hR9.1 hR9.2.1 rfl rfl hl.1 rfl (Nat.le_of_ble_eq_true rfl) dX6_go_5 ⟨by decide, by decide⟩ ⟨rmc (by omega), rms (by omega)⟩ (fun r L1 F2 H3 l4 hp hW => ?_)
  obtain ⟨rfl, rfl, rfl⟩ := hp
  have hbz5 : z5 < 4 := Nat.lt_of_lt_of_le (gtr_ok hz).1 (by decide)
  obtain ⟨ar0, hL0, -⟩ := hI.list hbz5
  obtain ⟨m_h0, md0, e_h0⟩ := hL0.obj
  refine va_castS S.1 S.2.1 S.2.2.2.1 (S.2.2.2.2 _ wd_1070) (hK.1 4 _ rfl).2 (pk_recv (r := (RJx4a65c, TJx4a65c, 3)) hK hW m_h0 e_h0 rfl) dX6_go_8 ?_
  refine lv_iload_n S.1 S.2.1 dX6_go_11 rfl (lv_at hl 2 rfl) ?_
  obtain ⟨ar9, hL9, hup9⟩ := hI.list hbz5
  obtain ⟨m_h9, md9, e_h9⟩ := hL9.obj
  obtain ⟨z10, hz, hf⟩ := ob hf
  refine pk_cVR (As := [.int x2]) (rest := []) S hK hST hW (c_mdel hL9 hz) mc_Jx4a65c_remove_915e3 wd_1280 wd_1281 wd_1282 rfl np_Jx4a65c_remove_915e3 m_h9 e_h9 rfl rfl hl.1 rfl (Nat.le_of_ble_eq_true rfl) dX6_go_12 ⟨by decide, by decide⟩ ⟨rmc (by omega), rms (by omega)⟩ (fun y11 L6 F7 H8 l9 hp hW => ?_)
  obtain ⟨hby11, hL8, hN8⟩ := hp
  obtain ⟨hI, hF9⟩ := hup9 _ _ _ _ hL8 hN8 (noE hW hST)
  have hFr := hFr.tr hF9
  obtain ⟨t12, et12, hf⟩ := nm_ok hf
  have hI := eqm (P := fun w => MI κ ζ B w L6 F7) hI et12.symm
  refine va_castS S.1 S.2.1 S.2.2.2.1 (S.2.2.2.2 _ wd_1303) (hK.1 2 _ rfl).2 (bx_cell hK hW hST hby11) dX6_go_15 ?_
  refine pk_cVIr (As := []) (rest := []) S hK hST hW (c_J6_intValue_8abf5 hby11) mc_J6_intValue_8abf5 wd_1304 wd_1305 wd_1306 rfl np_J6_intValue_8abf5 (bx_cell hK hW hST hby11) rfl hl.1 rfl (Nat.le_of_ble_eq_true rfl) dX6_go_18 ⟨by decide, by decide⟩ ⟨rmc (by omega), rms (by omega)⟩ (fun r L13 F14 H15 l16 hp hW => ?_)
  obtain ⟨rfl, rfl, rfl⟩ := hp
  refine lv_topi (fun y17 ey17 => ?_)
  have hf := nm_at hf ey17
  refine lv_istore_n (lv' := [(3, .int y17), (0, .ref (B 0)), (1, .int x1), (2, .int x2)]) S.1 S.2.1 dX6_go_21 rfl hl (by decide) rfl (fun ls hl => ?_)
  refine lv_aload_n S.1 S.2.1 dX6_go_22 rfl (lv_at hl 1 rfl) ?_
  refine lv_iload_n S.1 S.2.1 dX6_go_23 rfl (lv_at hl 2 rfl) ?_
  refine lv_iconst (v := (-1)) S.1 S.2.1 dX6_go_24 (by decide) ?_
  obtain ⟨z22, hz, hf⟩ := ob hf
  refine pk_cVV (As := [.int x1, .int ((-1))]) (rest := []) S hK hST hW (c_X6_changed hI x1 ((-1)) hz) mc_X6_changed wd_1272 wd_1274 wd_1708 rfl np_X6_changed (hI.mem (by decide)) hI.this rfl rfl hl.1 rfl (Nat.le_of_ble_eq_true rfl) dX6_go_25 ⟨by decide, by decide⟩ ⟨rmc (by omega), rms (by omega)⟩ (fun L18 F19 H20 l21 hp hW => ?_)
  obtain ⟨hI, hF9⟩ := hp
  have hFr := hFr.tr hF9
  refine lv_iload_n S.1 S.2.1 dX6_go_28 rfl (lv_at hl 0 rfl) ?_
  exact pk_iret S hr hlk hW (eqm (P := fun z => z.1 = y17 ∧ MI κ ζ B z.2 L18 F19 ∧ FrM L F L18 F19) ⟨rfl, hI, hFr⟩ (Option.some.inj hf)) (by omega) (by omega) dX6_go_29
def f_X6_tear (τ : MS) : Option MS := nm ((va_up τ.1 2 [], τ.2) : MS) fun t6 => some t6
theorem mc_X6_tear : MCode yX6_tear cX6_tear 1 none := ⟨wd_1376, wd_5, by decide, by decide⟩
theorem np_X6_tear : (parseMethodDescriptor yX6_tear.desc).map (fun d => d.parameters.length) = some 0 := by decide +kernel
set_option maxHeartbeats 4000000 in
set_option maxRecDepth 100000 in
theorem c_X6_tear {l : Launch} {D : va_G} {κ : Nat → ClassId} {ζ : Nat → Nat} {L : List Nat} {F : Nat → va_E} {τ : MS} {B : Nat → Nat} (hI : MI κ ζ B τ L F)  {res : MS} (hf : f_X6_tear τ = some res) : MtV l D cls (ty5 κ) ζ yX6_tear cX6_tear 1 none 2 0 0 ([.ref (B 0)] : List Value) L F (fun L' F' => MI κ ζ B res L' F' ∧ FrM L F L' F') := by
  refine MtV.of (by decide) (Nat.le_of_ble_eq_true rfl) ?_
  intro p e s m below meth c S hr hlk _ hK hW hST ls hl
  have hl : lv_has ls 1 [(0, .ref (B 0))] := hl
  have hFr : FrM L F L F := FrM.rf
  unfold f_X6_tear at hf
  refine lv_aload_n S.1 S.2.1 dX6_tear_0 rfl (lv_at hl 0 rfl) ?_
  refine pk_get S hK hW 2 (hI.mem (by decide)) hI.this rfl hinX6 (by decide) wd_1157 rfl dX6_tear_1 ?_
  obtain ⟨ar9, hL9, hup9⟩ := hI.list (by decide : 2 < 4)
  obtain ⟨m_h9, md9, e_h9⟩ := hL9.obj
  refine pk_cVV (As := []) (rest := []) S hK hST hW (c_lclear hL9) mc_Jx4a65c_clear_da8c8 wd_1377 wd_1378 wd_1379 rfl np_Jx4a65c_clear_da8c8 m_h9 e_h9 rfl rfl hl.1 rfl (Nat.le_of_ble_eq_true rfl) dX6_tear_4 ⟨by decide, by decide⟩ ⟨rmc (by omega), rms (by omega)⟩ (fun L1 F2 H3 l4 hp hW => ?_)
  obtain ⟨hL8, hN8⟩ := hp
  obtain ⟨hI, hF9⟩ := hup9 _ _ _ _ hL8 hN8 (noE hW hST)
  have hFr := hFr.tr hF9
  obtain ⟨t6, et6, hf⟩ := nm_ok hf
  have hI := eqm (P := fun w => MI κ ζ B w L1 F2) hI et6.symm
  exact pk_vret S hr hlk hW ⟨eqm (P := fun z => MI κ ζ B z L1 F2) hI (Option.some.inj hf), hFr⟩ (by omega) (by omega) dX6_tear_7
def f_X6_slip_21   (w21 : MS) (v1 : Int32) (v2 : Int32) (v3 : Int32) (v4 : Int32) : Option MS := (f_X6_one v2).bind fun z5 => (f_X6_one v3).bind fun z10 => (ladd (w21.1 2) ((1000 * (((4 * v1) + (2 * z5)) + z10)) + v4)).bind fun z20 => nm ((va_up w21.1 2 z20, w21.2) : MS) fun t22 => some t22
def f_X6_slip (τ : MS) (x1 : Int32) (x2 : Int32) (x3 : Int32) (x4 : Int32) : Option MS := (if (nI (τ.1 2).length) = 12 then (ldel (τ.1 2) 0).bind fun z32 => nm ((va_up τ.1 2 z32, τ.2) : MS) fun t34 => f_X6_slip_21 t34 x1 x2 x3 x4 else f_X6_slip_21 (τ) x1 x2 x3 x4)
theorem mc_X6_slip : MCode yX6_slip cX6_slip 5 none := ⟨wd_1279, wd_5, by decide, by decide⟩
theorem np_X6_slip : (parseMethodDescriptor yX6_slip.desc).map (fun d => d.parameters.length) = some 4 := by decide +kernel
set_option maxHeartbeats 4000000 in
set_option maxRecDepth 100000 in
theorem c_X6_slip {l : Launch} {D : va_G} {κ : Nat → ClassId} {ζ : Nat → Nat} {L : List Nat} {F : Nat → va_E} {τ : MS} {B : Nat → Nat} (hI : MI κ ζ B τ L F) (x1 : Int32) (x2 : Int32) (x3 : Int32) (x4 : Int32) {res : MS} (hf : f_X6_slip τ x1 x2 x3 x4 = some res) : MtV l D cls (ty5 κ) ζ yX6_slip cX6_slip 5 none 8 2 66 ([.ref (B 0), .int x1, .int x2, .int x3, .int x4] : List Value) L F (fun L' F' => MI κ ζ B res L' F' ∧ FrM L F L' F') := by
  refine MtV.of (by decide) (Nat.le_of_ble_eq_true rfl) ?_
  intro p e s m below meth c S hr hlk _ hK hW hST ls hl
  have hl : lv_has ls 5 [(0, .ref (B 0)), (1, .int x1), (2, .int x2), (3, .int x3), (4, .int x4)] := hl
  have hFr : FrM L F L F := FrM.rf
  have B21 : ∀  (w21 : MS) (v1 : Int32) (v2 : Int32) (v3 : Int32) (v4 : Int32), f_X6_slip_21 w21 v1 v2 v3 v4 = some res → ∀ (K21 : List Nat) (G21 : Nat → va_E), MI κ ζ B w21 K21 G21 → FrM L F K21 G21 → ∀ (H21 : Heap) (l21 : List Loc) (ls : Array Slot) (cc ss : Nat), HW D cls L s H21 l21 K21 G21 → cc + (2) ≤ 2 → ss ≤ 33 * cc → lv_has ls 5 [(0, .ref (B 0)), (1, .int v1), (2, .int v2), (3, .int v3), (4, .int v4)] → W p l e (Rm 8 2 66) s m ([.ref (B 0), .int x1, .int x2, .int x3, .int x4] : List Value).toArray below meth c H21 l21 cc ss (EnV D cls s below ([.ref (B 0), .int x1, .int x2, .int x3, .int x4] : List Value).toArray 2 66 L (fun L' F' => MI κ ζ B res L' F' ∧ FrM L F L' F')) (F0 m 21 ls []) := by
    intro  w21 v1 v2 v3 v4 hf K21 G21 hI hFr H21 l21 ls cc ss hW hcc hss hl
    unfold f_X6_slip_21 at hf
    refine lv_aload_n S.1 S.2.1 dX6_slip_21 rfl (lv_at hl 0 rfl) ?_
    refine pk_get S hK hW 2 (hI.mem (by decide)) hI.this rfl hinX6 (by decide) wd_1157 rfl dX6_slip_22 ?_
    refine lv_sipush (v := 1000) S.1 S.2.1 dX6_slip_25 (by decide) ?_
    refine lv_iconst (v := 4) S.1 S.2.1 dX6_slip_28 (by decide) ?_
    refine lv_iload_n S.1 S.2.1 dX6_slip_29 rfl (lv_at hl 1 rfl) ?_
    refine lv_imul S.1 S.2.1 dX6_slip_30 ?_
    refine lv_iconst (v := 2) S.1 S.2.1 dX6_slip_31 (by decide) ?_
    refine lv_iload_n S.1 S.2.1 dX6_slip_32 rfl (lv_at hl 2 rfl) ?_
    obtain ⟨z5, hz, hf⟩ := ob hf
    refine pk_cSI (As := [.int v2]) (rest := [.int 2, .int (4 * v1), .int 1000, .ref (B (3 + 2))]) S hK hST hW (c_X6_one  v2 hz) mc_X6_one wd_1288 wd_1289 np_X6_one rfl hl.1 rfl (Nat.le_of_ble_eq_true rfl) dX6_slip_33 ⟨by decide, by decide⟩ ⟨rmc (by omega), rms (by omega)⟩ (fun r L1 F2 H3 l4 hp hW => ?_)
    obtain ⟨rfl, rfl, rfl⟩ := hp
    refine lv_imul S.1 S.2.1 dX6_slip_36 ?_
    refine lv_iadd S.1 S.2.1 dX6_slip_37 ?_
    refine lv_iload_n S.1 S.2.1 dX6_slip_38 rfl (lv_at hl 3 rfl) ?_
    obtain ⟨z10, hz, hf⟩ := ob hf
    refine pk_cSI (As := [.int v3]) (rest := [.int ((4 * v1) + (2 * z5)), .int 1000, .ref (B (3 + 2))]) S hK hST hW (c_X6_one  v3 hz) mc_X6_one wd_1288 wd_1289 np_X6_one rfl hl.1 rfl (Nat.le_of_ble_eq_true rfl) dX6_slip_39 ⟨by decide, by decide⟩ ⟨rmc (by omega), rms (by omega)⟩ (fun r L6 F7 H8 l9 hp hW => ?_)
    obtain ⟨rfl, rfl, rfl⟩ := hp
    refine lv_iadd S.1 S.2.1 dX6_slip_42 ?_
    refine lv_imul S.1 S.2.1 dX6_slip_43 ?_
    refine lv_iload S.1 S.2.1 dX6_slip_44 (lv_at hl 4 rfl) ?_
    refine lv_iadd S.1 S.2.1 dX6_slip_46 ?_
    refine pk_cSR (As := [.int ((1000 * (((4 * v1) + (2 * z5)) + z10)) + v4)]) (rest := [.ref (B (3 + 2))]) S hK hST hW (c_J6_valueOf_2dffe (v := (1000 * (((4 * v1) + (2 * z5)) + z10)) + v4)) mc_J6_valueOf_2dffe wd_1233 wd_1234 np_J6_valueOf_2dffe rfl hl.1 rfl (Nat.le_of_ble_eq_true rfl) dX6_slip_47 ⟨by decide, by decide⟩ ⟨rmc (by omega), rms (by omega)⟩ (fun y15 L11 F12 H13 l14 hp hW => ?_)
    obtain ⟨hs9, hby15, hf9⟩ := hp
    have hI := hI.keep0 hs9 hf9 (noE hW hST)
    have hF9 : FrM K21 G21 L11 F12 := ⟨hs9, fun x hx _ => hf9 x hx⟩
    have hFr := hFr.tr hF9
    obtain ⟨ar9, hL9, hup9⟩ := hI.list (by decide : 2 < 4)
    obtain ⟨m_h9, md9, e_h9⟩ := hL9.obj
    obtain ⟨z20, hz, hf⟩ := ob hf
    refine pk_cVI (As := [.ref y15]) (rest := []) S hK hST hW (c_madd hL9 hz hby15) mc_Jx4a65c_add_9ea2d wd_1108 wd_1109 wd_1110 rfl np_Jx4a65c_add_9ea2d m_h9 e_h9 rfl rfl hl.1 rfl (Nat.le_of_ble_eq_true rfl) dX6_slip_50 ⟨by decide, by decide⟩ ⟨rmc (by omega), rms (by omega)⟩ (fun y21 L16 F17 H18 l19 hp hW => ?_)
    obtain ⟨ar8, hL8, hN8⟩ := hp
    obtain ⟨hI, hF9⟩ := hup9 _ _ _ _ hL8 hN8 (noE hW hST)
    have hFr := hFr.tr hF9
    obtain ⟨t22, et22, hf⟩ := nm_ok hf
    have hI := eqm (P := fun w => MI κ ζ B w L16 F17) hI et22.symm
    refine lv_pop S.1 S.2.1 dX6_slip_53 rfl ?_
    exact pk_vret S hr hlk hW ⟨eqm (P := fun z => MI κ ζ B z L16 F17) hI (Option.some.inj hf), hFr⟩ (by omega) (by omega) dX6_slip_54
  unfold f_X6_slip at hf
  refine lv_aload_n S.1 S.2.1 dX6_slip_0 rfl (lv_at hl 0 rfl) ?_
  refine pk_get S hK hW 2 (hI.mem (by decide)) hI.this rfl hinX6 (by decide) wd_1157 rfl dX6_slip_1 ?_
  obtain ⟨ar9, hL9, hup9⟩ := hI.list (by decide : 2 < 4)
  obtain ⟨m_h9, md9, e_h9⟩ := hL9.obj
  refine pk_cVI (As := []) (rest := []) S hK hST hW (c_lsize hL9) mc_Jx4a65c_size_8abf5 wd_1215 wd_1216 wd_1217 rfl np_Jx4a65c_size_8abf5 m_h9 e_h9 rfl rfl hl.1 rfl (Nat.le_of_ble_eq_true rfl) dX6_slip_4 ⟨by decide, by decide⟩ ⟨rmc (by omega), rms (by omega)⟩ (fun r L23 F24 H25 l26 hp hW => ?_)
  obtain ⟨rfl, rfl, rfl⟩ := hp
  refine lv_bipush (v := 12) S.1 S.2.1 dX6_slip_7 (by decide) ?_
  refine lv_icmp_ne (tgt := 21) S.1 S.2.1 dX6_slip_9 (by decide) (fun c27 => ?_) (fun c27 => ?_)
  · have hf := (if_neg c27).symm.trans hf
    exact B21  (τ) x1 x2 x3 x4 hf L F hI hFr _ _ _ _ _ hW (by omega) (by omega) (lv_sub hl [0, 1, 2, 3, 4] rfl)
  · have hf := (if_pos c27).symm.trans hf
    refine lv_aload_n S.1 S.2.1 dX6_slip_12 rfl (lv_at hl 0 rfl) ?_
    refine pk_get S hK hW 2 (hI.mem (by decide)) hI.this rfl hinX6 (by decide) wd_1157 rfl dX6_slip_13 ?_
    refine lv_iconst (v := 0) S.1 S.2.1 dX6_slip_16 (by decide) ?_
    obtain ⟨ar9, hL9, hup9⟩ := hI.list (by decide : 2 < 4)
    obtain ⟨m_h9, md9, e_h9⟩ := hL9.obj
    obtain ⟨z32, hz, hf⟩ := ob hf
    refine pk_cVR (As := [.int 0]) (rest := []) S hK hST hW (c_mdel hL9 hz) mc_Jx4a65c_remove_915e3 wd_1280 wd_1281 wd_1282 rfl np_Jx4a65c_remove_915e3 m_h9 e_h9 rfl rfl hl.1 rfl (Nat.le_of_ble_eq_true rfl) dX6_slip_17 ⟨by decide, by decide⟩ ⟨rmc (by omega), rms (by omega)⟩ (fun y33 L28 F29 H30 l31 hp hW => ?_)
    obtain ⟨hby33, hL8, hN8⟩ := hp
    obtain ⟨hI, hF9⟩ := hup9 _ _ _ _ hL8 hN8 (noE hW hST)
    have hFr := hFr.tr hF9
    obtain ⟨t34, et34, hf⟩ := nm_ok hf
    have hI := eqm (P := fun w => MI κ ζ B w L28 F29) hI et34.symm
    refine lv_pop S.1 S.2.1 dX6_slip_20 rfl ?_
    exact B21  t34 x1 x2 x3 x4 hf L28 F29 hI hFr _ _ _ _ _ hW (by omega) (by omega) (lv_sub hl [0, 1, 2, 3, 4] rfl)
def f_X6_stepIn_15 (τ : MS)  (v1 : Int32) (v2 : Int32) (v3 : Int32) (u1 : Int32) (u2 : Int32) : Option MS := (f_X6_come τ u1 u2 v3).bind fun z5 => (f_X6_slip z5 v1 v2 1 v3).bind fun z10 => some z10
def f_X6_stepIn (τ : MS) (x1 : Int32) (x2 : Int32) (x3 : Int32) : Option MS := (if x2 = 0 then f_X6_stepIn_15 τ x1 x2 x3 x1 0 else (f_X6_size τ x1).bind fun z16 => f_X6_stepIn_15 τ x1 x2 x3 x1 z16)
theorem mc_X6_stepIn : MCode yX6_stepIn cX6_stepIn 4 none := ⟨wd_1228, wd_5, by decide, by decide⟩
theorem np_X6_stepIn : (parseMethodDescriptor yX6_stepIn.desc).map (fun d => d.parameters.length) = some 3 := by decide +kernel
set_option maxHeartbeats 4000000 in
set_option maxRecDepth 100000 in
theorem c_X6_stepIn {l : Launch} {D : va_G} {κ : Nat → ClassId} {ζ : Nat → Nat} {L : List Nat} {F : Nat → va_E} {τ : MS} {B : Nat → Nat} (hI : MI κ ζ B τ L F) (x1 : Int32) (x2 : Int32) (x3 : Int32) {res : MS} (hf : f_X6_stepIn τ x1 x2 x3 = some res) : MtV l D cls (ty5 κ) ζ yX6_stepIn cX6_stepIn 4 none 9 4 132 ([.ref (B 0), .int x1, .int x2, .int x3] : List Value) L F (fun L' F' => MI κ ζ B res L' F' ∧ FrM L F L' F') := by
  refine MtV.of (by decide) (Nat.le_of_ble_eq_true rfl) ?_
  intro p e s m below meth c S hr hlk _ hK hW hST ls hl
  have hl : lv_has ls 4 [(0, .ref (B 0)), (1, .int x1), (2, .int x2), (3, .int x3)] := hl
  have hFr : FrM L F L F := FrM.rf
  have B15 : ∀  (v1 : Int32) (v2 : Int32) (v3 : Int32) (u1 : Int32) (u2 : Int32), f_X6_stepIn_15 τ v1 v2 v3 u1 u2 = some res → ∀ (H15 : Heap) (l15 : List Loc) (ls : Array Slot) (cc ss : Nat), HW D cls L s H15 l15 L F → cc + (4) ≤ 4 → ss ≤ 33 * cc → lv_has ls 4 [(0, .ref (B 0)), (1, .int v1), (2, .int v2), (3, .int v3)] → W p l e (Rm 9 4 132) s m ([.ref (B 0), .int x1, .int x2, .int x3] : List Value).toArray below meth c H15 l15 cc ss (EnV D cls s below ([.ref (B 0), .int x1, .int x2, .int x3] : List Value).toArray 4 132 L (fun L' F' => MI κ ζ B res L' F' ∧ FrM L F L' F')) (F0 m 15 ls [.int u2, .int u1, .ref (B 0)]) := by
    intro  v1 v2 v3 u1 u2 hf H15 l15 ls cc ss hW hcc hss hl
    unfold f_X6_stepIn_15 at hf
    refine lv_iload_n S.1 S.2.1 dX6_stepIn_15 rfl (lv_at hl 3 rfl) ?_
    obtain ⟨z5, hz, hf⟩ := ob hf
    refine pk_cVV (As := [.int u1, .int u2, .int v3]) (rest := []) S hK hST hW (c_X6_come hI u1 u2 v3 hz) mc_X6_come wd_1229 wd_1231 wd_1705 rfl np_X6_come (hI.mem (by decide)) hI.this rfl rfl hl.1 rfl (Nat.le_of_ble_eq_true rfl) dX6_stepIn_16 ⟨by decide, by decide⟩ ⟨rmc (by omega), rms (by omega)⟩ (fun L1 F2 H3 l4 hp hW => ?_)
    obtain ⟨hI, hF9⟩ := hp
    have hFr := hFr.tr hF9
    refine lv_aload_n S.1 S.2.1 dX6_stepIn_19 rfl (lv_at hl 0 rfl) ?_
    refine lv_iload_n S.1 S.2.1 dX6_stepIn_20 rfl (lv_at hl 1 rfl) ?_
    refine lv_iload_n S.1 S.2.1 dX6_stepIn_21 rfl (lv_at hl 2 rfl) ?_
    refine lv_iconst (v := 1) S.1 S.2.1 dX6_stepIn_22 (by decide) ?_
    refine lv_iload_n S.1 S.2.1 dX6_stepIn_23 rfl (lv_at hl 3 rfl) ?_
    obtain ⟨z10, hz, hf⟩ := ob hf
    refine pk_cVV (As := [.int v1, .int v2, .int 1, .int v3]) (rest := []) S hK hST hW (c_X6_slip hI v1 v2 1 v3 hz) mc_X6_slip wd_1276 wd_1278 wd_1709 rfl np_X6_slip (hI.mem (by decide)) hI.this rfl rfl hl.1 rfl (Nat.le_of_ble_eq_true rfl) dX6_stepIn_24 ⟨by decide, by decide⟩ ⟨rmc (by omega), rms (by omega)⟩ (fun L6 F7 H8 l9 hp hW => ?_)
    obtain ⟨hI, hF9⟩ := hp
    have hFr := hFr.tr hF9
    exact pk_vret S hr hlk hW ⟨eqm (P := fun z => MI κ ζ B z L6 F7) hI (Option.some.inj hf), hFr⟩ (by omega) (by omega) dX6_stepIn_27
  unfold f_X6_stepIn at hf
  refine lv_aload_n S.1 S.2.1 dX6_stepIn_0 rfl (lv_at hl 0 rfl) ?_
  refine lv_iload_n S.1 S.2.1 dX6_stepIn_1 rfl (lv_at hl 1 rfl) ?_
  refine lv_iload_n S.1 S.2.1 dX6_stepIn_2 rfl (lv_at hl 2 rfl) ?_
  refine lv_if_eq (tgt := 14) S.1 S.2.1 dX6_stepIn_3 (by decide) (fun c11 => ?_) (fun c11 => ?_)
  · have hf := (if_pos c11).symm.trans hf
    refine lv_iconst (v := 0) S.1 S.2.1 dX6_stepIn_14 (by decide) ?_
    exact B15  x1 x2 x3 x1 0 hf  _ _ _ _ _ hW (by omega) (by omega) (lv_sub hl [0, 1, 2, 3] rfl)
  · have hf := (if_neg c11).symm.trans hf
    refine lv_aload_n S.1 S.2.1 dX6_stepIn_6 rfl (lv_at hl 0 rfl) ?_
    refine lv_iload_n S.1 S.2.1 dX6_stepIn_7 rfl (lv_at hl 1 rfl) ?_
    obtain ⟨z16, hz, hf⟩ := ob hf
    refine pk_cVI (As := [.int x1]) (rest := [.int x1, .ref (B 0)]) S hK hST hW (c_X6_size hI x1 hz) mc_X6_size wd_1199 wd_1201 wd_1703 rfl np_X6_size (hI.mem (by decide)) hI.this rfl rfl hl.1 rfl (Nat.le_of_ble_eq_true rfl) dX6_stepIn_8 ⟨by decide, by decide⟩ ⟨rmc (by omega), rms (by omega)⟩ (fun r L12 F13 H14 l15 hp hW => ?_)
    obtain ⟨rfl, rfl, rfl⟩ := hp
    refine lv_goto (tgt := 15) S.1 S.2.1 dX6_stepIn_11 (by decide) ?_
    exact B15  x1 x2 x3 x1 z16 hf  _ _ _ _ _ hW (by omega) (by omega) (lv_sub hl [0, 1, 2, 3] rfl)
def f_X6_stepOut_17 (τ : MS)  (v1 : Int32) (v2 : Int32) (u1 : Int32) (u2 : Int32) : Option (Int32 × MS) := (f_X6_go τ u1 u2).bind fun z5 => (f_X6_slip z5.2 v1 v2 0 z5.1).bind fun z10 => some (z5.1, z10)
def f_X6_stepOut (τ : MS) (x1 : Int32) (x2 : Int32) : Option (Int32 × MS) := (if x2 = 0 then f_X6_stepOut_17 τ x1 x2 x1 0 else (f_X6_size τ x1).bind fun z16 => f_X6_stepOut_17 τ x1 x2 x1 (z16 - 1))
theorem mc_X6_stepOut : MCode yX6_stepOut cX6_stepOut 4 (some .int) := ⟨wd_1328, wd_5, by decide, by decide⟩
theorem np_X6_stepOut : (parseMethodDescriptor yX6_stepOut.desc).map (fun d => d.parameters.length) = some 2 := by decide +kernel
set_option maxHeartbeats 4000000 in
set_option maxRecDepth 100000 in
theorem c_X6_stepOut {l : Launch} {D : va_G} {κ : Nat → ClassId} {ζ : Nat → Nat} {L : List Nat} {F : Nat → va_E} {τ : MS} {B : Nat → Nat} (hI : MI κ ζ B τ L F) (x1 : Int32) (x2 : Int32) {res : (Int32 × MS)} (hf : f_X6_stepOut τ x1 x2 = some res) : MtI l D cls (ty5 κ) ζ yX6_stepOut cX6_stepOut 4 (some .int) 9 2 66 ([.ref (B 0), .int x1, .int x2] : List Value) L F (fun r L' F' => res.1 = r ∧ MI κ ζ B res.2 L' F' ∧ FrM L F L' F') := by
  refine MtI.of (by decide) (Nat.le_of_ble_eq_true rfl) ?_
  intro p e s m below meth c S hr hlk _ hK hW hST ls hl
  have hl : lv_has ls 4 [(0, .ref (B 0)), (1, .int x1), (2, .int x2)] := hl
  have hFr : FrM L F L F := FrM.rf
  have B17 : ∀  (v1 : Int32) (v2 : Int32) (u1 : Int32) (u2 : Int32), f_X6_stepOut_17 τ v1 v2 u1 u2 = some res → ∀ (H17 : Heap) (l17 : List Loc) (ls : Array Slot) (cc ss : Nat), HW D cls L s H17 l17 L F → cc + (2) ≤ 2 → ss ≤ 33 * cc → lv_has ls 4 [(0, .ref (B 0)), (1, .int v1), (2, .int v2)] → W p l e (Rm 9 2 66) s m ([.ref (B 0), .int x1, .int x2] : List Value).toArray below meth c H17 l17 cc ss (EnI D cls s below ([.ref (B 0), .int x1, .int x2] : List Value).toArray 2 66 L (fun r L' F' => res.1 = r ∧ MI κ ζ B res.2 L' F' ∧ FrM L F L' F')) (F0 m 17 ls [.int u2, .int u1, .ref (B 0)]) := by
    intro  v1 v2 u1 u2 hf H17 l17 ls cc ss hW hcc hss hl
    unfold f_X6_stepOut_17 at hf
    obtain ⟨z5, hz, hf⟩ := ob hf
    refine pk_cVI (As := [.int u1, .int u2]) (rest := []) S hK hST hW (c_X6_go hI u1 u2 hz) mc_X6_go wd_1329 wd_1331 wd_1714 rfl np_X6_go (hI.mem (by decide)) hI.this rfl rfl hl.1 rfl (Nat.le_of_ble_eq_true rfl) dX6_stepOut_17 ⟨by decide, by decide⟩ ⟨rmc (by omega), rms (by omega)⟩ (fun r L1 F2 H3 l4 hp hW => ?_)
    obtain ⟨rfl, hI, hF9⟩ := hp
    have hFr := hFr.tr hF9
    refine lv_istore_n (lv' := [(3, .int z5.1), (0, .ref (B 0)), (1, .int v1), (2, .int v2)]) S.1 S.2.1 dX6_stepOut_20 rfl hl (by decide) rfl (fun ls hl => ?_)
    refine lv_aload_n S.1 S.2.1 dX6_stepOut_21 rfl (lv_at hl 1 rfl) ?_
    refine lv_iload_n S.1 S.2.1 dX6_stepOut_22 rfl (lv_at hl 2 rfl) ?_
    refine lv_iload_n S.1 S.2.1 dX6_stepOut_23 rfl (lv_at hl 3 rfl) ?_
    refine lv_iconst (v := 0) S.1 S.2.1 dX6_stepOut_24 (by decide) ?_
    refine lv_iload_n S.1 S.2.1 dX6_stepOut_25 rfl (lv_at hl 0 rfl) ?_
    obtain ⟨z10, hz, hf⟩ := ob hf
    refine pk_cVV (As := [.int v1, .int v2, .int 0, .int z5.1]) (rest := []) S hK hST hW (c_X6_slip hI v1 v2 0 z5.1 hz) mc_X6_slip wd_1276 wd_1278 wd_1709 rfl np_X6_slip (hI.mem (by decide)) hI.this rfl rfl hl.1 rfl (Nat.le_of_ble_eq_true rfl) dX6_stepOut_26 ⟨by decide, by decide⟩ ⟨rmc (by omega), rms (by omega)⟩ (fun L6 F7 H8 l9 hp hW => ?_)
    obtain ⟨hI, hF9⟩ := hp
    have hFr := hFr.tr hF9
    refine lv_iload_n S.1 S.2.1 dX6_stepOut_29 rfl (lv_at hl 0 rfl) ?_
    exact pk_iret S hr hlk hW (eqm (P := fun z => z.1 = z5.1 ∧ MI κ ζ B z.2 L6 F7 ∧ FrM L F L6 F7) ⟨rfl, hI, hFr⟩ (Option.some.inj hf)) (by omega) (by omega) dX6_stepOut_30
  unfold f_X6_stepOut at hf
  refine lv_aload_n S.1 S.2.1 dX6_stepOut_0 rfl (lv_at hl 0 rfl) ?_
  refine lv_iload_n S.1 S.2.1 dX6_stepOut_1 rfl (lv_at hl 1 rfl) ?_
  refine lv_iload_n S.1 S.2.1 dX6_stepOut_2 rfl (lv_at hl 2 rfl) ?_
  refine lv_if_eq (tgt := 16) S.1 S.2.1 dX6_stepOut_3 (by decide) (fun c11 => ?_) (fun c11 => ?_)
  · have hf := (if_pos c11).symm.trans hf
    refine lv_iconst (v := 0) S.1 S.2.1 dX6_stepOut_16 (by decide) ?_
    exact B17  x1 x2 x1 0 hf  _ _ _ _ _ hW (by omega) (by omega) (lv_sub hl [0, 1, 2] rfl)
  · have hf := (if_neg c11).symm.trans hf
    refine lv_aload_n S.1 S.2.1 dX6_stepOut_6 rfl (lv_at hl 0 rfl) ?_
    refine lv_iload_n S.1 S.2.1 dX6_stepOut_7 rfl (lv_at hl 1 rfl) ?_
    obtain ⟨z16, hz, hf⟩ := ob hf
    refine pk_cVI (As := [.int x1]) (rest := [.int x1, .ref (B 0)]) S hK hST hW (c_X6_size hI x1 hz) mc_X6_size wd_1199 wd_1201 wd_1703 rfl np_X6_size (hI.mem (by decide)) hI.this rfl rfl hl.1 rfl (Nat.le_of_ble_eq_true rfl) dX6_stepOut_8 ⟨by decide, by decide⟩ ⟨rmc (by omega), rms (by omega)⟩ (fun r L12 F13 H14 l15 hp hW => ?_)
    obtain ⟨rfl, rfl, rfl⟩ := hp
    refine lv_iconst (v := 1) S.1 S.2.1 dX6_stepOut_11 (by decide) ?_
    refine lv_isub S.1 S.2.1 dX6_stepOut_12 ?_
    refine lv_goto (tgt := 17) S.1 S.2.1 dX6_stepOut_13 (by decide) ?_
    exact B17  x1 x2 x1 (z16 - 1) hf  _ _ _ _ _ hW (by omega) (by omega) (lv_sub hl [0, 1, 2] rfl)
def f_X6_mayNot_51   (w51 : MS) : Option (Int32 × MS) := some (1, w51)
def f_X6_mayNot_44   (w44 : MS) (u1 : Int32) : Option (Int32 × MS) := (f_X6_refuse w44 u1 3).bind fun z5 => (if z5.1 = 0 then some (0, z5.2) else f_X6_mayNot_51 z5.2)
def f_X6_mayNot (τ : MS) (x1 : Int32) (x2 : Int32) (x3 : Int32) (x4 : Int32) : Option (Int32 × MS) := (f_X6_isNoTrack x1).bind fun z11 => (f_X6_start τ z11 1).bind fun z16 => (if z16.1 = 0 then (f_X6_isNoPiece x2 x3).bind fun z22 => (f_X6_refuse z16.2 z22 2).bind fun z27 => (if z27.1 = 0 then (f_X6_size z27.2 x1).bind fun z33 => (if (z33 + x4) ≤ 20 then f_X6_mayNot_44 z27.2 0 else f_X6_mayNot_44 z27.2 1) else f_X6_mayNot_51 z27.2) else f_X6_mayNot_51 z16.2)
theorem mc_X6_mayNot : MCode yX6_mayNot cX6_mayNot 5 (some .boolean) := ⟨wd_1181, wd_5, by decide, by decide⟩
theorem np_X6_mayNot : (parseMethodDescriptor yX6_mayNot.desc).map (fun d => d.parameters.length) = some 4 := by decide +kernel
set_option maxHeartbeats 4000000 in
set_option maxRecDepth 100000 in
theorem c_X6_mayNot {l : Launch} {D : va_G} {κ : Nat → ClassId} {ζ : Nat → Nat} {L : List Nat} {F : Nat → va_E} {τ : MS} {B : Nat → Nat} (hI : MI κ ζ B τ L F) (x1 : Int32) (x2 : Int32) (x3 : Int32) (x4 : Int32) {res : (Int32 × MS)} (hf : f_X6_mayNot τ x1 x2 x3 x4 = some res) : MtI l D cls (ty5 κ) ζ yX6_mayNot cX6_mayNot 5 (some .boolean) 5 0 0 ([.ref (B 0), .int x1, .int x2, .int x3, .int x4] : List Value) L F (fun r L' F' => res.1 = r ∧ MI κ ζ B res.2 L' F' ∧ FrM L F L' F') := by
  refine MtI.of (by decide) (Nat.le_of_ble_eq_true rfl) ?_
  intro p e s m below meth c S hr hlk _ hK hW hST ls hl
  have hl : lv_has ls 5 [(0, .ref (B 0)), (1, .int x1), (2, .int x2), (3, .int x3), (4, .int x4)] := hl
  have hFr : FrM L F L F := FrM.rf
  have B51 : ∀  (w51 : MS), f_X6_mayNot_51 w51 = some res → ∀ (K51 : List Nat) (G51 : Nat → va_E), MI κ ζ B w51 K51 G51 → FrM L F K51 G51 → ∀ (H51 : Heap) (l51 : List Loc) (ls : Array Slot) (cc ss : Nat), HW D cls L s H51 l51 K51 G51 → cc + (0) ≤ 0 → ss ≤ 33 * cc → lv_has ls 5 [] → W p l e (Rm 5 0 0) s m ([.ref (B 0), .int x1, .int x2, .int x3, .int x4] : List Value).toArray below meth c H51 l51 cc ss (EnI D cls s below ([.ref (B 0), .int x1, .int x2, .int x3, .int x4] : List Value).toArray 0 0 L (fun r L' F' => res.1 = r ∧ MI κ ζ B res.2 L' F' ∧ FrM L F L' F')) (F0 m 51 ls []) := by
    intro  w51 hf K51 G51 hI hFr H51 l51 ls cc ss hW hcc hss hl
    unfold f_X6_mayNot_51 at hf
    refine lv_iconst (v := 1) S.1 S.2.1 dX6_mayNot_51 (by decide) ?_
    refine lv_goto (tgt := 56) S.1 S.2.1 dX6_mayNot_52 (by decide) ?_
    exact pk_zret S hr hlk hW (by decide) (eqm (P := fun z => z.1 = 1 ∧ MI κ ζ B z.2 K51 G51 ∧ FrM L F K51 G51) ⟨rfl, hI, hFr⟩ (Option.some.inj hf)) (by omega) (by omega) dX6_mayNot_56
  have B44 : ∀  (w44 : MS) (u1 : Int32), f_X6_mayNot_44 w44 u1 = some res → ∀ (K44 : List Nat) (G44 : Nat → va_E), MI κ ζ B w44 K44 G44 → FrM L F K44 G44 → ∀ (H44 : Heap) (l44 : List Loc) (ls : Array Slot) (cc ss : Nat), HW D cls L s H44 l44 K44 G44 → cc + (0) ≤ 0 → ss ≤ 33 * cc → lv_has ls 5 [] → W p l e (Rm 5 0 0) s m ([.ref (B 0), .int x1, .int x2, .int x3, .int x4] : List Value).toArray below meth c H44 l44 cc ss (EnI D cls s below ([.ref (B 0), .int x1, .int x2, .int x3, .int x4] : List Value).toArray 0 0 L (fun r L' F' => res.1 = r ∧ MI κ ζ B res.2 L' F' ∧ FrM L F L' F')) (F0 m 44 ls [.int u1, .ref (B 0)]) := by
    intro  w44 u1 hf K44 G44 hI hFr H44 l44 ls cc ss hW hcc hss hl
    unfold f_X6_mayNot_44 at hf
    refine lv_iconst (v := 3) S.1 S.2.1 dX6_mayNot_44 (by decide) ?_
    obtain ⟨z5, hz, hf⟩ := ob hf
    refine pk_cVI (As := [.int u1, .int 3]) (rest := []) S hK hST hW (c_X6_refuse hI u1 3 hz) mc_X6_refuse wd_1192 wd_1194 wd_1702 rfl np_X6_refuse (hI.mem (by decide)) hI.this rfl rfl hl.1 rfl (Nat.le_of_ble_eq_true rfl) dX6_mayNot_45 ⟨by decide, by decide⟩ ⟨rmc (by omega), rms (by omega)⟩ (fun r L1 F2 H3 l4 hp hW => ?_)
    obtain ⟨rfl, hI, hF9⟩ := hp
    have hFr := hFr.tr hF9
    refine lv_if_eq (tgt := 55) S.1 S.2.1 dX6_mayNot_48 (by decide) (fun c6 => ?_) (fun c6 => ?_)
    · have hf := (if_pos c6).symm.trans hf
      refine lv_iconst (v := 0) S.1 S.2.1 dX6_mayNot_55 (by decide) ?_
      exact pk_zret S hr hlk hW (by decide) (eqm (P := fun z => z.1 = 0 ∧ MI κ ζ B z.2 L1 F2 ∧ FrM L F L1 F2) ⟨rfl, hI, hFr⟩ (Option.some.inj hf)) (by omega) (by omega) dX6_mayNot_56
    · have hf := (if_neg c6).symm.trans hf
      exact B51  z5.2 hf L1 F2 hI hFr _ _ _ _ _ hW (by omega) (by omega) (lv_sub hl [] rfl)
  unfold f_X6_mayNot at hf
  refine lv_aload_n S.1 S.2.1 dX6_mayNot_0 rfl (lv_at hl 0 rfl) ?_
  refine lv_iload_n S.1 S.2.1 dX6_mayNot_1 rfl (lv_at hl 1 rfl) ?_
  obtain ⟨z11, hz, hf⟩ := ob hf
  refine pk_cSI (As := [.int x1]) (rest := [.ref (B 0)]) S hK hST hW (c_X6_isNoTrack  x1 hz) mc_X6_isNoTrack wd_1182 wd_1183 np_X6_isNoTrack rfl hl.1 rfl (Nat.le_of_ble_eq_true rfl) dX6_mayNot_2 ⟨by decide, by decide⟩ ⟨rmc (by omega), rms (by omega)⟩ (fun r L7 F8 H9 l10 hp hW => ?_)
  obtain ⟨rfl, rfl, rfl⟩ := hp
  refine lv_iconst (v := 1) S.1 S.2.1 dX6_mayNot_5 (by decide) ?_
  obtain ⟨z16, hz, hf⟩ := ob hf
  refine pk_cVI (As := [.int z11, .int 1]) (rest := []) S hK hST hW (c_X6_start hI z11 1 hz) mc_X6_start wd_1188 wd_1190 wd_1701 rfl np_X6_start (hI.mem (by decide)) hI.this rfl rfl hl.1 rfl (Nat.le_of_ble_eq_true rfl) dX6_mayNot_6 ⟨by decide, by decide⟩ ⟨rmc (by omega), rms (by omega)⟩ (fun r L12 F13 H14 l15 hp hW => ?_)
  obtain ⟨rfl, hI, hF9⟩ := hp
  have hFr := hFr.tr hF9
  refine lv_if_ne (tgt := 51) S.1 S.2.1 dX6_mayNot_9 (by decide) (fun c17 => ?_) (fun c17 => ?_)
  · have hf := (if_neg c17).symm.trans hf
    exact B51  z16.2 hf L12 F13 hI hFr _ _ _ _ _ hW (by omega) (by omega) (lv_sub hl [] rfl)
  · have hf := (if_pos c17).symm.trans hf
    refine lv_aload_n S.1 S.2.1 dX6_mayNot_12 rfl (lv_at hl 0 rfl) ?_
    refine lv_iload_n S.1 S.2.1 dX6_mayNot_13 rfl (lv_at hl 2 rfl) ?_
    refine lv_iload_n S.1 S.2.1 dX6_mayNot_14 rfl (lv_at hl 3 rfl) ?_
    obtain ⟨z22, hz, hf⟩ := ob hf
    refine pk_cSI (As := [.int x2, .int x3]) (rest := [.ref (B 0)]) S hK hST hW (c_X6_isNoPiece  x2 x3 hz) mc_X6_isNoPiece wd_1196 wd_1197 np_X6_isNoPiece rfl hl.1 rfl (Nat.le_of_ble_eq_true rfl) dX6_mayNot_15 ⟨by decide, by decide⟩ ⟨rmc (by omega), rms (by omega)⟩ (fun r L18 F19 H20 l21 hp hW => ?_)
    obtain ⟨rfl, rfl, rfl⟩ := hp
    refine lv_iconst (v := 2) S.1 S.2.1 dX6_mayNot_18 (by decide) ?_
    obtain ⟨z27, hz, hf⟩ := ob hf
    refine pk_cVI (As := [.int z22, .int 2]) (rest := []) S hK hST hW (c_X6_refuse hI z22 2 hz) mc_X6_refuse wd_1192 wd_1194 wd_1702 rfl np_X6_refuse (hI.mem (by decide)) hI.this rfl rfl hl.1 rfl (Nat.le_of_ble_eq_true rfl) dX6_mayNot_19 ⟨by decide, by decide⟩ ⟨rmc (by omega), rms (by omega)⟩ (fun r L23 F24 H25 l26 hp hW => ?_)
    obtain ⟨rfl, hI, hF9⟩ := hp
    have hFr := hFr.tr hF9
    refine lv_if_ne (tgt := 51) S.1 S.2.1 dX6_mayNot_22 (by decide) (fun c28 => ?_) (fun c28 => ?_)
    · have hf := (if_neg c28).symm.trans hf
      exact B51  z27.2 hf L23 F24 hI hFr _ _ _ _ _ hW (by omega) (by omega) (lv_sub hl [] rfl)
    · have hf := (if_pos c28).symm.trans hf
      refine lv_aload_n S.1 S.2.1 dX6_mayNot_25 rfl (lv_at hl 0 rfl) ?_
      refine lv_aload_n S.1 S.2.1 dX6_mayNot_26 rfl (lv_at hl 0 rfl) ?_
      refine lv_iload_n S.1 S.2.1 dX6_mayNot_27 rfl (lv_at hl 1 rfl) ?_
      obtain ⟨z33, hz, hf⟩ := ob hf
      refine pk_cVI (As := [.int x1]) (rest := [.ref (B 0)]) S hK hST hW (c_X6_size hI x1 hz) mc_X6_size wd_1199 wd_1201 wd_1703 rfl np_X6_size (hI.mem (by decide)) hI.this rfl rfl hl.1 rfl (Nat.le_of_ble_eq_true rfl) dX6_mayNot_28 ⟨by decide, by decide⟩ ⟨rmc (by omega), rms (by omega)⟩ (fun r L29 F30 H31 l32 hp hW => ?_)
      obtain ⟨rfl, rfl, rfl⟩ := hp
      refine lv_iload S.1 S.2.1 dX6_mayNot_31 (lv_at hl 4 rfl) ?_
      refine lv_iadd S.1 S.2.1 dX6_mayNot_33 ?_
      refine lv_bipush (v := 20) S.1 S.2.1 dX6_mayNot_34 (by decide) ?_
      refine lv_icmp_le (tgt := 43) S.1 S.2.1 dX6_mayNot_36 (by decide) (fun c34 => ?_) (fun c34 => ?_)
      · have hf := (if_pos c34).symm.trans hf
        refine lv_iconst (v := 0) S.1 S.2.1 dX6_mayNot_43 (by decide) ?_
        exact B44  z27.2 0 hf L23 F24 hI hFr _ _ _ _ _ hW (by omega) (by omega) (lv_sub hl [] rfl)
      · have hf := (if_neg c34).symm.trans hf
        refine lv_iconst (v := 1) S.1 S.2.1 dX6_mayNot_39 (by decide) ?_
        refine lv_goto (tgt := 44) S.1 S.2.1 dX6_mayNot_40 (by decide) ?_
        exact B44  z27.2 1 hf L23 F24 hI hFr _ _ _ _ _ hW (by omega) (by omega) (lv_sub hl [] rfl)
def f_X6_isBarred (x1 : Int32) (x2 : Int32) : Option Int32 := (if x1 = 0 then (if x2 = 0 then some (1) else some (0)) else some (0))
theorem mc_X6_isBarred : MCode yX6_isBarred cX6_isBarred 2 (some .boolean) := ⟨wd_1224, wd_5, by decide, by decide⟩
theorem np_X6_isBarred : (parseMethodDescriptor yX6_isBarred.desc).map (fun d => d.parameters.length) = some 2 := by decide +kernel
set_option maxHeartbeats 4000000 in
set_option maxRecDepth 100000 in
theorem c_X6_isBarred {l : Launch} {D : va_G} {κ : Nat → ClassId} {ζ : Nat → Nat} {L : List Nat} {F : Nat → va_E} (x1 : Int32) (x2 : Int32) {res : Int32} (hf : f_X6_isBarred x1 x2 = some res) : MtI l D cls (ty5 κ) ζ yX6_isBarred cX6_isBarred 2 (some .boolean) 1 0 0 ([.int x1, .int x2] : List Value) L F (fun r L' F' => L = L' ∧ F = F' ∧ res = r) := by
  refine MtI.of (by decide) (Nat.le_of_ble_eq_true rfl) ?_
  intro p e s m below meth c S hr hlk _ hK hW hST ls hl
  have hl : lv_has ls 2 [(0, .int x1), (1, .int x2)] := hl
  unfold f_X6_isBarred at hf
  refine lv_iload_n S.1 S.2.1 dX6_isBarred_0 rfl (lv_at hl 0 rfl) ?_
  refine lv_if_ne (tgt := 12) S.1 S.2.1 dX6_isBarred_1 (by decide) (fun c1 => ?_) (fun c1 => ?_)
  · have hf := (if_neg c1).symm.trans hf
    refine lv_iconst (v := 0) S.1 S.2.1 dX6_isBarred_12 (by decide) ?_
    exact pk_zret S hr hlk hW (by decide) ⟨rfl, rfl, eqm (P := fun z => z = 0) rfl (Option.some.inj hf)⟩ (by omega) (by omega) dX6_isBarred_13
  · have hf := (if_pos c1).symm.trans hf
    refine lv_iload_n S.1 S.2.1 dX6_isBarred_4 rfl (lv_at hl 1 rfl) ?_
    refine lv_if_ne (tgt := 12) S.1 S.2.1 dX6_isBarred_5 (by decide) (fun c2 => ?_) (fun c2 => ?_)
    · have hf := (if_neg c2).symm.trans hf
      refine lv_iconst (v := 0) S.1 S.2.1 dX6_isBarred_12 (by decide) ?_
      exact pk_zret S hr hlk hW (by decide) ⟨rfl, rfl, eqm (P := fun z => z = 0) rfl (Option.some.inj hf)⟩ (by omega) (by omega) dX6_isBarred_13
    · have hf := (if_pos c2).symm.trans hf
      refine lv_iconst (v := 1) S.1 S.2.1 dX6_isBarred_8 (by decide) ?_
      refine lv_goto (tgt := 13) S.1 S.2.1 dX6_isBarred_9 (by decide) ?_
      exact pk_zret S hr hlk hW (by decide) ⟨rfl, rfl, eqm (P := fun z => z = 1) rfl (Option.some.inj hf)⟩ (by omega) (by omega) dX6_isBarred_13
def f_X6_join (τ : MS) (x1 : Int32) (x2 : Int32) (x3 : Int32) (x4 : Int32) : Option (Int32 × MS) := (f_X6_mayNot τ x1 x3 x4 1).bind fun z5 => (if z5.1 = 0 then (f_X6_code x3 x4).bind fun z11 => (f_X6_isBarred x1 z11).bind fun z16 => (if z16 = 0 then (f_X6_code x3 x4).bind fun z22 => (f_X6_stepIn z5.2 x1 x2 z22).bind fun z27 => (f_X6_size z27 x1).bind fun z32 => some (z32, z27) else some ((-9), z5.2)) else some (0, z5.2))
theorem mc_X6_join : MCode yX6_join cX6_join 5 (some .int) := ⟨wd_1177, wd_5, by decide, by decide⟩
theorem np_X6_join : (parseMethodDescriptor yX6_join.desc).map (fun d => d.parameters.length) = some 4 := by decide +kernel
set_option maxHeartbeats 4000000 in
set_option maxRecDepth 100000 in
theorem c_X6_join {l : Launch} {D : va_G} {κ : Nat → ClassId} {ζ : Nat → Nat} {L : List Nat} {F : Nat → va_E} {τ : MS} {B : Nat → Nat} (hI : MI κ ζ B τ L F) (x1 : Int32) (x2 : Int32) (x3 : Int32) (x4 : Int32) {res : (Int32 × MS)} (hf : f_X6_join τ x1 x2 x3 x4 = some res) : MtI l D cls (ty5 κ) ζ yX6_join cX6_join 5 (some .int) 10 4 132 ([.ref (B 0), .int x1, .int x2, .int x3, .int x4] : List Value) L F (fun r L' F' => res.1 = r ∧ MI κ ζ B res.2 L' F' ∧ FrM L F L' F') := by
  refine MtI.of (by decide) (Nat.le_of_ble_eq_true rfl) ?_
  intro p e s m below meth c S hr hlk _ hK hW hST ls hl
  have hl : lv_has ls 5 [(0, .ref (B 0)), (1, .int x1), (2, .int x2), (3, .int x3), (4, .int x4)] := hl
  have hFr : FrM L F L F := FrM.rf
  unfold f_X6_join at hf
  refine lv_aload_n S.1 S.2.1 dX6_join_0 rfl (lv_at hl 0 rfl) ?_
  refine lv_iload_n S.1 S.2.1 dX6_join_1 rfl (lv_at hl 1 rfl) ?_
  refine lv_iload_n S.1 S.2.1 dX6_join_2 rfl (lv_at hl 3 rfl) ?_
  refine lv_iload S.1 S.2.1 dX6_join_3 (lv_at hl 4 rfl) ?_
  refine lv_iconst (v := 1) S.1 S.2.1 dX6_join_5 (by decide) ?_
  obtain ⟨z5, hz, hf⟩ := ob hf
  refine pk_cVI (As := [.int x1, .int x3, .int x4, .int 1]) (rest := []) S hK hST hW (c_X6_mayNot hI x1 x3 x4 1 hz) mc_X6_mayNot wd_1178 wd_1180 wd_1700 rfl np_X6_mayNot (hI.mem (by decide)) hI.this rfl rfl hl.1 rfl (Nat.le_of_ble_eq_true rfl) dX6_join_6 ⟨by decide, by decide⟩ ⟨rmc (by omega), rms (by omega)⟩ (fun r L1 F2 H3 l4 hp hW => ?_)
  obtain ⟨rfl, hI, hF9⟩ := hp
  have hFr := hFr.tr hF9
  refine lv_if_eq (tgt := 14) S.1 S.2.1 dX6_join_9 (by decide) (fun c6 => ?_) (fun c6 => ?_)
  · have hf := (if_pos c6).symm.trans hf
    refine lv_iload_n S.1 S.2.1 dX6_join_14 rfl (lv_at hl 1 rfl) ?_
    refine lv_iload_n S.1 S.2.1 dX6_join_15 rfl (lv_at hl 3 rfl) ?_
    refine lv_iload S.1 S.2.1 dX6_join_16 (lv_at hl 4 rfl) ?_
    obtain ⟨z11, hz, hf⟩ := ob hf
    refine pk_cSI (As := [.int x3, .int x4]) (rest := [.int x1]) S hK hST hW (c_X6_code  x3 x4 hz) mc_X6_code wd_1219 wd_1220 np_X6_code rfl hl.1 rfl (Nat.le_of_ble_eq_true rfl) dX6_join_18 ⟨by decide, by decide⟩ ⟨rmc (by omega), rms (by omega)⟩ (fun r L7 F8 H9 l10 hp hW => ?_)
    obtain ⟨rfl, rfl, rfl⟩ := hp
    obtain ⟨z16, hz, hf⟩ := ob hf
    refine pk_cSI (As := [.int x1, .int z11]) (rest := []) S hK hST hW (c_X6_isBarred  x1 z11 hz) mc_X6_isBarred wd_1222 wd_1223 np_X6_isBarred rfl hl.1 rfl (Nat.le_of_ble_eq_true rfl) dX6_join_21 ⟨by decide, by decide⟩ ⟨rmc (by omega), rms (by omega)⟩ (fun r L12 F13 H14 l15 hp hW => ?_)
    obtain ⟨rfl, rfl, rfl⟩ := hp
    refine lv_if_eq (tgt := 30) S.1 S.2.1 dX6_join_24 (by decide) (fun c17 => ?_) (fun c17 => ?_)
    · have hf := (if_pos c17).symm.trans hf
      refine lv_aload_n S.1 S.2.1 dX6_join_30 rfl (lv_at hl 0 rfl) ?_
      refine lv_iload_n S.1 S.2.1 dX6_join_31 rfl (lv_at hl 1 rfl) ?_
      refine lv_iload_n S.1 S.2.1 dX6_join_32 rfl (lv_at hl 2 rfl) ?_
      refine lv_iload_n S.1 S.2.1 dX6_join_33 rfl (lv_at hl 3 rfl) ?_
      refine lv_iload S.1 S.2.1 dX6_join_34 (lv_at hl 4 rfl) ?_
      obtain ⟨z22, hz, hf⟩ := ob hf
      refine pk_cSI (As := [.int x3, .int x4]) (rest := [.int x2, .int x1, .ref (B 0)]) S hK hST hW (c_X6_code  x3 x4 hz) mc_X6_code wd_1219 wd_1220 np_X6_code rfl hl.1 rfl (Nat.le_of_ble_eq_true rfl) dX6_join_36 ⟨by decide, by decide⟩ ⟨rmc (by omega), rms (by omega)⟩ (fun r L18 F19 H20 l21 hp hW => ?_)
      obtain ⟨rfl, rfl, rfl⟩ := hp
      obtain ⟨z27, hz, hf⟩ := ob hf
      refine pk_cVV (As := [.int x1, .int x2, .int z22]) (rest := []) S hK hST hW (c_X6_stepIn hI x1 x2 z22 hz) mc_X6_stepIn wd_1225 wd_1227 wd_1704 rfl np_X6_stepIn (hI.mem (by decide)) hI.this rfl rfl hl.1 rfl (Nat.le_of_ble_eq_true rfl) dX6_join_39 ⟨by decide, by decide⟩ ⟨rmc (by omega), rms (by omega)⟩ (fun L23 F24 H25 l26 hp hW => ?_)
      obtain ⟨hI, hF9⟩ := hp
      have hFr := hFr.tr hF9
      refine lv_aload_n S.1 S.2.1 dX6_join_42 rfl (lv_at hl 0 rfl) ?_
      refine lv_iload_n S.1 S.2.1 dX6_join_43 rfl (lv_at hl 1 rfl) ?_
      obtain ⟨z32, hz, hf⟩ := ob hf
      refine pk_cVI (As := [.int x1]) (rest := []) S hK hST hW (c_X6_size hI x1 hz) mc_X6_size wd_1199 wd_1201 wd_1703 rfl np_X6_size (hI.mem (by decide)) hI.this rfl rfl hl.1 rfl (Nat.le_of_ble_eq_true rfl) dX6_join_44 ⟨by decide, by decide⟩ ⟨rmc (by omega), rms (by omega)⟩ (fun r L28 F29 H30 l31 hp hW => ?_)
      obtain ⟨rfl, rfl, rfl⟩ := hp
      exact pk_iret S hr hlk hW (eqm (P := fun z => z.1 = z32 ∧ MI κ ζ B z.2 L23 F24 ∧ FrM L F L23 F24) ⟨rfl, hI, hFr⟩ (Option.some.inj hf)) (by omega) (by omega) dX6_join_47
    · have hf := (if_neg c17).symm.trans hf
      refine lv_bipush (v := (-9)) S.1 S.2.1 dX6_join_27 (by decide) ?_
      exact pk_iret S hr hlk hW (eqm (P := fun z => z.1 = (-9) ∧ MI κ ζ B z.2 L1 F2 ∧ FrM L F L1 F2) ⟨rfl, hI, hFr⟩ (Option.some.inj hf)) (by omega) (by omega) dX6_join_29
  · have hf := (if_neg c6).symm.trans hf
    refine lv_iconst (v := 0) S.1 S.2.1 dX6_join_12 (by decide) ?_
    exact pk_iret S hr hlk hW (eqm (P := fun z => z.1 = 0 ∧ MI κ ζ B z.2 L1 F2 ∧ FrM L F L1 F2) ⟨rfl, hI, hFr⟩ (Option.some.inj hf)) (by omega) (by omega) dX6_join_13
def f_X6_offer (τ : MS) (x1 : Int32) (x2 : Int32) (x3 : Int32) (x4 : Int32) : Option (Int32 × MS) := (f_X6_mayNot τ x1 x3 x4 1).bind fun z5 => (if z5.1 = 0 then (f_X6_code x3 x4).bind fun z11 => (f_X6_isBarred x1 z11).bind fun z16 => (if z16 = 0 then (f_X6_code x3 x4).bind fun z22 => (f_X6_stepIn z5.2 x1 x2 z22).bind fun z27 => some (1, z27) else some (0, z5.2)) else some (0, z5.2))
theorem mc_X6_offer : MCode yX6_offer cX6_offer 5 (some .boolean) := ⟨wd_1294, wd_5, by decide, by decide⟩
theorem np_X6_offer : (parseMethodDescriptor yX6_offer.desc).map (fun d => d.parameters.length) = some 4 := by decide +kernel
set_option maxHeartbeats 4000000 in
set_option maxRecDepth 100000 in
theorem c_X6_offer {l : Launch} {D : va_G} {κ : Nat → ClassId} {ζ : Nat → Nat} {L : List Nat} {F : Nat → va_E} {τ : MS} {B : Nat → Nat} (hI : MI κ ζ B τ L F) (x1 : Int32) (x2 : Int32) (x3 : Int32) (x4 : Int32) {res : (Int32 × MS)} (hf : f_X6_offer τ x1 x2 x3 x4 = some res) : MtI l D cls (ty5 κ) ζ yX6_offer cX6_offer 5 (some .boolean) 10 4 132 ([.ref (B 0), .int x1, .int x2, .int x3, .int x4] : List Value) L F (fun r L' F' => res.1 = r ∧ MI κ ζ B res.2 L' F' ∧ FrM L F L' F') := by
  refine MtI.of (by decide) (Nat.le_of_ble_eq_true rfl) ?_
  intro p e s m below meth c S hr hlk _ hK hW hST ls hl
  have hl : lv_has ls 5 [(0, .ref (B 0)), (1, .int x1), (2, .int x2), (3, .int x3), (4, .int x4)] := hl
  have hFr : FrM L F L F := FrM.rf
  unfold f_X6_offer at hf
  refine lv_aload_n S.1 S.2.1 dX6_offer_0 rfl (lv_at hl 0 rfl) ?_
  refine lv_iload_n S.1 S.2.1 dX6_offer_1 rfl (lv_at hl 1 rfl) ?_
  refine lv_iload_n S.1 S.2.1 dX6_offer_2 rfl (lv_at hl 3 rfl) ?_
  refine lv_iload S.1 S.2.1 dX6_offer_3 (lv_at hl 4 rfl) ?_
  refine lv_iconst (v := 1) S.1 S.2.1 dX6_offer_5 (by decide) ?_
  obtain ⟨z5, hz, hf⟩ := ob hf
  refine pk_cVI (As := [.int x1, .int x3, .int x4, .int 1]) (rest := []) S hK hST hW (c_X6_mayNot hI x1 x3 x4 1 hz) mc_X6_mayNot wd_1178 wd_1180 wd_1700 rfl np_X6_mayNot (hI.mem (by decide)) hI.this rfl rfl hl.1 rfl (Nat.le_of_ble_eq_true rfl) dX6_offer_6 ⟨by decide, by decide⟩ ⟨rmc (by omega), rms (by omega)⟩ (fun r L1 F2 H3 l4 hp hW => ?_)
  obtain ⟨rfl, hI, hF9⟩ := hp
  have hFr := hFr.tr hF9
  refine lv_if_ne (tgt := 25) S.1 S.2.1 dX6_offer_9 (by decide) (fun c6 => ?_) (fun c6 => ?_)
  · have hf := (if_neg c6).symm.trans hf
    refine lv_iconst (v := 0) S.1 S.2.1 dX6_offer_25 (by decide) ?_
    exact pk_zret S hr hlk hW (by decide) (eqm (P := fun z => z.1 = 0 ∧ MI κ ζ B z.2 L1 F2 ∧ FrM L F L1 F2) ⟨rfl, hI, hFr⟩ (Option.some.inj hf)) (by omega) (by omega) dX6_offer_26
  · have hf := (if_pos c6).symm.trans hf
    refine lv_iload_n S.1 S.2.1 dX6_offer_12 rfl (lv_at hl 1 rfl) ?_
    refine lv_iload_n S.1 S.2.1 dX6_offer_13 rfl (lv_at hl 3 rfl) ?_
    refine lv_iload S.1 S.2.1 dX6_offer_14 (lv_at hl 4 rfl) ?_
    obtain ⟨z11, hz, hf⟩ := ob hf
    refine pk_cSI (As := [.int x3, .int x4]) (rest := [.int x1]) S hK hST hW (c_X6_code  x3 x4 hz) mc_X6_code wd_1219 wd_1220 np_X6_code rfl hl.1 rfl (Nat.le_of_ble_eq_true rfl) dX6_offer_16 ⟨by decide, by decide⟩ ⟨rmc (by omega), rms (by omega)⟩ (fun r L7 F8 H9 l10 hp hW => ?_)
    obtain ⟨rfl, rfl, rfl⟩ := hp
    obtain ⟨z16, hz, hf⟩ := ob hf
    refine pk_cSI (As := [.int x1, .int z11]) (rest := []) S hK hST hW (c_X6_isBarred  x1 z11 hz) mc_X6_isBarred wd_1222 wd_1223 np_X6_isBarred rfl hl.1 rfl (Nat.le_of_ble_eq_true rfl) dX6_offer_19 ⟨by decide, by decide⟩ ⟨rmc (by omega), rms (by omega)⟩ (fun r L12 F13 H14 l15 hp hW => ?_)
    obtain ⟨rfl, rfl, rfl⟩ := hp
    refine lv_if_eq (tgt := 27) S.1 S.2.1 dX6_offer_22 (by decide) (fun c17 => ?_) (fun c17 => ?_)
    · have hf := (if_pos c17).symm.trans hf
      refine lv_aload_n S.1 S.2.1 dX6_offer_27 rfl (lv_at hl 0 rfl) ?_
      refine lv_iload_n S.1 S.2.1 dX6_offer_28 rfl (lv_at hl 1 rfl) ?_
      refine lv_iload_n S.1 S.2.1 dX6_offer_29 rfl (lv_at hl 2 rfl) ?_
      refine lv_iload_n S.1 S.2.1 dX6_offer_30 rfl (lv_at hl 3 rfl) ?_
      refine lv_iload S.1 S.2.1 dX6_offer_31 (lv_at hl 4 rfl) ?_
      obtain ⟨z22, hz, hf⟩ := ob hf
      refine pk_cSI (As := [.int x3, .int x4]) (rest := [.int x2, .int x1, .ref (B 0)]) S hK hST hW (c_X6_code  x3 x4 hz) mc_X6_code wd_1219 wd_1220 np_X6_code rfl hl.1 rfl (Nat.le_of_ble_eq_true rfl) dX6_offer_33 ⟨by decide, by decide⟩ ⟨rmc (by omega), rms (by omega)⟩ (fun r L18 F19 H20 l21 hp hW => ?_)
      obtain ⟨rfl, rfl, rfl⟩ := hp
      obtain ⟨z27, hz, hf⟩ := ob hf
      refine pk_cVV (As := [.int x1, .int x2, .int z22]) (rest := []) S hK hST hW (c_X6_stepIn hI x1 x2 z22 hz) mc_X6_stepIn wd_1225 wd_1227 wd_1704 rfl np_X6_stepIn (hI.mem (by decide)) hI.this rfl rfl hl.1 rfl (Nat.le_of_ble_eq_true rfl) dX6_offer_36 ⟨by decide, by decide⟩ ⟨rmc (by omega), rms (by omega)⟩ (fun L23 F24 H25 l26 hp hW => ?_)
      obtain ⟨hI, hF9⟩ := hp
      have hFr := hFr.tr hF9
      refine lv_iconst (v := 1) S.1 S.2.1 dX6_offer_39 (by decide) ?_
      exact pk_zret S hr hlk hW (by decide) (eqm (P := fun z => z.1 = 1 ∧ MI κ ζ B z.2 L23 F24 ∧ FrM L F L23 F24) ⟨rfl, hI, hFr⟩ (Option.some.inj hf)) (by omega) (by omega) dX6_offer_40
    · have hf := (if_neg c17).symm.trans hf
      refine lv_iconst (v := 0) S.1 S.2.1 dX6_offer_25 (by decide) ?_
      exact pk_zret S hr hlk hW (by decide) (eqm (P := fun z => z.1 = 0 ∧ MI κ ζ B z.2 L1 F2 ∧ FrM L F L1 F2) ⟨rfl, hI, hFr⟩ (Option.some.inj hf)) (by omega) (by omega) dX6_offer_26
def f_X6_push_46   (w46 : MS) (v1 : Int32) (v2 : Int32) (v3 : Int32) (u0 : Int32) : Option (Int32 × MS) := (f_X6_code v2 v3).bind fun z5 => (f_X6_stepIn w46 v1 0 z5).bind fun z10 => some (u0, z10)
def f_X6_push (τ : MS) (x1 : Int32) (x2 : Int32) (x3 : Int32) : Option (Int32 × MS) := (f_X6_mayNot τ x1 x2 x3 1).bind fun z15 => (if z15.1 = 0 then (f_X6_code x2 x3).bind fun z21 => (f_X6_isBarred x1 z21).bind fun z26 => (if z26 = 0 then (f_X6_size z15.2 x1).bind fun z32 => (if z32 = 0 then f_X6_push_46 z15.2 x1 x2 x3 0 else (f_X6_get z15.2 x1 0).bind fun z38 => f_X6_push_46 z15.2 x1 x2 x3 z38) else some ((-9), z15.2)) else some (0, z15.2))
theorem mc_X6_push : MCode yX6_push cX6_push 5 (some .int) := ⟨wd_1298, wd_5, by decide, by decide⟩
theorem np_X6_push : (parseMethodDescriptor yX6_push.desc).map (fun d => d.parameters.length) = some 3 := by decide +kernel
set_option maxHeartbeats 4000000 in
set_option maxRecDepth 100000 in
theorem c_X6_push {l : Launch} {D : va_G} {κ : Nat → ClassId} {ζ : Nat → Nat} {L : List Nat} {F : Nat → va_E} {τ : MS} {B : Nat → Nat} (hI : MI κ ζ B τ L F) (x1 : Int32) (x2 : Int32) (x3 : Int32) {res : (Int32 × MS)} (hf : f_X6_push τ x1 x2 x3 = some res) : MtI l D cls (ty5 κ) ζ yX6_push cX6_push 5 (some .int) 10 4 132 ([.ref (B 0), .int x1, .int x2, .int x3] : List Value) L F (fun r L' F' => res.1 = r ∧ MI κ ζ B res.2 L' F' ∧ FrM L F L' F') := by
  refine MtI.of (by decide) (Nat.le_of_ble_eq_true rfl) ?_
  intro p e s m below meth c S hr hlk _ hK hW hST ls hl
  have hl : lv_has ls 5 [(0, .ref (B 0)), (1, .int x1), (2, .int x2), (3, .int x3)] := hl
  have hFr : FrM L F L F := FrM.rf
  have B46 : ∀  (w46 : MS) (v1 : Int32) (v2 : Int32) (v3 : Int32) (u0 : Int32), f_X6_push_46 w46 v1 v2 v3 u0 = some res → ∀ (K46 : List Nat) (G46 : Nat → va_E), MI κ ζ B w46 K46 G46 → FrM L F K46 G46 → ∀ (H46 : Heap) (l46 : List Loc) (ls : Array Slot) (cc ss : Nat), HW D cls L s H46 l46 K46 G46 → cc + (4) ≤ 4 → ss ≤ 33 * cc → lv_has ls 5 [(0, .ref (B 0)), (1, .int v1), (2, .int v2), (3, .int v3)] → W p l e (Rm 10 4 132) s m ([.ref (B 0), .int x1, .int x2, .int x3] : List Value).toArray below meth c H46 l46 cc ss (EnI D cls s below ([.ref (B 0), .int x1, .int x2, .int x3] : List Value).toArray 4 132 L (fun r L' F' => res.1 = r ∧ MI κ ζ B res.2 L' F' ∧ FrM L F L' F')) (F0 m 46 ls [.int u0]) := by
    intro  w46 v1 v2 v3 u0 hf K46 G46 hI hFr H46 l46 ls cc ss hW hcc hss hl
    unfold f_X6_push_46 at hf
    refine lv_istore (lv' := [(4, .int u0), (0, .ref (B 0)), (1, .int v1), (2, .int v2), (3, .int v3)]) S.1 S.2.1 dX6_push_46 hl (by decide) rfl (fun ls hl => ?_)
    refine lv_aload_n S.1 S.2.1 dX6_push_48 rfl (lv_at hl 1 rfl) ?_
    refine lv_iload_n S.1 S.2.1 dX6_push_49 rfl (lv_at hl 2 rfl) ?_
    refine lv_iconst (v := 0) S.1 S.2.1 dX6_push_50 (by decide) ?_
    refine lv_iload_n S.1 S.2.1 dX6_push_51 rfl (lv_at hl 3 rfl) ?_
    refine lv_iload_n S.1 S.2.1 dX6_push_52 rfl (lv_at hl 4 rfl) ?_
    obtain ⟨z5, hz, hf⟩ := ob hf
    refine pk_cSI (As := [.int v2, .int v3]) (rest := [.int 0, .int v1, .ref (B 0)]) S hK hST hW (c_X6_code  v2 v3 hz) mc_X6_code wd_1219 wd_1220 np_X6_code rfl hl.1 rfl (Nat.le_of_ble_eq_true rfl) dX6_push_53 ⟨by decide, by decide⟩ ⟨rmc (by omega), rms (by omega)⟩ (fun r L1 F2 H3 l4 hp hW => ?_)
    obtain ⟨rfl, rfl, rfl⟩ := hp
    obtain ⟨z10, hz, hf⟩ := ob hf
    refine pk_cVV (As := [.int v1, .int 0, .int z5]) (rest := []) S hK hST hW (c_X6_stepIn hI v1 0 z5 hz) mc_X6_stepIn wd_1225 wd_1227 wd_1704 rfl np_X6_stepIn (hI.mem (by decide)) hI.this rfl rfl hl.1 rfl (Nat.le_of_ble_eq_true rfl) dX6_push_56 ⟨by decide, by decide⟩ ⟨rmc (by omega), rms (by omega)⟩ (fun L6 F7 H8 l9 hp hW => ?_)
    obtain ⟨hI, hF9⟩ := hp
    have hFr := hFr.tr hF9
    refine lv_iload S.1 S.2.1 dX6_push_59 (lv_at hl 0 rfl) ?_
    exact pk_iret S hr hlk hW (eqm (P := fun z => z.1 = u0 ∧ MI κ ζ B z.2 L6 F7 ∧ FrM L F L6 F7) ⟨rfl, hI, hFr⟩ (Option.some.inj hf)) (by omega) (by omega) dX6_push_61
  unfold f_X6_push at hf
  refine lv_aload_n S.1 S.2.1 dX6_push_0 rfl (lv_at hl 0 rfl) ?_
  refine lv_iload_n S.1 S.2.1 dX6_push_1 rfl (lv_at hl 1 rfl) ?_
  refine lv_iload_n S.1 S.2.1 dX6_push_2 rfl (lv_at hl 2 rfl) ?_
  refine lv_iload_n S.1 S.2.1 dX6_push_3 rfl (lv_at hl 3 rfl) ?_
  refine lv_iconst (v := 1) S.1 S.2.1 dX6_push_4 (by decide) ?_
  obtain ⟨z15, hz, hf⟩ := ob hf
  refine pk_cVI (As := [.int x1, .int x2, .int x3, .int 1]) (rest := []) S hK hST hW (c_X6_mayNot hI x1 x2 x3 1 hz) mc_X6_mayNot wd_1178 wd_1180 wd_1700 rfl np_X6_mayNot (hI.mem (by decide)) hI.this rfl rfl hl.1 rfl (Nat.le_of_ble_eq_true rfl) dX6_push_5 ⟨by decide, by decide⟩ ⟨rmc (by omega), rms (by omega)⟩ (fun r L11 F12 H13 l14 hp hW => ?_)
  obtain ⟨rfl, hI, hF9⟩ := hp
  have hFr := hFr.tr hF9
  refine lv_if_eq (tgt := 13) S.1 S.2.1 dX6_push_8 (by decide) (fun c16 => ?_) (fun c16 => ?_)
  · have hf := (if_pos c16).symm.trans hf
    refine lv_iload_n S.1 S.2.1 dX6_push_13 rfl (lv_at hl 1 rfl) ?_
    refine lv_iload_n S.1 S.2.1 dX6_push_14 rfl (lv_at hl 2 rfl) ?_
    refine lv_iload_n S.1 S.2.1 dX6_push_15 rfl (lv_at hl 3 rfl) ?_
    obtain ⟨z21, hz, hf⟩ := ob hf
    refine pk_cSI (As := [.int x2, .int x3]) (rest := [.int x1]) S hK hST hW (c_X6_code  x2 x3 hz) mc_X6_code wd_1219 wd_1220 np_X6_code rfl hl.1 rfl (Nat.le_of_ble_eq_true rfl) dX6_push_16 ⟨by decide, by decide⟩ ⟨rmc (by omega), rms (by omega)⟩ (fun r L17 F18 H19 l20 hp hW => ?_)
    obtain ⟨rfl, rfl, rfl⟩ := hp
    obtain ⟨z26, hz, hf⟩ := ob hf
    refine pk_cSI (As := [.int x1, .int z21]) (rest := []) S hK hST hW (c_X6_isBarred  x1 z21 hz) mc_X6_isBarred wd_1222 wd_1223 np_X6_isBarred rfl hl.1 rfl (Nat.le_of_ble_eq_true rfl) dX6_push_19 ⟨by decide, by decide⟩ ⟨rmc (by omega), rms (by omega)⟩ (fun r L22 F23 H24 l25 hp hW => ?_)
    obtain ⟨rfl, rfl, rfl⟩ := hp
    refine lv_if_eq (tgt := 28) S.1 S.2.1 dX6_push_22 (by decide) (fun c27 => ?_) (fun c27 => ?_)
    · have hf := (if_pos c27).symm.trans hf
      refine lv_aload_n S.1 S.2.1 dX6_push_28 rfl (lv_at hl 0 rfl) ?_
      refine lv_iload_n S.1 S.2.1 dX6_push_29 rfl (lv_at hl 1 rfl) ?_
      obtain ⟨z32, hz, hf⟩ := ob hf
      refine pk_cVI (As := [.int x1]) (rest := []) S hK hST hW (c_X6_size hI x1 hz) mc_X6_size wd_1199 wd_1201 wd_1703 rfl np_X6_size (hI.mem (by decide)) hI.this rfl rfl hl.1 rfl (Nat.le_of_ble_eq_true rfl) dX6_push_30 ⟨by decide, by decide⟩ ⟨rmc (by omega), rms (by omega)⟩ (fun r L28 F29 H30 l31 hp hW => ?_)
      obtain ⟨rfl, rfl, rfl⟩ := hp
      refine lv_if_ne (tgt := 40) S.1 S.2.1 dX6_push_33 (by decide) (fun c33 => ?_) (fun c33 => ?_)
      · have hf := (if_neg c33).symm.trans hf
        refine lv_aload_n S.1 S.2.1 dX6_push_40 rfl (lv_at hl 0 rfl) ?_
        refine lv_iload_n S.1 S.2.1 dX6_push_41 rfl (lv_at hl 1 rfl) ?_
        refine lv_iconst (v := 0) S.1 S.2.1 dX6_push_42 (by decide) ?_
        obtain ⟨z38, hz, hf⟩ := ob hf
        refine pk_cVI (As := [.int x1, .int 0]) (rest := []) S hK hST hW (c_X6_get hI x1 0 hz) mc_X6_get wd_1299 wd_1301 wd_1711 rfl np_X6_get (hI.mem (by decide)) hI.this rfl rfl hl.1 rfl (Nat.le_of_ble_eq_true rfl) dX6_push_43 ⟨by decide, by decide⟩ ⟨rmc (by omega), rms (by omega)⟩ (fun r L34 F35 H36 l37 hp hW => ?_)
        obtain ⟨rfl, rfl, rfl⟩ := hp
        exact B46  z15.2 x1 x2 x3 z38 hf L11 F12 hI hFr _ _ _ _ _ hW (by omega) (by omega) (lv_sub hl [0, 1, 2, 3] rfl)
      · have hf := (if_pos c33).symm.trans hf
        refine lv_iconst (v := 0) S.1 S.2.1 dX6_push_36 (by decide) ?_
        refine lv_goto (tgt := 46) S.1 S.2.1 dX6_push_37 (by decide) ?_
        exact B46  z15.2 x1 x2 x3 0 hf L11 F12 hI hFr _ _ _ _ _ hW (by omega) (by omega) (lv_sub hl [0, 1, 2, 3] rfl)
    · have hf := (if_neg c27).symm.trans hf
      refine lv_bipush (v := (-9)) S.1 S.2.1 dX6_push_25 (by decide) ?_
      exact pk_iret S hr hlk hW (eqm (P := fun z => z.1 = (-9) ∧ MI κ ζ B z.2 L11 F12 ∧ FrM L F L11 F12) ⟨rfl, hI, hFr⟩ (Option.some.inj hf)) (by omega) (by omega) dX6_push_27
  · have hf := (if_neg c16).symm.trans hf
    refine lv_iconst (v := 0) S.1 S.2.1 dX6_push_11 (by decide) ?_
    exact pk_iret S hr hlk hW (eqm (P := fun z => z.1 = 0 ∧ MI κ ζ B z.2 L11 F12 ∧ FrM L F L11 F12) ⟨rfl, hI, hFr⟩ (Option.some.inj hf)) (by omega) (by omega) dX6_push_12
def f_X6_append (τ : MS) (x1 : Int32) (x2 : Int32) (x3 : Int32) : Option (Int32 × MS) := (f_X6_join τ x1 1 x2 x3).bind fun z5 => some (z5.1, z5.2)
theorem mc_X6_append : MCode yX6_append cX6_append 4 (some .int) := ⟨wd_1311, wd_5, by decide, by decide⟩
theorem np_X6_append : (parseMethodDescriptor yX6_append.desc).map (fun d => d.parameters.length) = some 3 := by decide +kernel
set_option maxHeartbeats 4000000 in
set_option maxRecDepth 100000 in
theorem c_X6_append {l : Launch} {D : va_G} {κ : Nat → ClassId} {ζ : Nat → Nat} {L : List Nat} {F : Nat → va_E} {τ : MS} {B : Nat → Nat} (hI : MI κ ζ B τ L F) (x1 : Int32) (x2 : Int32) (x3 : Int32) {res : (Int32 × MS)} (hf : f_X6_append τ x1 x2 x3 = some res) : MtI l D cls (ty5 κ) ζ yX6_append cX6_append 4 (some .int) 11 4 132 ([.ref (B 0), .int x1, .int x2, .int x3] : List Value) L F (fun r L' F' => res.1 = r ∧ MI κ ζ B res.2 L' F' ∧ FrM L F L' F') := by
  refine MtI.of (by decide) (Nat.le_of_ble_eq_true rfl) ?_
  intro p e s m below meth c S hr hlk _ hK hW hST ls hl
  have hl : lv_has ls 4 [(0, .ref (B 0)), (1, .int x1), (2, .int x2), (3, .int x3)] := hl
  have hFr : FrM L F L F := FrM.rf
  unfold f_X6_append at hf
  refine lv_aload_n S.1 S.2.1 dX6_append_0 rfl (lv_at hl 0 rfl) ?_
  refine lv_iload_n S.1 S.2.1 dX6_append_1 rfl (lv_at hl 1 rfl) ?_
  refine lv_iconst (v := 1) S.1 S.2.1 dX6_append_2 (by decide) ?_
  refine lv_iload_n S.1 S.2.1 dX6_append_3 rfl (lv_at hl 2 rfl) ?_
  refine lv_iload_n S.1 S.2.1 dX6_append_4 rfl (lv_at hl 3 rfl) ?_
  obtain ⟨z5, hz, hf⟩ := ob hf
  refine pk_cVI (As := [.int x1, .int 1, .int x2, .int x3]) (rest := []) S hK hST hW (c_X6_join hI x1 1 x2 x3 hz) mc_X6_join wd_1312 wd_1175 wd_1176 rfl np_X6_join (hI.mem (by decide)) hI.this rfl rfl hl.1 rfl (Nat.le_of_ble_eq_true rfl) dX6_append_5 ⟨by decide, by decide⟩ ⟨rmc (by omega), rms (by omega)⟩ (fun r L1 F2 H3 l4 hp hW => ?_)
  obtain ⟨rfl, hI, hF9⟩ := hp
  have hFr := hFr.tr hF9
  exact pk_iret S hr hlk hW (eqm (P := fun z => z.1 = z5.1 ∧ MI κ ζ B z.2 L1 F2 ∧ FrM L F L1 F2) ⟨rfl, hI, hFr⟩ (Option.some.inj hf)) (by omega) (by omega) dX6_append_8
def f_X6_train_79   (k79 : (MS × Int32 × Int32 × Int32 × Int32 × Int32) → Option (Int32 × MS)) (t : (MS × Int32 × Int32 × Int32 × Int32 × Int32)) : Option (Int32 × MS) := (if t.2.2.2.2.1 ≤ t.2.2.2.2.2 then (f_X6_size t.1 t.2.1).bind fun z6 => some (z6, t.1) else (f_X6_code (1 + (jrem ((t.2.2.1 - 1) + t.2.2.2.2.2) 9)) (jrem (t.2.2.2.1 + (7 * t.2.2.2.2.2)) 100)).bind fun z11 => (f_X6_stepIn t.1 t.2.1 1 z11).bind fun z16 => nm (t.2.2.2.2.2 + 1 : Int32) fun y17 => k79 (z16, t.2.1, t.2.2.1, t.2.2.2.1, t.2.2.2.2.1, y17))
def f_X6_train_67   (w67 : MS) (v1 : Int32) (v2 : Int32) (v3 : Int32) (v4 : Int32) (u1 : Int32) : Option (Int32 × MS) := (f_X6_refuse w67 u1 3).bind fun z22 => (if z22.1 = 0 then lpn (f_X6_train_79 ) 24 (z22.2, v1, v2, v3, v4, 0) else some (0, z22.2))
def f_X6_train_41   (w41 : MS) (v1 : Int32) (v2 : Int32) (v3 : Int32) (v4 : Int32) (u1 : Int32) : Option (Int32 × MS) := (f_X6_refuse w41 u1 2).bind fun z28 => (if z28.1 = 0 then (f_X6_size z28.2 v1).bind fun z34 => (if (z34 + v4) ≤ 20 then f_X6_train_67 z28.2 v1 v2 v3 v4 0 else f_X6_train_67 z28.2 v1 v2 v3 v4 1) else some (0, z28.2))
def f_X6_train_36   (w36 : MS) (v1 : Int32) (v2 : Int32) (v3 : Int32) (v4 : Int32) : Option (Int32 × MS) := f_X6_train_41 w36 v1 v2 v3 v4 1
def f_X6_train (τ : MS) (x1 : Int32) (x2 : Int32) (x3 : Int32) (x4 : Int32) : Option (Int32 × MS) := (f_X6_isNoTrack x1).bind fun z40 => (f_X6_start τ z40 1).bind fun z45 => (if z45.1 = 0 then (f_X6_isNoPiece x2 x3).bind fun z51 => (if z51 = 0 then (if x2 = 0 then f_X6_train_36 z45.2 x1 x2 x3 x4 else (f_X6_isIn x4 1 12).bind fun z58 => (if z58 = 0 then f_X6_train_36 z45.2 x1 x2 x3 x4 else f_X6_train_41 z45.2 x1 x2 x3 x4 0)) else f_X6_train_36 z45.2 x1 x2 x3 x4) else some (0, z45.2))
theorem mc_X6_train : MCode yX6_train cX6_train 6 (some .int) := ⟨wd_1316, wd_5, by decide, by decide⟩
theorem np_X6_train : (parseMethodDescriptor yX6_train.desc).map (fun d => d.parameters.length) = some 4 := by decide +kernel
set_option maxHeartbeats 4000000 in
set_option maxRecDepth 100000 in
theorem c_X6_train {l : Launch} {D : va_G} {κ : Nat → ClassId} {ζ : Nat → Nat} {L : List Nat} {F : Nat → va_E} {τ : MS} {B : Nat → Nat} (hI : MI κ ζ B τ L F) (x1 : Int32) (x2 : Int32) (x3 : Int32) (x4 : Int32) {res : (Int32 × MS)} (hf : f_X6_train τ x1 x2 x3 x4 = some res) : MtI l D cls (ty5 κ) ζ yX6_train cX6_train 6 (some .int) 10 96 3168 ([.ref (B 0), .int x1, .int x2, .int x3, .int x4] : List Value) L F (fun r L' F' => res.1 = r ∧ MI κ ζ B res.2 L' F' ∧ FrM L F L' F') := by
  refine MtI.of (by decide) (Nat.le_of_ble_eq_true rfl) ?_
  intro p e s m below meth c S hr hlk _ hK hW hST ls hl
  have hl : lv_has ls 6 [(0, .ref (B 0)), (1, .int x1), (2, .int x2), (3, .int x3), (4, .int x4)] := hl
  have hFr : FrM L F L F := FrM.rf
  have B79 : ∀  (N : Nat), (∀ (w79 : MS) (v1 : Int32) (v2 : Int32) (v3 : Int32) (v4 : Int32) (v5 : Int32), (lpn (f_X6_train_79 ) N) (w79, v1, v2, v3, v4, v5) = some res → ∀ (K79 : List Nat) (G79 : Nat → va_E), MI κ ζ B w79 K79 G79 → FrM L F K79 G79 → ∀ (H79 : Heap) (l79 : List Loc) (ls : Array Slot) (cc ss : Nat), HW D cls L s H79 l79 K79 G79 → cc + (N * 4 + 0) ≤ 96 → ss ≤ 33 * cc → lv_has ls 6 [(0, .ref (B 0)), (1, .int v1), (2, .int v2), (3, .int v3), (4, .int v4), (5, .int v5)] → W p l e (Rm 10 96 3168) s m ([.ref (B 0), .int x1, .int x2, .int x3, .int x4] : List Value).toArray below meth c H79 l79 cc ss (EnI D cls s below ([.ref (B 0), .int x1, .int x2, .int x3, .int x4] : List Value).toArray 96 3168 L (fun r L' F' => res.1 = r ∧ MI κ ζ B res.2 L' F' ∧ FrM L F L' F')) (F0 m 79 ls [])) := by
    intro  N
    induction N with
    | zero => intro w79 v1 v2 v3 v4 v5 hf K79 G79 hI hFr H79 l79 ls cc ss hW hcc hss hl; cases hf
    | succ N ih =>
      intro w79 v1 v2 v3 v4 v5 hf K79 G79 hI hFr H79 l79 ls cc ss hW hcc hss hl
      have hf : f_X6_train_79  (lpn (f_X6_train_79 ) N) (w79, v1, v2, v3, v4, v5) = some res := hf
      generalize lpn (f_X6_train_79 ) N = k79 at hf ih
      have hnd79 : 0 ≤ N * 4 + 0 := by omega
      have hcc : cc + (4 + (N * 4 + 0)) ≤ 96 := by omega
      have hk79 := ih
      generalize N * 4 + 0 = nd79 at hnd79 hcc hk79
      unfold f_X6_train_79 at hf
      try dsimp only at hf
      refine lv_iload S.1 S.2.1 dX6_train_79 (lv_at hl 5 rfl) ?_
      refine lv_iload S.1 S.2.1 dX6_train_81 (lv_at hl 4 rfl) ?_
      refine lv_icmp_ge (tgt := 122) S.1 S.2.1 dX6_train_83 (by decide) (fun c1 => ?_) (fun c1 => ?_)
      · have hf := (if_pos c1).symm.trans hf
        refine lv_aload_n S.1 S.2.1 dX6_train_122 rfl (lv_at hl 0 rfl) ?_
        refine lv_iload_n S.1 S.2.1 dX6_train_123 rfl (lv_at hl 1 rfl) ?_
        obtain ⟨z6, hz, hf⟩ := ob hf
        refine pk_cVI (As := [.int v1]) (rest := []) S hK hST hW (c_X6_size hI v1 hz) mc_X6_size wd_1199 wd_1201 wd_1703 rfl np_X6_size (hI.mem (by decide)) hI.this rfl rfl hl.1 rfl (Nat.le_of_ble_eq_true rfl) dX6_train_124 ⟨by decide, by decide⟩ ⟨rmc (by omega), rms (by omega)⟩ (fun r L2 F3 H4 l5 hp hW => ?_)
        obtain ⟨rfl, rfl, rfl⟩ := hp
        exact pk_iret S hr hlk hW (eqm (P := fun z => z.1 = z6 ∧ MI κ ζ B z.2 K79 G79 ∧ FrM L F K79 G79) ⟨rfl, hI, hFr⟩ (Option.some.inj hf)) (by omega) (by omega) dX6_train_127
      · have hf := (if_neg c1).symm.trans hf
        refine lv_aload_n S.1 S.2.1 dX6_train_86 rfl (lv_at hl 0 rfl) ?_
        refine lv_iload_n S.1 S.2.1 dX6_train_87 rfl (lv_at hl 1 rfl) ?_
        refine lv_iconst (v := 1) S.1 S.2.1 dX6_train_88 (by decide) ?_
        refine lv_iconst (v := 1) S.1 S.2.1 dX6_train_89 (by decide) ?_
        refine lv_iload_n S.1 S.2.1 dX6_train_90 rfl (lv_at hl 2 rfl) ?_
        refine lv_iconst (v := 1) S.1 S.2.1 dX6_train_91 (by decide) ?_
        refine lv_isub S.1 S.2.1 dX6_train_92 ?_
        refine lv_iload S.1 S.2.1 dX6_train_93 (lv_at hl 5 rfl) ?_
        refine lv_iadd S.1 S.2.1 dX6_train_95 ?_
        refine lv_bipush (v := 9) S.1 S.2.1 dX6_train_96 (by decide) ?_
        refine pk_irem S dX6_train_98 (by decide) ?_
        refine lv_iadd S.1 S.2.1 dX6_train_99 ?_
        refine lv_iload_n S.1 S.2.1 dX6_train_100 rfl (lv_at hl 3 rfl) ?_
        refine lv_bipush (v := 7) S.1 S.2.1 dX6_train_101 (by decide) ?_
        refine lv_iload S.1 S.2.1 dX6_train_103 (lv_at hl 5 rfl) ?_
        refine lv_imul S.1 S.2.1 dX6_train_105 ?_
        refine lv_iadd S.1 S.2.1 dX6_train_106 ?_
        refine lv_bipush (v := 100) S.1 S.2.1 dX6_train_107 (by decide) ?_
        refine pk_irem S dX6_train_109 (by decide) ?_
        obtain ⟨z11, hz, hf⟩ := ob hf
        refine pk_cSI (As := [.int (1 + (jrem ((v2 - 1) + v5) 9)), .int (jrem (v3 + (7 * v5)) 100)]) (rest := [.int 1, .int v1, .ref (B 0)]) S hK hST hW (c_X6_code  (1 + (jrem ((v2 - 1) + v5) 9)) (jrem (v3 + (7 * v5)) 100) hz) mc_X6_code wd_1219 wd_1220 np_X6_code rfl hl.1 rfl (Nat.le_of_ble_eq_true rfl) dX6_train_110 ⟨by decide, by decide⟩ ⟨rmc (by omega), rms (by omega)⟩ (fun r L7 F8 H9 l10 hp hW => ?_)
        obtain ⟨rfl, rfl, rfl⟩ := hp
        obtain ⟨z16, hz, hf⟩ := ob hf
        refine pk_cVV (As := [.int v1, .int 1, .int z11]) (rest := []) S hK hST hW (c_X6_stepIn hI v1 1 z11 hz) mc_X6_stepIn wd_1225 wd_1227 wd_1704 rfl np_X6_stepIn (hI.mem (by decide)) hI.this rfl rfl hl.1 rfl (Nat.le_of_ble_eq_true rfl) dX6_train_113 ⟨by decide, by decide⟩ ⟨rmc (by omega), rms (by omega)⟩ (fun L12 F13 H14 l15 hp hW => ?_)
        obtain ⟨hI, hF9⟩ := hp
        have hFr := hFr.tr hF9
        obtain ⟨y17, ey17⟩ : ∃ y : Int32, y = v5 + 1 := ⟨_, rfl⟩
        have hf := nm_at hf ey17
        refine lv_iinc (v := y17) (lv' := [(5, .int y17), (0, .ref (B 0)), (1, .int v1), (2, .int v2), (3, .int v3), (4, .int v4)]) S.1 S.2.1 dX6_train_116 hl (k := 5) rfl (by rw [ey17]; rfl) (by decide) rfl (fun ls hl => ?_)
        refine lv_goto (tgt := 79) S.1 S.2.1 dX6_train_119 (by decide) ?_
        exact hk79 z16 v1 v2 v3 v4 y17 hf L12 F13 hI hFr _ _ _ _ _ hW (by omega) (by omega) (lv_sub hl [1, 2, 3, 4, 5, 0] rfl)
  have B67 : ∀  (w67 : MS) (v1 : Int32) (v2 : Int32) (v3 : Int32) (v4 : Int32) (u1 : Int32), f_X6_train_67 w67 v1 v2 v3 v4 u1 = some res → ∀ (K67 : List Nat) (G67 : Nat → va_E), MI κ ζ B w67 K67 G67 → FrM L F K67 G67 → ∀ (H67 : Heap) (l67 : List Loc) (ls : Array Slot) (cc ss : Nat), HW D cls L s H67 l67 K67 G67 → cc + (96) ≤ 96 → ss ≤ 33 * cc → lv_has ls 6 [(0, .ref (B 0)), (1, .int v1), (2, .int v2), (3, .int v3), (4, .int v4)] → W p l e (Rm 10 96 3168) s m ([.ref (B 0), .int x1, .int x2, .int x3, .int x4] : List Value).toArray below meth c H67 l67 cc ss (EnI D cls s below ([.ref (B 0), .int x1, .int x2, .int x3, .int x4] : List Value).toArray 96 3168 L (fun r L' F' => res.1 = r ∧ MI κ ζ B res.2 L' F' ∧ FrM L F L' F')) (F0 m 67 ls [.int u1, .ref (B 0)]) := by
    intro  w67 v1 v2 v3 v4 u1 hf K67 G67 hI hFr H67 l67 ls cc ss hW hcc hss hl
    unfold f_X6_train_67 at hf
    refine lv_iconst (v := 3) S.1 S.2.1 dX6_train_67 (by decide) ?_
    obtain ⟨z22, hz, hf⟩ := ob hf
    refine pk_cVI (As := [.int u1, .int 3]) (rest := []) S hK hST hW (c_X6_refuse hI u1 3 hz) mc_X6_refuse wd_1192 wd_1194 wd_1702 rfl np_X6_refuse (hI.mem (by decide)) hI.this rfl rfl hl.1 rfl (Nat.le_of_ble_eq_true rfl) dX6_train_68 ⟨by decide, by decide⟩ ⟨rmc (by omega), rms (by omega)⟩ (fun r L18 F19 H20 l21 hp hW => ?_)
    obtain ⟨rfl, hI, hF9⟩ := hp
    have hFr := hFr.tr hF9
    refine lv_if_eq (tgt := 76) S.1 S.2.1 dX6_train_71 (by decide) (fun c23 => ?_) (fun c23 => ?_)
    · have hf := (if_pos c23).symm.trans hf
      refine lv_iconst (v := 0) S.1 S.2.1 dX6_train_76 (by decide) ?_
      refine lv_istore (lv' := [(5, .int 0), (0, .ref (B 0)), (1, .int v1), (2, .int v2), (3, .int v3), (4, .int v4)]) S.1 S.2.1 dX6_train_77 hl (by decide) rfl (fun ls hl => ?_)
      exact B79  24 z22.2 v1 v2 v3 v4 0 hf L18 F19 hI hFr _ _ _ _ _ hW (by omega) (by omega) (lv_sub hl [1, 2, 3, 4, 5, 0] rfl)
    · have hf := (if_neg c23).symm.trans hf
      refine lv_iconst (v := 0) S.1 S.2.1 dX6_train_74 (by decide) ?_
      exact pk_iret S hr hlk hW (eqm (P := fun z => z.1 = 0 ∧ MI κ ζ B z.2 L18 F19 ∧ FrM L F L18 F19) ⟨rfl, hI, hFr⟩ (Option.some.inj hf)) (by omega) (by omega) dX6_train_75
  have B41 : ∀  (w41 : MS) (v1 : Int32) (v2 : Int32) (v3 : Int32) (v4 : Int32) (u1 : Int32), f_X6_train_41 w41 v1 v2 v3 v4 u1 = some res → ∀ (K41 : List Nat) (G41 : Nat → va_E), MI κ ζ B w41 K41 G41 → FrM L F K41 G41 → ∀ (H41 : Heap) (l41 : List Loc) (ls : Array Slot) (cc ss : Nat), HW D cls L s H41 l41 K41 G41 → cc + (96) ≤ 96 → ss ≤ 33 * cc → lv_has ls 6 [(0, .ref (B 0)), (1, .int v1), (2, .int v2), (3, .int v3), (4, .int v4)] → W p l e (Rm 10 96 3168) s m ([.ref (B 0), .int x1, .int x2, .int x3, .int x4] : List Value).toArray below meth c H41 l41 cc ss (EnI D cls s below ([.ref (B 0), .int x1, .int x2, .int x3, .int x4] : List Value).toArray 96 3168 L (fun r L' F' => res.1 = r ∧ MI κ ζ B res.2 L' F' ∧ FrM L F L' F')) (F0 m 41 ls [.int u1, .ref (B 0)]) := by
    intro  w41 v1 v2 v3 v4 u1 hf K41 G41 hI hFr H41 l41 ls cc ss hW hcc hss hl
    unfold f_X6_train_41 at hf
    refine lv_iconst (v := 2) S.1 S.2.1 dX6_train_41 (by decide) ?_
    obtain ⟨z28, hz, hf⟩ := ob hf
    refine pk_cVI (As := [.int u1, .int 2]) (rest := []) S hK hST hW (c_X6_refuse hI u1 2 hz) mc_X6_refuse wd_1192 wd_1194 wd_1702 rfl np_X6_refuse (hI.mem (by decide)) hI.this rfl rfl hl.1 rfl (Nat.le_of_ble_eq_true rfl) dX6_train_42 ⟨by decide, by decide⟩ ⟨rmc (by omega), rms (by omega)⟩ (fun r L24 F25 H26 l27 hp hW => ?_)
    obtain ⟨rfl, hI, hF9⟩ := hp
    have hFr := hFr.tr hF9
    refine lv_if_ne (tgt := 74) S.1 S.2.1 dX6_train_45 (by decide) (fun c29 => ?_) (fun c29 => ?_)
    · have hf := (if_neg c29).symm.trans hf
      refine lv_iconst (v := 0) S.1 S.2.1 dX6_train_74 (by decide) ?_
      exact pk_iret S hr hlk hW (eqm (P := fun z => z.1 = 0 ∧ MI κ ζ B z.2 L24 F25 ∧ FrM L F L24 F25) ⟨rfl, hI, hFr⟩ (Option.some.inj hf)) (by omega) (by omega) dX6_train_75
    · have hf := (if_pos c29).symm.trans hf
      refine lv_aload_n S.1 S.2.1 dX6_train_48 rfl (lv_at hl 0 rfl) ?_
      refine lv_aload_n S.1 S.2.1 dX6_train_49 rfl (lv_at hl 0 rfl) ?_
      refine lv_iload_n S.1 S.2.1 dX6_train_50 rfl (lv_at hl 1 rfl) ?_
      obtain ⟨z34, hz, hf⟩ := ob hf
      refine pk_cVI (As := [.int v1]) (rest := [.ref (B 0)]) S hK hST hW (c_X6_size hI v1 hz) mc_X6_size wd_1199 wd_1201 wd_1703 rfl np_X6_size (hI.mem (by decide)) hI.this rfl rfl hl.1 rfl (Nat.le_of_ble_eq_true rfl) dX6_train_51 ⟨by decide, by decide⟩ ⟨rmc (by omega), rms (by omega)⟩ (fun r L30 F31 H32 l33 hp hW => ?_)
      obtain ⟨rfl, rfl, rfl⟩ := hp
      refine lv_iload S.1 S.2.1 dX6_train_54 (lv_at hl 4 rfl) ?_
      refine lv_iadd S.1 S.2.1 dX6_train_56 ?_
      refine lv_bipush (v := 20) S.1 S.2.1 dX6_train_57 (by decide) ?_
      refine lv_icmp_le (tgt := 66) S.1 S.2.1 dX6_train_59 (by decide) (fun c35 => ?_) (fun c35 => ?_)
      · have hf := (if_pos c35).symm.trans hf
        refine lv_iconst (v := 0) S.1 S.2.1 dX6_train_66 (by decide) ?_
        exact B67  z28.2 v1 v2 v3 v4 0 hf L24 F25 hI hFr _ _ _ _ _ hW (by omega) (by omega) (lv_sub hl [0, 1, 2, 3, 4] rfl)
      · have hf := (if_neg c35).symm.trans hf
        refine lv_iconst (v := 1) S.1 S.2.1 dX6_train_62 (by decide) ?_
        refine lv_goto (tgt := 67) S.1 S.2.1 dX6_train_63 (by decide) ?_
        exact B67  z28.2 v1 v2 v3 v4 1 hf L24 F25 hI hFr _ _ _ _ _ hW (by omega) (by omega) (lv_sub hl [0, 1, 2, 3, 4] rfl)
  have B36 : ∀  (w36 : MS) (v1 : Int32) (v2 : Int32) (v3 : Int32) (v4 : Int32), f_X6_train_36 w36 v1 v2 v3 v4 = some res → ∀ (K36 : List Nat) (G36 : Nat → va_E), MI κ ζ B w36 K36 G36 → FrM L F K36 G36 → ∀ (H36 : Heap) (l36 : List Loc) (ls : Array Slot) (cc ss : Nat), HW D cls L s H36 l36 K36 G36 → cc + (96) ≤ 96 → ss ≤ 33 * cc → lv_has ls 6 [(0, .ref (B 0)), (1, .int v1), (2, .int v2), (3, .int v3), (4, .int v4)] → W p l e (Rm 10 96 3168) s m ([.ref (B 0), .int x1, .int x2, .int x3, .int x4] : List Value).toArray below meth c H36 l36 cc ss (EnI D cls s below ([.ref (B 0), .int x1, .int x2, .int x3, .int x4] : List Value).toArray 96 3168 L (fun r L' F' => res.1 = r ∧ MI κ ζ B res.2 L' F' ∧ FrM L F L' F')) (F0 m 36 ls [.ref (B 0)]) := by
    intro  w36 v1 v2 v3 v4 hf K36 G36 hI hFr H36 l36 ls cc ss hW hcc hss hl
    unfold f_X6_train_36 at hf
    refine lv_iconst (v := 1) S.1 S.2.1 dX6_train_36 (by decide) ?_
    refine lv_goto (tgt := 41) S.1 S.2.1 dX6_train_37 (by decide) ?_
    exact B41  w36 v1 v2 v3 v4 1 hf K36 G36 hI hFr _ _ _ _ _ hW (by omega) (by omega) (lv_sub hl [0, 1, 2, 3, 4] rfl)
  unfold f_X6_train at hf
  refine lv_aload_n S.1 S.2.1 dX6_train_0 rfl (lv_at hl 0 rfl) ?_
  refine lv_iload_n S.1 S.2.1 dX6_train_1 rfl (lv_at hl 1 rfl) ?_
  obtain ⟨z40, hz, hf⟩ := ob hf
  refine pk_cSI (As := [.int x1]) (rest := [.ref (B 0)]) S hK hST hW (c_X6_isNoTrack  x1 hz) mc_X6_isNoTrack wd_1182 wd_1183 np_X6_isNoTrack rfl hl.1 rfl (Nat.le_of_ble_eq_true rfl) dX6_train_2 ⟨by decide, by decide⟩ ⟨rmc (by omega), rms (by omega)⟩ (fun r L36 F37 H38 l39 hp hW => ?_)
  obtain ⟨rfl, rfl, rfl⟩ := hp
  refine lv_iconst (v := 1) S.1 S.2.1 dX6_train_5 (by decide) ?_
  obtain ⟨z45, hz, hf⟩ := ob hf
  refine pk_cVI (As := [.int z40, .int 1]) (rest := []) S hK hST hW (c_X6_start hI z40 1 hz) mc_X6_start wd_1188 wd_1190 wd_1701 rfl np_X6_start (hI.mem (by decide)) hI.this rfl rfl hl.1 rfl (Nat.le_of_ble_eq_true rfl) dX6_train_6 ⟨by decide, by decide⟩ ⟨rmc (by omega), rms (by omega)⟩ (fun r L41 F42 H43 l44 hp hW => ?_)
  obtain ⟨rfl, hI, hF9⟩ := hp
  have hFr := hFr.tr hF9
  refine lv_if_ne (tgt := 74) S.1 S.2.1 dX6_train_9 (by decide) (fun c46 => ?_) (fun c46 => ?_)
  · have hf := (if_neg c46).symm.trans hf
    refine lv_iconst (v := 0) S.1 S.2.1 dX6_train_74 (by decide) ?_
    exact pk_iret S hr hlk hW (eqm (P := fun z => z.1 = 0 ∧ MI κ ζ B z.2 L41 F42 ∧ FrM L F L41 F42) ⟨rfl, hI, hFr⟩ (Option.some.inj hf)) (by omega) (by omega) dX6_train_75
  · have hf := (if_pos c46).symm.trans hf
    refine lv_aload_n S.1 S.2.1 dX6_train_12 rfl (lv_at hl 0 rfl) ?_
    refine lv_iload_n S.1 S.2.1 dX6_train_13 rfl (lv_at hl 2 rfl) ?_
    refine lv_iload_n S.1 S.2.1 dX6_train_14 rfl (lv_at hl 3 rfl) ?_
    obtain ⟨z51, hz, hf⟩ := ob hf
    refine pk_cSI (As := [.int x2, .int x3]) (rest := [.ref (B 0)]) S hK hST hW (c_X6_isNoPiece  x2 x3 hz) mc_X6_isNoPiece wd_1196 wd_1197 np_X6_isNoPiece rfl hl.1 rfl (Nat.le_of_ble_eq_true rfl) dX6_train_15 ⟨by decide, by decide⟩ ⟨rmc (by omega), rms (by omega)⟩ (fun r L47 F48 H49 l50 hp hW => ?_)
    obtain ⟨rfl, rfl, rfl⟩ := hp
    refine lv_if_ne (tgt := 36) S.1 S.2.1 dX6_train_18 (by decide) (fun c52 => ?_) (fun c52 => ?_)
    · have hf := (if_neg c52).symm.trans hf
      exact B36  z45.2 x1 x2 x3 x4 hf L41 F42 hI hFr _ _ _ _ _ hW (by omega) (by omega) (lv_sub hl [0, 1, 2, 3, 4] rfl)
    · have hf := (if_pos c52).symm.trans hf
      refine lv_iload_n S.1 S.2.1 dX6_train_21 rfl (lv_at hl 2 rfl) ?_
      refine lv_if_eq (tgt := 36) S.1 S.2.1 dX6_train_22 (by decide) (fun c53 => ?_) (fun c53 => ?_)
      · have hf := (if_pos c53).symm.trans hf
        exact B36  z45.2 x1 x2 x3 x4 hf L41 F42 hI hFr _ _ _ _ _ hW (by omega) (by omega) (lv_sub hl [0, 1, 2, 3, 4] rfl)
      · have hf := (if_neg c53).symm.trans hf
        refine lv_iload S.1 S.2.1 dX6_train_25 (lv_at hl 4 rfl) ?_
        refine lv_iconst (v := 1) S.1 S.2.1 dX6_train_27 (by decide) ?_
        refine lv_bipush (v := 12) S.1 S.2.1 dX6_train_28 (by decide) ?_
        obtain ⟨z58, hz, hf⟩ := ob hf
        refine pk_cSI (As := [.int x4, .int 1, .int 12]) (rest := [.ref (B 0)]) S hK hST hW (c_X6_isIn  x4 1 12 hz) mc_X6_isIn wd_1185 wd_1186 np_X6_isIn rfl hl.1 rfl (Nat.le_of_ble_eq_true rfl) dX6_train_30 ⟨by decide, by decide⟩ ⟨rmc (by omega), rms (by omega)⟩ (fun r L54 F55 H56 l57 hp hW => ?_)
        obtain ⟨rfl, rfl, rfl⟩ := hp
        refine lv_if_ne (tgt := 40) S.1 S.2.1 dX6_train_33 (by decide) (fun c59 => ?_) (fun c59 => ?_)
        · have hf := (if_neg c59).symm.trans hf
          refine lv_iconst (v := 0) S.1 S.2.1 dX6_train_40 (by decide) ?_
          exact B41  z45.2 x1 x2 x3 x4 0 hf L41 F42 hI hFr _ _ _ _ _ hW (by omega) (by omega) (lv_sub hl [0, 1, 2, 3, 4] rfl)
        · have hf := (if_pos c59).symm.trans hf
          exact B36  z45.2 x1 x2 x3 x4 hf L41 F42 hI hFr _ _ _ _ _ hW (by omega) (by omega) (lv_sub hl [0, 1, 2, 3, 4] rfl)
def f_X6_off (τ : MS) (x1 : Int32) (x2 : Int32) (x3 : Int32) : Option (Int32 × MS) := (f_X6_size τ x1).bind fun z5 => (if z5 = 0 then some (x3, τ) else (f_X6_stepOut τ x1 x2).bind fun z11 => some (z11.1, z11.2))
theorem mc_X6_off : MCode yX6_off cX6_off 4 (some .int) := ⟨wd_1324, wd_5, by decide, by decide⟩
theorem np_X6_off : (parseMethodDescriptor yX6_off.desc).map (fun d => d.parameters.length) = some 3 := by decide +kernel
set_option maxHeartbeats 4000000 in
set_option maxRecDepth 100000 in
theorem c_X6_off {l : Launch} {D : va_G} {κ : Nat → ClassId} {ζ : Nat → Nat} {L : List Nat} {F : Nat → va_E} {τ : MS} {B : Nat → Nat} (hI : MI κ ζ B τ L F) (x1 : Int32) (x2 : Int32) (x3 : Int32) {res : (Int32 × MS)} (hf : f_X6_off τ x1 x2 x3 = some res) : MtI l D cls (ty5 κ) ζ yX6_off cX6_off 4 (some .int) 10 2 66 ([.ref (B 0), .int x1, .int x2, .int x3] : List Value) L F (fun r L' F' => res.1 = r ∧ MI κ ζ B res.2 L' F' ∧ FrM L F L' F') := by
  refine MtI.of (by decide) (Nat.le_of_ble_eq_true rfl) ?_
  intro p e s m below meth c S hr hlk _ hK hW hST ls hl
  have hl : lv_has ls 4 [(0, .ref (B 0)), (1, .int x1), (2, .int x2), (3, .int x3)] := hl
  have hFr : FrM L F L F := FrM.rf
  unfold f_X6_off at hf
  refine lv_aload_n S.1 S.2.1 dX6_off_0 rfl (lv_at hl 0 rfl) ?_
  refine lv_iload_n S.1 S.2.1 dX6_off_1 rfl (lv_at hl 1 rfl) ?_
  obtain ⟨z5, hz, hf⟩ := ob hf
  refine pk_cVI (As := [.int x1]) (rest := []) S hK hST hW (c_X6_size hI x1 hz) mc_X6_size wd_1199 wd_1201 wd_1703 rfl np_X6_size (hI.mem (by decide)) hI.this rfl rfl hl.1 rfl (Nat.le_of_ble_eq_true rfl) dX6_off_2 ⟨by decide, by decide⟩ ⟨rmc (by omega), rms (by omega)⟩ (fun r L1 F2 H3 l4 hp hW => ?_)
  obtain ⟨rfl, rfl, rfl⟩ := hp
  refine lv_if_ne (tgt := 12) S.1 S.2.1 dX6_off_5 (by decide) (fun c6 => ?_) (fun c6 => ?_)
  · have hf := (if_neg c6).symm.trans hf
    refine lv_aload_n S.1 S.2.1 dX6_off_12 rfl (lv_at hl 0 rfl) ?_
    refine lv_iload_n S.1 S.2.1 dX6_off_13 rfl (lv_at hl 1 rfl) ?_
    refine lv_iload_n S.1 S.2.1 dX6_off_14 rfl (lv_at hl 2 rfl) ?_
    obtain ⟨z11, hz, hf⟩ := ob hf
    refine pk_cVI (As := [.int x1, .int x2]) (rest := []) S hK hST hW (c_X6_stepOut hI x1 x2 hz) mc_X6_stepOut wd_1325 wd_1327 wd_1713 rfl np_X6_stepOut (hI.mem (by decide)) hI.this rfl rfl hl.1 rfl (Nat.le_of_ble_eq_true rfl) dX6_off_15 ⟨by decide, by decide⟩ ⟨rmc (by omega), rms (by omega)⟩ (fun r L7 F8 H9 l10 hp hW => ?_)
    obtain ⟨rfl, hI, hF9⟩ := hp
    have hFr := hFr.tr hF9
    exact pk_iret S hr hlk hW (eqm (P := fun z => z.1 = z11.1 ∧ MI κ ζ B z.2 L7 F8 ∧ FrM L F L7 F8) ⟨rfl, hI, hFr⟩ (Option.some.inj hf)) (by omega) (by omega) dX6_off_18
  · have hf := (if_pos c6).symm.trans hf
    refine lv_iload_n S.1 S.2.1 dX6_off_8 rfl (lv_at hl 3 rfl) ?_
    refine lv_goto (tgt := 18) S.1 S.2.1 dX6_off_9 (by decide) ?_
    exact pk_iret S hr hlk hW (eqm (P := fun z => z.1 = x3 ∧ MI κ ζ B z.2 L F ∧ FrM L F L F) ⟨rfl, hI, hFr⟩ (Option.some.inj hf)) (by omega) (by omega) dX6_off_18
def f_X6_take (τ : MS) (x1 : Int32) (x2 : Int32) : Option (Int32 × MS) := (f_X6_isNoTrack x1).bind fun z5 => (f_X6_start τ z5 1).bind fun z10 => (if z10.1 = 0 then (f_X6_off z10.2 x1 x2 ((-9))).bind fun z16 => some (z16.1, z16.2) else some (0, z10.2))
theorem mc_X6_take : MCode yX6_take cX6_take 3 (some .int) := ⟨wd_1320, wd_5, by decide, by decide⟩
theorem np_X6_take : (parseMethodDescriptor yX6_take.desc).map (fun d => d.parameters.length) = some 2 := by decide +kernel
set_option maxHeartbeats 4000000 in
set_option maxRecDepth 100000 in
theorem c_X6_take {l : Launch} {D : va_G} {κ : Nat → ClassId} {ζ : Nat → Nat} {L : List Nat} {F : Nat → va_E} {τ : MS} {B : Nat → Nat} (hI : MI κ ζ B τ L F) (x1 : Int32) (x2 : Int32) {res : (Int32 × MS)} (hf : f_X6_take τ x1 x2 = some res) : MtI l D cls (ty5 κ) ζ yX6_take cX6_take 3 (some .int) 11 2 66 ([.ref (B 0), .int x1, .int x2] : List Value) L F (fun r L' F' => res.1 = r ∧ MI κ ζ B res.2 L' F' ∧ FrM L F L' F') := by
  refine MtI.of (by decide) (Nat.le_of_ble_eq_true rfl) ?_
  intro p e s m below meth c S hr hlk _ hK hW hST ls hl
  have hl : lv_has ls 3 [(0, .ref (B 0)), (1, .int x1), (2, .int x2)] := hl
  have hFr : FrM L F L F := FrM.rf
  unfold f_X6_take at hf
  refine lv_aload_n S.1 S.2.1 dX6_take_0 rfl (lv_at hl 0 rfl) ?_
  refine lv_iload_n S.1 S.2.1 dX6_take_1 rfl (lv_at hl 1 rfl) ?_
  obtain ⟨z5, hz, hf⟩ := ob hf
  refine pk_cSI (As := [.int x1]) (rest := [.ref (B 0)]) S hK hST hW (c_X6_isNoTrack  x1 hz) mc_X6_isNoTrack wd_1182 wd_1183 np_X6_isNoTrack rfl hl.1 rfl (Nat.le_of_ble_eq_true rfl) dX6_take_2 ⟨by decide, by decide⟩ ⟨rmc (by omega), rms (by omega)⟩ (fun r L1 F2 H3 l4 hp hW => ?_)
  obtain ⟨rfl, rfl, rfl⟩ := hp
  refine lv_iconst (v := 1) S.1 S.2.1 dX6_take_5 (by decide) ?_
  obtain ⟨z10, hz, hf⟩ := ob hf
  refine pk_cVI (As := [.int z5, .int 1]) (rest := []) S hK hST hW (c_X6_start hI z5 1 hz) mc_X6_start wd_1188 wd_1190 wd_1701 rfl np_X6_start (hI.mem (by decide)) hI.this rfl rfl hl.1 rfl (Nat.le_of_ble_eq_true rfl) dX6_take_6 ⟨by decide, by decide⟩ ⟨rmc (by omega), rms (by omega)⟩ (fun r L6 F7 H8 l9 hp hW => ?_)
  obtain ⟨rfl, hI, hF9⟩ := hp
  have hFr := hFr.tr hF9
  refine lv_if_eq (tgt := 16) S.1 S.2.1 dX6_take_9 (by decide) (fun c11 => ?_) (fun c11 => ?_)
  · have hf := (if_pos c11).symm.trans hf
    refine lv_aload_n S.1 S.2.1 dX6_take_16 rfl (lv_at hl 0 rfl) ?_
    refine lv_iload_n S.1 S.2.1 dX6_take_17 rfl (lv_at hl 1 rfl) ?_
    refine lv_iload_n S.1 S.2.1 dX6_take_18 rfl (lv_at hl 2 rfl) ?_
    refine lv_bipush (v := (-9)) S.1 S.2.1 dX6_take_19 (by decide) ?_
    obtain ⟨z16, hz, hf⟩ := ob hf
    refine pk_cVI (As := [.int x1, .int x2, .int ((-9))]) (rest := []) S hK hST hW (c_X6_off hI x1 x2 ((-9)) hz) mc_X6_off wd_1321 wd_1323 wd_1712 rfl np_X6_off (hI.mem (by decide)) hI.this rfl rfl hl.1 rfl (Nat.le_of_ble_eq_true rfl) dX6_take_21 ⟨by decide, by decide⟩ ⟨rmc (by omega), rms (by omega)⟩ (fun r L12 F13 H14 l15 hp hW => ?_)
    obtain ⟨rfl, hI, hF9⟩ := hp
    have hFr := hFr.tr hF9
    exact pk_iret S hr hlk hW (eqm (P := fun z => z.1 = z16.1 ∧ MI κ ζ B z.2 L12 F13 ∧ FrM L F L12 F13) ⟨rfl, hI, hFr⟩ (Option.some.inj hf)) (by omega) (by omega) dX6_take_24
  · have hf := (if_neg c11).symm.trans hf
    refine lv_iconst (v := 0) S.1 S.2.1 dX6_take_12 (by decide) ?_
    refine lv_goto (tgt := 24) S.1 S.2.1 dX6_take_13 (by decide) ?_
    exact pk_iret S hr hlk hW (eqm (P := fun z => z.1 = 0 ∧ MI κ ζ B z.2 L6 F7 ∧ FrM L F L6 F7) ⟨rfl, hI, hFr⟩ (Option.some.inj hf)) (by omega) (by omega) dX6_take_24
def f_X6_poll (τ : MS) (x1 : Int32) (x2 : Int32) : Option (Int32 × MS) := (f_X6_isNoTrack x1).bind fun z5 => (f_X6_start τ z5 1).bind fun z10 => (if z10.1 = 0 then (f_X6_off z10.2 x1 x2 0).bind fun z16 => some (z16.1, z16.2) else some (0, z10.2))
theorem mc_X6_poll : MCode yX6_poll cX6_poll 3 (some .int) := ⟨wd_1336, wd_5, by decide, by decide⟩
theorem np_X6_poll : (parseMethodDescriptor yX6_poll.desc).map (fun d => d.parameters.length) = some 2 := by decide +kernel
set_option maxHeartbeats 4000000 in
set_option maxRecDepth 100000 in
theorem c_X6_poll {l : Launch} {D : va_G} {κ : Nat → ClassId} {ζ : Nat → Nat} {L : List Nat} {F : Nat → va_E} {τ : MS} {B : Nat → Nat} (hI : MI κ ζ B τ L F) (x1 : Int32) (x2 : Int32) {res : (Int32 × MS)} (hf : f_X6_poll τ x1 x2 = some res) : MtI l D cls (ty5 κ) ζ yX6_poll cX6_poll 3 (some .int) 11 2 66 ([.ref (B 0), .int x1, .int x2] : List Value) L F (fun r L' F' => res.1 = r ∧ MI κ ζ B res.2 L' F' ∧ FrM L F L' F') := by
  refine MtI.of (by decide) (Nat.le_of_ble_eq_true rfl) ?_
  intro p e s m below meth c S hr hlk _ hK hW hST ls hl
  have hl : lv_has ls 3 [(0, .ref (B 0)), (1, .int x1), (2, .int x2)] := hl
  have hFr : FrM L F L F := FrM.rf
  unfold f_X6_poll at hf
  refine lv_aload_n S.1 S.2.1 dX6_poll_0 rfl (lv_at hl 0 rfl) ?_
  refine lv_iload_n S.1 S.2.1 dX6_poll_1 rfl (lv_at hl 1 rfl) ?_
  obtain ⟨z5, hz, hf⟩ := ob hf
  refine pk_cSI (As := [.int x1]) (rest := [.ref (B 0)]) S hK hST hW (c_X6_isNoTrack  x1 hz) mc_X6_isNoTrack wd_1182 wd_1183 np_X6_isNoTrack rfl hl.1 rfl (Nat.le_of_ble_eq_true rfl) dX6_poll_2 ⟨by decide, by decide⟩ ⟨rmc (by omega), rms (by omega)⟩ (fun r L1 F2 H3 l4 hp hW => ?_)
  obtain ⟨rfl, rfl, rfl⟩ := hp
  refine lv_iconst (v := 1) S.1 S.2.1 dX6_poll_5 (by decide) ?_
  obtain ⟨z10, hz, hf⟩ := ob hf
  refine pk_cVI (As := [.int z5, .int 1]) (rest := []) S hK hST hW (c_X6_start hI z5 1 hz) mc_X6_start wd_1188 wd_1190 wd_1701 rfl np_X6_start (hI.mem (by decide)) hI.this rfl rfl hl.1 rfl (Nat.le_of_ble_eq_true rfl) dX6_poll_6 ⟨by decide, by decide⟩ ⟨rmc (by omega), rms (by omega)⟩ (fun r L6 F7 H8 l9 hp hW => ?_)
  obtain ⟨rfl, hI, hF9⟩ := hp
  have hFr := hFr.tr hF9
  refine lv_if_eq (tgt := 16) S.1 S.2.1 dX6_poll_9 (by decide) (fun c11 => ?_) (fun c11 => ?_)
  · have hf := (if_pos c11).symm.trans hf
    refine lv_aload_n S.1 S.2.1 dX6_poll_16 rfl (lv_at hl 0 rfl) ?_
    refine lv_iload_n S.1 S.2.1 dX6_poll_17 rfl (lv_at hl 1 rfl) ?_
    refine lv_iload_n S.1 S.2.1 dX6_poll_18 rfl (lv_at hl 2 rfl) ?_
    refine lv_iconst (v := 0) S.1 S.2.1 dX6_poll_19 (by decide) ?_
    obtain ⟨z16, hz, hf⟩ := ob hf
    refine pk_cVI (As := [.int x1, .int x2, .int 0]) (rest := []) S hK hST hW (c_X6_off hI x1 x2 0 hz) mc_X6_off wd_1321 wd_1323 wd_1712 rfl np_X6_off (hI.mem (by decide)) hI.this rfl rfl hl.1 rfl (Nat.le_of_ble_eq_true rfl) dX6_poll_20 ⟨by decide, by decide⟩ ⟨rmc (by omega), rms (by omega)⟩ (fun r L12 F13 H14 l15 hp hW => ?_)
    obtain ⟨rfl, hI, hF9⟩ := hp
    have hFr := hFr.tr hF9
    exact pk_iret S hr hlk hW (eqm (P := fun z => z.1 = z16.1 ∧ MI κ ζ B z.2 L12 F13 ∧ FrM L F L12 F13) ⟨rfl, hI, hFr⟩ (Option.some.inj hf)) (by omega) (by omega) dX6_poll_23
  · have hf := (if_neg c11).symm.trans hf
    refine lv_iconst (v := 0) S.1 S.2.1 dX6_poll_12 (by decide) ?_
    refine lv_goto (tgt := 23) S.1 S.2.1 dX6_poll_13 (by decide) ?_
    exact pk_iret S hr hlk hW (eqm (P := fun z => z.1 = 0 ∧ MI κ ζ B z.2 L6 F7 ∧ FrM L F L6 F7) ⟨rfl, hI, hFr⟩ (Option.some.inj hf)) (by omega) (by omega) dX6_poll_23
def f_X6_pop (τ : MS) (x1 : Int32) : Option (Int32 × MS) := (f_X6_isNoTrack x1).bind fun z5 => (f_X6_start τ z5 1).bind fun z10 => (if z10.1 = 0 then (f_X6_off z10.2 x1 0 ((-9))).bind fun z16 => some (z16.1, z16.2) else some (0, z10.2))
theorem mc_X6_pop : MCode yX6_pop cX6_pop 2 (some .int) := ⟨wd_1340, wd_5, by decide, by decide⟩
theorem np_X6_pop : (parseMethodDescriptor yX6_pop.desc).map (fun d => d.parameters.length) = some 1 := by decide +kernel
set_option maxHeartbeats 4000000 in
set_option maxRecDepth 100000 in
theorem c_X6_pop {l : Launch} {D : va_G} {κ : Nat → ClassId} {ζ : Nat → Nat} {L : List Nat} {F : Nat → va_E} {τ : MS} {B : Nat → Nat} (hI : MI κ ζ B τ L F) (x1 : Int32) {res : (Int32 × MS)} (hf : f_X6_pop τ x1 = some res) : MtI l D cls (ty5 κ) ζ yX6_pop cX6_pop 2 (some .int) 11 2 66 ([.ref (B 0), .int x1] : List Value) L F (fun r L' F' => res.1 = r ∧ MI κ ζ B res.2 L' F' ∧ FrM L F L' F') := by
  refine MtI.of (by decide) (Nat.le_of_ble_eq_true rfl) ?_
  intro p e s m below meth c S hr hlk _ hK hW hST ls hl
  have hl : lv_has ls 2 [(0, .ref (B 0)), (1, .int x1)] := hl
  have hFr : FrM L F L F := FrM.rf
  unfold f_X6_pop at hf
  refine lv_aload_n S.1 S.2.1 dX6_pop_0 rfl (lv_at hl 0 rfl) ?_
  refine lv_iload_n S.1 S.2.1 dX6_pop_1 rfl (lv_at hl 1 rfl) ?_
  obtain ⟨z5, hz, hf⟩ := ob hf
  refine pk_cSI (As := [.int x1]) (rest := [.ref (B 0)]) S hK hST hW (c_X6_isNoTrack  x1 hz) mc_X6_isNoTrack wd_1182 wd_1183 np_X6_isNoTrack rfl hl.1 rfl (Nat.le_of_ble_eq_true rfl) dX6_pop_2 ⟨by decide, by decide⟩ ⟨rmc (by omega), rms (by omega)⟩ (fun r L1 F2 H3 l4 hp hW => ?_)
  obtain ⟨rfl, rfl, rfl⟩ := hp
  refine lv_iconst (v := 1) S.1 S.2.1 dX6_pop_5 (by decide) ?_
  obtain ⟨z10, hz, hf⟩ := ob hf
  refine pk_cVI (As := [.int z5, .int 1]) (rest := []) S hK hST hW (c_X6_start hI z5 1 hz) mc_X6_start wd_1188 wd_1190 wd_1701 rfl np_X6_start (hI.mem (by decide)) hI.this rfl rfl hl.1 rfl (Nat.le_of_ble_eq_true rfl) dX6_pop_6 ⟨by decide, by decide⟩ ⟨rmc (by omega), rms (by omega)⟩ (fun r L6 F7 H8 l9 hp hW => ?_)
  obtain ⟨rfl, hI, hF9⟩ := hp
  have hFr := hFr.tr hF9
  refine lv_if_eq (tgt := 16) S.1 S.2.1 dX6_pop_9 (by decide) (fun c11 => ?_) (fun c11 => ?_)
  · have hf := (if_pos c11).symm.trans hf
    refine lv_aload_n S.1 S.2.1 dX6_pop_16 rfl (lv_at hl 0 rfl) ?_
    refine lv_iload_n S.1 S.2.1 dX6_pop_17 rfl (lv_at hl 1 rfl) ?_
    refine lv_iconst (v := 0) S.1 S.2.1 dX6_pop_18 (by decide) ?_
    refine lv_bipush (v := (-9)) S.1 S.2.1 dX6_pop_19 (by decide) ?_
    obtain ⟨z16, hz, hf⟩ := ob hf
    refine pk_cVI (As := [.int x1, .int 0, .int ((-9))]) (rest := []) S hK hST hW (c_X6_off hI x1 0 ((-9)) hz) mc_X6_off wd_1321 wd_1323 wd_1712 rfl np_X6_off (hI.mem (by decide)) hI.this rfl rfl hl.1 rfl (Nat.le_of_ble_eq_true rfl) dX6_pop_21 ⟨by decide, by decide⟩ ⟨rmc (by omega), rms (by omega)⟩ (fun r L12 F13 H14 l15 hp hW => ?_)
    obtain ⟨rfl, hI, hF9⟩ := hp
    have hFr := hFr.tr hF9
    exact pk_iret S hr hlk hW (eqm (P := fun z => z.1 = z16.1 ∧ MI κ ζ B z.2 L12 F13 ∧ FrM L F L12 F13) ⟨rfl, hI, hFr⟩ (Option.some.inj hf)) (by omega) (by omega) dX6_pop_24
  · have hf := (if_neg c11).symm.trans hf
    refine lv_iconst (v := 0) S.1 S.2.1 dX6_pop_12 (by decide) ?_
    refine lv_goto (tgt := 24) S.1 S.2.1 dX6_pop_13 (by decide) ?_
    exact pk_iret S hr hlk hW (eqm (P := fun z => z.1 = 0 ∧ MI κ ζ B z.2 L6 F7 ∧ FrM L F L6 F7) ⟨rfl, hI, hFr⟩ (Option.some.inj hf)) (by omega) (by omega) dX6_pop_24
def f_X6_serve_29   (w29 : MS) (u1 : Int32) (u2 : Int32) (u3 : Int32) : Option (Int32 × MS) := (f_X6_off w29 u1 u2 u3).bind fun z5 => some (z5.1, z5.2)
def f_X6_serve (τ : MS) (x1 : Int32) (x2 : Int32) : Option (Int32 × MS) := (f_X6_isNoTrack x1).bind fun z10 => (f_X6_start τ z10 1).bind fun z15 => (if z15.1 = 0 then (if x2 = 0 then f_X6_serve_29 z15.2 x1 0 ((-9)) else f_X6_serve_29 z15.2 x1 0 0) else some (0, z15.2))
theorem mc_X6_serve : MCode yX6_serve cX6_serve 3 (some .int) := ⟨wd_1344, wd_5, by decide, by decide⟩
theorem np_X6_serve : (parseMethodDescriptor yX6_serve.desc).map (fun d => d.parameters.length) = some 2 := by decide +kernel
set_option maxHeartbeats 4000000 in
set_option maxRecDepth 100000 in
theorem c_X6_serve {l : Launch} {D : va_G} {κ : Nat → ClassId} {ζ : Nat → Nat} {L : List Nat} {F : Nat → va_E} {τ : MS} {B : Nat → Nat} (hI : MI κ ζ B τ L F) (x1 : Int32) (x2 : Int32) {res : (Int32 × MS)} (hf : f_X6_serve τ x1 x2 = some res) : MtI l D cls (ty5 κ) ζ yX6_serve cX6_serve 3 (some .int) 11 2 66 ([.ref (B 0), .int x1, .int x2] : List Value) L F (fun r L' F' => res.1 = r ∧ MI κ ζ B res.2 L' F' ∧ FrM L F L' F') := by
  refine MtI.of (by decide) (Nat.le_of_ble_eq_true rfl) ?_
  intro p e s m below meth c S hr hlk _ hK hW hST ls hl
  have hl : lv_has ls 3 [(0, .ref (B 0)), (1, .int x1), (2, .int x2)] := hl
  have hFr : FrM L F L F := FrM.rf
  have B29 : ∀  (w29 : MS) (u1 : Int32) (u2 : Int32) (u3 : Int32), f_X6_serve_29 w29 u1 u2 u3 = some res → ∀ (K29 : List Nat) (G29 : Nat → va_E), MI κ ζ B w29 K29 G29 → FrM L F K29 G29 → ∀ (H29 : Heap) (l29 : List Loc) (ls : Array Slot) (cc ss : Nat), HW D cls L s H29 l29 K29 G29 → cc + (2) ≤ 2 → ss ≤ 33 * cc → lv_has ls 3 [] → W p l e (Rm 11 2 66) s m ([.ref (B 0), .int x1, .int x2] : List Value).toArray below meth c H29 l29 cc ss (EnI D cls s below ([.ref (B 0), .int x1, .int x2] : List Value).toArray 2 66 L (fun r L' F' => res.1 = r ∧ MI κ ζ B res.2 L' F' ∧ FrM L F L' F')) (F0 m 29 ls [.int u3, .int u2, .int u1, .ref (B 0)]) := by
    intro  w29 u1 u2 u3 hf K29 G29 hI hFr H29 l29 ls cc ss hW hcc hss hl
    unfold f_X6_serve_29 at hf
    obtain ⟨z5, hz, hf⟩ := ob hf
    refine pk_cVI (As := [.int u1, .int u2, .int u3]) (rest := []) S hK hST hW (c_X6_off hI u1 u2 u3 hz) mc_X6_off wd_1321 wd_1323 wd_1712 rfl np_X6_off (hI.mem (by decide)) hI.this rfl rfl hl.1 rfl (Nat.le_of_ble_eq_true rfl) dX6_serve_29 ⟨by decide, by decide⟩ ⟨rmc (by omega), rms (by omega)⟩ (fun r L1 F2 H3 l4 hp hW => ?_)
    obtain ⟨rfl, hI, hF9⟩ := hp
    have hFr := hFr.tr hF9
    exact pk_iret S hr hlk hW (eqm (P := fun z => z.1 = z5.1 ∧ MI κ ζ B z.2 L1 F2 ∧ FrM L F L1 F2) ⟨rfl, hI, hFr⟩ (Option.some.inj hf)) (by omega) (by omega) dX6_serve_32
  unfold f_X6_serve at hf
  refine lv_aload_n S.1 S.2.1 dX6_serve_0 rfl (lv_at hl 0 rfl) ?_
  refine lv_iload_n S.1 S.2.1 dX6_serve_1 rfl (lv_at hl 1 rfl) ?_
  obtain ⟨z10, hz, hf⟩ := ob hf
  refine pk_cSI (As := [.int x1]) (rest := [.ref (B 0)]) S hK hST hW (c_X6_isNoTrack  x1 hz) mc_X6_isNoTrack wd_1182 wd_1183 np_X6_isNoTrack rfl hl.1 rfl (Nat.le_of_ble_eq_true rfl) dX6_serve_2 ⟨by decide, by decide⟩ ⟨rmc (by omega), rms (by omega)⟩ (fun r L6 F7 H8 l9 hp hW => ?_)
  obtain ⟨rfl, rfl, rfl⟩ := hp
  refine lv_iconst (v := 1) S.1 S.2.1 dX6_serve_5 (by decide) ?_
  obtain ⟨z15, hz, hf⟩ := ob hf
  refine pk_cVI (As := [.int z10, .int 1]) (rest := []) S hK hST hW (c_X6_start hI z10 1 hz) mc_X6_start wd_1188 wd_1190 wd_1701 rfl np_X6_start (hI.mem (by decide)) hI.this rfl rfl hl.1 rfl (Nat.le_of_ble_eq_true rfl) dX6_serve_6 ⟨by decide, by decide⟩ ⟨rmc (by omega), rms (by omega)⟩ (fun r L11 F12 H13 l14 hp hW => ?_)
  obtain ⟨rfl, hI, hF9⟩ := hp
  have hFr := hFr.tr hF9
  refine lv_if_eq (tgt := 16) S.1 S.2.1 dX6_serve_9 (by decide) (fun c16 => ?_) (fun c16 => ?_)
  · have hf := (if_pos c16).symm.trans hf
    refine lv_aload_n S.1 S.2.1 dX6_serve_16 rfl (lv_at hl 0 rfl) ?_
    refine lv_iload_n S.1 S.2.1 dX6_serve_17 rfl (lv_at hl 1 rfl) ?_
    refine lv_iconst (v := 0) S.1 S.2.1 dX6_serve_18 (by decide) ?_
    refine lv_iload_n S.1 S.2.1 dX6_serve_19 rfl (lv_at hl 2 rfl) ?_
    refine lv_if_eq (tgt := 27) S.1 S.2.1 dX6_serve_20 (by decide) (fun c17 => ?_) (fun c17 => ?_)
    · have hf := (if_pos c17).symm.trans hf
      refine lv_bipush (v := (-9)) S.1 S.2.1 dX6_serve_27 (by decide) ?_
      exact B29  z15.2 x1 0 ((-9)) hf L11 F12 hI hFr _ _ _ _ _ hW (by omega) (by omega) (lv_sub hl [] rfl)
    · have hf := (if_neg c17).symm.trans hf
      refine lv_iconst (v := 0) S.1 S.2.1 dX6_serve_23 (by decide) ?_
      refine lv_goto (tgt := 29) S.1 S.2.1 dX6_serve_24 (by decide) ?_
      exact B29  z15.2 x1 0 0 hf L11 F12 hI hFr _ _ _ _ _ hW (by omega) (by omega) (lv_sub hl [] rfl)
  · have hf := (if_neg c16).symm.trans hf
    refine lv_iconst (v := 0) S.1 S.2.1 dX6_serve_12 (by decide) ?_
    refine lv_goto (tgt := 32) S.1 S.2.1 dX6_serve_13 (by decide) ?_
    exact pk_iret S hr hlk hW (eqm (P := fun z => z.1 = 0 ∧ MI κ ζ B z.2 L11 F12 ∧ FrM L F L11 F12) ⟨rfl, hI, hFr⟩ (Option.some.inj hf)) (by omega) (by omega) dX6_serve_32
def f_X6_rotate_80  (k50 : (MS × Int32 × Int32 × Int32) → Option (Int32 × MS)) (w80 : MS) (v1 : Int32) (v2 : Int32) (v3 : Int32) (u1 : Int32) (u2 : Int32) (u4 : Int32) (u5 : Int32) : Option (Int32 × MS) := (f_X6_stepOut w80 u4 u5).bind fun z5 => (f_X6_stepIn z5.2 u1 u2 z5.1).bind fun z10 => nm (v3 + 1 : Int32) fun y11 => k50 (z10, v1, v2, y11)
def f_X6_rotate_69  (k50 : (MS × Int32 × Int32 × Int32) → Option (Int32 × MS)) (w69 : MS) (v1 : Int32) (v2 : Int32) (v3 : Int32) (u1 : Int32) (u2 : Int32) : Option (Int32 × MS) := (if v2 ≤ 0 then f_X6_rotate_80 k50 w69 v1 v2 v3 u1 u2 v1 0 else f_X6_rotate_80 k50 w69 v1 v2 v3 u1 u2 v1 1)
def f_X6_rotate_50   (k50 : (MS × Int32 × Int32 × Int32) → Option (Int32 × MS)) (t : (MS × Int32 × Int32 × Int32)) : Option (Int32 × MS) := nm (if 0 ≤ t.2.2.1 then t.2.2.1 else 0 - t.2.2.1 : Int32) fun y13 => (if y13 ≤ t.2.2.2 then (f_X6_get t.1 t.2.1 0).bind fun z19 => some (z19, t.1) else (if 0 ≤ t.2.2.1 then f_X6_rotate_69 k50 t.1 t.2.1 t.2.2.1 t.2.2.2 t.2.1 0 else f_X6_rotate_69 k50 t.1 t.2.1 t.2.2.1 t.2.2.2 t.2.1 1))
def f_X6_rotate_29   (w29 : MS) (v1 : Int32) (v2 : Int32) (u1 : Int32) : Option (Int32 × MS) := (f_X6_refuse w29 u1 2).bind fun z25 => (if z25.1 = 0 then (f_X6_size z25.2 v1).bind fun z31 => (if z31 = 0 then some (0, z25.2) else lpn (f_X6_rotate_50 ) 24 (z25.2, v1, v2, 0)) else some (0, z25.2))
def f_X6_rotate (τ : MS) (x1 : Int32) (x2 : Int32) : Option (Int32 × MS) := (f_X6_isNoTrack x1).bind fun z37 => (f_X6_start τ z37 1).bind fun z42 => (if z42.1 = 0 then (f_X6_isIn x2 ((-6)) 6).bind fun z48 => (if z48 = 0 then f_X6_rotate_29 z42.2 x1 x2 1 else f_X6_rotate_29 z42.2 x1 x2 0) else some (0, z42.2))
theorem mc_X6_rotate : MCode yX6_rotate cX6_rotate 4 (some .int) := ⟨wd_1348, wd_5, by decide, by decide⟩
theorem np_X6_rotate : (parseMethodDescriptor yX6_rotate.desc).map (fun d => d.parameters.length) = some 2 := by decide +kernel
set_option maxHeartbeats 4000000 in
set_option maxRecDepth 100000 in
theorem c_X6_rotate {l : Launch} {D : va_G} {κ : Nat → ClassId} {ζ : Nat → Nat} {L : List Nat} {F : Nat → va_E} {τ : MS} {B : Nat → Nat} (hI : MI κ ζ B τ L F) (x1 : Int32) (x2 : Int32) {res : (Int32 × MS)} (hf : f_X6_rotate τ x1 x2 = some res) : MtI l D cls (ty5 κ) ζ yX6_rotate cX6_rotate 4 (some .int) 10 144 4752 ([.ref (B 0), .int x1, .int x2] : List Value) L F (fun r L' F' => res.1 = r ∧ MI κ ζ B res.2 L' F' ∧ FrM L F L' F') := by
  refine MtI.of (by decide) (Nat.le_of_ble_eq_true rfl) ?_
  intro p e s m below meth c S hr hlk _ hK hW hST ls hl
  have hl : lv_has ls 4 [(0, .ref (B 0)), (1, .int x1), (2, .int x2)] := hl
  have hFr : FrM L F L F := FrM.rf
  have B80 : ∀ (k50 : (MS × Int32 × Int32 × Int32) → Option (Int32 × MS)) (nd50 : Nat) (hk50 : (∀ (w50 : MS) (v1 : Int32) (v2 : Int32) (v3 : Int32), k50 (w50, v1, v2, v3) = some res → ∀ (K50 : List Nat) (G50 : Nat → va_E), MI κ ζ B w50 K50 G50 → FrM L F K50 G50 → ∀ (H50 : Heap) (l50 : List Loc) (ls : Array Slot) (cc ss : Nat), HW D cls L s H50 l50 K50 G50 → cc + (nd50) ≤ 144 → ss ≤ 33 * cc → lv_has ls 4 [(0, .ref (B 0)), (1, .int v1), (2, .int v2), (3, .int v3)] → W p l e (Rm 10 144 4752) s m ([.ref (B 0), .int x1, .int x2] : List Value).toArray below meth c H50 l50 cc ss (EnI D cls s below ([.ref (B 0), .int x1, .int x2] : List Value).toArray 144 4752 L (fun r L' F' => res.1 = r ∧ MI κ ζ B res.2 L' F' ∧ FrM L F L' F')) (F0 m 50 ls []))) (hnd50 : 0 ≤ nd50) (w80 : MS) (v1 : Int32) (v2 : Int32) (v3 : Int32) (u1 : Int32) (u2 : Int32) (u4 : Int32) (u5 : Int32), f_X6_rotate_80 k50 w80 v1 v2 v3 u1 u2 u4 u5 = some res → ∀ (K80 : List Nat) (G80 : Nat → va_E), MI κ ζ B w80 K80 G80 → FrM L F K80 G80 → ∀ (H80 : Heap) (l80 : List Loc) (ls : Array Slot) (cc ss : Nat), HW D cls L s H80 l80 K80 G80 → cc + (6 + nd50) ≤ 144 → ss ≤ 33 * cc → lv_has ls 4 [(0, .ref (B 0)), (1, .int v1), (2, .int v2), (3, .int v3)] → W p l e (Rm 10 144 4752) s m ([.ref (B 0), .int x1, .int x2] : List Value).toArray below meth c H80 l80 cc ss (EnI D cls s below ([.ref (B 0), .int x1, .int x2] : List Value).toArray 144 4752 L (fun r L' F' => res.1 = r ∧ MI κ ζ B res.2 L' F' ∧ FrM L F L' F')) (F0 m 80 ls [.int u5, .int u4, .ref (B 0), .int u2, .int u1, .ref (B 0)]) := by
    intro k50 nd50 hk50 hnd50 w80 v1 v2 v3 u1 u2 u4 u5 hf K80 G80 hI hFr H80 l80 ls cc ss hW hcc hss hl
    unfold f_X6_rotate_80 at hf
    obtain ⟨z5, hz, hf⟩ := ob hf
    refine pk_cVI (As := [.int u4, .int u5]) (rest := [.int u2, .int u1, .ref (B 0)]) S hK hST hW (c_X6_stepOut hI u4 u5 hz) mc_X6_stepOut wd_1325 wd_1327 wd_1713 rfl np_X6_stepOut (hI.mem (by decide)) hI.this rfl rfl hl.1 rfl (Nat.le_of_ble_eq_true rfl) dX6_rotate_80 ⟨by decide, by decide⟩ ⟨rmc (by omega), rms (by omega)⟩ (fun r L1 F2 H3 l4 hp hW => ?_)
    obtain ⟨rfl, hI, hF9⟩ := hp
    have hFr := hFr.tr hF9
    obtain ⟨z10, hz, hf⟩ := ob hf
    refine pk_cVV (As := [.int u1, .int u2, .int z5.1]) (rest := []) S hK hST hW (c_X6_stepIn hI u1 u2 z5.1 hz) mc_X6_stepIn wd_1225 wd_1227 wd_1704 rfl np_X6_stepIn (hI.mem (by decide)) hI.this rfl rfl hl.1 rfl (Nat.le_of_ble_eq_true rfl) dX6_rotate_83 ⟨by decide, by decide⟩ ⟨rmc (by omega), rms (by omega)⟩ (fun L6 F7 H8 l9 hp hW => ?_)
    obtain ⟨hI, hF9⟩ := hp
    have hFr := hFr.tr hF9
    obtain ⟨y11, ey11⟩ : ∃ y : Int32, y = v3 + 1 := ⟨_, rfl⟩
    have hf := nm_at hf ey11
    refine lv_iinc (v := y11) (lv' := [(3, .int y11), (0, .ref (B 0)), (1, .int v1), (2, .int v2)]) S.1 S.2.1 dX6_rotate_86 hl (k := 3) rfl (by rw [ey11]; rfl) (by decide) rfl (fun ls hl => ?_)
    refine lv_goto (tgt := 50) S.1 S.2.1 dX6_rotate_89 (by decide) ?_
    exact hk50 z10 v1 v2 y11 hf L6 F7 hI hFr _ _ _ _ _ hW (by omega) (by omega) (lv_sub hl [1, 2, 3, 0] rfl)
  have B69 : ∀ (k50 : (MS × Int32 × Int32 × Int32) → Option (Int32 × MS)) (nd50 : Nat) (hk50 : (∀ (w50 : MS) (v1 : Int32) (v2 : Int32) (v3 : Int32), k50 (w50, v1, v2, v3) = some res → ∀ (K50 : List Nat) (G50 : Nat → va_E), MI κ ζ B w50 K50 G50 → FrM L F K50 G50 → ∀ (H50 : Heap) (l50 : List Loc) (ls : Array Slot) (cc ss : Nat), HW D cls L s H50 l50 K50 G50 → cc + (nd50) ≤ 144 → ss ≤ 33 * cc → lv_has ls 4 [(0, .ref (B 0)), (1, .int v1), (2, .int v2), (3, .int v3)] → W p l e (Rm 10 144 4752) s m ([.ref (B 0), .int x1, .int x2] : List Value).toArray below meth c H50 l50 cc ss (EnI D cls s below ([.ref (B 0), .int x1, .int x2] : List Value).toArray 144 4752 L (fun r L' F' => res.1 = r ∧ MI κ ζ B res.2 L' F' ∧ FrM L F L' F')) (F0 m 50 ls []))) (hnd50 : 0 ≤ nd50) (w69 : MS) (v1 : Int32) (v2 : Int32) (v3 : Int32) (u1 : Int32) (u2 : Int32), f_X6_rotate_69 k50 w69 v1 v2 v3 u1 u2 = some res → ∀ (K69 : List Nat) (G69 : Nat → va_E), MI κ ζ B w69 K69 G69 → FrM L F K69 G69 → ∀ (H69 : Heap) (l69 : List Loc) (ls : Array Slot) (cc ss : Nat), HW D cls L s H69 l69 K69 G69 → cc + (6 + nd50) ≤ 144 → ss ≤ 33 * cc → lv_has ls 4 [(0, .ref (B 0)), (1, .int v1), (2, .int v2), (3, .int v3)] → W p l e (Rm 10 144 4752) s m ([.ref (B 0), .int x1, .int x2] : List Value).toArray below meth c H69 l69 cc ss (EnI D cls s below ([.ref (B 0), .int x1, .int x2] : List Value).toArray 144 4752 L (fun r L' F' => res.1 = r ∧ MI κ ζ B res.2 L' F' ∧ FrM L F L' F')) (F0 m 69 ls [.int u2, .int u1, .ref (B 0)]) := by
    intro k50 nd50 hk50 hnd50 w69 v1 v2 v3 u1 u2 hf K69 G69 hI hFr H69 l69 ls cc ss hW hcc hss hl
    unfold f_X6_rotate_69 at hf
    refine lv_aload_n S.1 S.2.1 dX6_rotate_69 rfl (lv_at hl 0 rfl) ?_
    refine lv_iload_n S.1 S.2.1 dX6_rotate_70 rfl (lv_at hl 1 rfl) ?_
    refine lv_iload_n S.1 S.2.1 dX6_rotate_71 rfl (lv_at hl 2 rfl) ?_
    refine lv_if_le (tgt := 79) S.1 S.2.1 dX6_rotate_72 (by decide) (fun c12 => ?_) (fun c12 => ?_)
    · have hf := (if_pos c12).symm.trans hf
      refine lv_iconst (v := 0) S.1 S.2.1 dX6_rotate_79 (by decide) ?_
      exact B80 k50 nd50 hk50 hnd50 w69 v1 v2 v3 u1 u2 v1 0 hf K69 G69 hI hFr _ _ _ _ _ hW (by omega) (by omega) (lv_sub hl [0, 1, 2, 3] rfl)
    · have hf := (if_neg c12).symm.trans hf
      refine lv_iconst (v := 1) S.1 S.2.1 dX6_rotate_75 (by decide) ?_
      refine lv_goto (tgt := 80) S.1 S.2.1 dX6_rotate_76 (by decide) ?_
      exact B80 k50 nd50 hk50 hnd50 w69 v1 v2 v3 u1 u2 v1 1 hf K69 G69 hI hFr _ _ _ _ _ hW (by omega) (by omega) (lv_sub hl [0, 1, 2, 3] rfl)
  have B50 : ∀  (N : Nat), (∀ (w50 : MS) (v1 : Int32) (v2 : Int32) (v3 : Int32), (lpn (f_X6_rotate_50 ) N) (w50, v1, v2, v3) = some res → ∀ (K50 : List Nat) (G50 : Nat → va_E), MI κ ζ B w50 K50 G50 → FrM L F K50 G50 → ∀ (H50 : Heap) (l50 : List Loc) (ls : Array Slot) (cc ss : Nat), HW D cls L s H50 l50 K50 G50 → cc + (N * 6 + 0) ≤ 144 → ss ≤ 33 * cc → lv_has ls 4 [(0, .ref (B 0)), (1, .int v1), (2, .int v2), (3, .int v3)] → W p l e (Rm 10 144 4752) s m ([.ref (B 0), .int x1, .int x2] : List Value).toArray below meth c H50 l50 cc ss (EnI D cls s below ([.ref (B 0), .int x1, .int x2] : List Value).toArray 144 4752 L (fun r L' F' => res.1 = r ∧ MI κ ζ B res.2 L' F' ∧ FrM L F L' F')) (F0 m 50 ls [])) := by
    intro  N
    induction N with
    | zero => intro w50 v1 v2 v3 hf K50 G50 hI hFr H50 l50 ls cc ss hW hcc hss hl; cases hf
    | succ N ih =>
      intro w50 v1 v2 v3 hf K50 G50 hI hFr H50 l50 ls cc ss hW hcc hss hl
      have hf : f_X6_rotate_50  (lpn (f_X6_rotate_50 ) N) (w50, v1, v2, v3) = some res := hf
      generalize lpn (f_X6_rotate_50 ) N = k50 at hf ih
      have hnd50 : 0 ≤ N * 6 + 0 := by omega
      have hcc : cc + (6 + (N * 6 + 0)) ≤ 144 := by omega
      have hk50 := ih
      generalize N * 6 + 0 = nd50 at hnd50 hcc hk50
      unfold f_X6_rotate_50 at hf
      try dsimp only at hf
      refine lv_iload_n S.1 S.2.1 dX6_rotate_50 rfl (lv_at hl 3 rfl) ?_
      refine lv_iload_n S.1 S.2.1 dX6_rotate_51 rfl (lv_at hl 2 rfl) ?_
      refine va_mabs S.1 S.2.1 (S.2.2.1.trans hl.1.symm) S.2.2.2.1 (S.2.2.2.2 _ wd_1349) (S.2.2.2.2 _ wd_530) (S.2.2.2.2 _ wd_11) (S.2.2.2.2 _ wd_531) (by decide) (Nat.le_of_ble_eq_true rfl) (rmc (by omega)) (rms (by omega)) dX6_rotate_52 ?_
      refine lv_topi (fun y13 ey13 => ?_)
      have hf := nm_at hf ey13
      refine lv_icmp_ge (tgt := 92) S.1 S.2.1 dX6_rotate_55 (by decide) (fun c14 => ?_) (fun c14 => ?_)
      · have hf := (if_pos c14).symm.trans hf
        refine lv_aload_n S.1 S.2.1 dX6_rotate_92 rfl (lv_at hl 0 rfl) ?_
        refine lv_iload_n S.1 S.2.1 dX6_rotate_93 rfl (lv_at hl 1 rfl) ?_
        refine lv_iconst (v := 0) S.1 S.2.1 dX6_rotate_94 (by decide) ?_
        obtain ⟨z19, hz, hf⟩ := ob hf
        refine pk_cVI (As := [.int v1, .int 0]) (rest := []) S hK hST hW (c_X6_get hI v1 0 hz) mc_X6_get wd_1299 wd_1301 wd_1711 rfl np_X6_get (hI.mem (by decide)) hI.this rfl rfl hl.1 rfl (Nat.le_of_ble_eq_true rfl) dX6_rotate_95 ⟨by decide, by decide⟩ ⟨rmc (by omega), rms (by omega)⟩ (fun r L15 F16 H17 l18 hp hW => ?_)
        obtain ⟨rfl, rfl, rfl⟩ := hp
        exact pk_iret S hr hlk hW (eqm (P := fun z => z.1 = z19 ∧ MI κ ζ B z.2 K50 G50 ∧ FrM L F K50 G50) ⟨rfl, hI, hFr⟩ (Option.some.inj hf)) (by omega) (by omega) dX6_rotate_98
      · have hf := (if_neg c14).symm.trans hf
        refine lv_aload_n S.1 S.2.1 dX6_rotate_58 rfl (lv_at hl 0 rfl) ?_
        refine lv_iload_n S.1 S.2.1 dX6_rotate_59 rfl (lv_at hl 1 rfl) ?_
        refine lv_iload_n S.1 S.2.1 dX6_rotate_60 rfl (lv_at hl 2 rfl) ?_
        refine lv_if_ge (tgt := 68) S.1 S.2.1 dX6_rotate_61 (by decide) (fun c20 => ?_) (fun c20 => ?_)
        · have hf := (if_pos c20).symm.trans hf
          refine lv_iconst (v := 0) S.1 S.2.1 dX6_rotate_68 (by decide) ?_
          exact B69 k50 nd50 hk50 hnd50 w50 v1 v2 v3 v1 0 hf K50 G50 hI hFr _ _ _ _ _ hW (by omega) (by omega) (lv_sub hl [0, 1, 2, 3] rfl)
        · have hf := (if_neg c20).symm.trans hf
          refine lv_iconst (v := 1) S.1 S.2.1 dX6_rotate_64 (by decide) ?_
          refine lv_goto (tgt := 69) S.1 S.2.1 dX6_rotate_65 (by decide) ?_
          exact B69 k50 nd50 hk50 hnd50 w50 v1 v2 v3 v1 1 hf K50 G50 hI hFr _ _ _ _ _ hW (by omega) (by omega) (lv_sub hl [0, 1, 2, 3] rfl)
  have B29 : ∀  (w29 : MS) (v1 : Int32) (v2 : Int32) (u1 : Int32), f_X6_rotate_29 w29 v1 v2 u1 = some res → ∀ (K29 : List Nat) (G29 : Nat → va_E), MI κ ζ B w29 K29 G29 → FrM L F K29 G29 → ∀ (H29 : Heap) (l29 : List Loc) (ls : Array Slot) (cc ss : Nat), HW D cls L s H29 l29 K29 G29 → cc + (144) ≤ 144 → ss ≤ 33 * cc → lv_has ls 4 [(0, .ref (B 0)), (1, .int v1), (2, .int v2)] → W p l e (Rm 10 144 4752) s m ([.ref (B 0), .int x1, .int x2] : List Value).toArray below meth c H29 l29 cc ss (EnI D cls s below ([.ref (B 0), .int x1, .int x2] : List Value).toArray 144 4752 L (fun r L' F' => res.1 = r ∧ MI κ ζ B res.2 L' F' ∧ FrM L F L' F')) (F0 m 29 ls [.int u1, .ref (B 0)]) := by
    intro  w29 v1 v2 u1 hf K29 G29 hI hFr H29 l29 ls cc ss hW hcc hss hl
    unfold f_X6_rotate_29 at hf
    refine lv_iconst (v := 2) S.1 S.2.1 dX6_rotate_29 (by decide) ?_
    obtain ⟨z25, hz, hf⟩ := ob hf
    refine pk_cVI (As := [.int u1, .int 2]) (rest := []) S hK hST hW (c_X6_refuse hI u1 2 hz) mc_X6_refuse wd_1192 wd_1194 wd_1702 rfl np_X6_refuse (hI.mem (by decide)) hI.this rfl rfl hl.1 rfl (Nat.le_of_ble_eq_true rfl) dX6_rotate_30 ⟨by decide, by decide⟩ ⟨rmc (by omega), rms (by omega)⟩ (fun r L21 F22 H23 l24 hp hW => ?_)
    obtain ⟨rfl, hI, hF9⟩ := hp
    have hFr := hFr.tr hF9
    refine lv_if_eq (tgt := 38) S.1 S.2.1 dX6_rotate_33 (by decide) (fun c26 => ?_) (fun c26 => ?_)
    · have hf := (if_pos c26).symm.trans hf
      refine lv_aload_n S.1 S.2.1 dX6_rotate_38 rfl (lv_at hl 0 rfl) ?_
      refine lv_iload_n S.1 S.2.1 dX6_rotate_39 rfl (lv_at hl 1 rfl) ?_
      obtain ⟨z31, hz, hf⟩ := ob hf
      refine pk_cVI (As := [.int v1]) (rest := []) S hK hST hW (c_X6_size hI v1 hz) mc_X6_size wd_1199 wd_1201 wd_1703 rfl np_X6_size (hI.mem (by decide)) hI.this rfl rfl hl.1 rfl (Nat.le_of_ble_eq_true rfl) dX6_rotate_40 ⟨by decide, by decide⟩ ⟨rmc (by omega), rms (by omega)⟩ (fun r L27 F28 H29 l30 hp hW => ?_)
      obtain ⟨rfl, rfl, rfl⟩ := hp
      refine lv_if_ne (tgt := 48) S.1 S.2.1 dX6_rotate_43 (by decide) (fun c32 => ?_) (fun c32 => ?_)
      · have hf := (if_neg c32).symm.trans hf
        refine lv_iconst (v := 0) S.1 S.2.1 dX6_rotate_48 (by decide) ?_
        refine lv_istore_n (lv' := [(3, .int 0), (0, .ref (B 0)), (1, .int v1), (2, .int v2)]) S.1 S.2.1 dX6_rotate_49 rfl hl (by decide) rfl (fun ls hl => ?_)
        exact B50  24 z25.2 v1 v2 0 hf L21 F22 hI hFr _ _ _ _ _ hW (by omega) (by omega) (lv_sub hl [1, 2, 3, 0] rfl)
      · have hf := (if_pos c32).symm.trans hf
        refine lv_iconst (v := 0) S.1 S.2.1 dX6_rotate_46 (by decide) ?_
        exact pk_iret S hr hlk hW (eqm (P := fun z => z.1 = 0 ∧ MI κ ζ B z.2 L21 F22 ∧ FrM L F L21 F22) ⟨rfl, hI, hFr⟩ (Option.some.inj hf)) (by omega) (by omega) dX6_rotate_47
    · have hf := (if_neg c26).symm.trans hf
      refine lv_iconst (v := 0) S.1 S.2.1 dX6_rotate_36 (by decide) ?_
      exact pk_iret S hr hlk hW (eqm (P := fun z => z.1 = 0 ∧ MI κ ζ B z.2 L21 F22 ∧ FrM L F L21 F22) ⟨rfl, hI, hFr⟩ (Option.some.inj hf)) (by omega) (by omega) dX6_rotate_37
  unfold f_X6_rotate at hf
  refine lv_aload_n S.1 S.2.1 dX6_rotate_0 rfl (lv_at hl 0 rfl) ?_
  refine lv_iload_n S.1 S.2.1 dX6_rotate_1 rfl (lv_at hl 1 rfl) ?_
  obtain ⟨z37, hz, hf⟩ := ob hf
  refine pk_cSI (As := [.int x1]) (rest := [.ref (B 0)]) S hK hST hW (c_X6_isNoTrack  x1 hz) mc_X6_isNoTrack wd_1182 wd_1183 np_X6_isNoTrack rfl hl.1 rfl (Nat.le_of_ble_eq_true rfl) dX6_rotate_2 ⟨by decide, by decide⟩ ⟨rmc (by omega), rms (by omega)⟩ (fun r L33 F34 H35 l36 hp hW => ?_)
  obtain ⟨rfl, rfl, rfl⟩ := hp
  refine lv_iconst (v := 1) S.1 S.2.1 dX6_rotate_5 (by decide) ?_
  obtain ⟨z42, hz, hf⟩ := ob hf
  refine pk_cVI (As := [.int z37, .int 1]) (rest := []) S hK hST hW (c_X6_start hI z37 1 hz) mc_X6_start wd_1188 wd_1190 wd_1701 rfl np_X6_start (hI.mem (by decide)) hI.this rfl rfl hl.1 rfl (Nat.le_of_ble_eq_true rfl) dX6_rotate_6 ⟨by decide, by decide⟩ ⟨rmc (by omega), rms (by omega)⟩ (fun r L38 F39 H40 l41 hp hW => ?_)
  obtain ⟨rfl, hI, hF9⟩ := hp
  have hFr := hFr.tr hF9
  refine lv_if_ne (tgt := 36) S.1 S.2.1 dX6_rotate_9 (by decide) (fun c43 => ?_) (fun c43 => ?_)
  · have hf := (if_neg c43).symm.trans hf
    refine lv_iconst (v := 0) S.1 S.2.1 dX6_rotate_36 (by decide) ?_
    exact pk_iret S hr hlk hW (eqm (P := fun z => z.1 = 0 ∧ MI κ ζ B z.2 L38 F39 ∧ FrM L F L38 F39) ⟨rfl, hI, hFr⟩ (Option.some.inj hf)) (by omega) (by omega) dX6_rotate_37
  · have hf := (if_pos c43).symm.trans hf
    refine lv_aload_n S.1 S.2.1 dX6_rotate_12 rfl (lv_at hl 0 rfl) ?_
    refine lv_iload_n S.1 S.2.1 dX6_rotate_13 rfl (lv_at hl 2 rfl) ?_
    refine lv_bipush (v := (-6)) S.1 S.2.1 dX6_rotate_14 (by decide) ?_
    refine lv_bipush (v := 6) S.1 S.2.1 dX6_rotate_16 (by decide) ?_
    obtain ⟨z48, hz, hf⟩ := ob hf
    refine pk_cSI (As := [.int x2, .int ((-6)), .int 6]) (rest := [.ref (B 0)]) S hK hST hW (c_X6_isIn  x2 ((-6)) 6 hz) mc_X6_isIn wd_1185 wd_1186 np_X6_isIn rfl hl.1 rfl (Nat.le_of_ble_eq_true rfl) dX6_rotate_18 ⟨by decide, by decide⟩ ⟨rmc (by omega), rms (by omega)⟩ (fun r L44 F45 H46 l47 hp hW => ?_)
    obtain ⟨rfl, rfl, rfl⟩ := hp
    refine lv_if_ne (tgt := 28) S.1 S.2.1 dX6_rotate_21 (by decide) (fun c49 => ?_) (fun c49 => ?_)
    · have hf := (if_neg c49).symm.trans hf
      refine lv_iconst (v := 0) S.1 S.2.1 dX6_rotate_28 (by decide) ?_
      exact B29  z42.2 x1 x2 0 hf L38 F39 hI hFr _ _ _ _ _ hW (by omega) (by omega) (lv_sub hl [0, 1, 2] rfl)
    · have hf := (if_pos c49).symm.trans hf
      refine lv_iconst (v := 1) S.1 S.2.1 dX6_rotate_24 (by decide) ?_
      refine lv_goto (tgt := 29) S.1 S.2.1 dX6_rotate_25 (by decide) ?_
      exact B29  z42.2 x1 x2 1 hf L38 F39 hI hFr _ _ _ _ _ hW (by omega) (by omega) (lv_sub hl [0, 1, 2] rfl)
def f_X6_undo_122   (w122 : MS) (v1 : Int32) : Option (Int32 × MS) := some (v1, w122)
def f_X6_undo_114   (w114 : MS) (v1 : Int32) (u1 : Int32) (u2 : Int32) : Option (Int32 × MS) := (f_X6_come w114 u1 u2 (jrem v1 1000)).bind fun z5 => f_X6_undo_122 z5 v1
def f_X6_undo_92   (w92 : MS) (v1 : Int32) (u1 : Int32) (u2 : Int32) : Option (Int32 × MS) := (f_X6_go w92 u1 u2).bind fun z10 => f_X6_undo_122 z10.2 v1
def f_X6_undo_63   (w63 : MS) (v1 : Int32) (v2 : Int32) (u0 : Int32) : Option (Int32 × MS) := (if (jrem (v1 / 1000) 2) = 1 then (if u0 = 0 then f_X6_undo_92 w63 v1 v2 0 else (f_X6_size w63 v2).bind fun z23 => f_X6_undo_92 w63 v1 v2 (z23 - 1)) else (if u0 = 0 then f_X6_undo_114 w63 v1 v2 0 else (f_X6_size w63 v2).bind fun z17 => f_X6_undo_114 w63 v1 v2 z17))
def f_X6_undo (τ : MS) : Option (Int32 × MS) := nm ((τ.1, va_up τ.2 0 0) : MS) fun t27 => nm (if (t27.1 2).length = 0 then 1 else 0 : Int32) fun y32 => (if y32 = 0 then (ldel (t27.1 2) ((nI (t27.1 2).length) - 1)).bind fun z42 => nm ((va_up t27.1 2 z42, t27.2) : MS) fun t44 => nm (((t27.1 2).getD ((nI (t27.1 2).length) - 1).toNatClampNeg 0) : Int32) fun y49 => nm (y49 / 4000 : Int32) fun y50 => (if (jrem (y49 / 2000) 2) = 1 then f_X6_undo_63 t44 y49 y50 1 else f_X6_undo_63 t44 y49 y50 0) else some ((-9), t27))
theorem mc_X6_undo : MCode yX6_undo cX6_undo 4 (some .int) := ⟨wd_1353, wd_5, by decide, by decide⟩
theorem np_X6_undo : (parseMethodDescriptor yX6_undo.desc).map (fun d => d.parameters.length) = some 0 := by decide +kernel
set_option maxHeartbeats 4000000 in
set_option maxRecDepth 100000 in
theorem c_X6_undo {l : Launch} {D : va_G} {κ : Nat → ClassId} {ζ : Nat → Nat} {L : List Nat} {F : Nat → va_E} {τ : MS} {B : Nat → Nat} (hI : MI κ ζ B τ L F)  {res : (Int32 × MS)} (hf : f_X6_undo τ = some res) : MtI l D cls (ty5 κ) ζ yX6_undo cX6_undo 4 (some .int) 9 2 66 ([.ref (B 0)] : List Value) L F (fun r L' F' => res.1 = r ∧ MI κ ζ B res.2 L' F' ∧ FrM L F L' F') := by
  refine MtI.of (by decide) (Nat.le_of_ble_eq_true rfl) ?_
  intro p e s m below meth c S hr hlk _ hK hW hST ls hl
  have hl : lv_has ls 4 [(0, .ref (B 0))] := hl
  have hFr : FrM L F L F := FrM.rf
  have B122 : ∀  (w122 : MS) (v1 : Int32), f_X6_undo_122 w122 v1 = some res → ∀ (K122 : List Nat) (G122 : Nat → va_E), MI κ ζ B w122 K122 G122 → FrM L F K122 G122 → ∀ (H122 : Heap) (l122 : List Loc) (ls : Array Slot) (cc ss : Nat), HW D cls L s H122 l122 K122 G122 → cc + (0) ≤ 2 → ss ≤ 33 * cc → lv_has ls 4 [(1, .int v1)] → W p l e (Rm 9 2 66) s m ([.ref (B 0)] : List Value).toArray below meth c H122 l122 cc ss (EnI D cls s below ([.ref (B 0)] : List Value).toArray 2 66 L (fun r L' F' => res.1 = r ∧ MI κ ζ B res.2 L' F' ∧ FrM L F L' F')) (F0 m 122 ls []) := by
    intro  w122 v1 hf K122 G122 hI hFr H122 l122 ls cc ss hW hcc hss hl
    unfold f_X6_undo_122 at hf
    refine lv_iload_n S.1 S.2.1 dX6_undo_122 rfl (lv_at hl 0 rfl) ?_
    exact pk_iret S hr hlk hW (eqm (P := fun z => z.1 = v1 ∧ MI κ ζ B z.2 K122 G122 ∧ FrM L F K122 G122) ⟨rfl, hI, hFr⟩ (Option.some.inj hf)) (by omega) (by omega) dX6_undo_123
  have B114 : ∀  (w114 : MS) (v1 : Int32) (u1 : Int32) (u2 : Int32), f_X6_undo_114 w114 v1 u1 u2 = some res → ∀ (K114 : List Nat) (G114 : Nat → va_E), MI κ ζ B w114 K114 G114 → FrM L F K114 G114 → ∀ (H114 : Heap) (l114 : List Loc) (ls : Array Slot) (cc ss : Nat), HW D cls L s H114 l114 K114 G114 → cc + (2) ≤ 2 → ss ≤ 33 * cc → lv_has ls 4 [(1, .int v1)] → W p l e (Rm 9 2 66) s m ([.ref (B 0)] : List Value).toArray below meth c H114 l114 cc ss (EnI D cls s below ([.ref (B 0)] : List Value).toArray 2 66 L (fun r L' F' => res.1 = r ∧ MI κ ζ B res.2 L' F' ∧ FrM L F L' F')) (F0 m 114 ls [.int u2, .int u1, .ref (B 0)]) := by
    intro  w114 v1 u1 u2 hf K114 G114 hI hFr H114 l114 ls cc ss hW hcc hss hl
    unfold f_X6_undo_114 at hf
    refine lv_iload_n S.1 S.2.1 dX6_undo_114 rfl (lv_at hl 0 rfl) ?_
    refine lv_sipush (v := 1000) S.1 S.2.1 dX6_undo_115 (by decide) ?_
    refine pk_irem S dX6_undo_118 (by decide) ?_
    obtain ⟨z5, hz, hf⟩ := ob hf
    refine pk_cVV (As := [.int u1, .int u2, .int (jrem v1 1000)]) (rest := []) S hK hST hW (c_X6_come hI u1 u2 (jrem v1 1000) hz) mc_X6_come wd_1229 wd_1231 wd_1705 rfl np_X6_come (hI.mem (by decide)) hI.this rfl rfl hl.1 rfl (Nat.le_of_ble_eq_true rfl) dX6_undo_119 ⟨by decide, by decide⟩ ⟨rmc (by omega), rms (by omega)⟩ (fun L1 F2 H3 l4 hp hW => ?_)
    obtain ⟨hI, hF9⟩ := hp
    have hFr := hFr.tr hF9
    exact B122  z5 v1 hf L1 F2 hI hFr _ _ _ _ _ hW (by omega) (by omega) (lv_sub hl [0] rfl)
  have B92 : ∀  (w92 : MS) (v1 : Int32) (u1 : Int32) (u2 : Int32), f_X6_undo_92 w92 v1 u1 u2 = some res → ∀ (K92 : List Nat) (G92 : Nat → va_E), MI κ ζ B w92 K92 G92 → FrM L F K92 G92 → ∀ (H92 : Heap) (l92 : List Loc) (ls : Array Slot) (cc ss : Nat), HW D cls L s H92 l92 K92 G92 → cc + (0) ≤ 2 → ss ≤ 33 * cc → lv_has ls 4 [(1, .int v1)] → W p l e (Rm 9 2 66) s m ([.ref (B 0)] : List Value).toArray below meth c H92 l92 cc ss (EnI D cls s below ([.ref (B 0)] : List Value).toArray 2 66 L (fun r L' F' => res.1 = r ∧ MI κ ζ B res.2 L' F' ∧ FrM L F L' F')) (F0 m 92 ls [.int u2, .int u1, .ref (B 0)]) := by
    intro  w92 v1 u1 u2 hf K92 G92 hI hFr H92 l92 ls cc ss hW hcc hss hl
    unfold f_X6_undo_92 at hf
    obtain ⟨z10, hz, hf⟩ := ob hf
    refine pk_cVI (As := [.int u1, .int u2]) (rest := []) S hK hST hW (c_X6_go hI u1 u2 hz) mc_X6_go wd_1329 wd_1331 wd_1714 rfl np_X6_go (hI.mem (by decide)) hI.this rfl rfl hl.1 rfl (Nat.le_of_ble_eq_true rfl) dX6_undo_92 ⟨by decide, by decide⟩ ⟨rmc (by omega), rms (by omega)⟩ (fun r L6 F7 H8 l9 hp hW => ?_)
    obtain ⟨rfl, hI, hF9⟩ := hp
    have hFr := hFr.tr hF9
    refine lv_pop S.1 S.2.1 dX6_undo_95 rfl ?_
    refine lv_goto (tgt := 122) S.1 S.2.1 dX6_undo_96 (by decide) ?_
    exact B122  z10.2 v1 hf L6 F7 hI hFr _ _ _ _ _ hW (by omega) (by omega) (lv_sub hl [0] rfl)
  have B63 : ∀  (w63 : MS) (v1 : Int32) (v2 : Int32) (u0 : Int32), f_X6_undo_63 w63 v1 v2 u0 = some res → ∀ (K63 : List Nat) (G63 : Nat → va_E), MI κ ζ B w63 K63 G63 → FrM L F K63 G63 → ∀ (H63 : Heap) (l63 : List Loc) (ls : Array Slot) (cc ss : Nat), HW D cls L s H63 l63 K63 G63 → cc + (2) ≤ 2 → ss ≤ 33 * cc → lv_has ls 4 [(0, .ref (B 0)), (1, .int v1), (2, .int v2)] → W p l e (Rm 9 2 66) s m ([.ref (B 0)] : List Value).toArray below meth c H63 l63 cc ss (EnI D cls s below ([.ref (B 0)] : List Value).toArray 2 66 L (fun r L' F' => res.1 = r ∧ MI κ ζ B res.2 L' F' ∧ FrM L F L' F')) (F0 m 63 ls [.int u0]) := by
    intro  w63 v1 v2 u0 hf K63 G63 hI hFr H63 l63 ls cc ss hW hcc hss hl
    unfold f_X6_undo_63 at hf
    refine lv_istore_n (lv' := [(3, .int u0), (0, .ref (B 0)), (1, .int v1), (2, .int v2)]) S.1 S.2.1 dX6_undo_63 rfl hl (by decide) rfl (fun ls hl => ?_)
    refine lv_iload_n S.1 S.2.1 dX6_undo_64 rfl (lv_at hl 2 rfl) ?_
    refine lv_sipush (v := 1000) S.1 S.2.1 dX6_undo_65 (by decide) ?_
    refine lv_idiv S.1 S.2.1 dX6_undo_68 (by decide) ?_
    refine lv_iconst (v := 2) S.1 S.2.1 dX6_undo_69 (by decide) ?_
    refine pk_irem S dX6_undo_70 (by decide) ?_
    refine lv_iconst (v := 1) S.1 S.2.1 dX6_undo_71 (by decide) ?_
    refine lv_icmp_ne (tgt := 99) S.1 S.2.1 dX6_undo_72 (by decide) (fun c11 => ?_) (fun c11 => ?_)
    · have hf := (if_neg c11).symm.trans hf
      refine lv_aload_n S.1 S.2.1 dX6_undo_99 rfl (lv_at hl 1 rfl) ?_
      refine lv_iload_n S.1 S.2.1 dX6_undo_100 rfl (lv_at hl 3 rfl) ?_
      refine lv_iload_n S.1 S.2.1 dX6_undo_101 rfl (lv_at hl 0 rfl) ?_
      refine lv_if_eq (tgt := 113) S.1 S.2.1 dX6_undo_102 (by decide) (fun c12 => ?_) (fun c12 => ?_)
      · have hf := (if_pos c12).symm.trans hf
        refine lv_iconst (v := 0) S.1 S.2.1 dX6_undo_113 (by decide) ?_
        exact B114  w63 v1 v2 0 hf K63 G63 hI hFr _ _ _ _ _ hW (by omega) (by omega) (lv_sub hl [2] rfl)
      · have hf := (if_neg c12).symm.trans hf
        refine lv_aload_n S.1 S.2.1 dX6_undo_105 rfl (lv_at hl 1 rfl) ?_
        refine lv_iload_n S.1 S.2.1 dX6_undo_106 rfl (lv_at hl 3 rfl) ?_
        obtain ⟨z17, hz, hf⟩ := ob hf
        refine pk_cVI (As := [.int v2]) (rest := [.int v2, .ref (B 0)]) S hK hST hW (c_X6_size hI v2 hz) mc_X6_size wd_1199 wd_1201 wd_1703 rfl np_X6_size (hI.mem (by decide)) hI.this rfl rfl hl.1 rfl (Nat.le_of_ble_eq_true rfl) dX6_undo_107 ⟨by decide, by decide⟩ ⟨rmc (by omega), rms (by omega)⟩ (fun r L13 F14 H15 l16 hp hW => ?_)
        obtain ⟨rfl, rfl, rfl⟩ := hp
        refine lv_goto (tgt := 114) S.1 S.2.1 dX6_undo_110 (by decide) ?_
        exact B114  w63 v1 v2 z17 hf K63 G63 hI hFr _ _ _ _ _ hW (by omega) (by omega) (lv_sub hl [2] rfl)
    · have hf := (if_pos c11).symm.trans hf
      refine lv_aload_n S.1 S.2.1 dX6_undo_75 rfl (lv_at hl 1 rfl) ?_
      refine lv_iload_n S.1 S.2.1 dX6_undo_76 rfl (lv_at hl 3 rfl) ?_
      refine lv_iload_n S.1 S.2.1 dX6_undo_77 rfl (lv_at hl 0 rfl) ?_
      refine lv_if_eq (tgt := 91) S.1 S.2.1 dX6_undo_78 (by decide) (fun c18 => ?_) (fun c18 => ?_)
      · have hf := (if_pos c18).symm.trans hf
        refine lv_iconst (v := 0) S.1 S.2.1 dX6_undo_91 (by decide) ?_
        exact B92  w63 v1 v2 0 hf K63 G63 hI hFr _ _ _ _ _ hW (by omega) (by omega) (lv_sub hl [2] rfl)
      · have hf := (if_neg c18).symm.trans hf
        refine lv_aload_n S.1 S.2.1 dX6_undo_81 rfl (lv_at hl 1 rfl) ?_
        refine lv_iload_n S.1 S.2.1 dX6_undo_82 rfl (lv_at hl 3 rfl) ?_
        obtain ⟨z23, hz, hf⟩ := ob hf
        refine pk_cVI (As := [.int v2]) (rest := [.int v2, .ref (B 0)]) S hK hST hW (c_X6_size hI v2 hz) mc_X6_size wd_1199 wd_1201 wd_1703 rfl np_X6_size (hI.mem (by decide)) hI.this rfl rfl hl.1 rfl (Nat.le_of_ble_eq_true rfl) dX6_undo_83 ⟨by decide, by decide⟩ ⟨rmc (by omega), rms (by omega)⟩ (fun r L19 F20 H21 l22 hp hW => ?_)
        obtain ⟨rfl, rfl, rfl⟩ := hp
        refine lv_iconst (v := 1) S.1 S.2.1 dX6_undo_86 (by decide) ?_
        refine lv_isub S.1 S.2.1 dX6_undo_87 ?_
        refine lv_goto (tgt := 92) S.1 S.2.1 dX6_undo_88 (by decide) ?_
        exact B92  w63 v1 v2 (z23 - 1) hf K63 G63 hI hFr _ _ _ _ _ hW (by omega) (by omega) (lv_sub hl [2] rfl)
  unfold f_X6_undo at hf
  refine lv_aload_n S.1 S.2.1 dX6_undo_0 rfl (lv_at hl 0 rfl) ?_
  refine lv_iconst (v := 0) S.1 S.2.1 dX6_undo_1 (by decide) ?_
  refine pk_put (v := .int 0) S hK hW 0 (hI.mem (by decide)) hI.this rfl hinX6 tyX6_ok nmX6 (by decide) wd_1155 rfl rfl rfl rfl (Nat.le_of_ble_eq_true rfl) dX6_undo_2 (fun H24 l25 hW => ?_)
  have hF9 := FrM.cell (L := L) (w := (([.int (τ.2 0), .ref (B 1), .ref (B 5), .ref (B 6), .ref (B 7), .int (τ.2 1), .int (τ.2 2), .int (τ.2 3), .int (τ.2 4)] : List Value).set 0 (.int 0))) hI.this (Or.inr rfl)
  have hI := hI.setSc 0 0 (by decide) 0 rfl
  generalize va_up F (B 0) (.inr (11, (([.int (τ.2 0), .ref (B 1), .ref (B 5), .ref (B 6), .ref (B 7), .int (τ.2 1), .int (τ.2 2), .int (τ.2 3), .int (τ.2 4)] : List Value).set 0 (.int 0)))) = F26 at hW hI hF9
  have hFr := hFr.tr hF9
  obtain ⟨t27, et27, hf⟩ := nm_ok hf
  have hI := eqm (P := fun w => MI κ ζ B w L F26) hI et27.symm
  refine lv_aload_n S.1 S.2.1 dX6_undo_5 rfl (lv_at hl 0 rfl) ?_
  refine pk_get S hK hW 2 (hI.mem (by decide)) hI.this rfl hinX6 (by decide) wd_1157 rfl dX6_undo_6 ?_
  obtain ⟨ar9, hL9, hup9⟩ := hI.list (by decide : 2 < 4)
  obtain ⟨m_h9, md9, e_h9⟩ := hL9.obj
  refine pk_cVI (As := []) (rest := []) S hK hST hW (c_lempty hL9) mc_Jx4a65c_isEmpty_aae02 wd_1354 wd_1355 wd_1356 rfl np_Jx4a65c_isEmpty_aae02 m_h9 e_h9 rfl rfl hl.1 rfl (Nat.le_of_ble_eq_true rfl) dX6_undo_9 ⟨by decide, by decide⟩ ⟨rmc (by omega), rms (by omega)⟩ (fun y32 L28 F29 H30 l31 hp hW => ?_)
  obtain ⟨rfl, rfl, ey32⟩ := hp
  have hf := nm_at hf ey32.symm
  refine lv_if_eq (tgt := 18) S.1 S.2.1 dX6_undo_12 (by decide) (fun c33 => ?_) (fun c33 => ?_)
  · have hf := (if_pos c33).symm.trans hf
    refine lv_aload_n S.1 S.2.1 dX6_undo_18 rfl (lv_at hl 0 rfl) ?_
    refine pk_get S hK hW 2 (hI.mem (by decide)) hI.this rfl hinX6 (by decide) wd_1157 rfl dX6_undo_19 ?_
    refine lv_aload_n S.1 S.2.1 dX6_undo_22 rfl (lv_at hl 0 rfl) ?_
    refine pk_get S hK hW 2 (hI.mem (by decide)) hI.this rfl hinX6 (by decide) wd_1157 rfl dX6_undo_23 ?_
    obtain ⟨ar9, hL9, hup9⟩ := hI.list (by decide : 2 < 4)
    obtain ⟨m_h9, md9, e_h9⟩ := hL9.obj
    refine pk_cVI (As := []) (rest := [.ref (B (3 + 2))]) S hK hST hW (c_lsize hL9) mc_Jx4a65c_size_8abf5 wd_1215 wd_1216 wd_1217 rfl np_Jx4a65c_size_8abf5 m_h9 e_h9 rfl rfl hl.1 rfl (Nat.le_of_ble_eq_true rfl) dX6_undo_26 ⟨by decide, by decide⟩ ⟨rmc (by omega), rms (by omega)⟩ (fun r L34 F35 H36 l37 hp hW => ?_)
    obtain ⟨rfl, rfl, rfl⟩ := hp
    refine lv_iconst (v := 1) S.1 S.2.1 dX6_undo_29 (by decide) ?_
    refine lv_isub S.1 S.2.1 dX6_undo_30 ?_
    obtain ⟨ar9, hL9, hup9⟩ := hI.list (by decide : 2 < 4)
    obtain ⟨m_h9, md9, e_h9⟩ := hL9.obj
    obtain ⟨z42, hz, hf⟩ := ob hf
    refine pk_cVR (As := [.int ((nI (t27.1 2).length) - 1)]) (rest := []) S hK hST hW (c_mdel hL9 hz) mc_Jx4a65c_remove_915e3 wd_1280 wd_1281 wd_1282 rfl np_Jx4a65c_remove_915e3 m_h9 e_h9 rfl rfl hl.1 rfl (Nat.le_of_ble_eq_true rfl) dX6_undo_31 ⟨by decide, by decide⟩ ⟨rmc (by omega), rms (by omega)⟩ (fun y43 L38 F39 H40 l41 hp hW => ?_)
    obtain ⟨hby43, hL8, hN8⟩ := hp
    obtain ⟨hI, hF9⟩ := hup9 _ _ _ _ hL8 hN8 (noE hW hST)
    have hFr := hFr.tr hF9
    obtain ⟨t44, et44, hf⟩ := nm_ok hf
    have hI := eqm (P := fun w => MI κ ζ B w L38 F39) hI et44.symm
    refine va_castS S.1 S.2.1 S.2.2.2.1 (S.2.2.2.2 _ wd_1303) (hK.1 2 _ rfl).2 (bx_cell hK hW hST hby43) dX6_undo_34 ?_
    refine pk_cVIr (As := []) (rest := []) S hK hST hW (c_J6_intValue_8abf5 hby43) mc_J6_intValue_8abf5 wd_1304 wd_1305 wd_1306 rfl np_J6_intValue_8abf5 (bx_cell hK hW hST hby43) rfl hl.1 rfl (Nat.le_of_ble_eq_true rfl) dX6_undo_37 ⟨by decide, by decide⟩ ⟨rmc (by omega), rms (by omega)⟩ (fun r L45 F46 H47 l48 hp hW => ?_)
    obtain ⟨rfl, rfl, rfl⟩ := hp
    refine lv_topi (fun y49 ey49 => ?_)
    have hf := nm_at hf ey49
    refine lv_istore_n (lv' := [(1, .int y49), (0, .ref (B 0))]) S.1 S.2.1 dX6_undo_40 rfl hl (by decide) rfl (fun ls hl => ?_)
    refine lv_iload_n S.1 S.2.1 dX6_undo_41 rfl (lv_at hl 0 rfl) ?_
    refine lv_sipush (v := 4000) S.1 S.2.1 dX6_undo_42 (by decide) ?_
    refine lv_idiv S.1 S.2.1 dX6_undo_45 (by decide) ?_
    refine lv_topi (fun y50 ey50 => ?_)
    have hf := nm_at hf ey50
    refine lv_istore_n (lv' := [(2, .int y50), (1, .int y49), (0, .ref (B 0))]) S.1 S.2.1 dX6_undo_46 rfl hl (by decide) rfl (fun ls hl => ?_)
    refine lv_iload_n S.1 S.2.1 dX6_undo_47 rfl (lv_at hl 1 rfl) ?_
    refine lv_sipush (v := 2000) S.1 S.2.1 dX6_undo_48 (by decide) ?_
    refine lv_idiv S.1 S.2.1 dX6_undo_51 (by decide) ?_
    refine lv_iconst (v := 2) S.1 S.2.1 dX6_undo_52 (by decide) ?_
    refine pk_irem S dX6_undo_53 (by decide) ?_
    refine lv_iconst (v := 1) S.1 S.2.1 dX6_undo_54 (by decide) ?_
    refine lv_icmp_ne (tgt := 62) S.1 S.2.1 dX6_undo_55 (by decide) (fun c51 => ?_) (fun c51 => ?_)
    · have hf := (if_neg c51).symm.trans hf
      refine lv_iconst (v := 0) S.1 S.2.1 dX6_undo_62 (by decide) ?_
      exact B63  t44 y49 y50 0 hf L38 F39 hI hFr _ _ _ _ _ hW (by omega) (by omega) (lv_sub hl [2, 1, 0] rfl)
    · have hf := (if_pos c51).symm.trans hf
      refine lv_iconst (v := 1) S.1 S.2.1 dX6_undo_58 (by decide) ?_
      refine lv_goto (tgt := 63) S.1 S.2.1 dX6_undo_59 (by decide) ?_
      exact B63  t44 y49 y50 1 hf L38 F39 hI hFr _ _ _ _ _ hW (by omega) (by omega) (lv_sub hl [2, 1, 0] rfl)
  · have hf := (if_neg c33).symm.trans hf
    refine lv_bipush (v := (-9)) S.1 S.2.1 dX6_undo_15 (by decide) ?_
    exact pk_iret S hr hlk hW (eqm (P := fun z => z.1 = (-9) ∧ MI κ ζ B z.2 L F26 ∧ FrM L F L F26) ⟨rfl, hI, hFr⟩ (Option.some.inj hf)) (by omega) (by omega) dX6_undo_17
def f_X6_found_44 (τ : MS) (k6 : (Int32 × Int32 × Int32 × Int32 × Int32) → Option Int32) (v1 : Int32) (v2 : Int32) (v3 : Int32) (v4 : Int32) (v5 : Int32) : Option Int32 := nm (v5 + 1 : Int32) fun y1 => k6 (v1, v2, v3, v4, y1)
def f_X6_found_40 (τ : MS) (k6 : (Int32 × Int32 × Int32 × Int32 × Int32) → Option Int32) (v1 : Int32) (v2 : Int32) (v3 : Int32) (v5 : Int32) : Option Int32 := f_X6_found_44 τ k6 v1 v2 v3 v5 v5
def f_X6_found_6 (τ : MS)  (k6 : (Int32 × Int32 × Int32 × Int32 × Int32) → Option Int32) (t : (Int32 × Int32 × Int32 × Int32 × Int32)) : Option Int32 := (f_X6_size τ t.1).bind fun z6 => (if z6 ≤ t.2.2.2.2 then some (t.2.2.2.1) else (f_X6_get τ t.1 t.2.2.2.2).bind fun z12 => (f_X6_kind z12).bind fun z17 => (if z17 = t.2.1 then (if t.2.2.1 = 0 then (if t.2.2.2.1 = ((-1)) then f_X6_found_40 τ k6 t.1 t.2.1 t.2.2.1 t.2.2.2.2 else f_X6_found_44 τ k6 t.1 t.2.1 t.2.2.1 t.2.2.2.1 t.2.2.2.2) else f_X6_found_40 τ k6 t.1 t.2.1 t.2.2.1 t.2.2.2.2) else f_X6_found_44 τ k6 t.1 t.2.1 t.2.2.1 t.2.2.2.1 t.2.2.2.2))
def f_X6_found (τ : MS) (x1 : Int32) (x2 : Int32) (x3 : Int32) : Option Int32 := lpn (f_X6_found_6 τ) 24 (x1, x2, x3, (-1), 0)
theorem mc_X6_found : MCode yX6_found cX6_found 6 (some .int) := ⟨wd_1369, wd_5, by decide, by decide⟩
theorem np_X6_found : (parseMethodDescriptor yX6_found.desc).map (fun d => d.parameters.length) = some 3 := by decide +kernel
set_option maxHeartbeats 4000000 in
set_option maxRecDepth 100000 in
theorem c_X6_found {l : Launch} {D : va_G} {κ : Nat → ClassId} {ζ : Nat → Nat} {L : List Nat} {F : Nat → va_E} {τ : MS} {B : Nat → Nat} (hI : MI κ ζ B τ L F) (x1 : Int32) (x2 : Int32) (x3 : Int32) {res : Int32} (hf : f_X6_found τ x1 x2 x3 = some res) : MtI l D cls (ty5 κ) ζ yX6_found cX6_found 6 (some .int) 6 0 0 ([.ref (B 0), .int x1, .int x2, .int x3] : List Value) L F (fun r L' F' => L = L' ∧ F = F' ∧ res = r) := by
  refine MtI.of (by decide) (Nat.le_of_ble_eq_true rfl) ?_
  intro p e s m below meth c S hr hlk _ hK hW hST ls hl
  have hl : lv_has ls 6 [(0, .ref (B 0)), (1, .int x1), (2, .int x2), (3, .int x3)] := hl
  have B44 : ∀ (k6 : (Int32 × Int32 × Int32 × Int32 × Int32) → Option Int32) (nd6 : Nat) (hk6 : (∀ (v1 : Int32) (v2 : Int32) (v3 : Int32) (v4 : Int32) (v5 : Int32), k6 (v1, v2, v3, v4, v5) = some res → ∀ (H6 : Heap) (l6 : List Loc) (ls : Array Slot) (cc ss : Nat), HW D cls L s H6 l6 L F → cc + (nd6) ≤ 0 → ss ≤ 33 * cc → lv_has ls 6 [(0, .ref (B 0)), (1, .int v1), (2, .int v2), (3, .int v3), (4, .int v4), (5, .int v5)] → W p l e (Rm 6 0 0) s m ([.ref (B 0), .int x1, .int x2, .int x3] : List Value).toArray below meth c H6 l6 cc ss (EnI D cls s below ([.ref (B 0), .int x1, .int x2, .int x3] : List Value).toArray 0 0 L (fun r L' F' => L = L' ∧ F = F' ∧ res = r)) (F0 m 6 ls []))) (hnd6 : 0 ≤ nd6) (v1 : Int32) (v2 : Int32) (v3 : Int32) (v4 : Int32) (v5 : Int32), f_X6_found_44 τ k6 v1 v2 v3 v4 v5 = some res → ∀ (H44 : Heap) (l44 : List Loc) (ls : Array Slot) (cc ss : Nat), HW D cls L s H44 l44 L F → cc + (0 + nd6) ≤ 0 → ss ≤ 33 * cc → lv_has ls 6 [(0, .ref (B 0)), (1, .int v1), (2, .int v2), (3, .int v3), (4, .int v4), (5, .int v5)] → W p l e (Rm 6 0 0) s m ([.ref (B 0), .int x1, .int x2, .int x3] : List Value).toArray below meth c H44 l44 cc ss (EnI D cls s below ([.ref (B 0), .int x1, .int x2, .int x3] : List Value).toArray 0 0 L (fun r L' F' => L = L' ∧ F = F' ∧ res = r)) (F0 m 44 ls []) := by
    intro k6 nd6 hk6 hnd6 v1 v2 v3 v4 v5 hf H44 l44 ls cc ss hW hcc hss hl
    unfold f_X6_found_44 at hf
    obtain ⟨y1, ey1⟩ : ∃ y : Int32, y = v5 + 1 := ⟨_, rfl⟩
    have hf := nm_at hf ey1
    refine lv_iinc (v := y1) (lv' := [(5, .int y1), (0, .ref (B 0)), (1, .int v1), (2, .int v2), (3, .int v3), (4, .int v4)]) S.1 S.2.1 dX6_found_44 hl (k := 5) rfl (by rw [ey1]; rfl) (by decide) rfl (fun ls hl => ?_)
    refine lv_goto (tgt := 6) S.1 S.2.1 dX6_found_47 (by decide) ?_
    exact hk6 v1 v2 v3 v4 y1 hf  _ _ _ _ _ hW (by omega) (by omega) (lv_sub hl [1, 2, 3, 4, 5, 0] rfl)
  have B40 : ∀ (k6 : (Int32 × Int32 × Int32 × Int32 × Int32) → Option Int32) (nd6 : Nat) (hk6 : (∀ (v1 : Int32) (v2 : Int32) (v3 : Int32) (v4 : Int32) (v5 : Int32), k6 (v1, v2, v3, v4, v5) = some res → ∀ (H6 : Heap) (l6 : List Loc) (ls : Array Slot) (cc ss : Nat), HW D cls L s H6 l6 L F → cc + (nd6) ≤ 0 → ss ≤ 33 * cc → lv_has ls 6 [(0, .ref (B 0)), (1, .int v1), (2, .int v2), (3, .int v3), (4, .int v4), (5, .int v5)] → W p l e (Rm 6 0 0) s m ([.ref (B 0), .int x1, .int x2, .int x3] : List Value).toArray below meth c H6 l6 cc ss (EnI D cls s below ([.ref (B 0), .int x1, .int x2, .int x3] : List Value).toArray 0 0 L (fun r L' F' => L = L' ∧ F = F' ∧ res = r)) (F0 m 6 ls []))) (hnd6 : 0 ≤ nd6) (v1 : Int32) (v2 : Int32) (v3 : Int32) (v5 : Int32), f_X6_found_40 τ k6 v1 v2 v3 v5 = some res → ∀ (H40 : Heap) (l40 : List Loc) (ls : Array Slot) (cc ss : Nat), HW D cls L s H40 l40 L F → cc + (0 + nd6) ≤ 0 → ss ≤ 33 * cc → lv_has ls 6 [(0, .ref (B 0)), (1, .int v1), (2, .int v2), (3, .int v3), (5, .int v5)] → W p l e (Rm 6 0 0) s m ([.ref (B 0), .int x1, .int x2, .int x3] : List Value).toArray below meth c H40 l40 cc ss (EnI D cls s below ([.ref (B 0), .int x1, .int x2, .int x3] : List Value).toArray 0 0 L (fun r L' F' => L = L' ∧ F = F' ∧ res = r)) (F0 m 40 ls []) := by
    intro k6 nd6 hk6 hnd6 v1 v2 v3 v5 hf H40 l40 ls cc ss hW hcc hss hl
    unfold f_X6_found_40 at hf
    refine lv_iload S.1 S.2.1 dX6_found_40 (lv_at hl 4 rfl) ?_
    refine lv_istore (lv' := [(4, .int v5), (0, .ref (B 0)), (1, .int v1), (2, .int v2), (3, .int v3), (5, .int v5)]) S.1 S.2.1 dX6_found_42 hl (by decide) rfl (fun ls hl => ?_)
    exact B44 k6 nd6 hk6 hnd6 v1 v2 v3 v5 v5 hf  _ _ _ _ _ hW (by omega) (by omega) (lv_sub hl [1, 2, 3, 4, 0, 5] rfl)
  have B6 : ∀  (N : Nat), (∀ (v1 : Int32) (v2 : Int32) (v3 : Int32) (v4 : Int32) (v5 : Int32), (lpn (f_X6_found_6 τ) N) (v1, v2, v3, v4, v5) = some res → ∀ (H6 : Heap) (l6 : List Loc) (ls : Array Slot) (cc ss : Nat), HW D cls L s H6 l6 L F → cc + (N * 0 + 0) ≤ 0 → ss ≤ 33 * cc → lv_has ls 6 [(0, .ref (B 0)), (1, .int v1), (2, .int v2), (3, .int v3), (4, .int v4), (5, .int v5)] → W p l e (Rm 6 0 0) s m ([.ref (B 0), .int x1, .int x2, .int x3] : List Value).toArray below meth c H6 l6 cc ss (EnI D cls s below ([.ref (B 0), .int x1, .int x2, .int x3] : List Value).toArray 0 0 L (fun r L' F' => L = L' ∧ F = F' ∧ res = r)) (F0 m 6 ls [])) := by
    intro  N
    induction N with
    | zero => intro v1 v2 v3 v4 v5 hf H6 l6 ls cc ss hW hcc hss hl; cases hf
    | succ N ih =>
      intro v1 v2 v3 v4 v5 hf H6 l6 ls cc ss hW hcc hss hl
      have hf : f_X6_found_6 τ (lpn (f_X6_found_6 τ) N) (v1, v2, v3, v4, v5) = some res := hf
      generalize lpn (f_X6_found_6 τ) N = k6 at hf ih
      have hnd6 : 0 ≤ N * 0 + 0 := by omega
      have hcc : cc + (0 + (N * 0 + 0)) ≤ 0 := by omega
      have hk6 := ih
      generalize N * 0 + 0 = nd6 at hnd6 hcc hk6
      unfold f_X6_found_6 at hf
      try dsimp only at hf
      refine lv_iload S.1 S.2.1 dX6_found_6 (lv_at hl 5 rfl) ?_
      refine lv_aload_n S.1 S.2.1 dX6_found_8 rfl (lv_at hl 0 rfl) ?_
      refine lv_iload_n S.1 S.2.1 dX6_found_9 rfl (lv_at hl 1 rfl) ?_
      obtain ⟨z6, hz, hf⟩ := ob hf
      refine pk_cVI (As := [.int v1]) (rest := [.int v5]) S hK hST hW (c_X6_size hI v1 hz) mc_X6_size wd_1199 wd_1201 wd_1703 rfl np_X6_size (hI.mem (by decide)) hI.this rfl rfl hl.1 rfl (Nat.le_of_ble_eq_true rfl) dX6_found_10 ⟨by decide, by decide⟩ ⟨rmc (by omega), rms (by omega)⟩ (fun r L2 F3 H4 l5 hp hW => ?_)
      obtain ⟨rfl, rfl, rfl⟩ := hp
      refine lv_icmp_ge (tgt := 50) S.1 S.2.1 dX6_found_13 (by decide) (fun c7 => ?_) (fun c7 => ?_)
      · have hf := (if_pos c7).symm.trans hf
        refine lv_iload S.1 S.2.1 dX6_found_50 (lv_at hl 4 rfl) ?_
        exact pk_iret S hr hlk hW ⟨rfl, rfl, eqm (P := fun z => z = v4) rfl (Option.some.inj hf)⟩ (by omega) (by omega) dX6_found_52
      · have hf := (if_neg c7).symm.trans hf
        refine lv_aload_n S.1 S.2.1 dX6_found_16 rfl (lv_at hl 0 rfl) ?_
        refine lv_iload_n S.1 S.2.1 dX6_found_17 rfl (lv_at hl 1 rfl) ?_
        refine lv_iload S.1 S.2.1 dX6_found_18 (lv_at hl 5 rfl) ?_
        obtain ⟨z12, hz, hf⟩ := ob hf
        refine pk_cVI (As := [.int v1, .int v5]) (rest := []) S hK hST hW (c_X6_get hI v1 v5 hz) mc_X6_get wd_1299 wd_1301 wd_1711 rfl np_X6_get (hI.mem (by decide)) hI.this rfl rfl hl.1 rfl (Nat.le_of_ble_eq_true rfl) dX6_found_20 ⟨by decide, by decide⟩ ⟨rmc (by omega), rms (by omega)⟩ (fun r L8 F9 H10 l11 hp hW => ?_)
        obtain ⟨rfl, rfl, rfl⟩ := hp
        obtain ⟨z17, hz, hf⟩ := ob hf
        refine pk_cSI (As := [.int z12]) (rest := []) S hK hST hW (c_X6_kind  z12 hz) mc_X6_kind wd_1370 wd_1371 np_X6_kind rfl hl.1 rfl (Nat.le_of_ble_eq_true rfl) dX6_found_23 ⟨by decide, by decide⟩ ⟨rmc (by omega), rms (by omega)⟩ (fun r L13 F14 H15 l16 hp hW => ?_)
        obtain ⟨rfl, rfl, rfl⟩ := hp
        refine lv_iload_n S.1 S.2.1 dX6_found_26 rfl (lv_at hl 2 rfl) ?_
        refine lv_icmp_ne (tgt := 44) S.1 S.2.1 dX6_found_27 (by decide) (fun c18 => ?_) (fun c18 => ?_)
        · have hf := (if_neg c18).symm.trans hf
          exact B44 k6 nd6 hk6 hnd6 v1 v2 v3 v4 v5 hf  _ _ _ _ _ hW (by omega) (by omega) (lv_sub hl [0, 1, 2, 3, 4, 5] rfl)
        · have hf := (if_pos c18).symm.trans hf
          refine lv_iload_n S.1 S.2.1 dX6_found_30 rfl (lv_at hl 3 rfl) ?_
          refine lv_if_ne (tgt := 40) S.1 S.2.1 dX6_found_31 (by decide) (fun c19 => ?_) (fun c19 => ?_)
          · have hf := (if_neg c19).symm.trans hf
            exact B40 k6 nd6 hk6 hnd6 v1 v2 v3 v5 hf  _ _ _ _ _ hW (by omega) (by omega) (lv_sub hl [0, 1, 2, 3, 5] rfl)
          · have hf := (if_pos c19).symm.trans hf
            refine lv_iload S.1 S.2.1 dX6_found_34 (lv_at hl 4 rfl) ?_
            refine lv_iconst (v := (-1)) S.1 S.2.1 dX6_found_36 (by decide) ?_
            refine lv_icmp_ne (tgt := 44) S.1 S.2.1 dX6_found_37 (by decide) (fun c20 => ?_) (fun c20 => ?_)
            · have hf := (if_neg c20).symm.trans hf
              exact B44 k6 nd6 hk6 hnd6 v1 v2 v3 v4 v5 hf  _ _ _ _ _ hW (by omega) (by omega) (lv_sub hl [0, 1, 2, 3, 4, 5] rfl)
            · have hf := (if_pos c20).symm.trans hf
              exact B40 k6 nd6 hk6 hnd6 v1 v2 v3 v5 hf  _ _ _ _ _ hW (by omega) (by omega) (lv_sub hl [0, 1, 2, 3, 5] rfl)
  unfold f_X6_found at hf
  refine lv_iconst (v := (-1)) S.1 S.2.1 dX6_found_0 (by decide) ?_
  refine lv_istore (lv' := [(4, .int ((-1))), (0, .ref (B 0)), (1, .int x1), (2, .int x2), (3, .int x3)]) S.1 S.2.1 dX6_found_1 hl (by decide) rfl (fun ls hl => ?_)
  refine lv_iconst (v := 0) S.1 S.2.1 dX6_found_3 (by decide) ?_
  refine lv_istore (lv' := [(5, .int 0), (4, .int ((-1))), (0, .ref (B 0)), (1, .int x1), (2, .int x2), (3, .int x3)]) S.1 S.2.1 dX6_found_4 hl (by decide) rfl (fun ls hl => ?_)
  exact B6  24 x1 x2 x3 ((-1)) 0 hf  _ _ _ _ _ hW (by omega) (by omega) (lv_sub hl [2, 3, 4, 5, 1, 0] rfl)
def f_X6_isNoKind_43   (w43 : MS) : Option (Int32 × MS) := some (1, w43)
def f_X6_isNoKind_36   (w36 : MS) (u1 : Int32) : Option (Int32 × MS) := (f_X6_refuse w36 u1 2).bind fun z5 => (if z5.1 = 0 then some (0, z5.2) else f_X6_isNoKind_43 z5.2)
def f_X6_isNoKind_31   (w31 : MS) : Option (Int32 × MS) := f_X6_isNoKind_36 w31 1
def f_X6_isNoKind_35   (w35 : MS) : Option (Int32 × MS) := f_X6_isNoKind_36 w35 0
def f_X6_isNoKind (τ : MS) (x1 : Int32) (x2 : Int32) : Option (Int32 × MS) := (f_X6_isNoTrack x1).bind fun z11 => (f_X6_start τ z11 1).bind fun z16 => (if z16.1 = 0 then (f_X6_isIn x2 0 9).bind fun z22 => (if z22 = 0 then f_X6_isNoKind_31 z16.2 else (if x2 = 0 then (if x1 = 0 then f_X6_isNoKind_31 z16.2 else f_X6_isNoKind_35 z16.2) else f_X6_isNoKind_35 z16.2)) else f_X6_isNoKind_43 z16.2)
theorem mc_X6_isNoKind : MCode yX6_isNoKind cX6_isNoKind 3 (some .boolean) := ⟨wd_1365, wd_5, by decide, by decide⟩
theorem np_X6_isNoKind : (parseMethodDescriptor yX6_isNoKind.desc).map (fun d => d.parameters.length) = some 2 := by decide +kernel
set_option maxHeartbeats 4000000 in
set_option maxRecDepth 100000 in
theorem c_X6_isNoKind {l : Launch} {D : va_G} {κ : Nat → ClassId} {ζ : Nat → Nat} {L : List Nat} {F : Nat → va_E} {τ : MS} {B : Nat → Nat} (hI : MI κ ζ B τ L F) (x1 : Int32) (x2 : Int32) {res : (Int32 × MS)} (hf : f_X6_isNoKind τ x1 x2 = some res) : MtI l D cls (ty5 κ) ζ yX6_isNoKind cX6_isNoKind 3 (some .boolean) 3 0 0 ([.ref (B 0), .int x1, .int x2] : List Value) L F (fun r L' F' => res.1 = r ∧ MI κ ζ B res.2 L' F' ∧ FrM L F L' F') := by
  refine MtI.of (by decide) (Nat.le_of_ble_eq_true rfl) ?_
  intro p e s m below meth c S hr hlk _ hK hW hST ls hl
  have hl : lv_has ls 3 [(0, .ref (B 0)), (1, .int x1), (2, .int x2)] := hl
  have hFr : FrM L F L F := FrM.rf
  have B43 : ∀  (w43 : MS), f_X6_isNoKind_43 w43 = some res → ∀ (K43 : List Nat) (G43 : Nat → va_E), MI κ ζ B w43 K43 G43 → FrM L F K43 G43 → ∀ (H43 : Heap) (l43 : List Loc) (ls : Array Slot) (cc ss : Nat), HW D cls L s H43 l43 K43 G43 → cc + (0) ≤ 0 → ss ≤ 33 * cc → lv_has ls 3 [] → W p l e (Rm 3 0 0) s m ([.ref (B 0), .int x1, .int x2] : List Value).toArray below meth c H43 l43 cc ss (EnI D cls s below ([.ref (B 0), .int x1, .int x2] : List Value).toArray 0 0 L (fun r L' F' => res.1 = r ∧ MI κ ζ B res.2 L' F' ∧ FrM L F L' F')) (F0 m 43 ls []) := by
    intro  w43 hf K43 G43 hI hFr H43 l43 ls cc ss hW hcc hss hl
    unfold f_X6_isNoKind_43 at hf
    refine lv_iconst (v := 1) S.1 S.2.1 dX6_isNoKind_43 (by decide) ?_
    refine lv_goto (tgt := 48) S.1 S.2.1 dX6_isNoKind_44 (by decide) ?_
    exact pk_zret S hr hlk hW (by decide) (eqm (P := fun z => z.1 = 1 ∧ MI κ ζ B z.2 K43 G43 ∧ FrM L F K43 G43) ⟨rfl, hI, hFr⟩ (Option.some.inj hf)) (by omega) (by omega) dX6_isNoKind_48
  have B36 : ∀  (w36 : MS) (u1 : Int32), f_X6_isNoKind_36 w36 u1 = some res → ∀ (K36 : List Nat) (G36 : Nat → va_E), MI κ ζ B w36 K36 G36 → FrM L F K36 G36 → ∀ (H36 : Heap) (l36 : List Loc) (ls : Array Slot) (cc ss : Nat), HW D cls L s H36 l36 K36 G36 → cc + (0) ≤ 0 → ss ≤ 33 * cc → lv_has ls 3 [] → W p l e (Rm 3 0 0) s m ([.ref (B 0), .int x1, .int x2] : List Value).toArray below meth c H36 l36 cc ss (EnI D cls s below ([.ref (B 0), .int x1, .int x2] : List Value).toArray 0 0 L (fun r L' F' => res.1 = r ∧ MI κ ζ B res.2 L' F' ∧ FrM L F L' F')) (F0 m 36 ls [.int u1, .ref (B 0)]) := by
    intro  w36 u1 hf K36 G36 hI hFr H36 l36 ls cc ss hW hcc hss hl
    unfold f_X6_isNoKind_36 at hf
    refine lv_iconst (v := 2) S.1 S.2.1 dX6_isNoKind_36 (by decide) ?_
    obtain ⟨z5, hz, hf⟩ := ob hf
    refine pk_cVI (As := [.int u1, .int 2]) (rest := []) S hK hST hW (c_X6_refuse hI u1 2 hz) mc_X6_refuse wd_1192 wd_1194 wd_1702 rfl np_X6_refuse (hI.mem (by decide)) hI.this rfl rfl hl.1 rfl (Nat.le_of_ble_eq_true rfl) dX6_isNoKind_37 ⟨by decide, by decide⟩ ⟨rmc (by omega), rms (by omega)⟩ (fun r L1 F2 H3 l4 hp hW => ?_)
    obtain ⟨rfl, hI, hF9⟩ := hp
    have hFr := hFr.tr hF9
    refine lv_if_eq (tgt := 47) S.1 S.2.1 dX6_isNoKind_40 (by decide) (fun c6 => ?_) (fun c6 => ?_)
    · have hf := (if_pos c6).symm.trans hf
      refine lv_iconst (v := 0) S.1 S.2.1 dX6_isNoKind_47 (by decide) ?_
      exact pk_zret S hr hlk hW (by decide) (eqm (P := fun z => z.1 = 0 ∧ MI κ ζ B z.2 L1 F2 ∧ FrM L F L1 F2) ⟨rfl, hI, hFr⟩ (Option.some.inj hf)) (by omega) (by omega) dX6_isNoKind_48
    · have hf := (if_neg c6).symm.trans hf
      exact B43  z5.2 hf L1 F2 hI hFr _ _ _ _ _ hW (by omega) (by omega) (lv_sub hl [] rfl)
  have B31 : ∀  (w31 : MS), f_X6_isNoKind_31 w31 = some res → ∀ (K31 : List Nat) (G31 : Nat → va_E), MI κ ζ B w31 K31 G31 → FrM L F K31 G31 → ∀ (H31 : Heap) (l31 : List Loc) (ls : Array Slot) (cc ss : Nat), HW D cls L s H31 l31 K31 G31 → cc + (0) ≤ 0 → ss ≤ 33 * cc → lv_has ls 3 [] → W p l e (Rm 3 0 0) s m ([.ref (B 0), .int x1, .int x2] : List Value).toArray below meth c H31 l31 cc ss (EnI D cls s below ([.ref (B 0), .int x1, .int x2] : List Value).toArray 0 0 L (fun r L' F' => res.1 = r ∧ MI κ ζ B res.2 L' F' ∧ FrM L F L' F')) (F0 m 31 ls [.ref (B 0)]) := by
    intro  w31 hf K31 G31 hI hFr H31 l31 ls cc ss hW hcc hss hl
    unfold f_X6_isNoKind_31 at hf
    refine lv_iconst (v := 1) S.1 S.2.1 dX6_isNoKind_31 (by decide) ?_
    refine lv_goto (tgt := 36) S.1 S.2.1 dX6_isNoKind_32 (by decide) ?_
    exact B36  w31 1 hf K31 G31 hI hFr _ _ _ _ _ hW (by omega) (by omega) (lv_sub hl [] rfl)
  have B35 : ∀  (w35 : MS), f_X6_isNoKind_35 w35 = some res → ∀ (K35 : List Nat) (G35 : Nat → va_E), MI κ ζ B w35 K35 G35 → FrM L F K35 G35 → ∀ (H35 : Heap) (l35 : List Loc) (ls : Array Slot) (cc ss : Nat), HW D cls L s H35 l35 K35 G35 → cc + (0) ≤ 0 → ss ≤ 33 * cc → lv_has ls 3 [] → W p l e (Rm 3 0 0) s m ([.ref (B 0), .int x1, .int x2] : List Value).toArray below meth c H35 l35 cc ss (EnI D cls s below ([.ref (B 0), .int x1, .int x2] : List Value).toArray 0 0 L (fun r L' F' => res.1 = r ∧ MI κ ζ B res.2 L' F' ∧ FrM L F L' F')) (F0 m 35 ls [.ref (B 0)]) := by
    intro  w35 hf K35 G35 hI hFr H35 l35 ls cc ss hW hcc hss hl
    unfold f_X6_isNoKind_35 at hf
    refine lv_iconst (v := 0) S.1 S.2.1 dX6_isNoKind_35 (by decide) ?_
    exact B36  w35 0 hf K35 G35 hI hFr _ _ _ _ _ hW (by omega) (by omega) (lv_sub hl [] rfl)
  unfold f_X6_isNoKind at hf
  refine lv_aload_n S.1 S.2.1 dX6_isNoKind_0 rfl (lv_at hl 0 rfl) ?_
  refine lv_iload_n S.1 S.2.1 dX6_isNoKind_1 rfl (lv_at hl 1 rfl) ?_
  obtain ⟨z11, hz, hf⟩ := ob hf
  refine pk_cSI (As := [.int x1]) (rest := [.ref (B 0)]) S hK hST hW (c_X6_isNoTrack  x1 hz) mc_X6_isNoTrack wd_1182 wd_1183 np_X6_isNoTrack rfl hl.1 rfl (Nat.le_of_ble_eq_true rfl) dX6_isNoKind_2 ⟨by decide, by decide⟩ ⟨rmc (by omega), rms (by omega)⟩ (fun r L7 F8 H9 l10 hp hW => ?_)
  obtain ⟨rfl, rfl, rfl⟩ := hp
  refine lv_iconst (v := 1) S.1 S.2.1 dX6_isNoKind_5 (by decide) ?_
  obtain ⟨z16, hz, hf⟩ := ob hf
  refine pk_cVI (As := [.int z11, .int 1]) (rest := []) S hK hST hW (c_X6_start hI z11 1 hz) mc_X6_start wd_1188 wd_1190 wd_1701 rfl np_X6_start (hI.mem (by decide)) hI.this rfl rfl hl.1 rfl (Nat.le_of_ble_eq_true rfl) dX6_isNoKind_6 ⟨by decide, by decide⟩ ⟨rmc (by omega), rms (by omega)⟩ (fun r L12 F13 H14 l15 hp hW => ?_)
  obtain ⟨rfl, hI, hF9⟩ := hp
  have hFr := hFr.tr hF9
  refine lv_if_ne (tgt := 43) S.1 S.2.1 dX6_isNoKind_9 (by decide) (fun c17 => ?_) (fun c17 => ?_)
  · have hf := (if_neg c17).symm.trans hf
    exact B43  z16.2 hf L12 F13 hI hFr _ _ _ _ _ hW (by omega) (by omega) (lv_sub hl [] rfl)
  · have hf := (if_pos c17).symm.trans hf
    refine lv_aload_n S.1 S.2.1 dX6_isNoKind_12 rfl (lv_at hl 0 rfl) ?_
    refine lv_iload_n S.1 S.2.1 dX6_isNoKind_13 rfl (lv_at hl 2 rfl) ?_
    refine lv_iconst (v := 0) S.1 S.2.1 dX6_isNoKind_14 (by decide) ?_
    refine lv_bipush (v := 9) S.1 S.2.1 dX6_isNoKind_15 (by decide) ?_
    obtain ⟨z22, hz, hf⟩ := ob hf
    refine pk_cSI (As := [.int x2, .int 0, .int 9]) (rest := [.ref (B 0)]) S hK hST hW (c_X6_isIn  x2 0 9 hz) mc_X6_isIn wd_1185 wd_1186 np_X6_isIn rfl hl.1 rfl (Nat.le_of_ble_eq_true rfl) dX6_isNoKind_17 ⟨by decide, by decide⟩ ⟨rmc (by omega), rms (by omega)⟩ (fun r L18 F19 H20 l21 hp hW => ?_)
    obtain ⟨rfl, rfl, rfl⟩ := hp
    refine lv_if_eq (tgt := 31) S.1 S.2.1 dX6_isNoKind_20 (by decide) (fun c23 => ?_) (fun c23 => ?_)
    · have hf := (if_pos c23).symm.trans hf
      exact B31  z16.2 hf L12 F13 hI hFr _ _ _ _ _ hW (by omega) (by omega) (lv_sub hl [] rfl)
    · have hf := (if_neg c23).symm.trans hf
      refine lv_iload_n S.1 S.2.1 dX6_isNoKind_23 rfl (lv_at hl 2 rfl) ?_
      refine lv_if_ne (tgt := 35) S.1 S.2.1 dX6_isNoKind_24 (by decide) (fun c24 => ?_) (fun c24 => ?_)
      · have hf := (if_neg c24).symm.trans hf
        exact B35  z16.2 hf L12 F13 hI hFr _ _ _ _ _ hW (by omega) (by omega) (lv_sub hl [] rfl)
      · have hf := (if_pos c24).symm.trans hf
        refine lv_iload_n S.1 S.2.1 dX6_isNoKind_27 rfl (lv_at hl 1 rfl) ?_
        refine lv_if_ne (tgt := 35) S.1 S.2.1 dX6_isNoKind_28 (by decide) (fun c25 => ?_) (fun c25 => ?_)
        · have hf := (if_neg c25).symm.trans hf
          exact B35  z16.2 hf L12 F13 hI hFr _ _ _ _ _ hW (by omega) (by omega) (lv_sub hl [] rfl)
        · have hf := (if_pos c25).symm.trans hf
          exact B31  z16.2 hf L12 F13 hI hFr _ _ _ _ _ hW (by omega) (by omega) (lv_sub hl [] rfl)
def f_X6_drop (τ : MS) (x1 : Int32) (x2 : Int32) (x3 : Int32) : Option (Int32 × MS) := (f_X6_isNoKind τ x1 x2).bind fun z5 => (if z5.1 = 0 then (f_X6_found z5.2 x1 x2 x3).bind fun z11 => (if z11 = ((-1)) then some (0, z5.2) else (f_X6_go z5.2 x1 z11).bind fun z17 => (f_X6_tear z17.2).bind fun z22 => some (1, z22)) else some (0, z5.2))
theorem mc_X6_drop : MCode yX6_drop cX6_drop 5 (some .boolean) := ⟨wd_1361, wd_5, by decide, by decide⟩
theorem np_X6_drop : (parseMethodDescriptor yX6_drop.desc).map (fun d => d.parameters.length) = some 3 := by decide +kernel
set_option maxHeartbeats 4000000 in
set_option maxRecDepth 100000 in
theorem c_X6_drop {l : Launch} {D : va_G} {κ : Nat → ClassId} {ζ : Nat → Nat} {L : List Nat} {F : Nat → va_E} {τ : MS} {B : Nat → Nat} (hI : MI κ ζ B τ L F) (x1 : Int32) (x2 : Int32) (x3 : Int32) {res : (Int32 × MS)} (hf : f_X6_drop τ x1 x2 x3 = some res) : MtI l D cls (ty5 κ) ζ yX6_drop cX6_drop 5 (some .boolean) 7 0 0 ([.ref (B 0), .int x1, .int x2, .int x3] : List Value) L F (fun r L' F' => res.1 = r ∧ MI κ ζ B res.2 L' F' ∧ FrM L F L' F') := by
  refine MtI.of (by decide) (Nat.le_of_ble_eq_true rfl) ?_
  intro p e s m below meth c S hr hlk _ hK hW hST ls hl
  have hl : lv_has ls 5 [(0, .ref (B 0)), (1, .int x1), (2, .int x2), (3, .int x3)] := hl
  have hFr : FrM L F L F := FrM.rf
  unfold f_X6_drop at hf
  refine lv_aload_n S.1 S.2.1 dX6_drop_0 rfl (lv_at hl 0 rfl) ?_
  refine lv_iload_n S.1 S.2.1 dX6_drop_1 rfl (lv_at hl 1 rfl) ?_
  refine lv_iload_n S.1 S.2.1 dX6_drop_2 rfl (lv_at hl 2 rfl) ?_
  obtain ⟨z5, hz, hf⟩ := ob hf
  refine pk_cVI (As := [.int x1, .int x2]) (rest := []) S hK hST hW (c_X6_isNoKind hI x1 x2 hz) mc_X6_isNoKind wd_1362 wd_1364 wd_1715 rfl np_X6_isNoKind (hI.mem (by decide)) hI.this rfl rfl hl.1 rfl (Nat.le_of_ble_eq_true rfl) dX6_drop_3 ⟨by decide, by decide⟩ ⟨rmc (by omega), rms (by omega)⟩ (fun r L1 F2 H3 l4 hp hW => ?_)
  obtain ⟨rfl, hI, hF9⟩ := hp
  have hFr := hFr.tr hF9
  refine lv_if_eq (tgt := 11) S.1 S.2.1 dX6_drop_6 (by decide) (fun c6 => ?_) (fun c6 => ?_)
  · have hf := (if_pos c6).symm.trans hf
    refine lv_aload_n S.1 S.2.1 dX6_drop_11 rfl (lv_at hl 0 rfl) ?_
    refine lv_iload_n S.1 S.2.1 dX6_drop_12 rfl (lv_at hl 1 rfl) ?_
    refine lv_iload_n S.1 S.2.1 dX6_drop_13 rfl (lv_at hl 2 rfl) ?_
    refine lv_iload_n S.1 S.2.1 dX6_drop_14 rfl (lv_at hl 3 rfl) ?_
    obtain ⟨z11, hz, hf⟩ := ob hf
    refine pk_cVI (As := [.int x1, .int x2, .int x3]) (rest := []) S hK hST hW (c_X6_found hI x1 x2 x3 hz) mc_X6_found wd_1366 wd_1368 wd_1716 rfl np_X6_found (hI.mem (by decide)) hI.this rfl rfl hl.1 rfl (Nat.le_of_ble_eq_true rfl) dX6_drop_15 ⟨by decide, by decide⟩ ⟨rmc (by omega), rms (by omega)⟩ (fun r L7 F8 H9 l10 hp hW => ?_)
    obtain ⟨rfl, rfl, rfl⟩ := hp
    refine lv_istore (lv' := [(4, .int z11), (0, .ref (B 0)), (1, .int x1), (2, .int x2), (3, .int x3)]) S.1 S.2.1 dX6_drop_18 hl (by decide) rfl (fun ls hl => ?_)
    refine lv_iload S.1 S.2.1 dX6_drop_20 (lv_at hl 0 rfl) ?_
    refine lv_iconst (v := (-1)) S.1 S.2.1 dX6_drop_22 (by decide) ?_
    refine lv_icmp_ne (tgt := 28) S.1 S.2.1 dX6_drop_23 (by decide) (fun c12 => ?_) (fun c12 => ?_)
    · have hf := (if_neg c12).symm.trans hf
      refine lv_aload_n S.1 S.2.1 dX6_drop_28 rfl (lv_at hl 1 rfl) ?_
      refine lv_iload_n S.1 S.2.1 dX6_drop_29 rfl (lv_at hl 2 rfl) ?_
      refine lv_iload S.1 S.2.1 dX6_drop_30 (lv_at hl 0 rfl) ?_
      obtain ⟨z17, hz, hf⟩ := ob hf
      refine pk_cVI (As := [.int x1, .int z11]) (rest := []) S hK hST hW (c_X6_go hI x1 z11 hz) mc_X6_go wd_1329 wd_1331 wd_1714 rfl np_X6_go (hI.mem (by decide)) hI.this rfl rfl hl.1 rfl (Nat.le_of_ble_eq_true rfl) dX6_drop_32 ⟨by decide, by decide⟩ ⟨rmc (by omega), rms (by omega)⟩ (fun r L13 F14 H15 l16 hp hW => ?_)
      obtain ⟨rfl, hI, hF9⟩ := hp
      have hFr := hFr.tr hF9
      refine lv_pop S.1 S.2.1 dX6_drop_35 rfl ?_
      refine lv_aload_n S.1 S.2.1 dX6_drop_36 rfl (lv_at hl 1 rfl) ?_
      obtain ⟨z22, hz, hf⟩ := ob hf
      refine pk_cVV (As := []) (rest := []) S hK hST hW (c_X6_tear hI  hz) mc_X6_tear wd_1373 wd_1375 wd_1717 rfl np_X6_tear (hI.mem (by decide)) hI.this rfl rfl hl.1 rfl (Nat.le_of_ble_eq_true rfl) dX6_drop_37 ⟨by decide, by decide⟩ ⟨rmc (by omega), rms (by omega)⟩ (fun L18 F19 H20 l21 hp hW => ?_)
      obtain ⟨hI, hF9⟩ := hp
      have hFr := hFr.tr hF9
      refine lv_iconst (v := 1) S.1 S.2.1 dX6_drop_40 (by decide) ?_
      exact pk_zret S hr hlk hW (by decide) (eqm (P := fun z => z.1 = 1 ∧ MI κ ζ B z.2 L18 F19 ∧ FrM L F L18 F19) ⟨rfl, hI, hFr⟩ (Option.some.inj hf)) (by omega) (by omega) dX6_drop_41
    · have hf := (if_pos c12).symm.trans hf
      refine lv_iconst (v := 0) S.1 S.2.1 dX6_drop_26 (by decide) ?_
      exact pk_zret S hr hlk hW (by decide) (eqm (P := fun z => z.1 = 0 ∧ MI κ ζ B z.2 L1 F2 ∧ FrM L F L1 F2) ⟨rfl, hI, hFr⟩ (Option.some.inj hf)) (by omega) (by omega) dX6_drop_27
  · have hf := (if_neg c6).symm.trans hf
    refine lv_iconst (v := 0) S.1 S.2.1 dX6_drop_9 (by decide) ?_
    exact pk_zret S hr hlk hW (by decide) (eqm (P := fun z => z.1 = 0 ∧ MI κ ζ B z.2 L1 F2 ∧ FrM L F L1 F2) ⟨rfl, hI, hFr⟩ (Option.some.inj hf)) (by omega) (by omega) dX6_drop_10
def f_X6_offAll_45   (w45 : MS) (v3 : Int32) : Option (Int32 × MS) := some (v3, w45)
def f_X6_offAll_31  (k8 : (MS × Int32 × Nat × (Nat → Int32) × Int32 × Int32) → Option (Int32 × MS)) (w31 : MS) (v1 : Int32) (nv2 : Nat) (gv2 : (Nat → Int32)) (v3 : Int32) (v4 : Int32) : Option (Int32 × MS) := nm (v4 + (-1) : Int32) fun y1 => k8 (w31, v1, nv2, gv2, v3, y1)
def f_X6_offAll_8   (k8 : (MS × Int32 × Nat × (Nat → Int32) × Int32 × Int32) → Option (Int32 × MS)) (t : (MS × Int32 × Nat × (Nat → Int32) × Int32 × Int32)) : Option (Int32 × MS) := (if t.2.2.2.2.2 < 0 then (if t.2.2.2.2.1 ≤ 0 then f_X6_offAll_45 t.1 t.2.2.2.2.1 else (f_X6_tear t.1).bind fun z8 => f_X6_offAll_45 z8 t.2.2.2.2.1) else (if t.2.2.2.2.2 < 0 ∨ t.2.2.1 ≤ t.2.2.2.2.2.toNatClampNeg then none else (if (t.2.2.2.1 t.2.2.2.2.2.toNatClampNeg) = 0 then f_X6_offAll_31 k8 t.1 t.2.1 t.2.2.1 t.2.2.2.1 t.2.2.2.2.1 t.2.2.2.2.2 else (f_X6_go t.1 t.2.1 t.2.2.2.2.2).bind fun z14 => nm (t.2.2.2.2.1 + 1 : Int32) fun y15 => f_X6_offAll_31 k8 z14.2 t.2.1 t.2.2.1 t.2.2.2.1 y15 t.2.2.2.2.2)))
def f_X6_offAll (τ : MS) (x1 : Int32) (nx2 : Nat) (gx2 : Nat → Int32) : Option (Int32 × MS) := nm ((nI nx2) - 1 : Int32) fun y16 => lpn (f_X6_offAll_8 ) 24 (τ, x1, nx2, gx2, 0, y16)
theorem mc_X6_offAll : MCode yX6_offAll cX6_offAll 5 (some .int) := ⟨wd_1388, wd_5, by decide, by decide⟩
theorem np_X6_offAll : (parseMethodDescriptor yX6_offAll.desc).map (fun d => d.parameters.length) = some 2 := by decide +kernel
set_option maxHeartbeats 4000000 in
set_option maxRecDepth 100000 in
theorem c_X6_offAll {l : Launch} {D : va_G} {κ : Nat → ClassId} {ζ : Nat → Nat} {L : List Nat} {F : Nat → va_E} {τ : MS} {B : Nat → Nat} (hI : MI κ ζ B τ L F) (x1 : Int32) {qx2 : Nat} (nx2 : Nat) (gx2 : Nat → Int32) (m_qx2 : qx2 ∈ L) (e_qx2 : F qx2 = .inl (κ 2, nx2, .inl gx2)) {res : (Int32 × MS)} (hf : f_X6_offAll τ x1 nx2 gx2 = some res) : MtI l D cls (ty5 κ) ζ yX6_offAll cX6_offAll 5 (some .int) 6 0 0 ([.ref (B 0), .int x1, .ref qx2] : List Value) L F (fun r L' F' => res.1 = r ∧ MI κ ζ B res.2 L' F' ∧ FrM L F L' F') := by
  refine MtI.of (by decide) (Nat.le_of_ble_eq_true rfl) ?_
  intro p e s m below meth c S hr hlk _ hK hW hST ls hl
  have hl : lv_has ls 5 [(0, .ref (B 0)), (1, .int x1), (2, .ref qx2)] := hl
  have hFr : FrM L F L F := FrM.rf
  have B45 : ∀  (w45 : MS) (v3 : Int32), f_X6_offAll_45 w45 v3 = some res → ∀ (K45 : List Nat) (G45 : Nat → va_E), MI κ ζ B w45 K45 G45 → FrM L F K45 G45 → ∀ (H45 : Heap) (l45 : List Loc) (ls : Array Slot) (cc ss : Nat), HW D cls L s H45 l45 K45 G45 → cc + (0) ≤ 0 → ss ≤ 33 * cc → lv_has ls 5 [(3, .int v3)] → W p l e (Rm 6 0 0) s m ([.ref (B 0), .int x1, .ref qx2] : List Value).toArray below meth c H45 l45 cc ss (EnI D cls s below ([.ref (B 0), .int x1, .ref qx2] : List Value).toArray 0 0 L (fun r L' F' => res.1 = r ∧ MI κ ζ B res.2 L' F' ∧ FrM L F L' F')) (F0 m 45 ls []) := by
    intro  w45 v3 hf K45 G45 hI hFr H45 l45 ls cc ss hW hcc hss hl
    unfold f_X6_offAll_45 at hf
    refine lv_iload_n S.1 S.2.1 dX6_offAll_45 rfl (lv_at hl 0 rfl) ?_
    exact pk_iret S hr hlk hW (eqm (P := fun z => z.1 = v3 ∧ MI κ ζ B z.2 K45 G45 ∧ FrM L F K45 G45) ⟨rfl, hI, hFr⟩ (Option.some.inj hf)) (by omega) (by omega) dX6_offAll_46
  have B31 : ∀ (k8 : (MS × Int32 × Nat × (Nat → Int32) × Int32 × Int32) → Option (Int32 × MS)) (nd8 : Nat) (hk8 : (∀ (w8 : MS) (v1 : Int32) (nv2 : Nat) (gv2 : Nat → Int32) (v3 : Int32) (v4 : Int32), k8 (w8, v1, nv2, gv2, v3, v4) = some res → ∀ (K8 : List Nat) (G8 : Nat → va_E), ∀ (qv2 : Nat), qv2 ∈ K8 → G8 qv2 = .inl (κ 2, nv2, .inl gv2) → MI κ ζ B w8 K8 G8 → FrM L F K8 G8 → ∀ (H8 : Heap) (l8 : List Loc) (ls : Array Slot) (cc ss : Nat), HW D cls L s H8 l8 K8 G8 → cc + (nd8) ≤ 0 → ss ≤ 33 * cc → lv_has ls 5 [(0, .ref (B 0)), (1, .int v1), (2, .ref qv2), (3, .int v3), (4, .int v4)] → W p l e (Rm 6 0 0) s m ([.ref (B 0), .int x1, .ref qx2] : List Value).toArray below meth c H8 l8 cc ss (EnI D cls s below ([.ref (B 0), .int x1, .ref qx2] : List Value).toArray 0 0 L (fun r L' F' => res.1 = r ∧ MI κ ζ B res.2 L' F' ∧ FrM L F L' F')) (F0 m 8 ls []))) (hnd8 : 0 ≤ nd8) (w31 : MS) (v1 : Int32) (nv2 : Nat) (gv2 : Nat → Int32) (v3 : Int32) (v4 : Int32), f_X6_offAll_31 k8 w31 v1 nv2 gv2 v3 v4 = some res → ∀ (K31 : List Nat) (G31 : Nat → va_E), ∀ (qv2 : Nat), qv2 ∈ K31 → G31 qv2 = .inl (κ 2, nv2, .inl gv2) → MI κ ζ B w31 K31 G31 → FrM L F K31 G31 → ∀ (H31 : Heap) (l31 : List Loc) (ls : Array Slot) (cc ss : Nat), HW D cls L s H31 l31 K31 G31 → cc + (0 + nd8) ≤ 0 → ss ≤ 33 * cc → lv_has ls 5 [(0, .ref (B 0)), (1, .int v1), (2, .ref qv2), (3, .int v3), (4, .int v4)] → W p l e (Rm 6 0 0) s m ([.ref (B 0), .int x1, .ref qx2] : List Value).toArray below meth c H31 l31 cc ss (EnI D cls s below ([.ref (B 0), .int x1, .ref qx2] : List Value).toArray 0 0 L (fun r L' F' => res.1 = r ∧ MI κ ζ B res.2 L' F' ∧ FrM L F L' F')) (F0 m 31 ls []) := by
    intro k8 nd8 hk8 hnd8 w31 v1 nv2 gv2 v3 v4 hf K31 G31 qv2 m_qv2 e_qv2 hI hFr H31 l31 ls cc ss hW hcc hss hl
    unfold f_X6_offAll_31 at hf
    obtain ⟨y1, ey1⟩ : ∃ y : Int32, y = v4 + (-1) := ⟨_, rfl⟩
    have hf := nm_at hf ey1
    refine lv_iinc (v := y1) (lv' := [(4, .int y1), (0, .ref (B 0)), (1, .int v1), (2, .ref qv2), (3, .int v3)]) S.1 S.2.1 dX6_offAll_31 hl (k := 4) rfl (by rw [ey1]; rfl) (by decide) rfl (fun ls hl => ?_)
    refine lv_goto (tgt := 8) S.1 S.2.1 dX6_offAll_34 (by decide) ?_
    exact hk8 w31 v1 nv2 gv2 v3 y1 hf K31 G31 qv2 m_qv2 e_qv2 hI hFr _ _ _ _ _ hW (by omega) (by omega) (lv_sub hl [1, 2, 3, 4, 0] rfl)
  have B8 : ∀  (N : Nat), (∀ (w8 : MS) (v1 : Int32) (nv2 : Nat) (gv2 : Nat → Int32) (v3 : Int32) (v4 : Int32), (lpn (f_X6_offAll_8 ) N) (w8, v1, nv2, gv2, v3, v4) = some res → ∀ (K8 : List Nat) (G8 : Nat → va_E), ∀ (qv2 : Nat), qv2 ∈ K8 → G8 qv2 = .inl (κ 2, nv2, .inl gv2) → MI κ ζ B w8 K8 G8 → FrM L F K8 G8 → ∀ (H8 : Heap) (l8 : List Loc) (ls : Array Slot) (cc ss : Nat), HW D cls L s H8 l8 K8 G8 → cc + (N * 0 + 0) ≤ 0 → ss ≤ 33 * cc → lv_has ls 5 [(0, .ref (B 0)), (1, .int v1), (2, .ref qv2), (3, .int v3), (4, .int v4)] → W p l e (Rm 6 0 0) s m ([.ref (B 0), .int x1, .ref qx2] : List Value).toArray below meth c H8 l8 cc ss (EnI D cls s below ([.ref (B 0), .int x1, .ref qx2] : List Value).toArray 0 0 L (fun r L' F' => res.1 = r ∧ MI κ ζ B res.2 L' F' ∧ FrM L F L' F')) (F0 m 8 ls [])) := by
    intro  N
    induction N with
    | zero => intro w8 v1 nv2 gv2 v3 v4 hf K8 G8 qv2 m_qv2 e_qv2 hI hFr H8 l8 ls cc ss hW hcc hss hl; cases hf
    | succ N ih =>
      intro w8 v1 nv2 gv2 v3 v4 hf K8 G8 qv2 m_qv2 e_qv2 hI hFr H8 l8 ls cc ss hW hcc hss hl
      have hf : f_X6_offAll_8  (lpn (f_X6_offAll_8 ) N) (w8, v1, nv2, gv2, v3, v4) = some res := hf
      generalize lpn (f_X6_offAll_8 ) N = k8 at hf ih
      have hnd8 : 0 ≤ N * 0 + 0 := by omega
      have hcc : cc + (0 + (N * 0 + 0)) ≤ 0 := by omega
      have hk8 := ih
      generalize N * 0 + 0 = nd8 at hnd8 hcc hk8
      unfold f_X6_offAll_8 at hf
      try dsimp only at hf
      refine lv_iload S.1 S.2.1 dX6_offAll_8 (lv_at hl 4 rfl) ?_
      refine lv_if_lt (tgt := 37) S.1 S.2.1 dX6_offAll_10 (by decide) (fun c2 => ?_) (fun c2 => ?_)
      · have hf := (if_pos c2).symm.trans hf
        refine lv_iload_n S.1 S.2.1 dX6_offAll_37 rfl (lv_at hl 3 rfl) ?_
        refine lv_if_le (tgt := 45) S.1 S.2.1 dX6_offAll_38 (by decide) (fun c3 => ?_) (fun c3 => ?_)
        · have hf := (if_pos c3).symm.trans hf
          exact B45  w8 v3 hf K8 G8 hI hFr _ _ _ _ _ hW (by omega) (by omega) (lv_sub hl [3] rfl)
        · have hf := (if_neg c3).symm.trans hf
          refine lv_aload_n S.1 S.2.1 dX6_offAll_41 rfl (lv_at hl 0 rfl) ?_
          obtain ⟨z8, hz, hf⟩ := ob hf
          refine pk_cVV (As := []) (rest := []) S hK hST hW (c_X6_tear hI  hz) mc_X6_tear wd_1373 wd_1375 wd_1717 rfl np_X6_tear (hI.mem (by decide)) hI.this rfl rfl hl.1 rfl (Nat.le_of_ble_eq_true rfl) dX6_offAll_42 ⟨by decide, by decide⟩ ⟨rmc (by omega), rms (by omega)⟩ (fun L4 F5 H6 l7 hp hW => ?_)
          obtain ⟨hI, hF9⟩ := hp
          have hFr := hFr.tr hF9
          have e_qv2 := (hF9.2 _ m_qv2 (notM_a e_qv2)).trans e_qv2
          have m_qv2 := hF9.1 _ m_qv2
          exact B45  z8 v3 hf L4 F5 hI hFr _ _ _ _ _ hW (by omega) (by omega) (lv_sub hl [3] rfl)
      · have hf := (if_neg c2).symm.trans hf
        refine lv_aload_n S.1 S.2.1 dX6_offAll_13 rfl (lv_at hl 2 rfl) ?_
        refine lv_iload S.1 S.2.1 dX6_offAll_14 (lv_at hl 4 rfl) ?_
        obtain ⟨hg, hf⟩ := gd hf
        refine pk_zald S hK hW 2 m_qv2 e_qv2 rfl hg dX6_offAll_16 ?_
        refine lv_if_eq (tgt := 31) S.1 S.2.1 dX6_offAll_17 (by decide) (fun c9 => ?_) (fun c9 => ?_)
        · have hf := (if_pos c9).symm.trans hf
          exact B31 k8 nd8 hk8 hnd8 w8 v1 nv2 gv2 v3 v4 hf K8 G8 qv2 m_qv2 e_qv2 hI hFr _ _ _ _ _ hW (by omega) (by omega) (lv_sub hl [0, 1, 2, 3, 4] rfl)
        · have hf := (if_neg c9).symm.trans hf
          refine lv_aload_n S.1 S.2.1 dX6_offAll_20 rfl (lv_at hl 0 rfl) ?_
          refine lv_iload_n S.1 S.2.1 dX6_offAll_21 rfl (lv_at hl 1 rfl) ?_
          refine lv_iload S.1 S.2.1 dX6_offAll_22 (lv_at hl 4 rfl) ?_
          obtain ⟨z14, hz, hf⟩ := ob hf
          refine pk_cVI (As := [.int v1, .int v4]) (rest := []) S hK hST hW (c_X6_go hI v1 v4 hz) mc_X6_go wd_1329 wd_1331 wd_1714 rfl np_X6_go (hI.mem (by decide)) hI.this rfl rfl hl.1 rfl (Nat.le_of_ble_eq_true rfl) dX6_offAll_24 ⟨by decide, by decide⟩ ⟨rmc (by omega), rms (by omega)⟩ (fun r L10 F11 H12 l13 hp hW => ?_)
          obtain ⟨rfl, hI, hF9⟩ := hp
          have hFr := hFr.tr hF9
          have e_qv2 := (hF9.2 _ m_qv2 (notM_a e_qv2)).trans e_qv2
          have m_qv2 := hF9.1 _ m_qv2
          refine lv_pop S.1 S.2.1 dX6_offAll_27 rfl ?_
          obtain ⟨y15, ey15⟩ : ∃ y : Int32, y = v3 + 1 := ⟨_, rfl⟩
          have hf := nm_at hf ey15
          refine lv_iinc (v := y15) (lv' := [(3, .int y15), (0, .ref (B 0)), (1, .int v1), (2, .ref qv2), (4, .int v4)]) S.1 S.2.1 dX6_offAll_28 hl (k := 3) rfl (by rw [ey15]; rfl) (by decide) rfl (fun ls hl => ?_)
          exact B31 k8 nd8 hk8 hnd8 z14.2 v1 nv2 gv2 y15 v4 hf L10 F11 qv2 m_qv2 e_qv2 hI hFr _ _ _ _ _ hW (by omega) (by omega) (lv_sub hl [1, 2, 3, 0, 4] rfl)
  unfold f_X6_offAll at hf
  refine lv_iconst (v := 0) S.1 S.2.1 dX6_offAll_0 (by decide) ?_
  refine lv_istore_n (lv' := [(3, .int 0), (0, .ref (B 0)), (1, .int x1), (2, .ref qx2)]) S.1 S.2.1 dX6_offAll_1 rfl hl (by decide) rfl (fun ls hl => ?_)
  refine lv_aload_n S.1 S.2.1 dX6_offAll_2 rfl (lv_at hl 3 rfl) ?_
  refine pk_alen S hK hW 2 m_qx2 e_qx2 rfl rfl dX6_offAll_3 ?_
  refine lv_iconst (v := 1) S.1 S.2.1 dX6_offAll_4 (by decide) ?_
  refine lv_isub S.1 S.2.1 dX6_offAll_5 ?_
  refine lv_topi (fun y16 ey16 => ?_)
  have hf := nm_at hf ey16
  refine lv_istore (lv' := [(4, .int y16), (3, .int 0), (0, .ref (B 0)), (1, .int x1), (2, .ref qx2)]) S.1 S.2.1 dX6_offAll_6 hl (by decide) rfl (fun ls hl => ?_)
  exact B8  24 (τ) x1 nx2 gx2 0 y16 hf L F qx2 m_qx2 e_qx2 hI hFr _ _ _ _ _ hW (by omega) (by omega) (lv_sub hl [2, 3, 4, 1, 0] rfl)
def f_X6_dropAll_51  (k22 : (MS × Int32 × Int32 × Nat × (Nat → Int32) × Int32) → Option (Int32 × MS)) (w51 : MS) (v1 : Int32) (v2 : Int32) (nv3 : Nat) (gv3 : (Nat → Int32)) (v4 : Int32) (u1 : Int32) (u2 : Int32) : Option (Int32 × MS) := (if u1 < 0 ∨ nv3 ≤ u1.toNatClampNeg then none else nm ((upd gv3 u1.toNatClampNeg (vp_nar .boolean u2)) : Nat → Int32) fun g1 => nm (v4 + 1 : Int32) fun y5 => k22 (w51, v1, v2, nv3, g1, y5))
def f_X6_dropAll_22   (k22 : (MS × Int32 × Int32 × Nat × (Nat → Int32) × Int32) → Option (Int32 × MS)) (t : (MS × Int32 × Int32 × Nat × (Nat → Int32) × Int32)) : Option (Int32 × MS) := (if (nI t.2.2.2.1) ≤ t.2.2.2.2.2 then (f_X6_offAll t.1 t.2.1 t.2.2.2.1 t.2.2.2.2.1).bind fun z11 => some (z11.1, z11.2) else (f_X6_get t.1 t.2.1 t.2.2.2.2.2).bind fun z16 => (f_X6_kind z16).bind fun z21 => (if z21 = t.2.2.1 then f_X6_dropAll_51 k22 t.1 t.2.1 t.2.2.1 t.2.2.2.1 t.2.2.2.2.1 t.2.2.2.2.2 t.2.2.2.2.2 1 else f_X6_dropAll_51 k22 t.1 t.2.1 t.2.2.1 t.2.2.2.1 t.2.2.2.2.1 t.2.2.2.2.2 t.2.2.2.2.2 0))
def f_X6_dropAll (τ : MS) (x1 : Int32) (x2 : Int32) : Option (Int32 × MS) := (f_X6_isNoKind τ x1 x2).bind fun z27 => (if z27.1 = 0 then (f_X6_size z27.2 x1).bind fun z33 => (if z33 < 0 ∨ 32 < z33.toNatClampNeg then none else nm (z33.toNatClampNeg : Nat) fun n34 => nm (fun _ => 0 : Nat → Int32) fun g35 => lpn (f_X6_dropAll_22 ) 24 (z27.2, x1, x2, n34, g35, 0)) else some (0, z27.2))
theorem mc_X6_dropAll : MCode yX6_dropAll cX6_dropAll 5 (some .int) := ⟨wd_1384, wd_5, by decide, by decide⟩
theorem np_X6_dropAll : (parseMethodDescriptor yX6_dropAll.desc).map (fun d => d.parameters.length) = some 2 := by decide +kernel
set_option maxHeartbeats 4000000 in
set_option maxRecDepth 100000 in
theorem c_X6_dropAll {l : Launch} {D : va_G} {κ : Nat → ClassId} {ζ : Nat → Nat} {L : List Nat} {F : Nat → va_E} {τ : MS} {B : Nat → Nat} (hI : MI κ ζ B τ L F) (x1 : Int32) (x2 : Int32) {res : (Int32 × MS)} (hf : f_X6_dropAll τ x1 x2 = some res) : MtI l D cls (ty5 κ) ζ yX6_dropAll cX6_dropAll 5 (some .int) 7 1 33 ([.ref (B 0), .int x1, .int x2] : List Value) L F (fun r L' F' => res.1 = r ∧ MI κ ζ B res.2 L' F' ∧ FrM L F L' F') := by
  refine MtI.of (by decide) (Nat.le_of_ble_eq_true rfl) ?_
  intro p e s m below meth c S hr hlk _ hK hW hST ls hl
  have hl : lv_has ls 5 [(0, .ref (B 0)), (1, .int x1), (2, .int x2)] := hl
  have hFr : FrM L F L F := FrM.rf
  have B51 : ∀ (k22 : (MS × Int32 × Int32 × Nat × (Nat → Int32) × Int32) → Option (Int32 × MS)) (nd22 : Nat) (hk22 : (∀ (w22 : MS) (v1 : Int32) (v2 : Int32) (nv3 : Nat) (gv3 : Nat → Int32) (v4 : Int32), k22 (w22, v1, v2, nv3, gv3, v4) = some res → ∀ (K22 : List Nat) (G22 : Nat → va_E), ∀ (qv3 : Nat), qv3 ∈ K22 → G22 qv3 = .inl (κ 2, nv3, .inl gv3) → (qv3 ∉ L) → MI κ ζ B w22 K22 G22 → FrM L F K22 G22 → ∀ (H22 : Heap) (l22 : List Loc) (ls : Array Slot) (cc ss : Nat), HW D cls L s H22 l22 K22 G22 → cc + (nd22) ≤ 1 → ss ≤ 33 * cc → lv_has ls 5 [(0, .ref (B 0)), (1, .int v1), (2, .int v2), (3, .ref qv3), (4, .int v4)] → W p l e (Rm 7 1 33) s m ([.ref (B 0), .int x1, .int x2] : List Value).toArray below meth c H22 l22 cc ss (EnI D cls s below ([.ref (B 0), .int x1, .int x2] : List Value).toArray 1 33 L (fun r L' F' => res.1 = r ∧ MI κ ζ B res.2 L' F' ∧ FrM L F L' F')) (F0 m 22 ls []))) (hnd22 : 0 ≤ nd22) (w51 : MS) (v1 : Int32) (v2 : Int32) (nv3 : Nat) (gv3 : Nat → Int32) (v4 : Int32) (u1 : Int32) (u2 : Int32), f_X6_dropAll_51 k22 w51 v1 v2 nv3 gv3 v4 u1 u2 = some res → ∀ (K51 : List Nat) (G51 : Nat → va_E), ∀ (qv3 : Nat), qv3 ∈ K51 → G51 qv3 = .inl (κ 2, nv3, .inl gv3) → (qv3 ∉ L) → MI κ ζ B w51 K51 G51 → FrM L F K51 G51 → ∀ (H51 : Heap) (l51 : List Loc) (ls : Array Slot) (cc ss : Nat), HW D cls L s H51 l51 K51 G51 → cc + (0 + nd22) ≤ 1 → ss ≤ 33 * cc → lv_has ls 5 [(0, .ref (B 0)), (1, .int v1), (2, .int v2), (3, .ref qv3), (4, .int v4)] → W p l e (Rm 7 1 33) s m ([.ref (B 0), .int x1, .int x2] : List Value).toArray below meth c H51 l51 cc ss (EnI D cls s below ([.ref (B 0), .int x1, .int x2] : List Value).toArray 1 33 L (fun r L' F' => res.1 = r ∧ MI κ ζ B res.2 L' F' ∧ FrM L F L' F')) (F0 m 51 ls [.int u2, .int u1, .ref qv3]) := by
    intro k22 nd22 hk22 hnd22 w51 v1 v2 nv3 gv3 v4 u1 u2 hf K51 G51 qv3 m_qv3 e_qv3 hnw_qv3 hI hFr H51 l51 ls cc ss hW hcc hss hl
    unfold f_X6_dropAll_51 at hf
    obtain ⟨hg, hf⟩ := gd hf
    obtain ⟨g1, eg1, hf⟩ := nm_ok hf
    refine pk_zast S hK hW 2 m_qv3 e_qv3 rfl hg dX6_dropAll_51 (fun H3 l4 hW => ?_)
    rw [← eg1] at hW
    have hI := hI.loc (g' := g1) e_qv3
    have hFr := hFr.loc (e := .inl (κ 2, nv3, .inl g1)) hnw_qv3
    have e_qv3 : (va_up G51 qv3 (.inl (κ 2, nv3, .inl g1))) qv3 = .inl (κ 2, nv3, .inl g1) := up_eq
    generalize va_up G51 qv3 (.inl (κ 2, nv3, .inl g1)) = F2 at hW hI hFr e_qv3
    obtain ⟨y5, ey5⟩ : ∃ y : Int32, y = v4 + 1 := ⟨_, rfl⟩
    have hf := nm_at hf ey5
    refine lv_iinc (v := y5) (lv' := [(4, .int y5), (0, .ref (B 0)), (1, .int v1), (2, .int v2), (3, .ref qv3)]) S.1 S.2.1 dX6_dropAll_52 hl (k := 4) rfl (by rw [ey5]; rfl) (by decide) rfl (fun ls hl => ?_)
    refine lv_goto (tgt := 22) S.1 S.2.1 dX6_dropAll_55 (by decide) ?_
    exact hk22 w51 v1 v2 nv3 g1 y5 hf K51 F2 qv3 m_qv3 e_qv3 hnw_qv3 hI hFr _ _ _ _ _ hW (by omega) (by omega) (lv_sub hl [1, 2, 3, 4, 0] rfl)
  have B22 : ∀  (N : Nat), (∀ (w22 : MS) (v1 : Int32) (v2 : Int32) (nv3 : Nat) (gv3 : Nat → Int32) (v4 : Int32), (lpn (f_X6_dropAll_22 ) N) (w22, v1, v2, nv3, gv3, v4) = some res → ∀ (K22 : List Nat) (G22 : Nat → va_E), ∀ (qv3 : Nat), qv3 ∈ K22 → G22 qv3 = .inl (κ 2, nv3, .inl gv3) → (qv3 ∉ L) → MI κ ζ B w22 K22 G22 → FrM L F K22 G22 → ∀ (H22 : Heap) (l22 : List Loc) (ls : Array Slot) (cc ss : Nat), HW D cls L s H22 l22 K22 G22 → cc + (N * 0 + 0) ≤ 1 → ss ≤ 33 * cc → lv_has ls 5 [(0, .ref (B 0)), (1, .int v1), (2, .int v2), (3, .ref qv3), (4, .int v4)] → W p l e (Rm 7 1 33) s m ([.ref (B 0), .int x1, .int x2] : List Value).toArray below meth c H22 l22 cc ss (EnI D cls s below ([.ref (B 0), .int x1, .int x2] : List Value).toArray 1 33 L (fun r L' F' => res.1 = r ∧ MI κ ζ B res.2 L' F' ∧ FrM L F L' F')) (F0 m 22 ls [])) := by
    intro  N
    induction N with
    | zero => intro w22 v1 v2 nv3 gv3 v4 hf K22 G22 qv3 m_qv3 e_qv3 hnw_qv3 hI hFr H22 l22 ls cc ss hW hcc hss hl; cases hf
    | succ N ih =>
      intro w22 v1 v2 nv3 gv3 v4 hf K22 G22 qv3 m_qv3 e_qv3 hnw_qv3 hI hFr H22 l22 ls cc ss hW hcc hss hl
      have hf : f_X6_dropAll_22  (lpn (f_X6_dropAll_22 ) N) (w22, v1, v2, nv3, gv3, v4) = some res := hf
      generalize lpn (f_X6_dropAll_22 ) N = k22 at hf ih
      have hnd22 : 0 ≤ N * 0 + 0 := by omega
      have hcc : cc + (0 + (N * 0 + 0)) ≤ 1 := by omega
      have hk22 := ih
      generalize N * 0 + 0 = nd22 at hnd22 hcc hk22
      unfold f_X6_dropAll_22 at hf
      try dsimp only at hf
      refine lv_iload S.1 S.2.1 dX6_dropAll_22 (lv_at hl 4 rfl) ?_
      refine lv_aload_n S.1 S.2.1 dX6_dropAll_24 rfl (lv_at hl 3 rfl) ?_
      refine pk_alen S hK hW 2 m_qv3 e_qv3 rfl rfl dX6_dropAll_25 ?_
      refine lv_icmp_ge (tgt := 58) S.1 S.2.1 dX6_dropAll_26 (by decide) (fun c6 => ?_) (fun c6 => ?_)
      · have hf := (if_pos c6).symm.trans hf
        refine lv_aload_n S.1 S.2.1 dX6_dropAll_58 rfl (lv_at hl 0 rfl) ?_
        refine lv_iload_n S.1 S.2.1 dX6_dropAll_59 rfl (lv_at hl 1 rfl) ?_
        refine lv_aload_n S.1 S.2.1 dX6_dropAll_60 rfl (lv_at hl 3 rfl) ?_
        obtain ⟨z11, hz, hf⟩ := ob hf
        refine pk_cVI (As := [.int v1, .ref qv3]) (rest := []) S hK hST hW (c_X6_offAll hI v1 nv3 gv3 m_qv3 e_qv3 hz) mc_X6_offAll wd_1385 wd_1387 wd_1718 rfl np_X6_offAll (hI.mem (by decide)) hI.this rfl rfl hl.1 rfl (Nat.le_of_ble_eq_true rfl) dX6_dropAll_61 ⟨by decide, by decide⟩ ⟨rmc (by omega), rms (by omega)⟩ (fun r L7 F8 H9 l10 hp hW => ?_)
        obtain ⟨rfl, hI, hF9⟩ := hp
        have hFr := hFr.tr hF9
        have e_qv3 := (hF9.2 _ m_qv3 (notM_a e_qv3)).trans e_qv3
        have m_qv3 := hF9.1 _ m_qv3
        exact pk_iret S hr hlk hW (eqm (P := fun z => z.1 = z11.1 ∧ MI κ ζ B z.2 L7 F8 ∧ FrM L F L7 F8) ⟨rfl, hI, hFr⟩ (Option.some.inj hf)) (by omega) (by omega) dX6_dropAll_64
      · have hf := (if_neg c6).symm.trans hf
        refine lv_aload_n S.1 S.2.1 dX6_dropAll_29 rfl (lv_at hl 3 rfl) ?_
        refine lv_iload S.1 S.2.1 dX6_dropAll_30 (lv_at hl 4 rfl) ?_
        refine lv_aload_n S.1 S.2.1 dX6_dropAll_32 rfl (lv_at hl 0 rfl) ?_
        refine lv_iload_n S.1 S.2.1 dX6_dropAll_33 rfl (lv_at hl 1 rfl) ?_
        refine lv_iload S.1 S.2.1 dX6_dropAll_34 (lv_at hl 4 rfl) ?_
        obtain ⟨z16, hz, hf⟩ := ob hf
        refine pk_cVI (As := [.int v1, .int v4]) (rest := [.int v4, .ref qv3]) S hK hST hW (c_X6_get hI v1 v4 hz) mc_X6_get wd_1299 wd_1301 wd_1711 rfl np_X6_get (hI.mem (by decide)) hI.this rfl rfl hl.1 rfl (Nat.le_of_ble_eq_true rfl) dX6_dropAll_36 ⟨by decide, by decide⟩ ⟨rmc (by omega), rms (by omega)⟩ (fun r L12 F13 H14 l15 hp hW => ?_)
        obtain ⟨rfl, rfl, rfl⟩ := hp
        obtain ⟨z21, hz, hf⟩ := ob hf
        refine pk_cSI (As := [.int z16]) (rest := [.int v4, .ref qv3]) S hK hST hW (c_X6_kind  z16 hz) mc_X6_kind wd_1370 wd_1371 np_X6_kind rfl hl.1 rfl (Nat.le_of_ble_eq_true rfl) dX6_dropAll_39 ⟨by decide, by decide⟩ ⟨rmc (by omega), rms (by omega)⟩ (fun r L17 F18 H19 l20 hp hW => ?_)
        obtain ⟨rfl, rfl, rfl⟩ := hp
        refine lv_iload_n S.1 S.2.1 dX6_dropAll_42 rfl (lv_at hl 2 rfl) ?_
        refine lv_icmp_ne (tgt := 50) S.1 S.2.1 dX6_dropAll_43 (by decide) (fun c22 => ?_) (fun c22 => ?_)
        · have hf := (if_neg c22).symm.trans hf
          refine lv_iconst (v := 0) S.1 S.2.1 dX6_dropAll_50 (by decide) ?_
          exact B51 k22 nd22 hk22 hnd22 w22 v1 v2 nv3 gv3 v4 v4 0 hf K22 G22 qv3 m_qv3 e_qv3 hnw_qv3 hI hFr _ _ _ _ _ hW (by omega) (by omega) (lv_sub hl [0, 1, 2, 3, 4] rfl)
        · have hf := (if_pos c22).symm.trans hf
          refine lv_iconst (v := 1) S.1 S.2.1 dX6_dropAll_46 (by decide) ?_
          refine lv_goto (tgt := 51) S.1 S.2.1 dX6_dropAll_47 (by decide) ?_
          exact B51 k22 nd22 hk22 hnd22 w22 v1 v2 nv3 gv3 v4 v4 1 hf K22 G22 qv3 m_qv3 e_qv3 hnw_qv3 hI hFr _ _ _ _ _ hW (by omega) (by omega) (lv_sub hl [0, 1, 2, 3, 4] rfl)
  unfold f_X6_dropAll at hf
  refine lv_aload_n S.1 S.2.1 dX6_dropAll_0 rfl (lv_at hl 0 rfl) ?_
  refine lv_iload_n S.1 S.2.1 dX6_dropAll_1 rfl (lv_at hl 1 rfl) ?_
  refine lv_iload_n S.1 S.2.1 dX6_dropAll_2 rfl (lv_at hl 2 rfl) ?_
  obtain ⟨z27, hz, hf⟩ := ob hf
  refine pk_cVI (As := [.int x1, .int x2]) (rest := []) S hK hST hW (c_X6_isNoKind hI x1 x2 hz) mc_X6_isNoKind wd_1362 wd_1364 wd_1715 rfl np_X6_isNoKind (hI.mem (by decide)) hI.this rfl rfl hl.1 rfl (Nat.le_of_ble_eq_true rfl) dX6_dropAll_3 ⟨by decide, by decide⟩ ⟨rmc (by omega), rms (by omega)⟩ (fun r L23 F24 H25 l26 hp hW => ?_)
  obtain ⟨rfl, hI, hF9⟩ := hp
  have hFr := hFr.tr hF9
  refine lv_if_eq (tgt := 11) S.1 S.2.1 dX6_dropAll_6 (by decide) (fun c28 => ?_) (fun c28 => ?_)
  · have hf := (if_pos c28).symm.trans hf
    refine lv_aload_n S.1 S.2.1 dX6_dropAll_11 rfl (lv_at hl 0 rfl) ?_
    refine lv_iload_n S.1 S.2.1 dX6_dropAll_12 rfl (lv_at hl 1 rfl) ?_
    obtain ⟨z33, hz, hf⟩ := ob hf
    refine pk_cVI (As := [.int x1]) (rest := []) S hK hST hW (c_X6_size hI x1 hz) mc_X6_size wd_1199 wd_1201 wd_1703 rfl np_X6_size (hI.mem (by decide)) hI.this rfl rfl hl.1 rfl (Nat.le_of_ble_eq_true rfl) dX6_dropAll_13 ⟨by decide, by decide⟩ ⟨rmc (by omega), rms (by omega)⟩ (fun r L29 F30 H31 l32 hp hW => ?_)
    obtain ⟨rfl, rfl, rfl⟩ := hp
    obtain ⟨hg9, hf⟩ := gd hf
    obtain ⟨n34, en34, hf⟩ := nm_ok hf
    obtain ⟨g35, eg35, hf⟩ := nm_ok hf
    have hn9 : n34 ≤ 32 := by have := fun q => hg9 (Or.inr q); omega
    refine pk_newZ (N' := n34) S hK hW 2 rfl wd_1389 (fun q => hg9 (Or.inl q)) en34.symm (by omega) (rmc (by omega)) (rms (by omega)) dX6_dropAll_16 (fun q36 H37 hq_q36 hW => ?_)
    rw [← eg35] at hW
    have hI := hI.push (e := .inl (κ 2, n34, .inl g35)) hq_q36 (noE hW hST)
    have hF9 := FrM.push (F := F24) (e := .inl (κ 2, n34, .inl g35)) hq_q36
    have hnw_q36 : q36 ∉ L := fun ee => hq_q36 (hFr.1 _ ee)
    have hFr := hFr.tr hF9
    have e_q36 : (va_up F24 q36 (.inl (κ 2, n34, .inl g35))) q36 = .inl (κ 2, n34, .inl g35) := up_eq
    have m_q36 : q36 ∈ L23 ++ [q36] := List.mem_append_right _ (List.mem_singleton.mpr rfl)
    generalize va_up F24 q36 (.inl (κ 2, n34, .inl g35)) = F38 at hW hI hF9 hFr e_q36
    generalize L23 ++ [q36] = L39 at hW hI hF9 hFr m_q36
    refine lv_astore_n (lv' := [(3, .ref q36), (0, .ref (B 0)), (1, .int x1), (2, .int x2)]) S.1 S.2.1 dX6_dropAll_18 rfl hl (by decide) rfl (fun ls hl => ?_)
    refine lv_iconst (v := 0) S.1 S.2.1 dX6_dropAll_19 (by decide) ?_
    refine lv_istore (lv' := [(4, .int 0), (3, .ref q36), (0, .ref (B 0)), (1, .int x1), (2, .int x2)]) S.1 S.2.1 dX6_dropAll_20 hl (by decide) rfl (fun ls hl => ?_)
    exact B22  24 z27.2 x1 x2 n34 g35 0 hf L39 F38 q36 m_q36 e_q36 hnw_q36 hI hFr _ _ _ _ _ hW (by omega) (by omega) (lv_sub hl [2, 3, 4, 1, 0] rfl)
  · have hf := (if_neg c28).symm.trans hf
    refine lv_iconst (v := 0) S.1 S.2.1 dX6_dropAll_9 (by decide) ?_
    exact pk_iret S hr hlk hW (eqm (P := fun z => z.1 = 0 ∧ MI κ ζ B z.2 L23 F24 ∧ FrM L F L23 F24) ⟨rfl, hI, hFr⟩ (Option.some.inj hf)) (by omega) (by omega) dX6_dropAll_10
def f_X6_shed_140  (k67 : (MS × Int32 × Int32 × Int32 × Nat × (Nat → Int32) × Int32 × Int32 × Int32) → Option (Int32 × MS)) (w140 : MS) (v1 : Int32) (v2 : Int32) (v3 : Int32) (nv5 : Nat) (gv5 : (Nat → Int32)) (v6 : Int32) (v7 : Int32) (v8 : Int32) : Option (Int32 × MS) := nm (v8 + 1 : Int32) fun y1 => k67 (w140, v1, v2, v3, nv5, gv5, v6, v7, y1)
def f_X6_shed_92  (k67 : (MS × Int32 × Int32 × Int32 × Nat × (Nat → Int32) × Int32 × Int32 × Int32) → Option (Int32 × MS)) (w92 : MS) (v1 : Int32) (v2 : Int32) (v3 : Int32) (nv5 : Nat) (gv5 : (Nat → Int32)) (v6 : Int32) (v7 : Int32) (v8 : Int32) (u0 : Int32) : Option (Int32 × MS) := (if v6 = 0 then f_X6_shed_140 k67 w92 v1 v2 v3 nv5 gv5 v6 v7 v8 else (f_X6_get w92 v1 u0).bind fun z7 => (f_X6_load z7).bind fun z12 => (if v3 ≤ z12 then (if u0 < 0 ∨ nv5 ≤ u0.toNatClampNeg then none else nm ((upd gv5 u0.toNatClampNeg (vp_nar .boolean (1 : Int32))) : Nat → Int32) fun g14 => (f_X6_get w92 v1 u0).bind fun z22 => (f_X6_load z22).bind fun z27 => nm (v7 + z27 : Int32) fun y28 => nm (v6 + (-1) : Int32) fun y29 => f_X6_shed_140 k67 w92 v1 v2 v3 nv5 g14 y29 y28 v8) else f_X6_shed_140 k67 w92 v1 v2 v3 nv5 gv5 v6 v7 v8))
def f_X6_shed_67   (k67 : (MS × Int32 × Int32 × Int32 × Nat × (Nat → Int32) × Int32 × Int32 × Int32) → Option (Int32 × MS)) (t : (MS × Int32 × Int32 × Int32 × Nat × (Nat → Int32) × Int32 × Int32 × Int32)) : Option (Int32 × MS) := (if (nI t.2.2.2.2.1) ≤ t.2.2.2.2.2.2.2.2 then (f_X6_offAll t.1 t.2.1 t.2.2.2.2.1 t.2.2.2.2.2.1).bind fun z35 => some (t.2.2.2.2.2.2.2.1, z35.2) else (if t.2.2.1 = 0 then f_X6_shed_92 k67 t.1 t.2.1 t.2.2.1 t.2.2.2.1 t.2.2.2.2.1 t.2.2.2.2.2.1 t.2.2.2.2.2.2.1 t.2.2.2.2.2.2.2.1 t.2.2.2.2.2.2.2.2 t.2.2.2.2.2.2.2.2 else f_X6_shed_92 k67 t.1 t.2.1 t.2.2.1 t.2.2.2.1 t.2.2.2.2.1 t.2.2.2.2.2.1 t.2.2.2.2.2.2.1 t.2.2.2.2.2.2.2.1 t.2.2.2.2.2.2.2.2 (((nI t.2.2.2.2.1) - 1) - t.2.2.2.2.2.2.2.2)))
def f_X6_shed_39   (w39 : MS) (v1 : Int32) (v2 : Int32) (v3 : Int32) (v4 : Int32) (u1 : Int32) : Option (Int32 × MS) := (f_X6_refuse w39 u1 2).bind fun z41 => (if z41.1 = 0 then (f_X6_size z41.2 v1).bind fun z47 => (if z47 < 0 ∨ 32 < z47.toNatClampNeg then none else nm (z47.toNatClampNeg : Nat) fun n48 => nm (fun _ => 0 : Nat → Int32) fun g49 => lpn (f_X6_shed_67 ) 24 (z41.2, v1, v2, v3, n48, g49, v4, 0, 0)) else some (0, z41.2))
def f_X6_shed_34   (w34 : MS) (v1 : Int32) (v2 : Int32) (v3 : Int32) (v4 : Int32) : Option (Int32 × MS) := f_X6_shed_39 w34 v1 v2 v3 v4 1
def f_X6_shed (τ : MS) (x1 : Int32) (x2 : Int32) (x3 : Int32) (x4 : Int32) : Option (Int32 × MS) := (f_X6_isNoTrack x1).bind fun z58 => (f_X6_start τ z58 1).bind fun z63 => (if z63.1 = 0 then (f_X6_isIn x3 0 99).bind fun z69 => (if z69 = 0 then f_X6_shed_34 z63.2 x1 x2 x3 x4 else (f_X6_isIn x4 1 20).bind fun z75 => (if z75 = 0 then f_X6_shed_34 z63.2 x1 x2 x3 x4 else f_X6_shed_39 z63.2 x1 x2 x3 x4 0)) else some (0, z63.2))
theorem mc_X6_shed : MCode yX6_shed cX6_shed 10 (some .int) := ⟨wd_1393, wd_5, by decide, by decide⟩
theorem np_X6_shed : (parseMethodDescriptor yX6_shed.desc).map (fun d => d.parameters.length) = some 4 := by decide +kernel
set_option maxHeartbeats 4000000 in
set_option maxRecDepth 100000 in
theorem c_X6_shed {l : Launch} {D : va_G} {κ : Nat → ClassId} {ζ : Nat → Nat} {L : List Nat} {F : Nat → va_E} {τ : MS} {B : Nat → Nat} (hI : MI κ ζ B τ L F) (x1 : Int32) (x2 : Int32) (x3 : Int32) (x4 : Int32) {res : (Int32 × MS)} (hf : f_X6_shed τ x1 x2 x3 x4 = some res) : MtI l D cls (ty5 κ) ζ yX6_shed cX6_shed 10 (some .int) 7 1 33 ([.ref (B 0), .int x1, .int x2, .int x3, .int x4] : List Value) L F (fun r L' F' => res.1 = r ∧ MI κ ζ B res.2 L' F' ∧ FrM L F L' F') := by
  refine MtI.of (by decide) (Nat.le_of_ble_eq_true rfl) ?_
  intro p e s m below meth c S hr hlk _ hK hW hST ls hl
  have hl : lv_has ls 10 [(0, .ref (B 0)), (1, .int x1), (2, .int x2), (3, .int x3), (4, .int x4)] := hl
  have hFr : FrM L F L F := FrM.rf
  have B140 : ∀ (k67 : (MS × Int32 × Int32 × Int32 × Nat × (Nat → Int32) × Int32 × Int32 × Int32) → Option (Int32 × MS)) (nd67 : Nat) (hk67 : (∀ (w67 : MS) (v1 : Int32) (v2 : Int32) (v3 : Int32) (nv5 : Nat) (gv5 : Nat → Int32) (v6 : Int32) (v7 : Int32) (v8 : Int32), k67 (w67, v1, v2, v3, nv5, gv5, v6, v7, v8) = some res → ∀ (K67 : List Nat) (G67 : Nat → va_E), ∀ (qv5 : Nat), qv5 ∈ K67 → G67 qv5 = .inl (κ 2, nv5, .inl gv5) → (qv5 ∉ L) → MI κ ζ B w67 K67 G67 → FrM L F K67 G67 → ∀ (H67 : Heap) (l67 : List Loc) (ls : Array Slot) (cc ss : Nat), HW D cls L s H67 l67 K67 G67 → cc + (nd67) ≤ 1 → ss ≤ 33 * cc → lv_has ls 10 [(0, .ref (B 0)), (1, .int v1), (2, .int v2), (3, .int v3), (5, .ref qv5), (6, .int v6), (7, .int v7), (8, .int v8)] → W p l e (Rm 7 1 33) s m ([.ref (B 0), .int x1, .int x2, .int x3, .int x4] : List Value).toArray below meth c H67 l67 cc ss (EnI D cls s below ([.ref (B 0), .int x1, .int x2, .int x3, .int x4] : List Value).toArray 1 33 L (fun r L' F' => res.1 = r ∧ MI κ ζ B res.2 L' F' ∧ FrM L F L' F')) (F0 m 67 ls []))) (hnd67 : 0 ≤ nd67) (w140 : MS) (v1 : Int32) (v2 : Int32) (v3 : Int32) (nv5 : Nat) (gv5 : Nat → Int32) (v6 : Int32) (v7 : Int32) (v8 : Int32), f_X6_shed_140 k67 w140 v1 v2 v3 nv5 gv5 v6 v7 v8 = some res → ∀ (K140 : List Nat) (G140 : Nat → va_E), ∀ (qv5 : Nat), qv5 ∈ K140 → G140 qv5 = .inl (κ 2, nv5, .inl gv5) → (qv5 ∉ L) → MI κ ζ B w140 K140 G140 → FrM L F K140 G140 → ∀ (H140 : Heap) (l140 : List Loc) (ls : Array Slot) (cc ss : Nat), HW D cls L s H140 l140 K140 G140 → cc + (0 + nd67) ≤ 1 → ss ≤ 33 * cc → lv_has ls 10 [(0, .ref (B 0)), (1, .int v1), (2, .int v2), (3, .int v3), (5, .ref qv5), (6, .int v6), (7, .int v7), (8, .int v8)] → W p l e (Rm 7 1 33) s m ([.ref (B 0), .int x1, .int x2, .int x3, .int x4] : List Value).toArray below meth c H140 l140 cc ss (EnI D cls s below ([.ref (B 0), .int x1, .int x2, .int x3, .int x4] : List Value).toArray 1 33 L (fun r L' F' => res.1 = r ∧ MI κ ζ B res.2 L' F' ∧ FrM L F L' F')) (F0 m 140 ls []) := by
    intro k67 nd67 hk67 hnd67 w140 v1 v2 v3 nv5 gv5 v6 v7 v8 hf K140 G140 qv5 m_qv5 e_qv5 hnw_qv5 hI hFr H140 l140 ls cc ss hW hcc hss hl
    unfold f_X6_shed_140 at hf
    obtain ⟨y1, ey1⟩ : ∃ y : Int32, y = v8 + 1 := ⟨_, rfl⟩
    have hf := nm_at hf ey1
    refine lv_iinc (v := y1) (lv' := [(8, .int y1), (0, .ref (B 0)), (1, .int v1), (2, .int v2), (3, .int v3), (5, .ref qv5), (6, .int v6), (7, .int v7)]) S.1 S.2.1 dX6_shed_140 hl (k := 7) rfl (by rw [ey1]; rfl) (by decide) rfl (fun ls hl => ?_)
    refine lv_goto (tgt := 67) S.1 S.2.1 dX6_shed_143 (by decide) ?_
    exact hk67 w140 v1 v2 v3 nv5 gv5 v6 v7 y1 hf K140 G140 qv5 m_qv5 e_qv5 hnw_qv5 hI hFr _ _ _ _ _ hW (by omega) (by omega) (lv_sub hl [1, 2, 3, 4, 5, 6, 7, 0] rfl)
  have B92 : ∀ (k67 : (MS × Int32 × Int32 × Int32 × Nat × (Nat → Int32) × Int32 × Int32 × Int32) → Option (Int32 × MS)) (nd67 : Nat) (hk67 : (∀ (w67 : MS) (v1 : Int32) (v2 : Int32) (v3 : Int32) (nv5 : Nat) (gv5 : Nat → Int32) (v6 : Int32) (v7 : Int32) (v8 : Int32), k67 (w67, v1, v2, v3, nv5, gv5, v6, v7, v8) = some res → ∀ (K67 : List Nat) (G67 : Nat → va_E), ∀ (qv5 : Nat), qv5 ∈ K67 → G67 qv5 = .inl (κ 2, nv5, .inl gv5) → (qv5 ∉ L) → MI κ ζ B w67 K67 G67 → FrM L F K67 G67 → ∀ (H67 : Heap) (l67 : List Loc) (ls : Array Slot) (cc ss : Nat), HW D cls L s H67 l67 K67 G67 → cc + (nd67) ≤ 1 → ss ≤ 33 * cc → lv_has ls 10 [(0, .ref (B 0)), (1, .int v1), (2, .int v2), (3, .int v3), (5, .ref qv5), (6, .int v6), (7, .int v7), (8, .int v8)] → W p l e (Rm 7 1 33) s m ([.ref (B 0), .int x1, .int x2, .int x3, .int x4] : List Value).toArray below meth c H67 l67 cc ss (EnI D cls s below ([.ref (B 0), .int x1, .int x2, .int x3, .int x4] : List Value).toArray 1 33 L (fun r L' F' => res.1 = r ∧ MI κ ζ B res.2 L' F' ∧ FrM L F L' F')) (F0 m 67 ls []))) (hnd67 : 0 ≤ nd67) (w92 : MS) (v1 : Int32) (v2 : Int32) (v3 : Int32) (nv5 : Nat) (gv5 : Nat → Int32) (v6 : Int32) (v7 : Int32) (v8 : Int32) (u0 : Int32), f_X6_shed_92 k67 w92 v1 v2 v3 nv5 gv5 v6 v7 v8 u0 = some res → ∀ (K92 : List Nat) (G92 : Nat → va_E), ∀ (qv5 : Nat), qv5 ∈ K92 → G92 qv5 = .inl (κ 2, nv5, .inl gv5) → (qv5 ∉ L) → MI κ ζ B w92 K92 G92 → FrM L F K92 G92 → ∀ (H92 : Heap) (l92 : List Loc) (ls : Array Slot) (cc ss : Nat), HW D cls L s H92 l92 K92 G92 → cc + (0 + nd67) ≤ 1 → ss ≤ 33 * cc → lv_has ls 10 [(0, .ref (B 0)), (1, .int v1), (2, .int v2), (3, .int v3), (5, .ref qv5), (6, .int v6), (7, .int v7), (8, .int v8)] → W p l e (Rm 7 1 33) s m ([.ref (B 0), .int x1, .int x2, .int x3, .int x4] : List Value).toArray below meth c H92 l92 cc ss (EnI D cls s below ([.ref (B 0), .int x1, .int x2, .int x3, .int x4] : List Value).toArray 1 33 L (fun r L' F' => res.1 = r ∧ MI κ ζ B res.2 L' F' ∧ FrM L F L' F')) (F0 m 92 ls [.int u0]) := by
    intro k67 nd67 hk67 hnd67 w92 v1 v2 v3 nv5 gv5 v6 v7 v8 u0 hf K92 G92 qv5 m_qv5 e_qv5 hnw_qv5 hI hFr H92 l92 ls cc ss hW hcc hss hl
    unfold f_X6_shed_92 at hf
    refine lv_istore (lv' := [(9, .int u0), (0, .ref (B 0)), (1, .int v1), (2, .int v2), (3, .int v3), (5, .ref qv5), (6, .int v6), (7, .int v7), (8, .int v8)]) S.1 S.2.1 dX6_shed_92 hl (by decide) rfl (fun ls hl => ?_)
    refine lv_iload S.1 S.2.1 dX6_shed_94 (lv_at hl 6 rfl) ?_
    refine lv_if_eq (tgt := 140) S.1 S.2.1 dX6_shed_96 (by decide) (fun c2 => ?_) (fun c2 => ?_)
    · have hf := (if_pos c2).symm.trans hf
      exact B140 k67 nd67 hk67 hnd67 w92 v1 v2 v3 nv5 gv5 v6 v7 v8 hf K92 G92 qv5 m_qv5 e_qv5 hnw_qv5 hI hFr _ _ _ _ _ hW (by omega) (by omega) (lv_sub hl [1, 2, 3, 4, 5, 6, 7, 8] rfl)
    · have hf := (if_neg c2).symm.trans hf
      refine lv_aload_n S.1 S.2.1 dX6_shed_99 rfl (lv_at hl 1 rfl) ?_
      refine lv_iload_n S.1 S.2.1 dX6_shed_100 rfl (lv_at hl 2 rfl) ?_
      refine lv_iload S.1 S.2.1 dX6_shed_101 (lv_at hl 0 rfl) ?_
      obtain ⟨z7, hz, hf⟩ := ob hf
      refine pk_cVI (As := [.int v1, .int u0]) (rest := []) S hK hST hW (c_X6_get hI v1 u0 hz) mc_X6_get wd_1299 wd_1301 wd_1711 rfl np_X6_get (hI.mem (by decide)) hI.this rfl rfl hl.1 rfl (Nat.le_of_ble_eq_true rfl) dX6_shed_103 ⟨by decide, by decide⟩ ⟨rmc (by omega), rms (by omega)⟩ (fun r L3 F4 H5 l6 hp hW => ?_)
      obtain ⟨rfl, rfl, rfl⟩ := hp
      obtain ⟨z12, hz, hf⟩ := ob hf
      refine pk_cSI (As := [.int z7]) (rest := []) S hK hST hW (c_X6_load  z7 hz) mc_X6_load wd_1394 wd_1395 np_X6_load rfl hl.1 rfl (Nat.le_of_ble_eq_true rfl) dX6_shed_106 ⟨by decide, by decide⟩ ⟨rmc (by omega), rms (by omega)⟩ (fun r L8 F9 H10 l11 hp hW => ?_)
      obtain ⟨rfl, rfl, rfl⟩ := hp
      refine lv_iload_n S.1 S.2.1 dX6_shed_109 rfl (lv_at hl 4 rfl) ?_
      refine lv_icmp_ge (tgt := 116) S.1 S.2.1 dX6_shed_110 (by decide) (fun c13 => ?_) (fun c13 => ?_)
      · have hf := (if_pos c13).symm.trans hf
        refine lv_aload S.1 S.2.1 dX6_shed_116 (lv_at hl 5 rfl) ?_
        refine lv_iload S.1 S.2.1 dX6_shed_118 (lv_at hl 0 rfl) ?_
        refine lv_iconst (v := 1) S.1 S.2.1 dX6_shed_120 (by decide) ?_
        obtain ⟨hg, hf⟩ := gd hf
        obtain ⟨g14, eg14, hf⟩ := nm_ok hf
        refine pk_zast S hK hW 2 m_qv5 e_qv5 rfl hg dX6_shed_121 (fun H16 l17 hW => ?_)
        rw [← eg14] at hW
        have hI := hI.loc (g' := g14) e_qv5
        have hFr := hFr.loc (e := .inl (κ 2, nv5, .inl g14)) hnw_qv5
        have e_qv5 : (va_up G92 qv5 (.inl (κ 2, nv5, .inl g14))) qv5 = .inl (κ 2, nv5, .inl g14) := up_eq
        generalize va_up G92 qv5 (.inl (κ 2, nv5, .inl g14)) = F15 at hW hI hFr e_qv5
        refine lv_iload S.1 S.2.1 dX6_shed_122 (lv_at hl 7 rfl) ?_
        refine lv_aload_n S.1 S.2.1 dX6_shed_124 rfl (lv_at hl 1 rfl) ?_
        refine lv_iload_n S.1 S.2.1 dX6_shed_125 rfl (lv_at hl 2 rfl) ?_
        refine lv_iload S.1 S.2.1 dX6_shed_126 (lv_at hl 0 rfl) ?_
        obtain ⟨z22, hz, hf⟩ := ob hf
        refine pk_cVI (As := [.int v1, .int u0]) (rest := [.int v7]) S hK hST hW (c_X6_get hI v1 u0 hz) mc_X6_get wd_1299 wd_1301 wd_1711 rfl np_X6_get (hI.mem (by decide)) hI.this rfl rfl hl.1 rfl (Nat.le_of_ble_eq_true rfl) dX6_shed_128 ⟨by decide, by decide⟩ ⟨rmc (by omega), rms (by omega)⟩ (fun r L18 F19 H20 l21 hp hW => ?_)
        obtain ⟨rfl, rfl, rfl⟩ := hp
        obtain ⟨z27, hz, hf⟩ := ob hf
        refine pk_cSI (As := [.int z22]) (rest := [.int v7]) S hK hST hW (c_X6_load  z22 hz) mc_X6_load wd_1394 wd_1395 np_X6_load rfl hl.1 rfl (Nat.le_of_ble_eq_true rfl) dX6_shed_131 ⟨by decide, by decide⟩ ⟨rmc (by omega), rms (by omega)⟩ (fun r L23 F24 H25 l26 hp hW => ?_)
        obtain ⟨rfl, rfl, rfl⟩ := hp
        refine lv_iadd S.1 S.2.1 dX6_shed_134 ?_
        refine lv_topi (fun y28 ey28 => ?_)
        have hf := nm_at hf ey28
        refine lv_istore (lv' := [(7, .int y28), (9, .int u0), (0, .ref (B 0)), (1, .int v1), (2, .int v2), (3, .int v3), (5, .ref qv5), (6, .int v6), (8, .int v8)]) S.1 S.2.1 dX6_shed_135 hl (by decide) rfl (fun ls hl => ?_)
        obtain ⟨y29, ey29⟩ : ∃ y : Int32, y = v6 + (-1) := ⟨_, rfl⟩
        have hf := nm_at hf ey29
        refine lv_iinc (v := y29) (lv' := [(6, .int y29), (7, .int y28), (9, .int u0), (0, .ref (B 0)), (1, .int v1), (2, .int v2), (3, .int v3), (5, .ref qv5), (8, .int v8)]) S.1 S.2.1 dX6_shed_137 hl (k := 7) rfl (by rw [ey29]; rfl) (by decide) rfl (fun ls hl => ?_)
        exact B140 k67 nd67 hk67 hnd67 w92 v1 v2 v3 nv5 g14 y29 y28 v8 hf K92 F15 qv5 m_qv5 e_qv5 hnw_qv5 hI hFr _ _ _ _ _ hW (by omega) (by omega) (lv_sub hl [3, 4, 5, 6, 7, 0, 1, 8] rfl)
      · have hf := (if_neg c13).symm.trans hf
        refine lv_goto (tgt := 140) S.1 S.2.1 dX6_shed_113 (by decide) ?_
        exact B140 k67 nd67 hk67 hnd67 w92 v1 v2 v3 nv5 gv5 v6 v7 v8 hf K92 G92 qv5 m_qv5 e_qv5 hnw_qv5 hI hFr _ _ _ _ _ hW (by omega) (by omega) (lv_sub hl [1, 2, 3, 4, 5, 6, 7, 8] rfl)
  have B67 : ∀  (N : Nat), (∀ (w67 : MS) (v1 : Int32) (v2 : Int32) (v3 : Int32) (nv5 : Nat) (gv5 : Nat → Int32) (v6 : Int32) (v7 : Int32) (v8 : Int32), (lpn (f_X6_shed_67 ) N) (w67, v1, v2, v3, nv5, gv5, v6, v7, v8) = some res → ∀ (K67 : List Nat) (G67 : Nat → va_E), ∀ (qv5 : Nat), qv5 ∈ K67 → G67 qv5 = .inl (κ 2, nv5, .inl gv5) → (qv5 ∉ L) → MI κ ζ B w67 K67 G67 → FrM L F K67 G67 → ∀ (H67 : Heap) (l67 : List Loc) (ls : Array Slot) (cc ss : Nat), HW D cls L s H67 l67 K67 G67 → cc + (N * 0 + 0) ≤ 1 → ss ≤ 33 * cc → lv_has ls 10 [(0, .ref (B 0)), (1, .int v1), (2, .int v2), (3, .int v3), (5, .ref qv5), (6, .int v6), (7, .int v7), (8, .int v8)] → W p l e (Rm 7 1 33) s m ([.ref (B 0), .int x1, .int x2, .int x3, .int x4] : List Value).toArray below meth c H67 l67 cc ss (EnI D cls s below ([.ref (B 0), .int x1, .int x2, .int x3, .int x4] : List Value).toArray 1 33 L (fun r L' F' => res.1 = r ∧ MI κ ζ B res.2 L' F' ∧ FrM L F L' F')) (F0 m 67 ls [])) := by
    intro  N
    induction N with
    | zero => intro w67 v1 v2 v3 nv5 gv5 v6 v7 v8 hf K67 G67 qv5 m_qv5 e_qv5 hnw_qv5 hI hFr H67 l67 ls cc ss hW hcc hss hl; cases hf
    | succ N ih =>
      intro w67 v1 v2 v3 nv5 gv5 v6 v7 v8 hf K67 G67 qv5 m_qv5 e_qv5 hnw_qv5 hI hFr H67 l67 ls cc ss hW hcc hss hl
      have hf : f_X6_shed_67  (lpn (f_X6_shed_67 ) N) (w67, v1, v2, v3, nv5, gv5, v6, v7, v8) = some res := hf
      generalize lpn (f_X6_shed_67 ) N = k67 at hf ih
      have hnd67 : 0 ≤ N * 0 + 0 := by omega
      have hcc : cc + (0 + (N * 0 + 0)) ≤ 1 := by omega
      have hk67 := ih
      generalize N * 0 + 0 = nd67 at hnd67 hcc hk67
      unfold f_X6_shed_67 at hf
      try dsimp only at hf
      refine lv_iload S.1 S.2.1 dX6_shed_67 (lv_at hl 7 rfl) ?_
      refine lv_aload S.1 S.2.1 dX6_shed_69 (lv_at hl 4 rfl) ?_
      refine pk_alen S hK hW 2 m_qv5 e_qv5 rfl rfl dX6_shed_71 ?_
      refine lv_icmp_ge (tgt := 146) S.1 S.2.1 dX6_shed_72 (by decide) (fun c30 => ?_) (fun c30 => ?_)
      · have hf := (if_pos c30).symm.trans hf
        refine lv_aload_n S.1 S.2.1 dX6_shed_146 rfl (lv_at hl 0 rfl) ?_
        refine lv_iload_n S.1 S.2.1 dX6_shed_147 rfl (lv_at hl 1 rfl) ?_
        refine lv_aload S.1 S.2.1 dX6_shed_148 (lv_at hl 4 rfl) ?_
        obtain ⟨z35, hz, hf⟩ := ob hf
        refine pk_cVI (As := [.int v1, .ref qv5]) (rest := []) S hK hST hW (c_X6_offAll hI v1 nv5 gv5 m_qv5 e_qv5 hz) mc_X6_offAll wd_1385 wd_1387 wd_1718 rfl np_X6_offAll (hI.mem (by decide)) hI.this rfl rfl hl.1 rfl (Nat.le_of_ble_eq_true rfl) dX6_shed_150 ⟨by decide, by decide⟩ ⟨rmc (by omega), rms (by omega)⟩ (fun r L31 F32 H33 l34 hp hW => ?_)
        obtain ⟨rfl, hI, hF9⟩ := hp
        have hFr := hFr.tr hF9
        have e_qv5 := (hF9.2 _ m_qv5 (notM_a e_qv5)).trans e_qv5
        have m_qv5 := hF9.1 _ m_qv5
        refine lv_pop S.1 S.2.1 dX6_shed_153 rfl ?_
        refine lv_iload S.1 S.2.1 dX6_shed_154 (lv_at hl 6 rfl) ?_
        exact pk_iret S hr hlk hW (eqm (P := fun z => z.1 = v7 ∧ MI κ ζ B z.2 L31 F32 ∧ FrM L F L31 F32) ⟨rfl, hI, hFr⟩ (Option.some.inj hf)) (by omega) (by omega) dX6_shed_156
      · have hf := (if_neg c30).symm.trans hf
        refine lv_iload_n S.1 S.2.1 dX6_shed_75 rfl (lv_at hl 2 rfl) ?_
        refine lv_if_eq (tgt := 90) S.1 S.2.1 dX6_shed_76 (by decide) (fun c36 => ?_) (fun c36 => ?_)
        · have hf := (if_pos c36).symm.trans hf
          refine lv_iload S.1 S.2.1 dX6_shed_90 (lv_at hl 7 rfl) ?_
          exact B92 k67 nd67 hk67 hnd67 w67 v1 v2 v3 nv5 gv5 v6 v7 v8 v8 hf K67 G67 qv5 m_qv5 e_qv5 hnw_qv5 hI hFr _ _ _ _ _ hW (by omega) (by omega) (lv_sub hl [0, 1, 2, 3, 4, 5, 6, 7] rfl)
        · have hf := (if_neg c36).symm.trans hf
          refine lv_aload S.1 S.2.1 dX6_shed_79 (lv_at hl 4 rfl) ?_
          refine pk_alen S hK hW 2 m_qv5 e_qv5 rfl rfl dX6_shed_81 ?_
          refine lv_iconst (v := 1) S.1 S.2.1 dX6_shed_82 (by decide) ?_
          refine lv_isub S.1 S.2.1 dX6_shed_83 ?_
          refine lv_iload S.1 S.2.1 dX6_shed_84 (lv_at hl 7 rfl) ?_
          refine lv_isub S.1 S.2.1 dX6_shed_86 ?_
          refine lv_goto (tgt := 92) S.1 S.2.1 dX6_shed_87 (by decide) ?_
          exact B92 k67 nd67 hk67 hnd67 w67 v1 v2 v3 nv5 gv5 v6 v7 v8 (((nI nv5) - 1) - v8) hf K67 G67 qv5 m_qv5 e_qv5 hnw_qv5 hI hFr _ _ _ _ _ hW (by omega) (by omega) (lv_sub hl [0, 1, 2, 3, 4, 5, 6, 7] rfl)
  have B39 : ∀  (w39 : MS) (v1 : Int32) (v2 : Int32) (v3 : Int32) (v4 : Int32) (u1 : Int32), f_X6_shed_39 w39 v1 v2 v3 v4 u1 = some res → ∀ (K39 : List Nat) (G39 : Nat → va_E), MI κ ζ B w39 K39 G39 → FrM L F K39 G39 → ∀ (H39 : Heap) (l39 : List Loc) (ls : Array Slot) (cc ss : Nat), HW D cls L s H39 l39 K39 G39 → cc + (1) ≤ 1 → ss ≤ 33 * cc → lv_has ls 10 [(0, .ref (B 0)), (1, .int v1), (2, .int v2), (3, .int v3), (4, .int v4)] → W p l e (Rm 7 1 33) s m ([.ref (B 0), .int x1, .int x2, .int x3, .int x4] : List Value).toArray below meth c H39 l39 cc ss (EnI D cls s below ([.ref (B 0), .int x1, .int x2, .int x3, .int x4] : List Value).toArray 1 33 L (fun r L' F' => res.1 = r ∧ MI κ ζ B res.2 L' F' ∧ FrM L F L' F')) (F0 m 39 ls [.int u1, .ref (B 0)]) := by
    intro  w39 v1 v2 v3 v4 u1 hf K39 G39 hI hFr H39 l39 ls cc ss hW hcc hss hl
    unfold f_X6_shed_39 at hf
    refine lv_iconst (v := 2) S.1 S.2.1 dX6_shed_39 (by decide) ?_
    obtain ⟨z41, hz, hf⟩ := ob hf
    refine pk_cVI (As := [.int u1, .int 2]) (rest := []) S hK hST hW (c_X6_refuse hI u1 2 hz) mc_X6_refuse wd_1192 wd_1194 wd_1702 rfl np_X6_refuse (hI.mem (by decide)) hI.this rfl rfl hl.1 rfl (Nat.le_of_ble_eq_true rfl) dX6_shed_40 ⟨by decide, by decide⟩ ⟨rmc (by omega), rms (by omega)⟩ (fun r L37 F38 H39 l40 hp hW => ?_)
    obtain ⟨rfl, hI, hF9⟩ := hp
    have hFr := hFr.tr hF9
    refine lv_if_eq (tgt := 48) S.1 S.2.1 dX6_shed_43 (by decide) (fun c42 => ?_) (fun c42 => ?_)
    · have hf := (if_pos c42).symm.trans hf
      refine lv_aload_n S.1 S.2.1 dX6_shed_48 rfl (lv_at hl 0 rfl) ?_
      refine lv_iload_n S.1 S.2.1 dX6_shed_49 rfl (lv_at hl 1 rfl) ?_
      obtain ⟨z47, hz, hf⟩ := ob hf
      refine pk_cVI (As := [.int v1]) (rest := []) S hK hST hW (c_X6_size hI v1 hz) mc_X6_size wd_1199 wd_1201 wd_1703 rfl np_X6_size (hI.mem (by decide)) hI.this rfl rfl hl.1 rfl (Nat.le_of_ble_eq_true rfl) dX6_shed_50 ⟨by decide, by decide⟩ ⟨rmc (by omega), rms (by omega)⟩ (fun r L43 F44 H45 l46 hp hW => ?_)
      obtain ⟨rfl, rfl, rfl⟩ := hp
      obtain ⟨hg9, hf⟩ := gd hf
      obtain ⟨n48, en48, hf⟩ := nm_ok hf
      obtain ⟨g49, eg49, hf⟩ := nm_ok hf
      have hn9 : n48 ≤ 32 := by have := fun q => hg9 (Or.inr q); omega
      refine pk_newZ (N' := n48) S hK hW 2 rfl wd_1389 (fun q => hg9 (Or.inl q)) en48.symm (by omega) (rmc (by omega)) (rms (by omega)) dX6_shed_53 (fun q50 H51 hq_q50 hW => ?_)
      rw [← eg49] at hW
      have hI := hI.push (e := .inl (κ 2, n48, .inl g49)) hq_q50 (noE hW hST)
      have hF9 := FrM.push (F := F38) (e := .inl (κ 2, n48, .inl g49)) hq_q50
      have hnw_q50 : q50 ∉ L := fun ee => hq_q50 (hFr.1 _ ee)
      have hFr := hFr.tr hF9
      have e_q50 : (va_up F38 q50 (.inl (κ 2, n48, .inl g49))) q50 = .inl (κ 2, n48, .inl g49) := up_eq
      have m_q50 : q50 ∈ L37 ++ [q50] := List.mem_append_right _ (List.mem_singleton.mpr rfl)
      generalize va_up F38 q50 (.inl (κ 2, n48, .inl g49)) = F52 at hW hI hF9 hFr e_q50
      generalize L37 ++ [q50] = L53 at hW hI hF9 hFr m_q50
      refine lv_astore (lv' := [(5, .ref q50), (0, .ref (B 0)), (1, .int v1), (2, .int v2), (3, .int v3), (4, .int v4)]) S.1 S.2.1 dX6_shed_55 hl (by decide) rfl (fun ls hl => ?_)
      refine lv_iload S.1 S.2.1 dX6_shed_57 (lv_at hl 5 rfl) ?_
      refine lv_istore (lv' := [(6, .int v4), (5, .ref q50), (0, .ref (B 0)), (1, .int v1), (2, .int v2), (3, .int v3), (4, .int v4)]) S.1 S.2.1 dX6_shed_59 hl (by decide) rfl (fun ls hl => ?_)
      refine lv_iconst (v := 0) S.1 S.2.1 dX6_shed_61 (by decide) ?_
      refine lv_istore (lv' := [(7, .int 0), (6, .int v4), (5, .ref q50), (0, .ref (B 0)), (1, .int v1), (2, .int v2), (3, .int v3), (4, .int v4)]) S.1 S.2.1 dX6_shed_62 hl (by decide) rfl (fun ls hl => ?_)
      refine lv_iconst (v := 0) S.1 S.2.1 dX6_shed_64 (by decide) ?_
      refine lv_istore (lv' := [(8, .int 0), (7, .int 0), (6, .int v4), (5, .ref q50), (0, .ref (B 0)), (1, .int v1), (2, .int v2), (3, .int v3), (4, .int v4)]) S.1 S.2.1 dX6_shed_65 hl (by decide) rfl (fun ls hl => ?_)
      exact B67  24 z41.2 v1 v2 v3 n48 g49 v4 0 0 hf L53 F52 q50 m_q50 e_q50 hnw_q50 hI hFr _ _ _ _ _ hW (by omega) (by omega) (lv_sub hl [4, 5, 6, 7, 3, 2, 1, 0] rfl)
    · have hf := (if_neg c42).symm.trans hf
      refine lv_iconst (v := 0) S.1 S.2.1 dX6_shed_46 (by decide) ?_
      exact pk_iret S hr hlk hW (eqm (P := fun z => z.1 = 0 ∧ MI κ ζ B z.2 L37 F38 ∧ FrM L F L37 F38) ⟨rfl, hI, hFr⟩ (Option.some.inj hf)) (by omega) (by omega) dX6_shed_47
  have B34 : ∀  (w34 : MS) (v1 : Int32) (v2 : Int32) (v3 : Int32) (v4 : Int32), f_X6_shed_34 w34 v1 v2 v3 v4 = some res → ∀ (K34 : List Nat) (G34 : Nat → va_E), MI κ ζ B w34 K34 G34 → FrM L F K34 G34 → ∀ (H34 : Heap) (l34 : List Loc) (ls : Array Slot) (cc ss : Nat), HW D cls L s H34 l34 K34 G34 → cc + (1) ≤ 1 → ss ≤ 33 * cc → lv_has ls 10 [(0, .ref (B 0)), (1, .int v1), (2, .int v2), (3, .int v3), (4, .int v4)] → W p l e (Rm 7 1 33) s m ([.ref (B 0), .int x1, .int x2, .int x3, .int x4] : List Value).toArray below meth c H34 l34 cc ss (EnI D cls s below ([.ref (B 0), .int x1, .int x2, .int x3, .int x4] : List Value).toArray 1 33 L (fun r L' F' => res.1 = r ∧ MI κ ζ B res.2 L' F' ∧ FrM L F L' F')) (F0 m 34 ls [.ref (B 0)]) := by
    intro  w34 v1 v2 v3 v4 hf K34 G34 hI hFr H34 l34 ls cc ss hW hcc hss hl
    unfold f_X6_shed_34 at hf
    refine lv_iconst (v := 1) S.1 S.2.1 dX6_shed_34 (by decide) ?_
    refine lv_goto (tgt := 39) S.1 S.2.1 dX6_shed_35 (by decide) ?_
    exact B39  w34 v1 v2 v3 v4 1 hf K34 G34 hI hFr _ _ _ _ _ hW (by omega) (by omega) (lv_sub hl [0, 1, 2, 3, 4] rfl)
  unfold f_X6_shed at hf
  refine lv_aload_n S.1 S.2.1 dX6_shed_0 rfl (lv_at hl 0 rfl) ?_
  refine lv_iload_n S.1 S.2.1 dX6_shed_1 rfl (lv_at hl 1 rfl) ?_
  obtain ⟨z58, hz, hf⟩ := ob hf
  refine pk_cSI (As := [.int x1]) (rest := [.ref (B 0)]) S hK hST hW (c_X6_isNoTrack  x1 hz) mc_X6_isNoTrack wd_1182 wd_1183 np_X6_isNoTrack rfl hl.1 rfl (Nat.le_of_ble_eq_true rfl) dX6_shed_2 ⟨by decide, by decide⟩ ⟨rmc (by omega), rms (by omega)⟩ (fun r L54 F55 H56 l57 hp hW => ?_)
  obtain ⟨rfl, rfl, rfl⟩ := hp
  refine lv_iconst (v := 1) S.1 S.2.1 dX6_shed_5 (by decide) ?_
  obtain ⟨z63, hz, hf⟩ := ob hf
  refine pk_cVI (As := [.int z58, .int 1]) (rest := []) S hK hST hW (c_X6_start hI z58 1 hz) mc_X6_start wd_1188 wd_1190 wd_1701 rfl np_X6_start (hI.mem (by decide)) hI.this rfl rfl hl.1 rfl (Nat.le_of_ble_eq_true rfl) dX6_shed_6 ⟨by decide, by decide⟩ ⟨rmc (by omega), rms (by omega)⟩ (fun r L59 F60 H61 l62 hp hW => ?_)
  obtain ⟨rfl, hI, hF9⟩ := hp
  have hFr := hFr.tr hF9
  refine lv_if_ne (tgt := 46) S.1 S.2.1 dX6_shed_9 (by decide) (fun c64 => ?_) (fun c64 => ?_)
  · have hf := (if_neg c64).symm.trans hf
    refine lv_iconst (v := 0) S.1 S.2.1 dX6_shed_46 (by decide) ?_
    exact pk_iret S hr hlk hW (eqm (P := fun z => z.1 = 0 ∧ MI κ ζ B z.2 L59 F60 ∧ FrM L F L59 F60) ⟨rfl, hI, hFr⟩ (Option.some.inj hf)) (by omega) (by omega) dX6_shed_47
  · have hf := (if_pos c64).symm.trans hf
    refine lv_aload_n S.1 S.2.1 dX6_shed_12 rfl (lv_at hl 0 rfl) ?_
    refine lv_iload_n S.1 S.2.1 dX6_shed_13 rfl (lv_at hl 3 rfl) ?_
    refine lv_iconst (v := 0) S.1 S.2.1 dX6_shed_14 (by decide) ?_
    refine lv_bipush (v := 99) S.1 S.2.1 dX6_shed_15 (by decide) ?_
    obtain ⟨z69, hz, hf⟩ := ob hf
    refine pk_cSI (As := [.int x3, .int 0, .int 99]) (rest := [.ref (B 0)]) S hK hST hW (c_X6_isIn  x3 0 99 hz) mc_X6_isIn wd_1185 wd_1186 np_X6_isIn rfl hl.1 rfl (Nat.le_of_ble_eq_true rfl) dX6_shed_17 ⟨by decide, by decide⟩ ⟨rmc (by omega), rms (by omega)⟩ (fun r L65 F66 H67 l68 hp hW => ?_)
    obtain ⟨rfl, rfl, rfl⟩ := hp
    refine lv_if_eq (tgt := 34) S.1 S.2.1 dX6_shed_20 (by decide) (fun c70 => ?_) (fun c70 => ?_)
    · have hf := (if_pos c70).symm.trans hf
      exact B34  z63.2 x1 x2 x3 x4 hf L59 F60 hI hFr _ _ _ _ _ hW (by omega) (by omega) (lv_sub hl [0, 1, 2, 3, 4] rfl)
    · have hf := (if_neg c70).symm.trans hf
      refine lv_iload S.1 S.2.1 dX6_shed_23 (lv_at hl 4 rfl) ?_
      refine lv_iconst (v := 1) S.1 S.2.1 dX6_shed_25 (by decide) ?_
      refine lv_bipush (v := 20) S.1 S.2.1 dX6_shed_26 (by decide) ?_
      obtain ⟨z75, hz, hf⟩ := ob hf
      refine pk_cSI (As := [.int x4, .int 1, .int 20]) (rest := [.ref (B 0)]) S hK hST hW (c_X6_isIn  x4 1 20 hz) mc_X6_isIn wd_1185 wd_1186 np_X6_isIn rfl hl.1 rfl (Nat.le_of_ble_eq_true rfl) dX6_shed_28 ⟨by decide, by decide⟩ ⟨rmc (by omega), rms (by omega)⟩ (fun r L71 F72 H73 l74 hp hW => ?_)
      obtain ⟨rfl, rfl, rfl⟩ := hp
      refine lv_if_ne (tgt := 38) S.1 S.2.1 dX6_shed_31 (by decide) (fun c76 => ?_) (fun c76 => ?_)
      · have hf := (if_neg c76).symm.trans hf
        refine lv_iconst (v := 0) S.1 S.2.1 dX6_shed_38 (by decide) ?_
        exact B39  z63.2 x1 x2 x3 x4 0 hf L59 F60 hI hFr _ _ _ _ _ hW (by omega) (by omega) (lv_sub hl [0, 1, 2, 3, 4] rfl)
      · have hf := (if_pos c76).symm.trans hf
        exact B34  z63.2 x1 x2 x3 x4 hf L59 F60 hI hFr _ _ _ _ _ hW (by omega) (by omega) (lv_sub hl [0, 1, 2, 3, 4] rfl)
def f_X6_thin_87  (k48 : (MS × Int32 × Int32 × Int32 × Nat × (Nat → Int32) × Int32) → Option (Int32 × MS)) (w87 : MS) (v1 : Int32) (v2 : Int32) (v3 : Int32) (nv4 : Nat) (gv4 : (Nat → Int32)) (v5 : Int32) (u1 : Int32) (u2 : Int32) : Option (Int32 × MS) := (if u1 < 0 ∨ nv4 ≤ u1.toNatClampNeg then none else nm ((upd gv4 u1.toNatClampNeg (vp_nar .boolean u2)) : Nat → Int32) fun g1 => nm (v5 + 1 : Int32) fun y5 => k48 (w87, v1, v2, v3, nv4, g1, y5))
def f_X6_thin_75  (k48 : (MS × Int32 × Int32 × Int32 × Nat × (Nat → Int32) × Int32) → Option (Int32 × MS)) (w75 : MS) (v1 : Int32) (v2 : Int32) (v3 : Int32) (nv4 : Nat) (gv4 : (Nat → Int32)) (v5 : Int32) (u1 : Int32) : Option (Int32 × MS) := (if v3 = 0 then none else (if (jrem v5 v3) = 0 then f_X6_thin_87 k48 w75 v1 v2 v3 nv4 gv4 v5 u1 1 else f_X6_thin_87 k48 w75 v1 v2 v3 nv4 gv4 v5 u1 0))
def f_X6_thin_48   (k48 : (MS × Int32 × Int32 × Int32 × Nat × (Nat → Int32) × Int32) → Option (Int32 × MS)) (t : (MS × Int32 × Int32 × Int32 × Nat × (Nat → Int32) × Int32)) : Option (Int32 × MS) := (if (nI t.2.2.2.2.1) < t.2.2.2.2.2.2 then (f_X6_offAll t.1 t.2.1 t.2.2.2.2.1 t.2.2.2.2.2.1).bind fun z12 => some (z12.1, z12.2) else (if t.2.2.1 = 0 then f_X6_thin_75 k48 t.1 t.2.1 t.2.2.1 t.2.2.2.1 t.2.2.2.2.1 t.2.2.2.2.2.1 t.2.2.2.2.2.2 (t.2.2.2.2.2.2 - 1) else f_X6_thin_75 k48 t.1 t.2.1 t.2.2.1 t.2.2.2.1 t.2.2.2.2.1 t.2.2.2.2.2.1 t.2.2.2.2.2.2 ((nI t.2.2.2.2.1) - t.2.2.2.2.2.2)))
def f_X6_thin_27   (w27 : MS) (v1 : Int32) (v2 : Int32) (v3 : Int32) (u1 : Int32) : Option (Int32 × MS) := (f_X6_refuse w27 u1 2).bind fun z18 => (if z18.1 = 0 then (f_X6_size z18.2 v1).bind fun z24 => (if z24 < 0 ∨ 32 < z24.toNatClampNeg then none else nm (z24.toNatClampNeg : Nat) fun n25 => nm (fun _ => 0 : Nat → Int32) fun g26 => lpn (f_X6_thin_48 ) 24 (z18.2, v1, v2, v3, n25, g26, 1)) else some (0, z18.2))
def f_X6_thin (τ : MS) (x1 : Int32) (x2 : Int32) (x3 : Int32) : Option (Int32 × MS) := (f_X6_isNoTrack x1).bind fun z35 => (f_X6_start τ z35 1).bind fun z40 => (if z40.1 = 0 then (f_X6_isIn x3 2 5).bind fun z46 => (if z46 = 0 then f_X6_thin_27 z40.2 x1 x2 x3 1 else f_X6_thin_27 z40.2 x1 x2 x3 0) else some (0, z40.2))
theorem mc_X6_thin : MCode yX6_thin cX6_thin 6 (some .int) := ⟨wd_1400, wd_5, by decide, by decide⟩
theorem np_X6_thin : (parseMethodDescriptor yX6_thin.desc).map (fun d => d.parameters.length) = some 3 := by decide +kernel
set_option maxHeartbeats 4000000 in
set_option maxRecDepth 100000 in
theorem c_X6_thin {l : Launch} {D : va_G} {κ : Nat → ClassId} {ζ : Nat → Nat} {L : List Nat} {F : Nat → va_E} {τ : MS} {B : Nat → Nat} (hI : MI κ ζ B τ L F) (x1 : Int32) (x2 : Int32) (x3 : Int32) {res : (Int32 × MS)} (hf : f_X6_thin τ x1 x2 x3 = some res) : MtI l D cls (ty5 κ) ζ yX6_thin cX6_thin 6 (some .int) 7 1 33 ([.ref (B 0), .int x1, .int x2, .int x3] : List Value) L F (fun r L' F' => res.1 = r ∧ MI κ ζ B res.2 L' F' ∧ FrM L F L' F') := by
  refine MtI.of (by decide) (Nat.le_of_ble_eq_true rfl) ?_
  intro p e s m below meth c S hr hlk _ hK hW hST ls hl
  have hl : lv_has ls 6 [(0, .ref (B 0)), (1, .int x1), (2, .int x2), (3, .int x3)] := hl
  have hFr : FrM L F L F := FrM.rf
  have B87 : ∀ (k48 : (MS × Int32 × Int32 × Int32 × Nat × (Nat → Int32) × Int32) → Option (Int32 × MS)) (nd48 : Nat) (hk48 : (∀ (w48 : MS) (v1 : Int32) (v2 : Int32) (v3 : Int32) (nv4 : Nat) (gv4 : Nat → Int32) (v5 : Int32), k48 (w48, v1, v2, v3, nv4, gv4, v5) = some res → ∀ (K48 : List Nat) (G48 : Nat → va_E), ∀ (qv4 : Nat), qv4 ∈ K48 → G48 qv4 = .inl (κ 2, nv4, .inl gv4) → (qv4 ∉ L) → MI κ ζ B w48 K48 G48 → FrM L F K48 G48 → ∀ (H48 : Heap) (l48 : List Loc) (ls : Array Slot) (cc ss : Nat), HW D cls L s H48 l48 K48 G48 → cc + (nd48) ≤ 1 → ss ≤ 33 * cc → lv_has ls 6 [(0, .ref (B 0)), (1, .int v1), (2, .int v2), (3, .int v3), (4, .ref qv4), (5, .int v5)] → W p l e (Rm 7 1 33) s m ([.ref (B 0), .int x1, .int x2, .int x3] : List Value).toArray below meth c H48 l48 cc ss (EnI D cls s below ([.ref (B 0), .int x1, .int x2, .int x3] : List Value).toArray 1 33 L (fun r L' F' => res.1 = r ∧ MI κ ζ B res.2 L' F' ∧ FrM L F L' F')) (F0 m 48 ls []))) (hnd48 : 0 ≤ nd48) (w87 : MS) (v1 : Int32) (v2 : Int32) (v3 : Int32) (nv4 : Nat) (gv4 : Nat → Int32) (v5 : Int32) (u1 : Int32) (u2 : Int32), f_X6_thin_87 k48 w87 v1 v2 v3 nv4 gv4 v5 u1 u2 = some res → ∀ (K87 : List Nat) (G87 : Nat → va_E), ∀ (qv4 : Nat), qv4 ∈ K87 → G87 qv4 = .inl (κ 2, nv4, .inl gv4) → (qv4 ∉ L) → MI κ ζ B w87 K87 G87 → FrM L F K87 G87 → ∀ (H87 : Heap) (l87 : List Loc) (ls : Array Slot) (cc ss : Nat), HW D cls L s H87 l87 K87 G87 → cc + (0 + nd48) ≤ 1 → ss ≤ 33 * cc → lv_has ls 6 [(0, .ref (B 0)), (1, .int v1), (2, .int v2), (3, .int v3), (4, .ref qv4), (5, .int v5)] → W p l e (Rm 7 1 33) s m ([.ref (B 0), .int x1, .int x2, .int x3] : List Value).toArray below meth c H87 l87 cc ss (EnI D cls s below ([.ref (B 0), .int x1, .int x2, .int x3] : List Value).toArray 1 33 L (fun r L' F' => res.1 = r ∧ MI κ ζ B res.2 L' F' ∧ FrM L F L' F')) (F0 m 87 ls [.int u2, .int u1, .ref qv4]) := by
    intro k48 nd48 hk48 hnd48 w87 v1 v2 v3 nv4 gv4 v5 u1 u2 hf K87 G87 qv4 m_qv4 e_qv4 hnw_qv4 hI hFr H87 l87 ls cc ss hW hcc hss hl
    unfold f_X6_thin_87 at hf
    obtain ⟨hg, hf⟩ := gd hf
    obtain ⟨g1, eg1, hf⟩ := nm_ok hf
    refine pk_zast S hK hW 2 m_qv4 e_qv4 rfl hg dX6_thin_87 (fun H3 l4 hW => ?_)
    rw [← eg1] at hW
    have hI := hI.loc (g' := g1) e_qv4
    have hFr := hFr.loc (e := .inl (κ 2, nv4, .inl g1)) hnw_qv4
    have e_qv4 : (va_up G87 qv4 (.inl (κ 2, nv4, .inl g1))) qv4 = .inl (κ 2, nv4, .inl g1) := up_eq
    generalize va_up G87 qv4 (.inl (κ 2, nv4, .inl g1)) = F2 at hW hI hFr e_qv4
    obtain ⟨y5, ey5⟩ : ∃ y : Int32, y = v5 + 1 := ⟨_, rfl⟩
    have hf := nm_at hf ey5
    refine lv_iinc (v := y5) (lv' := [(5, .int y5), (0, .ref (B 0)), (1, .int v1), (2, .int v2), (3, .int v3), (4, .ref qv4)]) S.1 S.2.1 dX6_thin_88 hl (k := 5) rfl (by rw [ey5]; rfl) (by decide) rfl (fun ls hl => ?_)
    refine lv_goto (tgt := 48) S.1 S.2.1 dX6_thin_91 (by decide) ?_
    exact hk48 w87 v1 v2 v3 nv4 g1 y5 hf K87 F2 qv4 m_qv4 e_qv4 hnw_qv4 hI hFr _ _ _ _ _ hW (by omega) (by omega) (lv_sub hl [1, 2, 3, 4, 5, 0] rfl)
  have B75 : ∀ (k48 : (MS × Int32 × Int32 × Int32 × Nat × (Nat → Int32) × Int32) → Option (Int32 × MS)) (nd48 : Nat) (hk48 : (∀ (w48 : MS) (v1 : Int32) (v2 : Int32) (v3 : Int32) (nv4 : Nat) (gv4 : Nat → Int32) (v5 : Int32), k48 (w48, v1, v2, v3, nv4, gv4, v5) = some res → ∀ (K48 : List Nat) (G48 : Nat → va_E), ∀ (qv4 : Nat), qv4 ∈ K48 → G48 qv4 = .inl (κ 2, nv4, .inl gv4) → (qv4 ∉ L) → MI κ ζ B w48 K48 G48 → FrM L F K48 G48 → ∀ (H48 : Heap) (l48 : List Loc) (ls : Array Slot) (cc ss : Nat), HW D cls L s H48 l48 K48 G48 → cc + (nd48) ≤ 1 → ss ≤ 33 * cc → lv_has ls 6 [(0, .ref (B 0)), (1, .int v1), (2, .int v2), (3, .int v3), (4, .ref qv4), (5, .int v5)] → W p l e (Rm 7 1 33) s m ([.ref (B 0), .int x1, .int x2, .int x3] : List Value).toArray below meth c H48 l48 cc ss (EnI D cls s below ([.ref (B 0), .int x1, .int x2, .int x3] : List Value).toArray 1 33 L (fun r L' F' => res.1 = r ∧ MI κ ζ B res.2 L' F' ∧ FrM L F L' F')) (F0 m 48 ls []))) (hnd48 : 0 ≤ nd48) (w75 : MS) (v1 : Int32) (v2 : Int32) (v3 : Int32) (nv4 : Nat) (gv4 : Nat → Int32) (v5 : Int32) (u1 : Int32), f_X6_thin_75 k48 w75 v1 v2 v3 nv4 gv4 v5 u1 = some res → ∀ (K75 : List Nat) (G75 : Nat → va_E), ∀ (qv4 : Nat), qv4 ∈ K75 → G75 qv4 = .inl (κ 2, nv4, .inl gv4) → (qv4 ∉ L) → MI κ ζ B w75 K75 G75 → FrM L F K75 G75 → ∀ (H75 : Heap) (l75 : List Loc) (ls : Array Slot) (cc ss : Nat), HW D cls L s H75 l75 K75 G75 → cc + (0 + nd48) ≤ 1 → ss ≤ 33 * cc → lv_has ls 6 [(0, .ref (B 0)), (1, .int v1), (2, .int v2), (3, .int v3), (4, .ref qv4), (5, .int v5)] → W p l e (Rm 7 1 33) s m ([.ref (B 0), .int x1, .int x2, .int x3] : List Value).toArray below meth c H75 l75 cc ss (EnI D cls s below ([.ref (B 0), .int x1, .int x2, .int x3] : List Value).toArray 1 33 L (fun r L' F' => res.1 = r ∧ MI κ ζ B res.2 L' F' ∧ FrM L F L' F')) (F0 m 75 ls [.int u1, .ref qv4]) := by
    intro k48 nd48 hk48 hnd48 w75 v1 v2 v3 nv4 gv4 v5 u1 hf K75 G75 qv4 m_qv4 e_qv4 hnw_qv4 hI hFr H75 l75 ls cc ss hW hcc hss hl
    unfold f_X6_thin_75 at hf
    refine lv_iload S.1 S.2.1 dX6_thin_75 (lv_at hl 5 rfl) ?_
    refine lv_iload_n S.1 S.2.1 dX6_thin_77 rfl (lv_at hl 3 rfl) ?_
    obtain ⟨hg, hf⟩ := gd hf
    refine pk_irem S dX6_thin_78 hg ?_
    refine lv_if_ne (tgt := 86) S.1 S.2.1 dX6_thin_79 (by decide) (fun c6 => ?_) (fun c6 => ?_)
    · have hf := (if_neg c6).symm.trans hf
      refine lv_iconst (v := 0) S.1 S.2.1 dX6_thin_86 (by decide) ?_
      exact B87 k48 nd48 hk48 hnd48 w75 v1 v2 v3 nv4 gv4 v5 u1 0 hf K75 G75 qv4 m_qv4 e_qv4 hnw_qv4 hI hFr _ _ _ _ _ hW (by omega) (by omega) (lv_sub hl [0, 1, 2, 3, 4, 5] rfl)
    · have hf := (if_pos c6).symm.trans hf
      refine lv_iconst (v := 1) S.1 S.2.1 dX6_thin_82 (by decide) ?_
      refine lv_goto (tgt := 87) S.1 S.2.1 dX6_thin_83 (by decide) ?_
      exact B87 k48 nd48 hk48 hnd48 w75 v1 v2 v3 nv4 gv4 v5 u1 1 hf K75 G75 qv4 m_qv4 e_qv4 hnw_qv4 hI hFr _ _ _ _ _ hW (by omega) (by omega) (lv_sub hl [0, 1, 2, 3, 4, 5] rfl)
  have B48 : ∀  (N : Nat), (∀ (w48 : MS) (v1 : Int32) (v2 : Int32) (v3 : Int32) (nv4 : Nat) (gv4 : Nat → Int32) (v5 : Int32), (lpn (f_X6_thin_48 ) N) (w48, v1, v2, v3, nv4, gv4, v5) = some res → ∀ (K48 : List Nat) (G48 : Nat → va_E), ∀ (qv4 : Nat), qv4 ∈ K48 → G48 qv4 = .inl (κ 2, nv4, .inl gv4) → (qv4 ∉ L) → MI κ ζ B w48 K48 G48 → FrM L F K48 G48 → ∀ (H48 : Heap) (l48 : List Loc) (ls : Array Slot) (cc ss : Nat), HW D cls L s H48 l48 K48 G48 → cc + (N * 0 + 0) ≤ 1 → ss ≤ 33 * cc → lv_has ls 6 [(0, .ref (B 0)), (1, .int v1), (2, .int v2), (3, .int v3), (4, .ref qv4), (5, .int v5)] → W p l e (Rm 7 1 33) s m ([.ref (B 0), .int x1, .int x2, .int x3] : List Value).toArray below meth c H48 l48 cc ss (EnI D cls s below ([.ref (B 0), .int x1, .int x2, .int x3] : List Value).toArray 1 33 L (fun r L' F' => res.1 = r ∧ MI κ ζ B res.2 L' F' ∧ FrM L F L' F')) (F0 m 48 ls [])) := by
    intro  N
    induction N with
    | zero => intro w48 v1 v2 v3 nv4 gv4 v5 hf K48 G48 qv4 m_qv4 e_qv4 hnw_qv4 hI hFr H48 l48 ls cc ss hW hcc hss hl; cases hf
    | succ N ih =>
      intro w48 v1 v2 v3 nv4 gv4 v5 hf K48 G48 qv4 m_qv4 e_qv4 hnw_qv4 hI hFr H48 l48 ls cc ss hW hcc hss hl
      have hf : f_X6_thin_48  (lpn (f_X6_thin_48 ) N) (w48, v1, v2, v3, nv4, gv4, v5) = some res := hf
      generalize lpn (f_X6_thin_48 ) N = k48 at hf ih
      have hnd48 : 0 ≤ N * 0 + 0 := by omega
      have hcc : cc + (0 + (N * 0 + 0)) ≤ 1 := by omega
      have hk48 := ih
      generalize N * 0 + 0 = nd48 at hnd48 hcc hk48
      unfold f_X6_thin_48 at hf
      try dsimp only at hf
      refine lv_iload S.1 S.2.1 dX6_thin_48 (lv_at hl 5 rfl) ?_
      refine lv_aload S.1 S.2.1 dX6_thin_50 (lv_at hl 4 rfl) ?_
      refine pk_alen S hK hW 2 m_qv4 e_qv4 rfl rfl dX6_thin_52 ?_
      refine lv_icmp_gt (tgt := 94) S.1 S.2.1 dX6_thin_53 (by decide) (fun c7 => ?_) (fun c7 => ?_)
      · have hf := (if_pos c7).symm.trans hf
        refine lv_aload_n S.1 S.2.1 dX6_thin_94 rfl (lv_at hl 0 rfl) ?_
        refine lv_iload_n S.1 S.2.1 dX6_thin_95 rfl (lv_at hl 1 rfl) ?_
        refine lv_aload S.1 S.2.1 dX6_thin_96 (lv_at hl 4 rfl) ?_
        obtain ⟨z12, hz, hf⟩ := ob hf
        refine pk_cVI (As := [.int v1, .ref qv4]) (rest := []) S hK hST hW (c_X6_offAll hI v1 nv4 gv4 m_qv4 e_qv4 hz) mc_X6_offAll wd_1385 wd_1387 wd_1718 rfl np_X6_offAll (hI.mem (by decide)) hI.this rfl rfl hl.1 rfl (Nat.le_of_ble_eq_true rfl) dX6_thin_98 ⟨by decide, by decide⟩ ⟨rmc (by omega), rms (by omega)⟩ (fun r L8 F9 H10 l11 hp hW => ?_)
        obtain ⟨rfl, hI, hF9⟩ := hp
        have hFr := hFr.tr hF9
        have e_qv4 := (hF9.2 _ m_qv4 (notM_a e_qv4)).trans e_qv4
        have m_qv4 := hF9.1 _ m_qv4
        exact pk_iret S hr hlk hW (eqm (P := fun z => z.1 = z12.1 ∧ MI κ ζ B z.2 L8 F9 ∧ FrM L F L8 F9) ⟨rfl, hI, hFr⟩ (Option.some.inj hf)) (by omega) (by omega) dX6_thin_101
      · have hf := (if_neg c7).symm.trans hf
        refine lv_aload S.1 S.2.1 dX6_thin_56 (lv_at hl 4 rfl) ?_
        refine lv_iload_n S.1 S.2.1 dX6_thin_58 rfl (lv_at hl 2 rfl) ?_
        refine lv_if_eq (tgt := 71) S.1 S.2.1 dX6_thin_59 (by decide) (fun c13 => ?_) (fun c13 => ?_)
        · have hf := (if_pos c13).symm.trans hf
          refine lv_iload S.1 S.2.1 dX6_thin_71 (lv_at hl 5 rfl) ?_
          refine lv_iconst (v := 1) S.1 S.2.1 dX6_thin_73 (by decide) ?_
          refine lv_isub S.1 S.2.1 dX6_thin_74 ?_
          exact B75 k48 nd48 hk48 hnd48 w48 v1 v2 v3 nv4 gv4 v5 (v5 - 1) hf K48 G48 qv4 m_qv4 e_qv4 hnw_qv4 hI hFr _ _ _ _ _ hW (by omega) (by omega) (lv_sub hl [0, 1, 2, 3, 4, 5] rfl)
        · have hf := (if_neg c13).symm.trans hf
          refine lv_aload S.1 S.2.1 dX6_thin_62 (lv_at hl 4 rfl) ?_
          refine pk_alen S hK hW 2 m_qv4 e_qv4 rfl rfl dX6_thin_64 ?_
          refine lv_iload S.1 S.2.1 dX6_thin_65 (lv_at hl 5 rfl) ?_
          refine lv_isub S.1 S.2.1 dX6_thin_67 ?_
          refine lv_goto (tgt := 75) S.1 S.2.1 dX6_thin_68 (by decide) ?_
          exact B75 k48 nd48 hk48 hnd48 w48 v1 v2 v3 nv4 gv4 v5 ((nI nv4) - v5) hf K48 G48 qv4 m_qv4 e_qv4 hnw_qv4 hI hFr _ _ _ _ _ hW (by omega) (by omega) (lv_sub hl [0, 1, 2, 3, 4, 5] rfl)
  have B27 : ∀  (w27 : MS) (v1 : Int32) (v2 : Int32) (v3 : Int32) (u1 : Int32), f_X6_thin_27 w27 v1 v2 v3 u1 = some res → ∀ (K27 : List Nat) (G27 : Nat → va_E), MI κ ζ B w27 K27 G27 → FrM L F K27 G27 → ∀ (H27 : Heap) (l27 : List Loc) (ls : Array Slot) (cc ss : Nat), HW D cls L s H27 l27 K27 G27 → cc + (1) ≤ 1 → ss ≤ 33 * cc → lv_has ls 6 [(0, .ref (B 0)), (1, .int v1), (2, .int v2), (3, .int v3)] → W p l e (Rm 7 1 33) s m ([.ref (B 0), .int x1, .int x2, .int x3] : List Value).toArray below meth c H27 l27 cc ss (EnI D cls s below ([.ref (B 0), .int x1, .int x2, .int x3] : List Value).toArray 1 33 L (fun r L' F' => res.1 = r ∧ MI κ ζ B res.2 L' F' ∧ FrM L F L' F')) (F0 m 27 ls [.int u1, .ref (B 0)]) := by
    intro  w27 v1 v2 v3 u1 hf K27 G27 hI hFr H27 l27 ls cc ss hW hcc hss hl
    unfold f_X6_thin_27 at hf
    refine lv_iconst (v := 2) S.1 S.2.1 dX6_thin_27 (by decide) ?_
    obtain ⟨z18, hz, hf⟩ := ob hf
    refine pk_cVI (As := [.int u1, .int 2]) (rest := []) S hK hST hW (c_X6_refuse hI u1 2 hz) mc_X6_refuse wd_1192 wd_1194 wd_1702 rfl np_X6_refuse (hI.mem (by decide)) hI.this rfl rfl hl.1 rfl (Nat.le_of_ble_eq_true rfl) dX6_thin_28 ⟨by decide, by decide⟩ ⟨rmc (by omega), rms (by omega)⟩ (fun r L14 F15 H16 l17 hp hW => ?_)
    obtain ⟨rfl, hI, hF9⟩ := hp
    have hFr := hFr.tr hF9
    refine lv_if_eq (tgt := 36) S.1 S.2.1 dX6_thin_31 (by decide) (fun c19 => ?_) (fun c19 => ?_)
    · have hf := (if_pos c19).symm.trans hf
      refine lv_aload_n S.1 S.2.1 dX6_thin_36 rfl (lv_at hl 0 rfl) ?_
      refine lv_iload_n S.1 S.2.1 dX6_thin_37 rfl (lv_at hl 1 rfl) ?_
      obtain ⟨z24, hz, hf⟩ := ob hf
      refine pk_cVI (As := [.int v1]) (rest := []) S hK hST hW (c_X6_size hI v1 hz) mc_X6_size wd_1199 wd_1201 wd_1703 rfl np_X6_size (hI.mem (by decide)) hI.this rfl rfl hl.1 rfl (Nat.le_of_ble_eq_true rfl) dX6_thin_38 ⟨by decide, by decide⟩ ⟨rmc (by omega), rms (by omega)⟩ (fun r L20 F21 H22 l23 hp hW => ?_)
      obtain ⟨rfl, rfl, rfl⟩ := hp
      obtain ⟨hg9, hf⟩ := gd hf
      obtain ⟨n25, en25, hf⟩ := nm_ok hf
      obtain ⟨g26, eg26, hf⟩ := nm_ok hf
      have hn9 : n25 ≤ 32 := by have := fun q => hg9 (Or.inr q); omega
      refine pk_newZ (N' := n25) S hK hW 2 rfl wd_1389 (fun q => hg9 (Or.inl q)) en25.symm (by omega) (rmc (by omega)) (rms (by omega)) dX6_thin_41 (fun q27 H28 hq_q27 hW => ?_)
      rw [← eg26] at hW
      have hI := hI.push (e := .inl (κ 2, n25, .inl g26)) hq_q27 (noE hW hST)
      have hF9 := FrM.push (F := F15) (e := .inl (κ 2, n25, .inl g26)) hq_q27
      have hnw_q27 : q27 ∉ L := fun ee => hq_q27 (hFr.1 _ ee)
      have hFr := hFr.tr hF9
      have e_q27 : (va_up F15 q27 (.inl (κ 2, n25, .inl g26))) q27 = .inl (κ 2, n25, .inl g26) := up_eq
      have m_q27 : q27 ∈ L14 ++ [q27] := List.mem_append_right _ (List.mem_singleton.mpr rfl)
      generalize va_up F15 q27 (.inl (κ 2, n25, .inl g26)) = F29 at hW hI hF9 hFr e_q27
      generalize L14 ++ [q27] = L30 at hW hI hF9 hFr m_q27
      refine lv_astore (lv' := [(4, .ref q27), (0, .ref (B 0)), (1, .int v1), (2, .int v2), (3, .int v3)]) S.1 S.2.1 dX6_thin_43 hl (by decide) rfl (fun ls hl => ?_)
      refine lv_iconst (v := 1) S.1 S.2.1 dX6_thin_45 (by decide) ?_
      refine lv_istore (lv' := [(5, .int 1), (4, .ref q27), (0, .ref (B 0)), (1, .int v1), (2, .int v2), (3, .int v3)]) S.1 S.2.1 dX6_thin_46 hl (by decide) rfl (fun ls hl => ?_)
      exact B48  24 z18.2 v1 v2 v3 n25 g26 1 hf L30 F29 q27 m_q27 e_q27 hnw_q27 hI hFr _ _ _ _ _ hW (by omega) (by omega) (lv_sub hl [2, 3, 4, 5, 1, 0] rfl)
    · have hf := (if_neg c19).symm.trans hf
      refine lv_iconst (v := 0) S.1 S.2.1 dX6_thin_34 (by decide) ?_
      exact pk_iret S hr hlk hW (eqm (P := fun z => z.1 = 0 ∧ MI κ ζ B z.2 L14 F15 ∧ FrM L F L14 F15) ⟨rfl, hI, hFr⟩ (Option.some.inj hf)) (by omega) (by omega) dX6_thin_35
  unfold f_X6_thin at hf
  refine lv_aload_n S.1 S.2.1 dX6_thin_0 rfl (lv_at hl 0 rfl) ?_
  refine lv_iload_n S.1 S.2.1 dX6_thin_1 rfl (lv_at hl 1 rfl) ?_
  obtain ⟨z35, hz, hf⟩ := ob hf
  refine pk_cSI (As := [.int x1]) (rest := [.ref (B 0)]) S hK hST hW (c_X6_isNoTrack  x1 hz) mc_X6_isNoTrack wd_1182 wd_1183 np_X6_isNoTrack rfl hl.1 rfl (Nat.le_of_ble_eq_true rfl) dX6_thin_2 ⟨by decide, by decide⟩ ⟨rmc (by omega), rms (by omega)⟩ (fun r L31 F32 H33 l34 hp hW => ?_)
  obtain ⟨rfl, rfl, rfl⟩ := hp
  refine lv_iconst (v := 1) S.1 S.2.1 dX6_thin_5 (by decide) ?_
  obtain ⟨z40, hz, hf⟩ := ob hf
  refine pk_cVI (As := [.int z35, .int 1]) (rest := []) S hK hST hW (c_X6_start hI z35 1 hz) mc_X6_start wd_1188 wd_1190 wd_1701 rfl np_X6_start (hI.mem (by decide)) hI.this rfl rfl hl.1 rfl (Nat.le_of_ble_eq_true rfl) dX6_thin_6 ⟨by decide, by decide⟩ ⟨rmc (by omega), rms (by omega)⟩ (fun r L36 F37 H38 l39 hp hW => ?_)
  obtain ⟨rfl, hI, hF9⟩ := hp
  have hFr := hFr.tr hF9
  refine lv_if_ne (tgt := 34) S.1 S.2.1 dX6_thin_9 (by decide) (fun c41 => ?_) (fun c41 => ?_)
  · have hf := (if_neg c41).symm.trans hf
    refine lv_iconst (v := 0) S.1 S.2.1 dX6_thin_34 (by decide) ?_
    exact pk_iret S hr hlk hW (eqm (P := fun z => z.1 = 0 ∧ MI κ ζ B z.2 L36 F37 ∧ FrM L F L36 F37) ⟨rfl, hI, hFr⟩ (Option.some.inj hf)) (by omega) (by omega) dX6_thin_35
  · have hf := (if_pos c41).symm.trans hf
    refine lv_aload_n S.1 S.2.1 dX6_thin_12 rfl (lv_at hl 0 rfl) ?_
    refine lv_iload_n S.1 S.2.1 dX6_thin_13 rfl (lv_at hl 3 rfl) ?_
    refine lv_iconst (v := 2) S.1 S.2.1 dX6_thin_14 (by decide) ?_
    refine lv_iconst (v := 5) S.1 S.2.1 dX6_thin_15 (by decide) ?_
    obtain ⟨z46, hz, hf⟩ := ob hf
    refine pk_cSI (As := [.int x3, .int 2, .int 5]) (rest := [.ref (B 0)]) S hK hST hW (c_X6_isIn  x3 2 5 hz) mc_X6_isIn wd_1185 wd_1186 np_X6_isIn rfl hl.1 rfl (Nat.le_of_ble_eq_true rfl) dX6_thin_16 ⟨by decide, by decide⟩ ⟨rmc (by omega), rms (by omega)⟩ (fun r L42 F43 H44 l45 hp hW => ?_)
    obtain ⟨rfl, rfl, rfl⟩ := hp
    refine lv_if_ne (tgt := 26) S.1 S.2.1 dX6_thin_19 (by decide) (fun c47 => ?_) (fun c47 => ?_)
    · have hf := (if_neg c47).symm.trans hf
      refine lv_iconst (v := 0) S.1 S.2.1 dX6_thin_26 (by decide) ?_
      exact B27  z40.2 x1 x2 x3 0 hf L36 F37 hI hFr _ _ _ _ _ hW (by omega) (by omega) (lv_sub hl [0, 1, 2, 3] rfl)
    · have hf := (if_pos c47).symm.trans hf
      refine lv_iconst (v := 1) S.1 S.2.1 dX6_thin_22 (by decide) ?_
      refine lv_goto (tgt := 27) S.1 S.2.1 dX6_thin_23 (by decide) ?_
      exact B27  z40.2 x1 x2 x3 1 hf L36 F37 hI hFr _ _ _ _ _ hW (by omega) (by omega) (lv_sub hl [0, 1, 2, 3] rfl)
