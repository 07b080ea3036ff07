def f_X3_at (σ : CS) (x1 : Int32) : Option (Nat ⊕ Int32) := obx (f_X3_needPlace x1 19) fun z1 => (f_X0_size (cap 1) (σ.1 1)).bind fun z6 => (if z6 ≤ x1 then some (.inr ((-9))) else (f_X0_read (cap 1) (σ.1 1) x1).bind fun z12 => some (.inr z12))
theorem mc_X3_at : MCode yX3_at cX3_at 2 (some .int) := ⟨wd_628, wd_1, by decide, by decide⟩
theorem np_X3_at : (parseMethodDescriptor yX3_at.desc).map (fun d => d.parameters.length) = some 1 := by decide +kernel
set_option maxHeartbeats 4000000 in
set_option maxRecDepth 100000 in
theorem c_X3_at {l : Launch} {D : va_G} {κ : Nat → ClassId} {ζ : Nat → Nat} {L : List Nat} {F : Nat → va_E} {σ : CS} {A : Nat → Nat} (hst : l.stackTraces = false) (hI : CI κ A σ L F) (x1 : Int32) {res : (Nat ⊕ Int32)} (hf : f_X3_at σ x1 = some res) : MxI l D cls (ty5 κ) ζ yX3_at cX3_at 2 (some .int) 8 1 6 ([.ref (A 0), .int x1] : List Value) L F (fun r L' F' => L = L' ∧ F = F' ∧ ∃ z, res = .inr z ∧ z = r) (fun E => ∃ k, res = .inl k ∧ E = xName k) := by
  refine MxI.of (by decide) (Nat.le_of_ble_eq_true rfl) ?_
  intro p e s m below meth c S hr hlk hxt hK hW hST ls hl
  have hl : lv_has ls 2 [(0, .ref (A 0)), (1, .int x1)] := hl
  unfold f_X3_at at hf
  refine lv_iload_n S.1 S.2.1 dX3_at_0 rfl (lv_at hl 1 rfl) ?_
  refine lv_bipush (v := 19) S.1 S.2.1 dX3_at_1 (by decide) ?_
  obtain ⟨z1, hz, hxl, hxr⟩ := obx_ok hf
  refine xk_cSV (As := [.int x1, .int 19]) (rest := []) S hK hST hW (c_X3_needPlace hst  x1 19 hz) mc_X3_needPlace wd_603 wd_604 np_X3_needPlace rfl hl.1 rfl (Nat.le_of_ble_eq_true rfl) dX3_at_3 ⟨by decide, by decide⟩ ⟨by decide, by decide⟩ (fun E ce q9 H4 l5 hE hW h1 h2 h3 => ?_) (fun L2 F3 H4 l5 hp hW => ?_)
  · obtain ⟨k, hk1, hk2⟩ := hE
    exact xk_outI hxt hlk hW ⟨k, hxl k hk1, hk2⟩ h1 h2 h3 (by decide) (by decide)
  obtain ⟨rfl, rfl, z1, hz1⟩ := hp
  have hf := hxr z1 hz1
  refine lv_iload_n S.1 S.2.1 dX3_at_6 rfl (lv_at hl 1 rfl) ?_
  refine lv_aload_n S.1 S.2.1 dX3_at_7 rfl (lv_at hl 0 rfl) ?_
  refine pk_get S hK hW 1 (hI.mem 0 (by decide)) hI.this rfl hinX3 (by decide) wd_81 rfl dX3_at_8 ?_
  obtain ⟨z6, hz, hf⟩ := ob hf
  refine pk_cVI (As := []) (rest := [.int x1]) S hK hST hW (c_X0_size (hI.row (by decide : 1 < 7))  hz) mc_X0_size wd_140 wd_141 wd_142 rfl np_X0_size (hI.mem _ (by have := (by decide : 1 < 7); omega)) (hI.rowH (by decide : 1 < 7)) rfl rfl hl.1 rfl (Nat.le_of_ble_eq_true rfl) dX3_at_11 ⟨by decide, by decide⟩ ⟨by decide, by decide⟩ (fun r L7 F8 H9 l10 hp hW => ?_)
  obtain ⟨rfl, rfl, rfl⟩ := hp
  refine lv_icmp_ge (tgt := 28) S.1 S.2.1 dX3_at_14 (by decide) (fun c11 => ?_) (fun c11 => ?_)
  · have hf := (if_pos c11).symm.trans hf
    refine lv_bipush (v := (-9)) S.1 S.2.1 dX3_at_28 (by decide) ?_
    exact xk_iret S hr hlk hW ⟨rfl, rfl, _, (Option.some.inj hf).symm, rfl⟩ (by decide) (by decide) dX3_at_30
  · have hf := (if_neg c11).symm.trans hf
    refine lv_aload_n S.1 S.2.1 dX3_at_17 rfl (lv_at hl 0 rfl) ?_
    refine pk_get S hK hW 1 (hI.mem 0 (by decide)) hI.this rfl hinX3 (by decide) wd_81 rfl dX3_at_18 ?_
    refine lv_iload_n S.1 S.2.1 dX3_at_21 rfl (lv_at hl 1 rfl) ?_
    obtain ⟨z12, hz, hf⟩ := ob hf
    refine pk_cVI (As := [.int x1]) (rest := []) S hK hST hW (c_X0_read (hI.row (by decide : 1 < 7)) x1 hz) mc_X0_read wd_171 wd_120 wd_121 rfl np_X0_read (hI.mem _ (by have := (by decide : 1 < 7); omega)) (hI.rowH (by decide : 1 < 7)) rfl rfl hl.1 rfl (Nat.le_of_ble_eq_true rfl) dX3_at_22 ⟨by decide, by decide⟩ ⟨by decide, by decide⟩ (fun r L13 F14 H15 l16 hp hW => ?_)
    obtain ⟨rfl, rfl, rfl⟩ := hp
    refine lv_goto (tgt := 30) S.1 S.2.1 dX3_at_25 (by decide) ?_
    exact xk_iret S hr hlk hW ⟨rfl, rfl, _, (Option.some.inj hf).symm, rfl⟩ (by decide) (by decide) dX3_at_30
def f_X3_find (σ : CS) (x1 : Int32) (x2 : Int32) : Option (Nat ⊕ Int32) := obx (f_X3_needWithin x1 0 9) fun z1 => (f_X0_placeOfKind (cap 1) (σ.1 1) x1 x2).bind fun z6 => some (.inr z6)
theorem mc_X3_find : MCode yX3_find cX3_find 3 (some .int) := ⟨wd_634, wd_1, by decide, by decide⟩
theorem np_X3_find : (parseMethodDescriptor yX3_find.desc).map (fun d => d.parameters.length) = some 2 := by decide +kernel
set_option maxHeartbeats 4000000 in
set_option maxRecDepth 100000 in
theorem c_X3_find {l : Launch} {D : va_G} {κ : Nat → ClassId} {ζ : Nat → Nat} {L : List Nat} {F : Nat → va_E} {σ : CS} {A : Nat → Nat} (hst : l.stackTraces = false) (hI : CI κ A σ L F) (x1 : Int32) (x2 : Int32) {res : (Nat ⊕ Int32)} (hf : f_X3_find σ x1 x2 = some res) : MxI l D cls (ty5 κ) ζ yX3_find cX3_find 3 (some .int) 8 1 6 ([.ref (A 0), .int x1, .int x2] : List Value) L F (fun r L' F' => L = L' ∧ F = F' ∧ ∃ z, res = .inr z ∧ z = r) (fun E => ∃ k, res = .inl k ∧ E = xName k) := by
  refine MxI.of (by decide) (Nat.le_of_ble_eq_true rfl) ?_
  intro p e s m below meth c S hr hlk hxt hK hW hST ls hl
  have hl : lv_has ls 3 [(0, .ref (A 0)), (1, .int x1), (2, .int x2)] := hl
  unfold f_X3_find at hf
  refine lv_iload_n S.1 S.2.1 dX3_find_0 rfl (lv_at hl 1 rfl) ?_
  refine lv_iconst (v := 0) S.1 S.2.1 dX3_find_1 (by decide) ?_
  refine lv_bipush (v := 9) S.1 S.2.1 dX3_find_2 (by decide) ?_
  obtain ⟨z1, hz, hxl, hxr⟩ := obx_ok hf
  refine xk_cSV (As := [.int x1, .int 0, .int 9]) (rest := []) S hK hST hW (c_X3_needWithin hst  x1 0 9 hz) mc_X3_needWithin wd_416 wd_417 np_X3_needWithin rfl hl.1 rfl (Nat.le_of_ble_eq_true rfl) dX3_find_4 ⟨by decide, by decide⟩ ⟨by decide, by decide⟩ (fun E ce q9 H4 l5 hE hW h1 h2 h3 => ?_) (fun L2 F3 H4 l5 hp hW => ?_)
  · obtain ⟨k, hk1, hk2⟩ := hE
    exact xk_outI hxt hlk hW ⟨k, hxl k hk1, hk2⟩ h1 h2 h3 (by decide) (by decide)
  obtain ⟨rfl, rfl, z1, hz1⟩ := hp
  have hf := hxr z1 hz1
  refine lv_aload_n S.1 S.2.1 dX3_find_7 rfl (lv_at hl 0 rfl) ?_
  refine pk_get S hK hW 1 (hI.mem 0 (by decide)) hI.this rfl hinX3 (by decide) wd_81 rfl dX3_find_8 ?_
  refine lv_iload_n S.1 S.2.1 dX3_find_11 rfl (lv_at hl 1 rfl) ?_
  refine lv_iload_n S.1 S.2.1 dX3_find_12 rfl (lv_at hl 2 rfl) ?_
  obtain ⟨z6, hz, hf⟩ := ob hf
  refine pk_cVI (As := [.int x1, .int x2]) (rest := []) S hK hST hW (c_X0_placeOfKind (hI.row (by decide : 1 < 7)) x1 x2 hz) mc_X0_placeOfKind wd_178 wd_179 wd_180 rfl np_X0_placeOfKind (hI.mem _ (by have := (by decide : 1 < 7); omega)) (hI.rowH (by decide : 1 < 7)) rfl rfl hl.1 rfl (Nat.le_of_ble_eq_true rfl) dX3_find_13 ⟨by decide, by decide⟩ ⟨by decide, by decide⟩ (fun r L7 F8 H9 l10 hp hW => ?_)
  obtain ⟨rfl, rfl, rfl⟩ := hp
  exact xk_iret S hr hlk hW ⟨rfl, rfl, _, (Option.some.inj hf).symm, rfl⟩ (by decide) (by decide) dX3_find_16
def f_X3_splice_42   (k42 : CS × Int32 × Int32 × Int32 → Option (Nat ⊕ (Int32 × CS))) (t : CS × Int32 × Int32 × Int32) : Option (Nat ⊕ (Int32 × CS)) := (if t.2.2.1 ≤ t.2.2.2 then (f_X0_empty (cap 0) (t.1.1 0)).bind fun z2 => nm ((va_up t.1.1 0 z2, t.1.2) : CS) fun t7 => (f_X3_tearFor t7 1).bind fun z8 => (f_X3_disturb z8 0).bind fun z13 => some (.inr (t.2.2.1, z13)) else (f_X0_read (cap 0) (t.1.1 0) t.2.2.2).bind fun z18 => (f_X0_enter (cap 1) (t.1.1 1) (t.2.1 + t.2.2.2) z18).bind fun z23 => nm ((va_up t.1.1 1 z23, t.1.2) : CS) fun t28 => nm (t.2.2.2 + 1 : Int32) fun y29 => k42 (t28, t.2.1, t.2.2.1, y29))
def f_X3_splice (σ : CS) (x1 : Int32) : Option (Nat ⊕ (Int32 × CS)) := obx (f_X3_needPlace x1 20) fun z30 => (f_X0_size (cap 0) (σ.1 0)).bind fun z35 => obx (f_X3_needRoom σ 1 z35) fun z40 => (if z35 = 0 then some (.inr (0, σ)) else (f_X0_size (cap 1) (σ.1 1)).bind fun z46 => (if x1 ≤ z46 then lpn (f_X3_splice_42 ) 64 (σ, x1, z35, 0) else some (.inr ((-9), σ))))
theorem mc_X3_splice : MCode yX3_splice cX3_splice 4 (some .int) := ⟨wd_640, wd_1, by decide, by decide⟩
theorem np_X3_splice : (parseMethodDescriptor yX3_splice.desc).map (fun d => d.parameters.length) = some 1 := by decide +kernel
set_option maxHeartbeats 4000000 in
set_option maxRecDepth 100000 in
theorem c_X3_splice {l : Launch} {D : va_G} {κ : Nat → ClassId} {ζ : Nat → Nat} {L : List Nat} {F : Nat → va_E} {σ : CS} {A : Nat → Nat} (hst : l.stackTraces = false) (hI : CI κ A σ L F) (x1 : Int32) {res : (Nat ⊕ (Int32 × CS))} (hf : f_X3_splice σ x1 = some res) : MxI l D cls (ty5 κ) ζ yX3_splice cX3_splice 4 (some .int) 8 2 12 ([.ref (A 0), .int x1] : List Value) L F (fun r L' F' => L = L' ∧ ∃ z, res = .inr z ∧ z.1 = r ∧ CI κ A z.2 L F' ∧ FrA A F F') (fun E => ∃ k, res = .inl k ∧ E = xName k) := by
  refine MxI.of (by decide) (Nat.le_of_ble_eq_true rfl) ?_
  intro p e s m below meth c S hr hlk hxt hK hW hST ls hl
  have hl : lv_has ls 4 [(0, .ref (A 0)), (1, .int x1)] := hl
  have hFr : FrA A F F := FrA.rf
  have B42 : ∀ (N : Nat), (∀ (w42 : CS) (v1 : Int32) (v2 : Int32) (v3 : Int32), (lpn (f_X3_splice_42 ) N) (w42, v1, v2, v3) = some res → ∀ (G42 : Nat → va_E), CI κ A w42 L G42 → FrA A F G42 → ∀ (H42 : Heap) (l42 : List Loc) (ls : Array Slot), HW D cls L s H42 l42 L G42 → lv_has ls 4 [(0, .ref (A 0)), (1, .int v1), (2, .int v2), (3, .int v3)] → W p l e (Rm 8 2 12) s m ([.ref (A 0), .int x1] : List Value).toArray below meth c H42 l42 2 12 (ExI D cls s below ([.ref (A 0), .int x1] : List Value).toArray 2 12 L F (fun r L' F' => L = L' ∧ ∃ z, res = .inr z ∧ z.1 = r ∧ CI κ A z.2 L F' ∧ FrA A F F') (fun E => ∃ k, res = .inl k ∧ E = xName k)) (F0 m 42 ls [])) := by
    intro  N
    induction N with
    | zero => intro w42 v1 v2 v3 hf G42 hI hFr H42 l42 ls hW hl; cases hf
    | succ N ih =>
      intro w42 v1 v2 v3 hf G42 hI hFr H42 l42 ls hW hl
      have hf : f_X3_splice_42 (lpn (f_X3_splice_42 ) N) (w42, v1, v2, v3) = some res := hf
      generalize lpn (f_X3_splice_42 ) N = k42 at hf ih
      have hk42 := ih
      unfold f_X3_splice_42 at hf
      try dsimp only at hf
      refine lv_iload_n S.1 S.2.1 dX3_splice_42 rfl (lv_at hl 3 rfl) ?_
      refine lv_iload_n S.1 S.2.1 dX3_splice_43 rfl (lv_at hl 2 rfl) ?_
      refine lv_icmp_ge (tgt := 71) S.1 S.2.1 dX3_splice_44 (by decide) (fun c1 => ?_) (fun c1 => ?_)
      · have hf := (if_pos c1).symm.trans hf
        refine lv_aload_n S.1 S.2.1 dX3_splice_71 rfl (lv_at hl 0 rfl) ?_
        refine pk_get S hK hW 0 (hI.mem 0 (by decide)) hI.this rfl hinX3 (by decide) wd_80 rfl dX3_splice_72 ?_
        obtain ⟨z2, hz, hf⟩ := ob hf
        refine pk_cVV (As := []) (rest := []) S hK hST hW (c_X0_empty (hI.row (by decide : 0 < 7))  hz) mc_X0_empty wd_190 wd_191 wd_192 rfl np_X0_empty (hI.mem _ (by have := (by decide : 0 < 7); omega)) (hI.rowH (by decide : 0 < 7)) rfl rfl hl.1 rfl (Nat.le_of_ble_eq_true rfl) dX3_splice_75 ⟨by decide, by decide⟩ ⟨by decide, by decide⟩ (fun L3 F4 H5 l6 hp hW => ?_)
        obtain ⟨rfl, hI1, hFr1⟩ := hp
        have hFr := hFr.tr (FrA.row (by decide : 0 < 7) hFr1)
        have hI := hI.setRow (by decide : 0 < 7) hI1 hFr1
        obtain ⟨t7, et7, hf⟩ := nm_ok hf
        have hI := eqm (P := fun w => CI κ A w L F4) hI et7.symm
        refine lv_aload_n S.1 S.2.1 dX3_splice_78 rfl (lv_at hl 0 rfl) ?_
        refine lv_iconst (v := 1) S.1 S.2.1 dX3_splice_79 (by decide) ?_
        obtain ⟨z8, hz, hf⟩ := ob hf
        refine pk_cVV (As := [.int 1]) (rest := []) S hK hST hW (c_X3_tearFor hI 1 hz) mc_X3_tearFor wd_186 wd_188 wd_1667 rfl np_X3_tearFor (hI.mem 0 (by decide)) hI.this rfl rfl hl.1 rfl (Nat.le_of_ble_eq_true rfl) dX3_splice_80 ⟨by decide, by decide⟩ ⟨by decide, by decide⟩ (fun L9 F10 H11 l12 hp hW => ?_)
        obtain ⟨rfl, hI1, hFr1⟩ := hp
        have hI := hI1
        have hFr := hFr.tr hFr1
        refine lv_aload_n S.1 S.2.1 dX3_splice_83 rfl (lv_at hl 0 rfl) ?_
        refine lv_iconst (v := 0) S.1 S.2.1 dX3_splice_84 (by decide) ?_
        obtain ⟨z13, hz, hf⟩ := ob hf
        refine pk_cVV (As := [.int 0]) (rest := []) S hK hST hW (c_X3_disturb hI 0 hz) mc_X3_disturb wd_155 wd_157 wd_1665 rfl np_X3_disturb (hI.mem 0 (by decide)) hI.this rfl rfl hl.1 rfl (Nat.le_of_ble_eq_true rfl) dX3_splice_85 ⟨by decide, by decide⟩ ⟨by decide, by decide⟩ (fun L14 F15 H16 l17 hp hW => ?_)
        obtain ⟨rfl, hI1, hFr1⟩ := hp
        have hI := hI1
        have hFr := hFr.tr hFr1
        refine lv_iload_n S.1 S.2.1 dX3_splice_88 rfl (lv_at hl 2 rfl) ?_
        exact xk_iret S hr hlk hW ⟨rfl, _, (Option.some.inj hf).symm, rfl, hI, hFr⟩ (by decide) (by decide) dX3_splice_89
      · have hf := (if_neg c1).symm.trans hf
        refine lv_aload_n S.1 S.2.1 dX3_splice_47 rfl (lv_at hl 0 rfl) ?_
        refine pk_get S hK hW 1 (hI.mem 0 (by decide)) hI.this rfl hinX3 (by decide) wd_81 rfl dX3_splice_48 ?_
        refine lv_iload_n S.1 S.2.1 dX3_splice_51 rfl (lv_at hl 1 rfl) ?_
        refine lv_iload_n S.1 S.2.1 dX3_splice_52 rfl (lv_at hl 3 rfl) ?_
        refine lv_iadd S.1 S.2.1 dX3_splice_53 ?_
        refine lv_aload_n S.1 S.2.1 dX3_splice_54 rfl (lv_at hl 0 rfl) ?_
        refine pk_get S hK hW 0 (hI.mem 0 (by decide)) hI.this rfl hinX3 (by decide) wd_80 rfl dX3_splice_55 ?_
        refine lv_iload_n S.1 S.2.1 dX3_splice_58 rfl (lv_at hl 3 rfl) ?_
        obtain ⟨z18, hz, hf⟩ := ob hf
        refine pk_cVI (As := [.int v3]) (rest := [.int (v1 + v3), .ref (A (1 + 2 * 1))]) S hK hST hW (c_X0_read (hI.row (by decide : 0 < 7)) v3 hz) mc_X0_read wd_171 wd_120 wd_121 rfl np_X0_read (hI.mem _ (by have := (by decide : 0 < 7); omega)) (hI.rowH (by decide : 0 < 7)) rfl rfl hl.1 rfl (Nat.le_of_ble_eq_true rfl) dX3_splice_59 ⟨by decide, by decide⟩ ⟨by decide, by decide⟩ (fun r L19 F20 H21 l22 hp hW => ?_)
        obtain ⟨rfl, rfl, rfl⟩ := hp
        obtain ⟨z23, hz, hf⟩ := ob hf
        refine pk_cVV (As := [.int (v1 + v3), .int z18]) (rest := []) S hK hST hW (c_X0_enter (hI.row (by decide : 1 < 7)) (v1 + v3) z18 hz) mc_X0_enter wd_147 wd_148 wd_149 rfl np_X0_enter (hI.mem _ (by have := (by decide : 1 < 7); omega)) (hI.rowH (by decide : 1 < 7)) rfl rfl hl.1 rfl (Nat.le_of_ble_eq_true rfl) dX3_splice_62 ⟨by decide, by decide⟩ ⟨by decide, by decide⟩ (fun L24 F25 H26 l27 hp hW => ?_)
        obtain ⟨rfl, hI1, hFr1⟩ := hp
        have hFr := hFr.tr (FrA.row (by decide : 1 < 7) hFr1)
        have hI := hI.setRow (by decide : 1 < 7) hI1 hFr1
        obtain ⟨t28, et28, hf⟩ := nm_ok hf
        have hI := eqm (P := fun w => CI κ A w L F25) hI et28.symm
        obtain ⟨y29, ey29⟩ : ∃ y : Int32, y = v3 + 1 := ⟨_, rfl⟩
        have hf := nm_at hf ey29
        refine lv_iinc (v := y29) (lv' := [(3, .int y29), (0, .ref (A 0)), (1, .int v1), (2, .int v2)]) S.1 S.2.1 dX3_splice_65 hl (k := 3) rfl (by rw [ey29]; rfl) (by decide) rfl (fun ls hl => ?_)
        refine lv_goto (tgt := 42) S.1 S.2.1 dX3_splice_68 (by decide) ?_
        exact hk42 t28 v1 v2 y29 hf F25 hI hFr _ _ _ hW (lv_sub hl [1, 2, 3, 0] rfl)
  unfold f_X3_splice at hf
  refine lv_iload_n S.1 S.2.1 dX3_splice_0 rfl (lv_at hl 1 rfl) ?_
  refine lv_bipush (v := 20) S.1 S.2.1 dX3_splice_1 (by decide) ?_
  obtain ⟨z1, hz, hxl, hxr⟩ := obx_ok hf
  refine xk_cSV (As := [.int x1, .int 20]) (rest := []) S hK hST hW (c_X3_needPlace hst  x1 20 hz) mc_X3_needPlace wd_603 wd_604 np_X3_needPlace rfl hl.1 rfl (Nat.le_of_ble_eq_true rfl) dX3_splice_3 ⟨by decide, by decide⟩ ⟨by decide, by decide⟩ (fun E ce q9 H33 l34 hE hW h1 h2 h3 => ?_) (fun L31 F32 H33 l34 hp hW => ?_)
  · obtain ⟨k, hk1, hk2⟩ := hE
    exact xk_outI hxt hlk hW ⟨k, hxl k hk1, hk2⟩ h1 h2 h3 (by decide) (by decide)
  obtain ⟨rfl, rfl, z30, hz1⟩ := hp
  have hf := hxr z30 hz1
  refine lv_aload_n S.1 S.2.1 dX3_splice_6 rfl (lv_at hl 0 rfl) ?_
  refine pk_get S hK hW 0 (hI.mem 0 (by decide)) hI.this rfl hinX3 (by decide) wd_80 rfl dX3_splice_7 ?_
  obtain ⟨z35, hz, hf⟩ := ob hf
  refine pk_cVI (As := []) (rest := []) S hK hST hW (c_X0_size (hI.row (by decide : 0 < 7))  hz) mc_X0_size wd_140 wd_141 wd_142 rfl np_X0_size (hI.mem _ (by have := (by decide : 0 < 7); omega)) (hI.rowH (by decide : 0 < 7)) rfl rfl hl.1 rfl (Nat.le_of_ble_eq_true rfl) dX3_splice_10 ⟨by decide, by decide⟩ ⟨by decide, by decide⟩ (fun r L36 F37 H38 l39 hp hW => ?_)
  obtain ⟨rfl, rfl, rfl⟩ := hp
  refine lv_istore_n (lv' := [(2, .int z35), (0, .ref (A 0)), (1, .int x1)]) S.1 S.2.1 dX3_splice_13 rfl hl (by decide) rfl (fun ls hl => ?_)
  refine lv_aload_n S.1 S.2.1 dX3_splice_14 rfl (lv_at hl 1 rfl) ?_
  refine lv_iconst (v := 1) S.1 S.2.1 dX3_splice_15 (by decide) ?_
  refine lv_iload_n S.1 S.2.1 dX3_splice_16 rfl (lv_at hl 0 rfl) ?_
  obtain ⟨z1, hz, hxl, hxr⟩ := obx_ok hf
  refine xk_cVV (As := [.int 1, .int z35]) (rest := []) S hK hST hW (c_X3_needRoom hst hI 1 z35 hz) mc_X3_needRoom wd_434 wd_436 wd_1686 rfl np_X3_needRoom (hI.mem 0 (by decide)) hI.this rfl rfl hl.1 rfl (Nat.le_of_ble_eq_true rfl) dX3_splice_17 ⟨by decide, by decide⟩ ⟨by decide, by decide⟩ (fun E ce q9 H43 l44 hE hW h1 h2 h3 => ?_) (fun L41 F42 H43 l44 hp hW => ?_)
  · obtain ⟨k, hk1, hk2⟩ := hE
    exact xk_outI hxt hlk hW ⟨k, hxl k hk1, hk2⟩ h1 h2 h3 (by decide) (by decide)
  obtain ⟨rfl, rfl, z40, hz1⟩ := hp
  have hf := hxr z40 hz1
  refine lv_iload_n S.1 S.2.1 dX3_splice_20 rfl (lv_at hl 0 rfl) ?_
  refine lv_if_ne (tgt := 26) S.1 S.2.1 dX3_splice_21 (by decide) (fun c45 => ?_) (fun c45 => ?_)
  · have hf := (if_neg c45).symm.trans hf
    refine lv_iload_n S.1 S.2.1 dX3_splice_26 rfl (lv_at hl 2 rfl) ?_
    refine lv_aload_n S.1 S.2.1 dX3_splice_27 rfl (lv_at hl 1 rfl) ?_
    refine pk_get S hK hW 1 (hI.mem 0 (by decide)) hI.this rfl hinX3 (by decide) wd_81 rfl dX3_splice_28 ?_
    obtain ⟨z46, hz, hf⟩ := ob hf
    refine pk_cVI (As := []) (rest := [.int x1]) S hK hST hW (c_X0_size (hI.row (by decide : 1 < 7))  hz) mc_X0_size wd_140 wd_141 wd_142 rfl np_X0_size (hI.mem _ (by have := (by decide : 1 < 7); omega)) (hI.rowH (by decide : 1 < 7)) rfl rfl hl.1 rfl (Nat.le_of_ble_eq_true rfl) dX3_splice_31 ⟨by decide, by decide⟩ ⟨by decide, by decide⟩ (fun r L47 F48 H49 l50 hp hW => ?_)
    obtain ⟨rfl, rfl, rfl⟩ := hp
    refine lv_icmp_le (tgt := 40) S.1 S.2.1 dX3_splice_34 (by decide) (fun c51 => ?_) (fun c51 => ?_)
    · have hf := (if_pos c51).symm.trans hf
      refine lv_iconst (v := 0) S.1 S.2.1 dX3_splice_40 (by decide) ?_
      refine lv_istore_n (lv' := [(3, .int 0), (2, .int z35), (0, .ref (A 0)), (1, .int x1)]) S.1 S.2.1 dX3_splice_41 rfl hl (by decide) rfl (fun ls hl => ?_)
      exact B42  64 σ x1 z35 0 hf F hI hFr _ _ _ hW (lv_sub hl [2, 3, 1, 0] rfl)
    · have hf := (if_neg c51).symm.trans hf
      refine lv_bipush (v := (-9)) S.1 S.2.1 dX3_splice_37 (by decide) ?_
      exact xk_iret S hr hlk hW ⟨rfl, _, (Option.some.inj hf).symm, rfl, hI, hFr⟩ (by decide) (by decide) dX3_splice_39
  · have hf := (if_pos c45).symm.trans hf
    refine lv_iconst (v := 0) S.1 S.2.1 dX3_splice_24 (by decide) ?_
    exact xk_iret S hr hlk hW ⟨rfl, _, (Option.some.inj hf).symm, rfl, hI, hFr⟩ (by decide) (by decide) dX3_splice_25
def f_X3_shunt_110   (w110 : CS) (v4 : Int32) : Option (Nat ⊕ (Int32 × CS)) := some (.inr (v4, w110))
def f_X3_shunt_89  (k53 : (CS × Int32 × Int32 × Int32 × Int32) → Option (Nat ⊕ (Int32 × CS))) (w89 : CS) (v1 : Int32) (v3 : Int32) (v4 : Int32) (v5 : Int32) : Option (Nat ⊕ (Int32 × CS)) := nm (v5 + 1 : Int32) fun y1 => k53 (w89, v1, v3, v4, y1)
def f_X3_shunt_53   (k53 : CS × Int32 × Int32 × Int32 × Int32 → Option (Nat ⊕ (Int32 × CS))) (t : CS × Int32 × Int32 × Int32 × Int32) : Option (Nat ⊕ (Int32 × CS)) := (if t.2.2.1 ≤ t.2.2.2.2 then (f_X3_tearFor t.1 1).bind fun z3 => (if t.2.2.2.1 ≤ 0 then f_X3_shunt_110 z3 t.2.2.2.1 else (f_X3_disturb z3 0).bind fun z9 => f_X3_shunt_110 z9 t.2.2.2.1) else (f_X0_leave (cap 1) (t.1.1 1) t.2.1).bind fun z14 => nm ((va_up t.1.1 1 z14.2, t.1.2) : CS) fun t19 => (f_X3_kindOf z14.1).bind fun z20 => (if z20 = 0 then f_X3_shunt_89 k53 t19 t.2.1 t.2.2.1 t.2.2.2.1 t.2.2.2.2 else (f_X0_enterLast (cap 0) (t19.1 0) z14.1).bind fun z26 => nm ((va_up t19.1 0 z26, t19.2) : CS) fun t31 => nm (t.2.2.2.1 + 1 : Int32) fun y32 => f_X3_shunt_89 k53 t31 t.2.1 t.2.2.1 y32 t.2.2.2.2))
def f_X3_shunt (σ : CS) (x1 : Int32) (x2 : Int32) : Option (Nat ⊕ (Int32 × CS)) := obx (f_X3_needPlace x1 19) fun z33 => obx (f_X3_needWithin x2 1 20) fun z38 => obx (f_X3_needRoom σ 0 x2) fun z43 => (f_X0_size (cap 1) (σ.1 1)).bind fun z48 => (if x1 < z48 then (f_X0_size (cap 1) (σ.1 1)).bind fun z54 => nm (if z54 - x1 < x2 then z54 - x1 else x2 : Int32) fun y59 => lpn (f_X3_shunt_53 ) 64 (σ, x1, y59, 0, 0) else some (.inr ((-9), σ)))
theorem mc_X3_shunt : MCode yX3_shunt cX3_shunt 7 (some .int) := ⟨wd_646, wd_1, by decide, by decide⟩
theorem np_X3_shunt : (parseMethodDescriptor yX3_shunt.desc).map (fun d => d.parameters.length) = some 2 := by decide +kernel
set_option maxHeartbeats 4000000 in
set_option maxRecDepth 100000 in
theorem c_X3_shunt {l : Launch} {D : va_G} {κ : Nat → ClassId} {ζ : Nat → Nat} {L : List Nat} {F : Nat → va_E} {σ : CS} {A : Nat → Nat} (hst : l.stackTraces = false) (hI : CI κ A σ L F) (x1 : Int32) (x2 : Int32) {res : (Nat ⊕ (Int32 × CS))} (hf : f_X3_shunt σ x1 x2 = some res) : MxI l D cls (ty5 κ) ζ yX3_shunt cX3_shunt 7 (some .int) 8 3 18 ([.ref (A 0), .int x1, .int x2] : List Value) L F (fun r L' F' => L = L' ∧ ∃ z, res = .inr z ∧ z.1 = r ∧ CI κ A z.2 L F' ∧ FrA A F F') (fun E => ∃ k, res = .inl k ∧ E = xName k) := by
  refine MxI.of (by decide) (Nat.le_of_ble_eq_true rfl) ?_
  intro p e s m below meth c S hr hlk hxt hK hW hST ls hl
  have hl : lv_has ls 7 [(0, .ref (A 0)), (1, .int x1), (2, .int x2)] := hl
  have hFr : FrA A F F := FrA.rf
  have B110 : ∀   (w110 : CS) (v4 : Int32), f_X3_shunt_110 w110 v4 = some res → ∀ (G110 : Nat → va_E), CI κ A w110 L G110 → FrA A F G110 → ∀ (H110 : Heap) (l110 : List Loc) (ls : Array Slot), HW D cls L s H110 l110 L G110 → lv_has ls 7 [(4, .int v4)] → W p l e (Rm 8 3 18) s m ([.ref (A 0), .int x1, .int x2] : List Value).toArray below meth c H110 l110 3 18 (ExI D cls s below ([.ref (A 0), .int x1, .int x2] : List Value).toArray 3 18 L F (fun r L' F' => L = L' ∧ ∃ z, res = .inr z ∧ z.1 = r ∧ CI κ A z.2 L F' ∧ FrA A F F') (fun E => ∃ k, res = .inl k ∧ E = xName k)) (F0 m 110 ls []) := by
    intro w110 v4 hf G110 hI hFr H110 l110 ls hW hl
    unfold f_X3_shunt_110 at hf
    refine lv_iload S.1 S.2.1 dX3_shunt_110 (lv_at hl 0 rfl) ?_
    exact xk_iret S hr hlk hW ⟨rfl, _, (Option.some.inj hf).symm, rfl, hI, hFr⟩ (by decide) (by decide) dX3_shunt_112
  have B89 : ∀ (k53 : (CS × Int32 × Int32 × Int32 × Int32) → Option (Nat ⊕ (Int32 × CS))) (hk53 : (∀ (w53 : CS) (v1 : Int32) (v3 : Int32) (v4 : Int32) (v5 : Int32), k53 (w53, v1, v3, v4, v5) = some res → ∀ (G53 : Nat → va_E), CI κ A w53 L G53 → FrA A F G53 → ∀ (H53 : Heap) (l53 : List Loc) (ls : Array Slot), HW D cls L s H53 l53 L G53 → lv_has ls 7 [(0, .ref (A 0)), (1, .int v1), (3, .int v3), (4, .int v4), (5, .int v5)] → W p l e (Rm 8 3 18) s m ([.ref (A 0), .int x1, .int x2] : List Value).toArray below meth c H53 l53 3 18 (ExI D cls s below ([.ref (A 0), .int x1, .int x2] : List Value).toArray 3 18 L F (fun r L' F' => L = L' ∧ ∃ z, res = .inr z ∧ z.1 = r ∧ CI κ A z.2 L F' ∧ FrA A F F') (fun E => ∃ k, res = .inl k ∧ E = xName k)) (F0 m 53 ls []))) (w89 : CS) (v1 : Int32) (v3 : Int32) (v4 : Int32) (v5 : Int32), f_X3_shunt_89 k53 w89 v1 v3 v4 v5 = some res → ∀ (G89 : Nat → va_E), CI κ A w89 L G89 → FrA A F G89 → ∀ (H89 : Heap) (l89 : List Loc) (ls : Array Slot), HW D cls L s H89 l89 L G89 → lv_has ls 7 [(0, .ref (A 0)), (1, .int v1), (3, .int v3), (4, .int v4), (5, .int v5)] → W p l e (Rm 8 3 18) s m ([.ref (A 0), .int x1, .int x2] : List Value).toArray below meth c H89 l89 3 18 (ExI D cls s below ([.ref (A 0), .int x1, .int x2] : List Value).toArray 3 18 L F (fun r L' F' => L = L' ∧ ∃ z, res = .inr z ∧ z.1 = r ∧ CI κ A z.2 L F' ∧ FrA A F F') (fun E => ∃ k, res = .inl k ∧ E = xName k)) (F0 m 89 ls []) := by
    intro k53 hk53 w89 v1 v3 v4 v5 hf G89 hI hFr H89 l89 ls hW hl
    unfold f_X3_shunt_89 at hf
    obtain ⟨y1, ey1⟩ : ∃ y : Int32, y = v5 + 1 := ⟨_, rfl⟩
    have hf := nm_at hf ey1
    refine lv_iinc (v := y1) (lv' := [(5, .int y1), (0, .ref (A 0)), (1, .int v1), (3, .int v3), (4, .int v4)]) S.1 S.2.1 dX3_shunt_89 hl (k := 4) rfl (by rw [ey1]; rfl) (by decide) rfl (fun ls hl => ?_)
    refine lv_goto (tgt := 53) S.1 S.2.1 dX3_shunt_92 (by decide) ?_
    exact hk53 w89 v1 v3 v4 y1 hf G89 hI hFr _ _ _ hW (lv_sub hl [1, 2, 3, 4, 0] rfl)
  have B53 : ∀ (N : Nat), (∀ (w53 : CS) (v1 : Int32) (v3 : Int32) (v4 : Int32) (v5 : Int32), (lpn (f_X3_shunt_53 ) N) (w53, v1, v3, v4, v5) = some res → ∀ (G53 : Nat → va_E), CI κ A w53 L G53 → FrA A F G53 → ∀ (H53 : Heap) (l53 : List Loc) (ls : Array Slot), HW D cls L s H53 l53 L G53 → lv_has ls 7 [(0, .ref (A 0)), (1, .int v1), (3, .int v3), (4, .int v4), (5, .int v5)] → W p l e (Rm 8 3 18) s m ([.ref (A 0), .int x1, .int x2] : List Value).toArray below meth c H53 l53 3 18 (ExI D cls s below ([.ref (A 0), .int x1, .int x2] : List Value).toArray 3 18 L F (fun r L' F' => L = L' ∧ ∃ z, res = .inr z ∧ z.1 = r ∧ CI κ A z.2 L F' ∧ FrA A F F') (fun E => ∃ k, res = .inl k ∧ E = xName k)) (F0 m 53 ls [])) := by
    intro  N
    induction N with
    | zero => intro w53 v1 v3 v4 v5 hf G53 hI hFr H53 l53 ls hW hl; cases hf
    | succ N ih =>
      intro w53 v1 v3 v4 v5 hf G53 hI hFr H53 l53 ls hW hl
      have hf : f_X3_shunt_53 (lpn (f_X3_shunt_53 ) N) (w53, v1, v3, v4, v5) = some res := hf
      generalize lpn (f_X3_shunt_53 ) N = k53 at hf ih
      have hk53 := ih
      unfold f_X3_shunt_53 at hf
      try dsimp only at hf
      refine lv_iload S.1 S.2.1 dX3_shunt_53 (lv_at hl 4 rfl) ?_
      refine lv_iload_n S.1 S.2.1 dX3_shunt_55 rfl (lv_at hl 2 rfl) ?_
      refine lv_icmp_ge (tgt := 95) S.1 S.2.1 dX3_shunt_56 (by decide) (fun c2 => ?_) (fun c2 => ?_)
      · have hf := (if_pos c2).symm.trans hf
        refine lv_aload_n S.1 S.2.1 dX3_shunt_95 rfl (lv_at hl 0 rfl) ?_
        refine lv_iconst (v := 1) S.1 S.2.1 dX3_shunt_96 (by decide) ?_
        obtain ⟨z3, hz, hf⟩ := ob hf
        refine pk_cVV (As := [.int 1]) (rest := []) S hK hST hW (c_X3_tearFor hI 1 hz) mc_X3_tearFor wd_186 wd_188 wd_1667 rfl np_X3_tearFor (hI.mem 0 (by decide)) hI.this rfl rfl hl.1 rfl (Nat.le_of_ble_eq_true rfl) dX3_shunt_97 ⟨by decide, by decide⟩ ⟨by decide, by decide⟩ (fun L4 F5 H6 l7 hp hW => ?_)
        obtain ⟨rfl, hI1, hFr1⟩ := hp
        have hI := hI1
        have hFr := hFr.tr hFr1
        refine lv_iload S.1 S.2.1 dX3_shunt_100 (lv_at hl 3 rfl) ?_
        refine lv_if_le (tgt := 110) S.1 S.2.1 dX3_shunt_102 (by decide) (fun c8 => ?_) (fun c8 => ?_)
        · have hf := (if_pos c8).symm.trans hf
          exact B110  z3 v4 hf F5 hI hFr _ _ _ hW (lv_sub hl [3] rfl)
        · have hf := (if_neg c8).symm.trans hf
          refine lv_aload_n S.1 S.2.1 dX3_shunt_105 rfl (lv_at hl 0 rfl) ?_
          refine lv_iconst (v := 0) S.1 S.2.1 dX3_shunt_106 (by decide) ?_
          obtain ⟨z9, hz, hf⟩ := ob hf
          refine pk_cVV (As := [.int 0]) (rest := []) S hK hST hW (c_X3_disturb hI 0 hz) mc_X3_disturb wd_155 wd_157 wd_1665 rfl np_X3_disturb (hI.mem 0 (by decide)) hI.this rfl rfl hl.1 rfl (Nat.le_of_ble_eq_true rfl) dX3_shunt_107 ⟨by decide, by decide⟩ ⟨by decide, by decide⟩ (fun L10 F11 H12 l13 hp hW => ?_)
          obtain ⟨rfl, hI1, hFr1⟩ := hp
          have hI := hI1
          have hFr := hFr.tr hFr1
          exact B110  z9 v4 hf F11 hI hFr _ _ _ hW (lv_sub hl [3] rfl)
      · have hf := (if_neg c2).symm.trans hf
        refine lv_aload_n S.1 S.2.1 dX3_shunt_59 rfl (lv_at hl 0 rfl) ?_
        refine pk_get S hK hW 1 (hI.mem 0 (by decide)) hI.this rfl hinX3 (by decide) wd_81 rfl dX3_shunt_60 ?_
        refine lv_iload_n S.1 S.2.1 dX3_shunt_63 rfl (lv_at hl 1 rfl) ?_
        obtain ⟨z14, hz, hf⟩ := ob hf
        refine pk_cVI (As := [.int v1]) (rest := []) S hK hST hW (c_X0_leave (hI.row (by decide : 1 < 7)) v1 hz) mc_X0_leave wd_115 wd_116 wd_117 rfl np_X0_leave (hI.mem _ (by have := (by decide : 1 < 7); omega)) (hI.rowH (by decide : 1 < 7)) rfl rfl hl.1 rfl (Nat.le_of_ble_eq_true rfl) dX3_shunt_64 ⟨by decide, by decide⟩ ⟨by decide, by decide⟩ (fun r L15 F16 H17 l18 hp hW => ?_)
        obtain ⟨rfl, rfl, hI1, hFr1⟩ := hp
        have hFr := hFr.tr (FrA.row (by decide : 1 < 7) hFr1)
        have hI := hI.setRow (by decide : 1 < 7) hI1 hFr1
        obtain ⟨t19, et19, hf⟩ := nm_ok hf
        have hI := eqm (P := fun w => CI κ A w L F16) hI et19.symm
        refine lv_istore (lv' := [(6, .int z14.1), (0, .ref (A 0)), (1, .int v1), (3, .int v3), (4, .int v4), (5, .int v5)]) S.1 S.2.1 dX3_shunt_67 hl (by decide) rfl (fun ls hl => ?_)
        refine lv_iload S.1 S.2.1 dX3_shunt_69 (lv_at hl 0 rfl) ?_
        obtain ⟨z20, hz, hf⟩ := ob hf
        refine pk_cSI (As := [.int z14.1]) (rest := []) S hK hST hW (c_X3_kindOf  z14.1 hz) mc_X3_kindOf wd_175 wd_176 np_X3_kindOf rfl hl.1 rfl (Nat.le_of_ble_eq_true rfl) dX3_shunt_71 ⟨by decide, by decide⟩ ⟨by decide, by decide⟩ (fun r L21 F22 H23 l24 hp hW => ?_)
        obtain ⟨rfl, rfl, rfl⟩ := hp
        refine lv_if_eq (tgt := 89) S.1 S.2.1 dX3_shunt_74 (by decide) (fun c25 => ?_) (fun c25 => ?_)
        · have hf := (if_pos c25).symm.trans hf
          exact B89 k53 hk53 t19 v1 v3 v4 v5 hf F16 hI hFr _ _ _ hW (lv_sub hl [1, 2, 3, 4, 5] rfl)
        · have hf := (if_neg c25).symm.trans hf
          refine lv_aload_n S.1 S.2.1 dX3_shunt_77 rfl (lv_at hl 1 rfl) ?_
          refine pk_get S hK hW 0 (hI.mem 0 (by decide)) hI.this rfl hinX3 (by decide) wd_80 rfl dX3_shunt_78 ?_
          refine lv_iload S.1 S.2.1 dX3_shunt_81 (lv_at hl 0 rfl) ?_
          obtain ⟨z26, hz, hf⟩ := ob hf
          refine pk_cVV (As := [.int z14.1]) (rest := []) S hK hST hW (c_X0_enterLast (hI.row (by decide : 0 < 7)) z14.1 hz) mc_X0_enterLast wd_307 wd_252 wd_253 rfl np_X0_enterLast (hI.mem _ (by have := (by decide : 0 < 7); omega)) (hI.rowH (by decide : 0 < 7)) rfl rfl hl.1 rfl (Nat.le_of_ble_eq_true rfl) dX3_shunt_83 ⟨by decide, by decide⟩ ⟨by decide, by decide⟩ (fun L27 F28 H29 l30 hp hW => ?_)
          obtain ⟨rfl, hI1, hFr1⟩ := hp
          have hFr := hFr.tr (FrA.row (by decide : 0 < 7) hFr1)
          have hI := hI.setRow (by decide : 0 < 7) hI1 hFr1
          obtain ⟨t31, et31, hf⟩ := nm_ok hf
          have hI := eqm (P := fun w => CI κ A w L F28) hI et31.symm
          obtain ⟨y32, ey32⟩ : ∃ y : Int32, y = v4 + 1 := ⟨_, rfl⟩
          have hf := nm_at hf ey32
          refine lv_iinc (v := y32) (lv' := [(4, .int y32), (6, .int z14.1), (0, .ref (A 0)), (1, .int v1), (3, .int v3), (5, .int v5)]) S.1 S.2.1 dX3_shunt_86 hl (k := 4) rfl (by rw [ey32]; rfl) (by decide) rfl (fun ls hl => ?_)
          exact B89 k53 hk53 t31 v1 v3 y32 v5 hf F28 hI hFr _ _ _ hW (lv_sub hl [2, 3, 4, 0, 5] rfl)
  unfold f_X3_shunt at hf
  refine lv_iload_n S.1 S.2.1 dX3_shunt_0 rfl (lv_at hl 1 rfl) ?_
  refine lv_bipush (v := 19) S.1 S.2.1 dX3_shunt_1 (by decide) ?_
  obtain ⟨z1, hz, hxl, hxr⟩ := obx_ok hf
  refine xk_cSV (As := [.int x1, .int 19]) (rest := []) S hK hST hW (c_X3_needPlace hst  x1 19 hz) mc_X3_needPlace wd_603 wd_604 np_X3_needPlace rfl hl.1 rfl (Nat.le_of_ble_eq_true rfl) dX3_shunt_3 ⟨by decide, by decide⟩ ⟨by decide, by decide⟩ (fun E ce q9 H36 l37 hE hW h1 h2 h3 => ?_) (fun L34 F35 H36 l37 hp hW => ?_)
  · obtain ⟨k, hk1, hk2⟩ := hE
    exact xk_outI hxt hlk hW ⟨k, hxl k hk1, hk2⟩ h1 h2 h3 (by decide) (by decide)
  obtain ⟨rfl, rfl, z33, hz1⟩ := hp
  have hf := hxr z33 hz1
  refine lv_iload_n S.1 S.2.1 dX3_shunt_6 rfl (lv_at hl 2 rfl) ?_
  refine lv_iconst (v := 1) S.1 S.2.1 dX3_shunt_7 (by decide) ?_
  refine lv_bipush (v := 20) S.1 S.2.1 dX3_shunt_8 (by decide) ?_
  obtain ⟨z1, hz, hxl, hxr⟩ := obx_ok hf
  refine xk_cSV (As := [.int x2, .int 1, .int 20]) (rest := []) S hK hST hW (c_X3_needWithin hst  x2 1 20 hz) mc_X3_needWithin wd_416 wd_417 np_X3_needWithin rfl hl.1 rfl (Nat.le_of_ble_eq_true rfl) dX3_shunt_10 ⟨by decide, by decide⟩ ⟨by decide, by decide⟩ (fun E ce q9 H41 l42 hE hW h1 h2 h3 => ?_) (fun L39 F40 H41 l42 hp hW => ?_)
  · obtain ⟨k, hk1, hk2⟩ := hE
    exact xk_outI hxt hlk hW ⟨k, hxl k hk1, hk2⟩ h1 h2 h3 (by decide) (by decide)
  obtain ⟨rfl, rfl, z38, hz1⟩ := hp
  have hf := hxr z38 hz1
  refine lv_aload_n S.1 S.2.1 dX3_shunt_13 rfl (lv_at hl 0 rfl) ?_
  refine lv_iconst (v := 0) S.1 S.2.1 dX3_shunt_14 (by decide) ?_
  refine lv_iload_n S.1 S.2.1 dX3_shunt_15 rfl (lv_at hl 2 rfl) ?_
  obtain ⟨z1, hz, hxl, hxr⟩ := obx_ok hf
  refine xk_cVV (As := [.int 0, .int x2]) (rest := []) S hK hST hW (c_X3_needRoom hst hI 0 x2 hz) mc_X3_needRoom wd_434 wd_436 wd_1686 rfl np_X3_needRoom (hI.mem 0 (by decide)) hI.this rfl rfl hl.1 rfl (Nat.le_of_ble_eq_true rfl) dX3_shunt_16 ⟨by decide, by decide⟩ ⟨by decide, by decide⟩ (fun E ce q9 H46 l47 hE hW h1 h2 h3 => ?_) (fun L44 F45 H46 l47 hp hW => ?_)
  · obtain ⟨k, hk1, hk2⟩ := hE
    exact xk_outI hxt hlk hW ⟨k, hxl k hk1, hk2⟩ h1 h2 h3 (by decide) (by decide)
  obtain ⟨rfl, rfl, z43, hz1⟩ := hp
  have hf := hxr z43 hz1
  refine lv_iload_n S.1 S.2.1 dX3_shunt_19 rfl (lv_at hl 1 rfl) ?_
  refine lv_aload_n S.1 S.2.1 dX3_shunt_20 rfl (lv_at hl 0 rfl) ?_
  refine pk_get S hK hW 1 (hI.mem 0 (by decide)) hI.this rfl hinX3 (by decide) wd_81 rfl dX3_shunt_21 ?_
  obtain ⟨z48, hz, hf⟩ := ob hf
  refine pk_cVI (As := []) (rest := [.int x1]) S hK hST hW (c_X0_size (hI.row (by decide : 1 < 7))  hz) mc_X0_size wd_140 wd_141 wd_142 rfl np_X0_size (hI.mem _ (by have := (by decide : 1 < 7); omega)) (hI.rowH (by decide : 1 < 7)) rfl rfl hl.1 rfl (Nat.le_of_ble_eq_true rfl) dX3_shunt_24 ⟨by decide, by decide⟩ ⟨by decide, by decide⟩ (fun r L49 F50 H51 l52 hp hW => ?_)
  obtain ⟨rfl, rfl, rfl⟩ := hp
  refine lv_icmp_lt (tgt := 33) S.1 S.2.1 dX3_shunt_27 (by decide) (fun c53 => ?_) (fun c53 => ?_)
  · have hf := (if_pos c53).symm.trans hf
    refine lv_iload_n S.1 S.2.1 dX3_shunt_33 rfl (lv_at hl 2 rfl) ?_
    refine lv_aload_n S.1 S.2.1 dX3_shunt_34 rfl (lv_at hl 0 rfl) ?_
    refine pk_get S hK hW 1 (hI.mem 0 (by decide)) hI.this rfl hinX3 (by decide) wd_81 rfl dX3_shunt_35 ?_
    obtain ⟨z54, hz, hf⟩ := ob hf
    refine pk_cVI (As := []) (rest := [.int x2]) S hK hST hW (c_X0_size (hI.row (by decide : 1 < 7))  hz) mc_X0_size wd_140 wd_141 wd_142 rfl np_X0_size (hI.mem _ (by have := (by decide : 1 < 7); omega)) (hI.rowH (by decide : 1 < 7)) rfl rfl hl.1 rfl (Nat.le_of_ble_eq_true rfl) dX3_shunt_38 ⟨by decide, by decide⟩ ⟨by decide, by decide⟩ (fun r L55 F56 H57 l58 hp hW => ?_)
    obtain ⟨rfl, rfl, rfl⟩ := hp
    refine lv_iload_n S.1 S.2.1 dX3_shunt_41 rfl (lv_at hl 1 rfl) ?_
    refine lv_isub S.1 S.2.1 dX3_shunt_42 ?_
    refine va_mmin S.1 S.2.1 (S.2.2.1.trans hl.1.symm) S.2.2.2.1 (S.2.2.2.2 _ wd_647) (S.2.2.2.2 _ wd_648) (S.2.2.2.2 _ wd_11) (S.2.2.2.2 _ wd_649) (by decide) (by decide) (by decide) (by decide) dX3_shunt_43 ?_
    refine lv_topi (fun y59 ey59 => ?_)
    have hf := nm_at hf ey59
    refine lv_istore_n (lv' := [(3, .int y59), (0, .ref (A 0)), (1, .int x1), (2, .int x2)]) S.1 S.2.1 dX3_shunt_46 rfl hl (by decide) rfl (fun ls hl => ?_)
    refine lv_iconst (v := 0) S.1 S.2.1 dX3_shunt_47 (by decide) ?_
    refine lv_istore (lv' := [(4, .int 0), (3, .int y59), (0, .ref (A 0)), (1, .int x1), (2, .int x2)]) S.1 S.2.1 dX3_shunt_48 hl (by decide) rfl (fun ls hl => ?_)
    refine lv_iconst (v := 0) S.1 S.2.1 dX3_shunt_50 (by decide) ?_
    refine lv_istore (lv' := [(5, .int 0), (4, .int 0), (3, .int y59), (0, .ref (A 0)), (1, .int x1), (2, .int x2)]) S.1 S.2.1 dX3_shunt_51 hl (by decide) rfl (fun ls hl => ?_)
    exact B53  64 σ x1 y59 0 0 hf F hI hFr _ _ _ hW (lv_sub hl [3, 4, 2, 1, 0] rfl)
  · have hf := (if_neg c53).symm.trans hf
    refine lv_bipush (v := (-9)) S.1 S.2.1 dX3_shunt_30 (by decide) ?_
    exact xk_iret S hr hlk hW ⟨rfl, _, (Option.some.inj hf).symm, rfl, hI, hFr⟩ (by decide) (by decide) dX3_shunt_32
def f_X3_needWalker (x1 : Int32) : Option (Nat ⊕ Unit) := (if x1 = 0 then some (.inr ()) else (if x1 = 1 then some (.inr ()) else some (.inl 0)))
theorem mc_X3_needWalker : MCode yX3_needWalker cX3_needWalker 1 none := ⟨wd_658, wd_1, by decide, by decide⟩
theorem np_X3_needWalker : (parseMethodDescriptor yX3_needWalker.desc).map (fun d => d.parameters.length) = some 1 := by decide +kernel
set_option maxHeartbeats 4000000 in
set_option maxRecDepth 100000 in
theorem c_X3_needWalker {l : Launch} {D : va_G} {κ : Nat → ClassId} {ζ : Nat → Nat} {L : List Nat} {F : Nat → va_E} (hst : l.stackTraces = false) (x1 : Int32) {res : (Nat ⊕ Unit)} (hf : f_X3_needWalker x1 = some res) : MxV l D cls (ty5 κ) ζ yX3_needWalker cX3_needWalker 1 none 7 1 6 ([.int x1] : List Value) L F (fun L' F' => L = L' ∧ F = F' ∧ ∃ z, res = .inr z) (fun E => ∃ k, res = .inl k ∧ E = xName k) := by
  refine MxV.of (by decide) (Nat.le_of_ble_eq_true rfl) ?_
  intro p e s m below meth c S hr hlk hxt hK hW hST ls hl
  have hl : lv_has ls 1 [(0, .int x1)] := hl
  unfold f_X3_needWalker at hf
  refine lv_iload_n S.1 S.2.1 dX3_needWalker_0 rfl (lv_at hl 0 rfl) ?_
  refine lv_if_eq (tgt := 20) S.1 S.2.1 dX3_needWalker_1 (by decide) (fun c1 => ?_) (fun c1 => ?_)
  · have hf := (if_pos c1).symm.trans hf
    exact xk_vret S hr hlk hW ⟨rfl, rfl, (), (Option.some.inj hf).symm⟩ (by decide) (by decide) dX3_needWalker_20
  · have hf := (if_neg c1).symm.trans hf
    refine lv_iload_n S.1 S.2.1 dX3_needWalker_4 rfl (lv_at hl 0 rfl) ?_
    refine lv_iconst (v := 1) S.1 S.2.1 dX3_needWalker_5 (by decide) ?_
    refine lv_icmp_eq (tgt := 20) S.1 S.2.1 dX3_needWalker_6 (by decide) (fun c2 => ?_) (fun c2 => ?_)
    · have hf := (if_pos c2).symm.trans hf
      exact xk_vret S hr hlk hW ⟨rfl, rfl, (), (Option.some.inj hf).symm⟩ (by decide) (by decide) dX3_needWalker_20
    · have hf := (if_neg c2).symm.trans hf
      exact xk_throwWV S hst hW hST wd_362 wd_18 xs_347 xat_346 xgd_346 hl.1 dX3_needWalker_9 dX3_needWalker_12 dX3_needWalker_13 dX3_needWalker_16 dX3_needWalker_19 hxt hlk ⟨0, (Option.some.inj hf).symm, rfl⟩ (by decide) (by decide) (by decide) (Nat.le_of_ble_eq_true rfl) (by decide) (by decide)
def f_X3_walkerOf_15 (σ : CS)  (u0 : Nat) : Option Nat := some (u0)
def f_X3_walkerOf (σ : CS) (x1 : Int32) : Option Nat := (if x1 = 0 then f_X3_walkerOf_15 σ 0 else f_X3_walkerOf_15 σ 1)
theorem mc_X3_walkerOf : MCode yX3_walkerOf cX3_walkerOf 2 (some (.object "Twoends$Walker")) := ⟨wd_323, wd_1, by decide, by decide⟩
theorem np_X3_walkerOf : (parseMethodDescriptor yX3_walkerOf.desc).map (fun d => d.parameters.length) = some 1 := by decide +kernel
set_option maxHeartbeats 4000000 in
set_option maxRecDepth 100000 in
theorem c_X3_walkerOf {l : Launch} {D : va_G} {κ : Nat → ClassId} {ζ : Nat → Nat} {L : List Nat} {F : Nat → va_E} {σ : CS} {A : Nat → Nat} (hI : CI κ A σ L F) (x1 : Int32) {res : Nat} (hf : f_X3_walkerOf σ x1 = some res) : MtR l D cls (ty5 κ) ζ yX3_walkerOf cX3_walkerOf 2 (some (.object "Twoends$Walker")) 1 0 0 ([.ref (A 0), .int x1] : List Value) L F (fun r L' F' => L = L' ∧ F = F' ∧ res < 2 ∧ A (16 + res) = r) := by
  refine MtR.of (by decide) (Nat.le_of_ble_eq_true rfl) ?_
  intro p e s m below meth c S hr hlk _ hK hW hST ls hl
  have hl : lv_has ls 2 [(0, .ref (A 0)), (1, .int x1)] := hl
  have B15 : ∀   (u0 : Nat), f_X3_walkerOf_15 σ u0 = some res → u0 < 2 → ∀ (H15 : Heap) (l15 : List Loc) (ls : Array Slot), HW D cls L s H15 l15 L F → lv_has ls 2 [] → W p l e (Rm 1 0 0) s m ([.ref (A 0), .int x1] : List Value).toArray below meth c H15 l15 0 0 (EnR D cls s below ([.ref (A 0), .int x1] : List Value).toArray 0 0 L (fun r L' F' => L = L' ∧ F = F' ∧ res < 2 ∧ A (16 + res) = r)) (F0 m 15 ls [.ref (A (16 + u0))]) := by
    intro u0 hf hu0 H15 l15 ls hW hl
    unfold f_X3_walkerOf_15 at hf
    exact pk_rret S hr (Or.inl ⟨_, rfl⟩) hlk hW ⟨rfl, rfl, eqm (P := fun z => z < 2 ∧ A (16 + z) = A (16 + u0)) ⟨hu0, rfl⟩ (Option.some.inj hf)⟩ (by decide) (by decide) dX3_walkerOf_15
  unfold f_X3_walkerOf at hf
  refine lv_iload_n S.1 S.2.1 dX3_walkerOf_0 rfl (lv_at hl 1 rfl) ?_
  refine lv_if_ne (tgt := 11) S.1 S.2.1 dX3_walkerOf_1 (by decide) (fun c1 => ?_) (fun c1 => ?_)
  · have hf := (if_neg c1).symm.trans hf
    refine lv_aload_n S.1 S.2.1 dX3_walkerOf_11 rfl (lv_at hl 0 rfl) ?_
    refine pk_get S hK hW 6 (hI.mem 0 (by decide)) hI.this rfl hinX3 (by decide) wd_86 rfl dX3_walkerOf_12 ?_
    exact B15  1 hf ((by decide : 1 < 2)) _ _ _ hW (lv_sub hl [] rfl)
  · have hf := (if_pos c1).symm.trans hf
    refine lv_aload_n S.1 S.2.1 dX3_walkerOf_4 rfl (lv_at hl 0 rfl) ?_
    refine pk_get S hK hW 5 (hI.mem 0 (by decide)) hI.this rfl hinX3 (by decide) wd_85 rfl dX3_walkerOf_5 ?_
    refine lv_goto (tgt := 15) S.1 S.2.1 dX3_walkerOf_8 (by decide) ?_
    exact B15  0 hf ((by decide : 0 < 2)) _ _ _ hW (lv_sub hl [] rfl)
def f_X3_stand (σ : CS) (x1 : Int32) (x2 : Int32) : Option (Nat ⊕ (Int32 × CS)) := obx (f_X3_needWalker x1) fun z1 => obx (f_X3_needPlace x2 20) fun z6 => (f_X0_size (cap 1) (σ.1 1)).bind fun z11 => (if x2 ≤ z11 then (f_X3_walkerOf σ x1).bind fun z17 => (f_X2_standAt (fun k => σ.2 (5 + 3 * z17 + k)) x2).bind fun z22 => nm ((σ.1, scUp σ.2 (5 + 3 * z17) 3 z22) : CS) fun t27 => some (.inr (x2, t27)) else some (.inr ((-9), σ)))
theorem mc_X3_stand : MCode yX3_stand cX3_stand 3 (some .int) := ⟨wd_655, wd_1, by decide, by decide⟩
theorem np_X3_stand : (parseMethodDescriptor yX3_stand.desc).map (fun d => d.parameters.length) = some 2 := by decide +kernel
set_option maxHeartbeats 4000000 in
set_option maxRecDepth 100000 in
theorem c_X3_stand {l : Launch} {D : va_G} {κ : Nat → ClassId} {ζ : Nat → Nat} {L : List Nat} {F : Nat → va_E} {σ : CS} {A : Nat → Nat} (hst : l.stackTraces = false) (hI : CI κ A σ L F) (x1 : Int32) (x2 : Int32) {res : (Nat ⊕ (Int32 × CS))} (hf : f_X3_stand σ x1 x2 = some res) : MxI l D cls (ty5 κ) ζ yX3_stand cX3_stand 3 (some .int) 8 2 12 ([.ref (A 0), .int x1, .int x2] : List Value) L F (fun r L' F' => L = L' ∧ ∃ z, res = .inr z ∧ z.1 = r ∧ CI κ A z.2 L F' ∧ FrA A F F') (fun E => ∃ k, res = .inl k ∧ E = xName k) := by
  refine MxI.of (by decide) (Nat.le_of_ble_eq_true rfl) ?_
  intro p e s m below meth c S hr hlk hxt hK hW hST ls hl
  have hl : lv_has ls 3 [(0, .ref (A 0)), (1, .int x1), (2, .int x2)] := hl
  have hFr : FrA A F F := FrA.rf
  unfold f_X3_stand at hf
  refine lv_iload_n S.1 S.2.1 dX3_stand_0 rfl (lv_at hl 1 rfl) ?_
  obtain ⟨z1, hz, hxl, hxr⟩ := obx_ok hf
  refine xk_cSV (As := [.int x1]) (rest := []) S hK hST hW (c_X3_needWalker hst  x1 hz) mc_X3_needWalker wd_656 wd_657 np_X3_needWalker rfl hl.1 rfl (Nat.le_of_ble_eq_true rfl) dX3_stand_1 ⟨by decide, by decide⟩ ⟨by decide, by decide⟩ (fun E ce q9 H4 l5 hE hW h1 h2 h3 => ?_) (fun L2 F3 H4 l5 hp hW => ?_)
  · obtain ⟨k, hk1, hk2⟩ := hE
    exact xk_outI hxt hlk hW ⟨k, hxl k hk1, hk2⟩ h1 h2 h3 (by decide) (by decide)
  obtain ⟨rfl, rfl, z1, hz1⟩ := hp
  have hf := hxr z1 hz1
  refine lv_iload_n S.1 S.2.1 dX3_stand_4 rfl (lv_at hl 2 rfl) ?_
  refine lv_bipush (v := 20) S.1 S.2.1 dX3_stand_5 (by decide) ?_
  obtain ⟨z1, hz, hxl, hxr⟩ := obx_ok hf
  refine xk_cSV (As := [.int x2, .int 20]) (rest := []) S hK hST hW (c_X3_needPlace hst  x2 20 hz) mc_X3_needPlace wd_603 wd_604 np_X3_needPlace rfl hl.1 rfl (Nat.le_of_ble_eq_true rfl) dX3_stand_7 ⟨by decide, by decide⟩ ⟨by decide, by decide⟩ (fun E ce q9 H9 l10 hE hW h1 h2 h3 => ?_) (fun L7 F8 H9 l10 hp hW => ?_)
  · obtain ⟨k, hk1, hk2⟩ := hE
    exact xk_outI hxt hlk hW ⟨k, hxl k hk1, hk2⟩ h1 h2 h3 (by decide) (by decide)
  obtain ⟨rfl, rfl, z6, hz1⟩ := hp
  have hf := hxr z6 hz1
  refine lv_iload_n S.1 S.2.1 dX3_stand_10 rfl (lv_at hl 2 rfl) ?_
  refine lv_aload_n S.1 S.2.1 dX3_stand_11 rfl (lv_at hl 0 rfl) ?_
  refine pk_get S hK hW 1 (hI.mem 0 (by decide)) hI.this rfl hinX3 (by decide) wd_81 rfl dX3_stand_12 ?_
  obtain ⟨z11, hz, hf⟩ := ob hf
  refine pk_cVI (As := []) (rest := [.int x2]) S hK hST hW (c_X0_size (hI.row (by decide : 1 < 7))  hz) mc_X0_size wd_140 wd_141 wd_142 rfl np_X0_size (hI.mem _ (by have := (by decide : 1 < 7); omega)) (hI.rowH (by decide : 1 < 7)) rfl rfl hl.1 rfl (Nat.le_of_ble_eq_true rfl) dX3_stand_15 ⟨by decide, by decide⟩ ⟨by decide, by decide⟩ (fun r L12 F13 H14 l15 hp hW => ?_)
  obtain ⟨rfl, rfl, rfl⟩ := hp
  refine lv_icmp_le (tgt := 24) S.1 S.2.1 dX3_stand_18 (by decide) (fun c16 => ?_) (fun c16 => ?_)
  · have hf := (if_pos c16).symm.trans hf
    refine lv_aload_n S.1 S.2.1 dX3_stand_24 rfl (lv_at hl 0 rfl) ?_
    refine lv_iload_n S.1 S.2.1 dX3_stand_25 rfl (lv_at hl 1 rfl) ?_
    obtain ⟨z17, hz, hf⟩ := ob hf
    refine pk_cVR (As := [.int x1]) (rest := []) S hK hST hW (c_X3_walkerOf hI x1 hz) mc_X3_walkerOf wd_320 wd_322 wd_1681 rfl np_X3_walkerOf (hI.mem 0 (by decide)) hI.this rfl rfl hl.1 rfl (Nat.le_of_ble_eq_true rfl) dX3_stand_26 ⟨by decide, by decide⟩ ⟨by decide, by decide⟩ (fun r L18 F19 H20 l21 hp hW => ?_)
    obtain ⟨rfl, rfl, hbz17, rfl⟩ := hp
    refine lv_iload_n S.1 S.2.1 dX3_stand_29 rfl (lv_at hl 2 rfl) ?_
    obtain ⟨z22, hz, hf⟩ := ob hf
    refine pk_cVV (As := [.int x2]) (rest := []) S hK hST hW (c_X2_standAt (hI.ker hbz17) x2 hz) mc_X2_standAt wd_660 wd_661 wd_662 rfl np_X2_standAt (hI.mem _ (by have := hbz17; omega)) (hI.kerH hbz17) rfl rfl hl.1 rfl (Nat.le_of_ble_eq_true rfl) dX3_stand_30 ⟨by decide, by decide⟩ ⟨by decide, by decide⟩ (fun L23 F24 H25 l26 hp hW => ?_)
    obtain ⟨rfl, hI1, hFr1⟩ := hp
    have hFr := hFr.tr (FrA.ker (i := 16 + z17) (by have := hbz17; omega) hFr1)
    have hI := hI.setKer hbz17 hI1 hFr1
    obtain ⟨t27, et27, hf⟩ := nm_ok hf
    have hI := eqm (P := fun w => CI κ A w L F24) hI et27.symm
    refine lv_iload_n S.1 S.2.1 dX3_stand_33 rfl (lv_at hl 2 rfl) ?_
    exact xk_iret S hr hlk hW ⟨rfl, _, (Option.some.inj hf).symm, rfl, hI, hFr⟩ (by decide) (by decide) dX3_stand_34
  · have hf := (if_neg c16).symm.trans hf
    refine lv_bipush (v := (-9)) S.1 S.2.1 dX3_stand_21 (by decide) ?_
    exact xk_iret S hr hlk hW ⟨rfl, _, (Option.some.inj hf).symm, rfl, hI, hFr⟩ (by decide) (by decide) dX3_stand_23
def f_X3_needSomewhere (σ : CS) (x1 : Int32) : Option (Nat ⊕ Unit) := (f_X3_walkerOf σ x1).bind fun z1 => (if (σ.2 (5 + 3 * z1)) = 0 then some (.inl 2) else some (.inr ()))
theorem mc_X3_needSomewhere : MCode yX3_needSomewhere cX3_needSomewhere 2 none := ⟨wd_673, wd_1, by decide, by decide⟩
theorem np_X3_needSomewhere : (parseMethodDescriptor yX3_needSomewhere.desc).map (fun d => d.parameters.length) = some 1 := by decide +kernel
set_option maxHeartbeats 4000000 in
set_option maxRecDepth 100000 in
theorem c_X3_needSomewhere {l : Launch} {D : va_G} {κ : Nat → ClassId} {ζ : Nat → Nat} {L : List Nat} {F : Nat → va_E} {σ : CS} {A : Nat → Nat} (hst : l.stackTraces = false) (hI : CI κ A σ L F) (x1 : Int32) {res : (Nat ⊕ Unit)} (hf : f_X3_needSomewhere σ x1 = some res) : MxV l D cls (ty5 κ) ζ yX3_needSomewhere cX3_needSomewhere 2 none 7 1 6 ([.ref (A 0), .int x1] : List Value) L F (fun L' F' => L = L' ∧ F = F' ∧ ∃ z, res = .inr z) (fun E => ∃ k, res = .inl k ∧ E = xName k) := by
  refine MxV.of (by decide) (Nat.le_of_ble_eq_true rfl) ?_
  intro p e s m below meth c S hr hlk hxt hK hW hST ls hl
  have hl : lv_has ls 2 [(0, .ref (A 0)), (1, .int x1)] := hl
  unfold f_X3_needSomewhere at hf
  refine lv_aload_n S.1 S.2.1 dX3_needSomewhere_0 rfl (lv_at hl 0 rfl) ?_
  refine lv_iload_n S.1 S.2.1 dX3_needSomewhere_1 rfl (lv_at hl 1 rfl) ?_
  obtain ⟨z1, hz, hf⟩ := ob hf
  refine pk_cVR (As := [.int x1]) (rest := []) S hK hST hW (c_X3_walkerOf hI x1 hz) mc_X3_walkerOf wd_320 wd_322 wd_1681 rfl np_X3_walkerOf (hI.mem 0 (by decide)) hI.this rfl rfl hl.1 rfl (Nat.le_of_ble_eq_true rfl) dX3_needSomewhere_2 ⟨by decide, by decide⟩ ⟨by decide, by decide⟩ (fun r L2 F3 H4 l5 hp hW => ?_)
  obtain ⟨rfl, rfl, hbz1, rfl⟩ := hp
  refine pk_getN S hK hW 0 (hI.mem _ (Nat.lt_of_lt_of_le (Nat.add_lt_add_left hbz1 16) (by decide))) (hI.kerH hbz1) rfl hinX2 (by decide) (va_Nw.use rfl (hST.1.1 _ wn_3)) rfl dX3_needSomewhere_5 ?_
  refine lv_if_ne (tgt := 22) S.1 S.2.1 dX3_needSomewhere_8 (by decide) (fun c6 => ?_) (fun c6 => ?_)
  · have hf := (if_neg c6).symm.trans hf
    exact xk_vret S hr hlk hW ⟨rfl, rfl, (), (Option.some.inj hf).symm⟩ (by decide) (by decide) dX3_needSomewhere_22
  · have hf := (if_pos c6).symm.trans hf
    exact xk_throwWV S hst hW hST wd_438 wd_20 xs_362 xat_242 xgd_242 hl.1 dX3_needSomewhere_11 dX3_needSomewhere_14 dX3_needSomewhere_15 dX3_needSomewhere_18 dX3_needSomewhere_21 hxt hlk ⟨2, (Option.some.inj hf).symm, rfl⟩ (by decide) (by decide) (by decide) (Nat.le_of_ble_eq_true rfl) (by decide) (by decide)
def f_X3_forth_36 (σ : CS)   : Option (Nat ⊕ (Int32 × CS)) := some (.inr ((-9), σ))
def f_X3_forth (σ : CS) (x1 : Int32) : Option (Nat ⊕ (Int32 × CS)) := obx (f_X3_needWalker x1) fun z1 => obx (f_X3_needSomewhere σ x1) fun z6 => (f_X3_walkerOf σ x1).bind fun z11 => (f_X2_isFresh (fun k => σ.2 (5 + 3 * z11 + k))).bind fun z16 => (if z16 = 0 then f_X3_forth_36 σ else (f_X0_size (cap 1) (σ.1 1)).bind fun z22 => (if (σ.2 (5 + 3 * z11 + 1)) < z22 then (f_X2_goForth (fun k => σ.2 (5 + 3 * z11 + k))).bind fun z28 => nm ((σ.1, scUp σ.2 (5 + 3 * z11) 3 z28) : CS) fun t33 => (f_X0_read (cap 1) (t33.1 1) (t33.2 (5 + 3 * z11 + 2))).bind fun z34 => some (.inr (z34, t33)) else f_X3_forth_36 σ))
theorem mc_X3_forth : MCode yX3_forth cX3_forth 3 (some .int) := ⟨wd_669, wd_1, by decide, by decide⟩
theorem np_X3_forth : (parseMethodDescriptor yX3_forth.desc).map (fun d => d.parameters.length) = some 1 := by decide +kernel
set_option maxHeartbeats 4000000 in
set_option maxRecDepth 100000 in
theorem c_X3_forth {l : Launch} {D : va_G} {κ : Nat → ClassId} {ζ : Nat → Nat} {L : List Nat} {F : Nat → va_E} {σ : CS} {A : Nat → Nat} (hst : l.stackTraces = false) (hI : CI κ A σ L F) (x1 : Int32) {res : (Nat ⊕ (Int32 × CS))} (hf : f_X3_forth σ x1 = some res) : MxI l D cls (ty5 κ) ζ yX3_forth cX3_forth 3 (some .int) 8 2 12 ([.ref (A 0), .int x1] : List Value) L F (fun r L' F' => L = L' ∧ ∃ z, res = .inr z ∧ z.1 = r ∧ CI κ A z.2 L F' ∧ FrA A F F') (fun E => ∃ k, res = .inl k ∧ E = xName k) := by
  refine MxI.of (by decide) (Nat.le_of_ble_eq_true rfl) ?_
  intro p e s m below meth c S hr hlk hxt hK hW hST ls hl
  have hl : lv_has ls 3 [(0, .ref (A 0)), (1, .int x1)] := hl
  have hFr : FrA A F F := FrA.rf
  have B36 :   f_X3_forth_36 σ = some res → ∀ (H36 : Heap) (l36 : List Loc) (ls : Array Slot), HW D cls L s H36 l36 L F → lv_has ls 3 [] → W p l e (Rm 8 2 12) s m ([.ref (A 0), .int x1] : List Value).toArray below meth c H36 l36 2 12 (ExI D cls s below ([.ref (A 0), .int x1] : List Value).toArray 2 12 L F (fun r L' F' => L = L' ∧ ∃ z, res = .inr z ∧ z.1 = r ∧ CI κ A z.2 L F' ∧ FrA A F F') (fun E => ∃ k, res = .inl k ∧ E = xName k)) (F0 m 36 ls []) := by
    intro  hf H36 l36 ls hW hl
    unfold f_X3_forth_36 at hf
    refine lv_bipush (v := (-9)) S.1 S.2.1 dX3_forth_36 (by decide) ?_
    exact xk_iret S hr hlk hW ⟨rfl, _, (Option.some.inj hf).symm, rfl, hI, hFr⟩ (by decide) (by decide) dX3_forth_38
  unfold f_X3_forth at hf
  refine lv_iload_n S.1 S.2.1 dX3_forth_0 rfl (lv_at hl 1 rfl) ?_
  obtain ⟨z1, hz, hxl, hxr⟩ := obx_ok hf
  refine xk_cSV (As := [.int x1]) (rest := []) S hK hST hW (c_X3_needWalker hst  x1 hz) mc_X3_needWalker wd_656 wd_657 np_X3_needWalker rfl hl.1 rfl (Nat.le_of_ble_eq_true rfl) dX3_forth_1 ⟨by decide, by decide⟩ ⟨by decide, by decide⟩ (fun E ce q9 H4 l5 hE hW h1 h2 h3 => ?_) (fun L2 F3 H4 l5 hp hW => ?_)
  · obtain ⟨k, hk1, hk2⟩ := hE
    exact xk_outI hxt hlk hW ⟨k, hxl k hk1, hk2⟩ h1 h2 h3 (by decide) (by decide)
  obtain ⟨rfl, rfl, z1, hz1⟩ := hp
  have hf := hxr z1 hz1
  refine lv_aload_n S.1 S.2.1 dX3_forth_4 rfl (lv_at hl 0 rfl) ?_
  refine lv_iload_n S.1 S.2.1 dX3_forth_5 rfl (lv_at hl 1 rfl) ?_
  obtain ⟨z1, hz, hxl, hxr⟩ := obx_ok hf
  refine xk_cVV (As := [.int x1]) (rest := []) S hK hST hW (c_X3_needSomewhere hst hI x1 hz) mc_X3_needSomewhere wd_670 wd_672 wd_1693 rfl np_X3_needSomewhere (hI.mem 0 (by decide)) hI.this rfl rfl hl.1 rfl (Nat.le_of_ble_eq_true rfl) dX3_forth_6 ⟨by decide, by decide⟩ ⟨by decide, by decide⟩ (fun E ce q9 H9 l10 hE hW h1 h2 h3 => ?_) (fun L7 F8 H9 l10 hp hW => ?_)
  · obtain ⟨k, hk1, hk2⟩ := hE
    exact xk_outI hxt hlk hW ⟨k, hxl k hk1, hk2⟩ h1 h2 h3 (by decide) (by decide)
  obtain ⟨rfl, rfl, z6, hz1⟩ := hp
  have hf := hxr z6 hz1
  refine lv_aload_n S.1 S.2.1 dX3_forth_9 rfl (lv_at hl 0 rfl) ?_
  refine lv_iload_n S.1 S.2.1 dX3_forth_10 rfl (lv_at hl 1 rfl) ?_
  obtain ⟨z11, hz, hf⟩ := ob hf
  refine pk_cVR (As := [.int x1]) (rest := []) S hK hST hW (c_X3_walkerOf hI x1 hz) mc_X3_walkerOf wd_320 wd_322 wd_1681 rfl np_X3_walkerOf (hI.mem 0 (by decide)) hI.this rfl rfl hl.1 rfl (Nat.le_of_ble_eq_true rfl) dX3_forth_11 ⟨by decide, by decide⟩ ⟨by decide, by decide⟩ (fun r L12 F13 H14 l15 hp hW => ?_)
  obtain ⟨rfl, rfl, hbz11, rfl⟩ := hp
  refine lv_astore_n (lv' := [(2, .ref (A (16 + z11))), (0, .ref (A 0)), (1, .int x1)]) S.1 S.2.1 dX3_forth_14 rfl hl (by decide) rfl (fun ls hl => ?_)
  refine lv_aload_n S.1 S.2.1 dX3_forth_15 rfl (lv_at hl 0 rfl) ?_
  obtain ⟨z16, hz, hf⟩ := ob hf
  refine pk_cVI (As := []) (rest := []) S hK hST hW (c_X2_isFresh (hI.ker hbz11)  hz) mc_X2_isFresh wd_237 wd_238 wd_239 rfl np_X2_isFresh (hI.mem _ (by have := hbz11; omega)) (hI.kerH hbz11) rfl rfl hl.1 rfl (Nat.le_of_ble_eq_true rfl) dX3_forth_16 ⟨by decide, by decide⟩ ⟨by decide, by decide⟩ (fun r L17 F18 H19 l20 hp hW => ?_)
  obtain ⟨rfl, rfl, rfl⟩ := hp
  refine lv_if_eq (tgt := 36) S.1 S.2.1 dX3_forth_19 (by decide) (fun c21 => ?_) (fun c21 => ?_)
  · have hf := (if_pos c21).symm.trans hf
    exact B36   hf  _ _ _ hW (lv_sub hl [] rfl)
  · have hf := (if_neg c21).symm.trans hf
    refine lv_aload_n S.1 S.2.1 dX3_forth_22 rfl (lv_at hl 0 rfl) ?_
    refine pk_getN S hK hW 1 (hI.mem _ (Nat.lt_of_lt_of_le (Nat.add_lt_add_left hbz11 16) (by decide))) (hI.kerH hbz11) rfl hinX2 (by decide) (va_Nw.use rfl (hST.1.1 _ wn_4)) rfl dX3_forth_23 ?_
    refine lv_aload_n S.1 S.2.1 dX3_forth_26 rfl (lv_at hl 1 rfl) ?_
    refine pk_get S hK hW 1 (hI.mem 0 (by decide)) hI.this rfl hinX3 (by decide) wd_81 rfl dX3_forth_27 ?_
    obtain ⟨z22, hz, hf⟩ := ob hf
    refine pk_cVI (As := []) (rest := [.int (σ.2 (5 + 3 * z11 + 1))]) S hK hST hW (c_X0_size (hI.row (by decide : 1 < 7))  hz) mc_X0_size wd_140 wd_141 wd_142 rfl np_X0_size (hI.mem _ (by have := (by decide : 1 < 7); omega)) (hI.rowH (by decide : 1 < 7)) rfl rfl hl.1 rfl (Nat.le_of_ble_eq_true rfl) dX3_forth_30 ⟨by decide, by decide⟩ ⟨by decide, by decide⟩ (fun r L23 F24 H25 l26 hp hW => ?_)
    obtain ⟨rfl, rfl, rfl⟩ := hp
    refine lv_icmp_lt (tgt := 39) S.1 S.2.1 dX3_forth_33 (by decide) (fun c27 => ?_) (fun c27 => ?_)
    · have hf := (if_pos c27).symm.trans hf
      refine lv_aload_n S.1 S.2.1 dX3_forth_39 rfl (lv_at hl 0 rfl) ?_
      obtain ⟨z28, hz, hf⟩ := ob hf
      refine pk_cVV (As := []) (rest := []) S hK hST hW (c_X2_goForth (hI.ker hbz11)  hz) mc_X2_goForth wd_675 wd_676 wd_677 rfl np_X2_goForth (hI.mem _ (by have := hbz11; omega)) (hI.kerH hbz11) rfl rfl hl.1 rfl (Nat.le_of_ble_eq_true rfl) dX3_forth_40 ⟨by decide, by decide⟩ ⟨by decide, by decide⟩ (fun L29 F30 H31 l32 hp hW => ?_)
      obtain ⟨rfl, hI1, hFr1⟩ := hp
      have hFr := hFr.tr (FrA.ker (i := 16 + z11) (by have := hbz11; omega) hFr1)
      have hI := hI.setKer hbz11 hI1 hFr1
      obtain ⟨t33, et33, hf⟩ := nm_ok hf
      have hI := eqm (P := fun w => CI κ A w L F30) hI et33.symm
      refine lv_aload_n S.1 S.2.1 dX3_forth_43 rfl (lv_at hl 1 rfl) ?_
      refine pk_get S hK hW 1 (hI.mem 0 (by decide)) hI.this rfl hinX3 (by decide) wd_81 rfl dX3_forth_44 ?_
      refine lv_aload_n S.1 S.2.1 dX3_forth_47 rfl (lv_at hl 0 rfl) ?_
      refine pk_getN S hK hW 2 (hI.mem _ (Nat.lt_of_lt_of_le (Nat.add_lt_add_left hbz11 16) (by decide))) (hI.kerH hbz11) rfl hinX2 (by decide) (va_Nw.use rfl (hST.1.1 _ wn_5)) rfl dX3_forth_48 ?_
      obtain ⟨z34, hz, hf⟩ := ob hf
      refine pk_cVI (As := [.int (t33.2 (5 + 3 * z11 + 2))]) (rest := []) S hK hST hW (c_X0_read (hI.row (by decide : 1 < 7)) (t33.2 (5 + 3 * z11 + 2)) hz) mc_X0_read wd_171 wd_120 wd_121 rfl np_X0_read (hI.mem _ (by have := (by decide : 1 < 7); omega)) (hI.rowH (by decide : 1 < 7)) rfl rfl hl.1 rfl (Nat.le_of_ble_eq_true rfl) dX3_forth_51 ⟨by decide, by decide⟩ ⟨by decide, by decide⟩ (fun r L35 F36 H37 l38 hp hW => ?_)
      obtain ⟨rfl, rfl, rfl⟩ := hp
      exact xk_iret S hr hlk hW ⟨rfl, _, (Option.some.inj hf).symm, rfl, hI, hFr⟩ (by decide) (by decide) dX3_forth_54
    · have hf := (if_neg c27).symm.trans hf
      exact B36   hf  _ _ _ hW (lv_sub hl [] rfl)
def f_X3_back_29 (σ : CS)   : Option (Nat ⊕ (Int32 × CS)) := some (.inr ((-9), σ))
def f_X3_back (σ : CS) (x1 : Int32) : Option (Nat ⊕ (Int32 × CS)) := obx (f_X3_needWalker x1) fun z1 => obx (f_X3_needSomewhere σ x1) fun z6 => (f_X3_walkerOf σ x1).bind fun z11 => (f_X2_isFresh (fun k => σ.2 (5 + 3 * z11 + k))).bind fun z16 => (if z16 = 0 then f_X3_back_29 σ else (if 0 < (σ.2 (5 + 3 * z11 + 1)) then (f_X2_goBack (fun k => σ.2 (5 + 3 * z11 + k))).bind fun z23 => nm ((σ.1, scUp σ.2 (5 + 3 * z11) 3 z23) : CS) fun t28 => (f_X0_read (cap 1) (t28.1 1) (t28.2 (5 + 3 * z11 + 2))).bind fun z29 => some (.inr (z29, t28)) else f_X3_back_29 σ))
theorem mc_X3_back : MCode yX3_back cX3_back 3 (some .int) := ⟨wd_684, wd_1, by decide, by decide⟩
theorem np_X3_back : (parseMethodDescriptor yX3_back.desc).map (fun d => d.parameters.length) = some 1 := by decide +kernel
set_option maxHeartbeats 4000000 in
set_option maxRecDepth 100000 in
theorem c_X3_back {l : Launch} {D : va_G} {κ : Nat → ClassId} {ζ : Nat → Nat} {L : List Nat} {F : Nat → va_E} {σ : CS} {A : Nat → Nat} (hst : l.stackTraces = false) (hI : CI κ A σ L F) (x1 : Int32) {res : (Nat ⊕ (Int32 × CS))} (hf : f_X3_back σ x1 = some res) : MxI l D cls (ty5 κ) ζ yX3_back cX3_back 3 (some .int) 8 2 12 ([.ref (A 0), .int x1] : List Value) L F (fun r L' F' => L = L' ∧ ∃ z, res = .inr z ∧ z.1 = r ∧ CI κ A z.2 L F' ∧ FrA A F F') (fun E => ∃ k, res = .inl k ∧ E = xName k) := by
  refine MxI.of (by decide) (Nat.le_of_ble_eq_true rfl) ?_
  intro p e s m below meth c S hr hlk hxt hK hW hST ls hl
  have hl : lv_has ls 3 [(0, .ref (A 0)), (1, .int x1)] := hl
  have hFr : FrA A F F := FrA.rf
  have B29 :   f_X3_back_29 σ = some res → ∀ (H29 : Heap) (l29 : List Loc) (ls : Array Slot), HW D cls L s H29 l29 L F → lv_has ls 3 [] → W p l e (Rm 8 2 12) s m ([.ref (A 0), .int x1] : List Value).toArray below meth c H29 l29 2 12 (ExI D cls s below ([.ref (A 0), .int x1] : List Value).toArray 2 12 L F (fun r L' F' => L = L' ∧ ∃ z, res = .inr z ∧ z.1 = r ∧ CI κ A z.2 L F' ∧ FrA A F F') (fun E => ∃ k, res = .inl k ∧ E = xName k)) (F0 m 29 ls []) := by
    intro  hf H29 l29 ls hW hl
    unfold f_X3_back_29 at hf
    refine lv_bipush (v := (-9)) S.1 S.2.1 dX3_back_29 (by decide) ?_
    exact xk_iret S hr hlk hW ⟨rfl, _, (Option.some.inj hf).symm, rfl, hI, hFr⟩ (by decide) (by decide) dX3_back_31
  unfold f_X3_back at hf
  refine lv_iload_n S.1 S.2.1 dX3_back_0 rfl (lv_at hl 1 rfl) ?_
  obtain ⟨z1, hz, hxl, hxr⟩ := obx_ok hf
  refine xk_cSV (As := [.int x1]) (rest := []) S hK hST hW (c_X3_needWalker hst  x1 hz) mc_X3_needWalker wd_656 wd_657 np_X3_needWalker rfl hl.1 rfl (Nat.le_of_ble_eq_true rfl) dX3_back_1 ⟨by decide, by decide⟩ ⟨by decide, by decide⟩ (fun E ce q9 H4 l5 hE hW h1 h2 h3 => ?_) (fun L2 F3 H4 l5 hp hW => ?_)
  · obtain ⟨k, hk1, hk2⟩ := hE
    exact xk_outI hxt hlk hW ⟨k, hxl k hk1, hk2⟩ h1 h2 h3 (by decide) (by decide)
  obtain ⟨rfl, rfl, z1, hz1⟩ := hp
  have hf := hxr z1 hz1
  refine lv_aload_n S.1 S.2.1 dX3_back_4 rfl (lv_at hl 0 rfl) ?_
  refine lv_iload_n S.1 S.2.1 dX3_back_5 rfl (lv_at hl 1 rfl) ?_
  obtain ⟨z1, hz, hxl, hxr⟩ := obx_ok hf
  refine xk_cVV (As := [.int x1]) (rest := []) S hK hST hW (c_X3_needSomewhere hst hI x1 hz) mc_X3_needSomewhere wd_670 wd_672 wd_1693 rfl np_X3_needSomewhere (hI.mem 0 (by decide)) hI.this rfl rfl hl.1 rfl (Nat.le_of_ble_eq_true rfl) dX3_back_6 ⟨by decide, by decide⟩ ⟨by decide, by decide⟩ (fun E ce q9 H9 l10 hE hW h1 h2 h3 => ?_) (fun L7 F8 H9 l10 hp hW => ?_)
  · obtain ⟨k, hk1, hk2⟩ := hE
    exact xk_outI hxt hlk hW ⟨k, hxl k hk1, hk2⟩ h1 h2 h3 (by decide) (by decide)
  obtain ⟨rfl, rfl, z6, hz1⟩ := hp
  have hf := hxr z6 hz1
  refine lv_aload_n S.1 S.2.1 dX3_back_9 rfl (lv_at hl 0 rfl) ?_
  refine lv_iload_n S.1 S.2.1 dX3_back_10 rfl (lv_at hl 1 rfl) ?_
  obtain ⟨z11, hz, hf⟩ := ob hf
  refine pk_cVR (As := [.int x1]) (rest := []) S hK hST hW (c_X3_walkerOf hI x1 hz) mc_X3_walkerOf wd_320 wd_322 wd_1681 rfl np_X3_walkerOf (hI.mem 0 (by decide)) hI.this rfl rfl hl.1 rfl (Nat.le_of_ble_eq_true rfl) dX3_back_11 ⟨by decide, by decide⟩ ⟨by decide, by decide⟩ (fun r L12 F13 H14 l15 hp hW => ?_)
  obtain ⟨rfl, rfl, hbz11, rfl⟩ := hp
  refine lv_astore_n (lv' := [(2, .ref (A (16 + z11))), (0, .ref (A 0)), (1, .int x1)]) S.1 S.2.1 dX3_back_14 rfl hl (by decide) rfl (fun ls hl => ?_)
  refine lv_aload_n S.1 S.2.1 dX3_back_15 rfl (lv_at hl 0 rfl) ?_
  obtain ⟨z16, hz, hf⟩ := ob hf
  refine pk_cVI (As := []) (rest := []) S hK hST hW (c_X2_isFresh (hI.ker hbz11)  hz) mc_X2_isFresh wd_237 wd_238 wd_239 rfl np_X2_isFresh (hI.mem _ (by have := hbz11; omega)) (hI.kerH hbz11) rfl rfl hl.1 rfl (Nat.le_of_ble_eq_true rfl) dX3_back_16 ⟨by decide, by decide⟩ ⟨by decide, by decide⟩ (fun r L17 F18 H19 l20 hp hW => ?_)
  obtain ⟨rfl, rfl, rfl⟩ := hp
  refine lv_if_eq (tgt := 29) S.1 S.2.1 dX3_back_19 (by decide) (fun c21 => ?_) (fun c21 => ?_)
  · have hf := (if_pos c21).symm.trans hf
    exact B29   hf  _ _ _ hW (lv_sub hl [] rfl)
  · have hf := (if_neg c21).symm.trans hf
    refine lv_aload_n S.1 S.2.1 dX3_back_22 rfl (lv_at hl 0 rfl) ?_
    refine pk_getN S hK hW 1 (hI.mem _ (Nat.lt_of_lt_of_le (Nat.add_lt_add_left hbz11 16) (by decide))) (hI.kerH hbz11) rfl hinX2 (by decide) (va_Nw.use rfl (hST.1.1 _ wn_4)) rfl dX3_back_23 ?_
    refine lv_if_gt (tgt := 32) S.1 S.2.1 dX3_back_26 (by decide) (fun c22 => ?_) (fun c22 => ?_)
    · have hf := (if_pos c22).symm.trans hf
      refine lv_aload_n S.1 S.2.1 dX3_back_32 rfl (lv_at hl 0 rfl) ?_
      obtain ⟨z23, hz, hf⟩ := ob hf
      refine pk_cVV (As := []) (rest := []) S hK hST hW (c_X2_goBack (hI.ker hbz11)  hz) mc_X2_goBack wd_685 wd_686 wd_687 rfl np_X2_goBack (hI.mem _ (by have := hbz11; omega)) (hI.kerH hbz11) rfl rfl hl.1 rfl (Nat.le_of_ble_eq_true rfl) dX3_back_33 ⟨by decide, by decide⟩ ⟨by decide, by decide⟩ (fun L24 F25 H26 l27 hp hW => ?_)
      obtain ⟨rfl, hI1, hFr1⟩ := hp
      have hFr := hFr.tr (FrA.ker (i := 16 + z11) (by have := hbz11; omega) hFr1)
      have hI := hI.setKer hbz11 hI1 hFr1
      obtain ⟨t28, et28, hf⟩ := nm_ok hf
      have hI := eqm (P := fun w => CI κ A w L F25) hI et28.symm
      refine lv_aload_n S.1 S.2.1 dX3_back_36 rfl (lv_at hl 1 rfl) ?_
      refine pk_get S hK hW 1 (hI.mem 0 (by decide)) hI.this rfl hinX3 (by decide) wd_81 rfl dX3_back_37 ?_
      refine lv_aload_n S.1 S.2.1 dX3_back_40 rfl (lv_at hl 0 rfl) ?_
      refine pk_getN S hK hW 2 (hI.mem _ (Nat.lt_of_lt_of_le (Nat.add_lt_add_left hbz11 16) (by decide))) (hI.kerH hbz11) rfl hinX2 (by decide) (va_Nw.use rfl (hST.1.1 _ wn_5)) rfl dX3_back_41 ?_
      obtain ⟨z29, hz, hf⟩ := ob hf
      refine pk_cVI (As := [.int (t28.2 (5 + 3 * z11 + 2))]) (rest := []) S hK hST hW (c_X0_read (hI.row (by decide : 1 < 7)) (t28.2 (5 + 3 * z11 + 2)) hz) mc_X0_read wd_171 wd_120 wd_121 rfl np_X0_read (hI.mem _ (by have := (by decide : 1 < 7); omega)) (hI.rowH (by decide : 1 < 7)) rfl rfl hl.1 rfl (Nat.le_of_ble_eq_true rfl) dX3_back_44 ⟨by decide, by decide⟩ ⟨by decide, by decide⟩ (fun r L30 F31 H32 l33 hp hW => ?_)
      obtain ⟨rfl, rfl, rfl⟩ := hp
      exact xk_iret S hr hlk hW ⟨rfl, _, (Option.some.inj hf).symm, rfl, hI, hFr⟩ (by decide) (by decide) dX3_back_47
    · have hf := (if_neg c22).symm.trans hf
      exact B29   hf  _ _ _ hW (lv_sub hl [] rfl)
def f_X3_tearForWalker (σ : CS) (x1 : Int32) : Option CS := (f_X0_empty (cap 2) (σ.1 2)).bind fun z1 => nm ((va_up σ.1 2 z1, σ.2) : CS) fun t6 => (f_X3_walkerOf t6 (1 - x1)).bind fun z7 => (f_X2_growStale (fun k => t6.2 (5 + 3 * z7 + k))).bind fun z12 => nm ((t6.1, scUp t6.2 (5 + 3 * z7) 3 z12) : CS) fun t17 => some t17
theorem mc_X3_tearForWalker : MCode yX3_tearForWalker cX3_tearForWalker 2 none := ⟨wd_707, wd_1, by decide, by decide⟩
theorem np_X3_tearForWalker : (parseMethodDescriptor yX3_tearForWalker.desc).map (fun d => d.parameters.length) = some 1 := by decide +kernel
set_option maxHeartbeats 4000000 in
set_option maxRecDepth 100000 in
theorem c_X3_tearForWalker {l : Launch} {D : va_G} {κ : Nat → ClassId} {ζ : Nat → Nat} {L : List Nat} {F : Nat → va_E} {σ : CS} {A : Nat → Nat} (hI : CI κ A σ L F) (x1 : Int32) {res : CS} (hf : f_X3_tearForWalker σ x1 = some res) : MtV l D cls (ty5 κ) ζ yX3_tearForWalker cX3_tearForWalker 2 none 2 0 0 ([.ref (A 0), .int x1] : List Value) L F (fun L' F' => L = L' ∧ CI κ A res L F' ∧ FrA A F F') := by
  refine MtV.of (by decide) (Nat.le_of_ble_eq_true rfl) ?_
  intro p e s m below meth c S hr hlk _ hK hW hST ls hl
  have hl : lv_has ls 2 [(0, .ref (A 0)), (1, .int x1)] := hl
  have hFr : FrA A F F := FrA.rf
  unfold f_X3_tearForWalker at hf
  refine lv_aload_n S.1 S.2.1 dX3_tearForWalker_0 rfl (lv_at hl 0 rfl) ?_
  refine pk_get S hK hW 2 (hI.mem 0 (by decide)) hI.this rfl hinX3 (by decide) wd_82 rfl dX3_tearForWalker_1 ?_
  obtain ⟨z1, hz, hf⟩ := ob hf
  refine pk_cVV (As := []) (rest := []) S hK hST hW (c_X0_empty (hI.row (by decide : 2 < 7))  hz) mc_X0_empty wd_190 wd_191 wd_192 rfl np_X0_empty (hI.mem _ (by have := (by decide : 2 < 7); omega)) (hI.rowH (by decide : 2 < 7)) rfl rfl hl.1 rfl (Nat.le_of_ble_eq_true rfl) dX3_tearForWalker_4 ⟨by decide, by decide⟩ ⟨by decide, by decide⟩ (fun L2 F3 H4 l5 hp hW => ?_)
  obtain ⟨rfl, hI1, hFr1⟩ := hp
  have hFr := hFr.tr (FrA.row (by decide : 2 < 7) hFr1)
  have hI := hI.setRow (by decide : 2 < 7) hI1 hFr1
  obtain ⟨t6, et6, hf⟩ := nm_ok hf
  have hI := eqm (P := fun w => CI κ A w L F3) hI et6.symm
  refine lv_aload_n S.1 S.2.1 dX3_tearForWalker_7 rfl (lv_at hl 0 rfl) ?_
  refine lv_iconst (v := 1) S.1 S.2.1 dX3_tearForWalker_8 (by decide) ?_
  refine lv_iload_n S.1 S.2.1 dX3_tearForWalker_9 rfl (lv_at hl 1 rfl) ?_
  refine lv_isub S.1 S.2.1 dX3_tearForWalker_10 ?_
  obtain ⟨z7, hz, hf⟩ := ob hf
  refine pk_cVR (As := [.int (1 - x1)]) (rest := []) S hK hST hW (c_X3_walkerOf hI (1 - x1) hz) mc_X3_walkerOf wd_320 wd_322 wd_1681 rfl np_X3_walkerOf (hI.mem 0 (by decide)) hI.this rfl rfl hl.1 rfl (Nat.le_of_ble_eq_true rfl) dX3_tearForWalker_11 ⟨by decide, by decide⟩ ⟨by decide, by decide⟩ (fun r L8 F9 H10 l11 hp hW => ?_)
  obtain ⟨rfl, rfl, hbz7, rfl⟩ := hp
  obtain ⟨z12, hz, hf⟩ := ob hf
  refine pk_cVV (As := []) (rest := []) S hK hST hW (c_X2_growStale (hI.ker hbz7)  hz) mc_X2_growStale wd_163 wd_164 wd_165 rfl np_X2_growStale (hI.mem _ (by have := hbz7; omega)) (hI.kerH hbz7) rfl rfl hl.1 rfl (Nat.le_of_ble_eq_true rfl) dX3_tearForWalker_14 ⟨by decide, by decide⟩ ⟨by decide, by decide⟩ (fun L13 F14 H15 l16 hp hW => ?_)
  obtain ⟨rfl, hI1, hFr1⟩ := hp
  have hFr := hFr.tr (FrA.ker (i := 16 + z7) (by have := hbz7; omega) hFr1)
  have hI := hI.setKer hbz7 hI1 hFr1
  obtain ⟨t17, et17, hf⟩ := nm_ok hf
  have hI := eqm (P := fun w => CI κ A w L F14) hI et17.symm
  exact pk_vret S hr hlk hW ⟨rfl, eqm (P := fun z => CI κ A z L F14) hI (Option.some.inj hf), hFr⟩ (by decide) (by decide) dX3_tearForWalker_17
def f_X3_takeHeld (σ : CS) (x1 : Int32) : Option (Nat ⊕ (Int32 × CS)) := obx (f_X3_needWalker x1) fun z1 => obx (f_X3_needSomewhere σ x1) fun z6 => (f_X3_walkerOf σ x1).bind fun z11 => (f_X2_holds (fun k => σ.2 (5 + 3 * z11 + k))).bind fun z16 => (if z16 = 0 then some (.inr ((-9), σ)) else (f_X0_leave (cap 1) (σ.1 1) (σ.2 (5 + 3 * z11 + 2))).bind fun z22 => nm ((va_up σ.1 1 z22.2, σ.2) : CS) fun t27 => (f_X2_loseHeld (fun k => t27.2 (5 + 3 * z11 + k))).bind fun z28 => nm ((t27.1, scUp t27.2 (5 + 3 * z11) 3 z28) : CS) fun t33 => (f_X3_tearForWalker t33 x1).bind fun z34 => some (.inr (z34.2 (5 + 3 * z11 + 1), z34)))
theorem mc_X3_takeHeld : MCode yX3_takeHeld cX3_takeHeld 3 (some .int) := ⟨wd_694, wd_1, by decide, by decide⟩
theorem np_X3_takeHeld : (parseMethodDescriptor yX3_takeHeld.desc).map (fun d => d.parameters.length) = some 1 := by decide +kernel
set_option maxHeartbeats 4000000 in
set_option maxRecDepth 100000 in
theorem c_X3_takeHeld {l : Launch} {D : va_G} {κ : Nat → ClassId} {ζ : Nat → Nat} {L : List Nat} {F : Nat → va_E} {σ : CS} {A : Nat → Nat} (hst : l.stackTraces = false) (hI : CI κ A σ L F) (x1 : Int32) {res : (Nat ⊕ (Int32 × CS))} (hf : f_X3_takeHeld σ x1 = some res) : MxI l D cls (ty5 κ) ζ yX3_takeHeld cX3_takeHeld 3 (some .int) 8 2 12 ([.ref (A 0), .int x1] : List Value) L F (fun r L' F' => L = L' ∧ ∃ z, res = .inr z ∧ z.1 = r ∧ CI κ A z.2 L F' ∧ FrA A F F') (fun E => ∃ k, res = .inl k ∧ E = xName k) := by
  refine MxI.of (by decide) (Nat.le_of_ble_eq_true rfl) ?_
  intro p e s m below meth c S hr hlk hxt hK hW hST ls hl
  have hl : lv_has ls 3 [(0, .ref (A 0)), (1, .int x1)] := hl
  have hFr : FrA A F F := FrA.rf
  unfold f_X3_takeHeld at hf
  refine lv_iload_n S.1 S.2.1 dX3_takeHeld_0 rfl (lv_at hl 1 rfl) ?_
  obtain ⟨z1, hz, hxl, hxr⟩ := obx_ok hf
  refine xk_cSV (As := [.int x1]) (rest := []) S hK hST hW (c_X3_needWalker hst  x1 hz) mc_X3_needWalker wd_656 wd_657 np_X3_needWalker rfl hl.1 rfl (Nat.le_of_ble_eq_true rfl) dX3_takeHeld_1 ⟨by decide, by decide⟩ ⟨by decide, by decide⟩ (fun E ce q9 H4 l5 hE hW h1 h2 h3 => ?_) (fun L2 F3 H4 l5 hp hW => ?_)
  · obtain ⟨k, hk1, hk2⟩ := hE
    exact xk_outI hxt hlk hW ⟨k, hxl k hk1, hk2⟩ h1 h2 h3 (by decide) (by decide)
  obtain ⟨rfl, rfl, z1, hz1⟩ := hp
  have hf := hxr z1 hz1
  refine lv_aload_n S.1 S.2.1 dX3_takeHeld_4 rfl (lv_at hl 0 rfl) ?_
  refine lv_iload_n S.1 S.2.1 dX3_takeHeld_5 rfl (lv_at hl 1 rfl) ?_
  obtain ⟨z1, hz, hxl, hxr⟩ := obx_ok hf
  refine xk_cVV (As := [.int x1]) (rest := []) S hK hST hW (c_X3_needSomewhere hst hI x1 hz) mc_X3_needSomewhere wd_670 wd_672 wd_1693 rfl np_X3_needSomewhere (hI.mem 0 (by decide)) hI.this rfl rfl hl.1 rfl (Nat.le_of_ble_eq_true rfl) dX3_takeHeld_6 ⟨by decide, by decide⟩ ⟨by decide, by decide⟩ (fun E ce q9 H9 l10 hE hW h1 h2 h3 => ?_) (fun L7 F8 H9 l10 hp hW => ?_)
  · obtain ⟨k, hk1, hk2⟩ := hE
    exact xk_outI hxt hlk hW ⟨k, hxl k hk1, hk2⟩ h1 h2 h3 (by decide) (by decide)
  obtain ⟨rfl, rfl, z6, hz1⟩ := hp
  have hf := hxr z6 hz1
  refine lv_aload_n S.1 S.2.1 dX3_takeHeld_9 rfl (lv_at hl 0 rfl) ?_
  refine lv_iload_n S.1 S.2.1 dX3_takeHeld_10 rfl (lv_at hl 1 rfl) ?_
  obtain ⟨z11, hz, hf⟩ := ob hf
  refine pk_cVR (As := [.int x1]) (rest := []) S hK hST hW (c_X3_walkerOf hI x1 hz) mc_X3_walkerOf wd_320 wd_322 wd_1681 rfl np_X3_walkerOf (hI.mem 0 (by decide)) hI.this rfl rfl hl.1 rfl (Nat.le_of_ble_eq_true rfl) dX3_takeHeld_11 ⟨by decide, by decide⟩ ⟨by decide, by decide⟩ (fun r L12 F13 H14 l15 hp hW => ?_)
  obtain ⟨rfl, rfl, hbz11, rfl⟩ := hp
  refine lv_astore_n (lv' := [(2, .ref (A (16 + z11))), (0, .ref (A 0)), (1, .int x1)]) S.1 S.2.1 dX3_takeHeld_14 rfl hl (by decide) rfl (fun ls hl => ?_)
  refine lv_aload_n S.1 S.2.1 dX3_takeHeld_15 rfl (lv_at hl 0 rfl) ?_
  obtain ⟨z16, hz, hf⟩ := ob hf
  refine pk_cVI (As := []) (rest := []) S hK hST hW (c_X2_holds (hI.ker hbz11)  hz) mc_X2_holds wd_695 wd_696 wd_697 rfl np_X2_holds (hI.mem _ (by have := hbz11; omega)) (hI.kerH hbz11) rfl rfl hl.1 rfl (Nat.le_of_ble_eq_true rfl) dX3_takeHeld_16 ⟨by decide, by decide⟩ ⟨by decide, by decide⟩ (fun r L17 F18 H19 l20 hp hW => ?_)
  obtain ⟨rfl, rfl, rfl⟩ := hp
  refine lv_if_ne (tgt := 25) S.1 S.2.1 dX3_takeHeld_19 (by decide) (fun c21 => ?_) (fun c21 => ?_)
  · have hf := (if_neg c21).symm.trans hf
    refine lv_aload_n S.1 S.2.1 dX3_takeHeld_25 rfl (lv_at hl 1 rfl) ?_
    refine pk_get S hK hW 1 (hI.mem 0 (by decide)) hI.this rfl hinX3 (by decide) wd_81 rfl dX3_takeHeld_26 ?_
    refine lv_aload_n S.1 S.2.1 dX3_takeHeld_29 rfl (lv_at hl 0 rfl) ?_
    refine pk_getN S hK hW 2 (hI.mem _ (Nat.lt_of_lt_of_le (Nat.add_lt_add_left hbz11 16) (by decide))) (hI.kerH hbz11) rfl hinX2 (by decide) (va_Nw.use rfl (hST.1.1 _ wn_5)) rfl dX3_takeHeld_30 ?_
    obtain ⟨z22, hz, hf⟩ := ob hf
    refine pk_cVI (As := [.int (σ.2 (5 + 3 * z11 + 2))]) (rest := []) S hK hST hW (c_X0_leave (hI.row (by decide : 1 < 7)) (σ.2 (5 + 3 * z11 + 2)) hz) mc_X0_leave wd_115 wd_116 wd_117 rfl np_X0_leave (hI.mem _ (by have := (by decide : 1 < 7); omega)) (hI.rowH (by decide : 1 < 7)) rfl rfl hl.1 rfl (Nat.le_of_ble_eq_true rfl) dX3_takeHeld_33 ⟨by decide, by decide⟩ ⟨by decide, by decide⟩ (fun r L23 F24 H25 l26 hp hW => ?_)
    obtain ⟨rfl, rfl, hI1, hFr1⟩ := hp
    have hFr := hFr.tr (FrA.row (by decide : 1 < 7) hFr1)
    have hI := hI.setRow (by decide : 1 < 7) hI1 hFr1
    obtain ⟨t27, et27, hf⟩ := nm_ok hf
    have hI := eqm (P := fun w => CI κ A w L F24) hI et27.symm
    refine lv_pop S.1 S.2.1 dX3_takeHeld_36 rfl ?_
    refine lv_aload_n S.1 S.2.1 dX3_takeHeld_37 rfl (lv_at hl 0 rfl) ?_
    obtain ⟨z28, hz, hf⟩ := ob hf
    refine pk_cVV (As := []) (rest := []) S hK hST hW (c_X2_loseHeld (hI.ker hbz11)  hz) mc_X2_loseHeld wd_700 wd_701 wd_702 rfl np_X2_loseHeld (hI.mem _ (by have := hbz11; omega)) (hI.kerH hbz11) rfl rfl hl.1 rfl (Nat.le_of_ble_eq_true rfl) dX3_takeHeld_38 ⟨by decide, by decide⟩ ⟨by decide, by decide⟩ (fun L29 F30 H31 l32 hp hW => ?_)
    obtain ⟨rfl, hI1, hFr1⟩ := hp
    have hFr := hFr.tr (FrA.ker (i := 16 + z11) (by have := hbz11; omega) hFr1)
    have hI := hI.setKer hbz11 hI1 hFr1
    obtain ⟨t33, et33, hf⟩ := nm_ok hf
    have hI := eqm (P := fun w => CI κ A w L F30) hI et33.symm
    refine lv_aload_n S.1 S.2.1 dX3_takeHeld_41 rfl (lv_at hl 1 rfl) ?_
    refine lv_iload_n S.1 S.2.1 dX3_takeHeld_42 rfl (lv_at hl 2 rfl) ?_
    obtain ⟨z34, hz, hf⟩ := ob hf
    refine pk_cVV (As := [.int x1]) (rest := []) S hK hST hW (c_X3_tearForWalker hI x1 hz) mc_X3_tearForWalker wd_704 wd_706 wd_1694 rfl np_X3_tearForWalker (hI.mem 0 (by decide)) hI.this rfl rfl hl.1 rfl (Nat.le_of_ble_eq_true rfl) dX3_takeHeld_43 ⟨by decide, by decide⟩ ⟨by decide, by decide⟩ (fun L35 F36 H37 l38 hp hW => ?_)
    obtain ⟨rfl, hI1, hFr1⟩ := hp
    have hI := hI1
    have hFr := hFr.tr hFr1
    refine lv_aload_n S.1 S.2.1 dX3_takeHeld_46 rfl (lv_at hl 0 rfl) ?_
    refine pk_getN S hK hW 1 (hI.mem _ (Nat.lt_of_lt_of_le (Nat.add_lt_add_left hbz11 16) (by decide))) (hI.kerH hbz11) rfl hinX2 (by decide) (va_Nw.use rfl (hST.1.1 _ wn_4)) rfl dX3_takeHeld_47 ?_
    exact xk_iret S hr hlk hW ⟨rfl, _, (Option.some.inj hf).symm, rfl, hI, hFr⟩ (by decide) (by decide) dX3_takeHeld_50
  · have hf := (if_pos c21).symm.trans hf
    refine lv_bipush (v := (-9)) S.1 S.2.1 dX3_takeHeld_22 (by decide) ?_
    exact xk_iret S hr hlk hW ⟨rfl, _, (Option.some.inj hf).symm, rfl, hI, hFr⟩ (by decide) (by decide) dX3_takeHeld_24
def f_X3_setHeld (σ : CS) (x1 : Int32) (x2 : Int32) (x3 : Int32) : Option (Nat ⊕ (Int32 × CS)) := obx (f_X3_needWalker x1) fun z1 => obx (f_X3_needPiece x2 x3) fun z6 => obx (f_X3_needSomewhere σ x1) fun z11 => (f_X3_walkerOf σ x1).bind fun z16 => (f_X2_holds (fun k => σ.2 (5 + 3 * z16 + k))).bind fun z21 => (if z21 = 0 then some (.inr ((-9), σ)) else (f_X3_codeOf x2 x3).bind fun z27 => (f_X3_layAnew σ (σ.2 (5 + 3 * z16 + 2)) z27).bind fun z32 => some (.inr (z32.2 (5 + 3 * z16 + 1), z32)))
theorem mc_X3_setHeld : MCode yX3_setHeld cX3_setHeld 5 (some .int) := ⟨wd_713, wd_1, by decide, by decide⟩
theorem np_X3_setHeld : (parseMethodDescriptor yX3_setHeld.desc).map (fun d => d.parameters.length) = some 3 := by decide +kernel
set_option maxHeartbeats 4000000 in
set_option maxRecDepth 100000 in
theorem c_X3_setHeld {l : Launch} {D : va_G} {κ : Nat → ClassId} {ζ : Nat → Nat} {L : List Nat} {F : Nat → va_E} {σ : CS} {A : Nat → Nat} (hst : l.stackTraces = false) (hI : CI κ A σ L F) (x1 : Int32) (x2 : Int32) (x3 : Int32) {res : (Nat ⊕ (Int32 × CS))} (hf : f_X3_setHeld σ x1 x2 x3 = some res) : MxI l D cls (ty5 κ) ζ yX3_setHeld cX3_setHeld 5 (some .int) 9 4 24 ([.ref (A 0), .int x1, .int x2, .int x3] : List Value) L F (fun r L' F' => L = L' ∧ ∃ z, res = .inr z ∧ z.1 = r ∧ CI κ A z.2 L F' ∧ FrA A F F') (fun E => ∃ k, res = .inl k ∧ E = xName k) := by
  refine MxI.of (by decide) (Nat.le_of_ble_eq_true rfl) ?_
  intro p e s m below meth c S hr hlk hxt hK hW hST ls hl
  have hl : lv_has ls 5 [(0, .ref (A 0)), (1, .int x1), (2, .int x2), (3, .int x3)] := hl
  have hFr : FrA A F F := FrA.rf
  unfold f_X3_setHeld at hf
  refine lv_iload_n S.1 S.2.1 dX3_setHeld_0 rfl (lv_at hl 1 rfl) ?_
  obtain ⟨z1, hz, hxl, hxr⟩ := obx_ok hf
  refine xk_cSV (As := [.int x1]) (rest := []) S hK hST hW (c_X3_needWalker hst  x1 hz) mc_X3_needWalker wd_656 wd_657 np_X3_needWalker rfl hl.1 rfl (Nat.le_of_ble_eq_true rfl) dX3_setHeld_1 ⟨by decide, by decide⟩ ⟨by decide, by decide⟩ (fun E ce q9 H4 l5 hE hW h1 h2 h3 => ?_) (fun L2 F3 H4 l5 hp hW => ?_)
  · obtain ⟨k, hk1, hk2⟩ := hE
    exact xk_outI hxt hlk hW ⟨k, hxl k hk1, hk2⟩ h1 h2 h3 (by decide) (by decide)
  obtain ⟨rfl, rfl, z1, hz1⟩ := hp
  have hf := hxr z1 hz1
  refine lv_iload_n S.1 S.2.1 dX3_setHeld_4 rfl (lv_at hl 2 rfl) ?_
  refine lv_iload_n S.1 S.2.1 dX3_setHeld_5 rfl (lv_at hl 3 rfl) ?_
  obtain ⟨z1, hz, hxl, hxr⟩ := obx_ok hf
  refine xk_cSV (As := [.int x2, .int x3]) (rest := []) S hK hST hW (c_X3_needPiece hst  x2 x3 hz) mc_X3_needPiece wd_413 wd_414 np_X3_needPiece rfl hl.1 rfl (Nat.le_of_ble_eq_true rfl) dX3_setHeld_6 ⟨by decide, by decide⟩ ⟨by decide, by decide⟩ (fun E ce q9 H9 l10 hE hW h1 h2 h3 => ?_) (fun L7 F8 H9 l10 hp hW => ?_)
  · obtain ⟨k, hk1, hk2⟩ := hE
    exact xk_outI hxt hlk hW ⟨k, hxl k hk1, hk2⟩ h1 h2 h3 (by decide) (by decide)
  obtain ⟨rfl, rfl, z6, hz1⟩ := hp
  have hf := hxr z6 hz1
  refine lv_aload_n S.1 S.2.1 dX3_setHeld_9 rfl (lv_at hl 0 rfl) ?_
  refine lv_iload_n S.1 S.2.1 dX3_setHeld_10 rfl (lv_at hl 1 rfl) ?_
  obtain ⟨z1, hz, hxl, hxr⟩ := obx_ok hf
  refine xk_cVV (As := [.int x1]) (rest := []) S hK hST hW (c_X3_needSomewhere hst hI x1 hz) mc_X3_needSomewhere wd_670 wd_672 wd_1693 rfl np_X3_needSomewhere (hI.mem 0 (by decide)) hI.this rfl rfl hl.1 rfl (Nat.le_of_ble_eq_true rfl) dX3_setHeld_11 ⟨by decide, by decide⟩ ⟨by decide, by decide⟩ (fun E ce q9 H14 l15 hE hW h1 h2 h3 => ?_) (fun L12 F13 H14 l15 hp hW => ?_)
  · obtain ⟨k, hk1, hk2⟩ := hE
    exact xk_outI hxt hlk hW ⟨k, hxl k hk1, hk2⟩ h1 h2 h3 (by decide) (by decide)
  obtain ⟨rfl, rfl, z11, hz1⟩ := hp
  have hf := hxr z11 hz1
  refine lv_aload_n S.1 S.2.1 dX3_setHeld_14 rfl (lv_at hl 0 rfl) ?_
  refine lv_iload_n S.1 S.2.1 dX3_setHeld_15 rfl (lv_at hl 1 rfl) ?_
  obtain ⟨z16, hz, hf⟩ := ob hf
  refine pk_cVR (As := [.int x1]) (rest := []) S hK hST hW (c_X3_walkerOf hI x1 hz) mc_X3_walkerOf wd_320 wd_322 wd_1681 rfl np_X3_walkerOf (hI.mem 0 (by decide)) hI.this rfl rfl hl.1 rfl (Nat.le_of_ble_eq_true rfl) dX3_setHeld_16 ⟨by decide, by decide⟩ ⟨by decide, by decide⟩ (fun r L17 F18 H19 l20 hp hW => ?_)
  obtain ⟨rfl, rfl, hbz16, rfl⟩ := hp
  refine lv_astore (lv' := [(4, .ref (A (16 + z16))), (0, .ref (A 0)), (1, .int x1), (2, .int x2), (3, .int x3)]) S.1 S.2.1 dX3_setHeld_19 hl (by decide) rfl (fun ls hl => ?_)
  refine lv_aload S.1 S.2.1 dX3_setHeld_21 (lv_at hl 0 rfl) ?_
  obtain ⟨z21, hz, hf⟩ := ob hf
  refine pk_cVI (As := []) (rest := []) S hK hST hW (c_X2_holds (hI.ker hbz16)  hz) mc_X2_holds wd_695 wd_696 wd_697 rfl np_X2_holds (hI.mem _ (by have := hbz16; omega)) (hI.kerH hbz16) rfl rfl hl.1 rfl (Nat.le_of_ble_eq_true rfl) dX3_setHeld_23 ⟨by decide, by decide⟩ ⟨by decide, by decide⟩ (fun r L22 F23 H24 l25 hp hW => ?_)
  obtain ⟨rfl, rfl, rfl⟩ := hp
  refine lv_if_ne (tgt := 32) S.1 S.2.1 dX3_setHeld_26 (by decide) (fun c26 => ?_) (fun c26 => ?_)
  · have hf := (if_neg c26).symm.trans hf
    refine lv_aload_n S.1 S.2.1 dX3_setHeld_32 rfl (lv_at hl 1 rfl) ?_
    refine lv_aload S.1 S.2.1 dX3_setHeld_33 (lv_at hl 0 rfl) ?_
    refine pk_getN S hK hW 2 (hI.mem _ (Nat.lt_of_lt_of_le (Nat.add_lt_add_left hbz16 16) (by decide))) (hI.kerH hbz16) rfl hinX2 (by decide) (va_Nw.use rfl (hST.1.1 _ wn_5)) rfl dX3_setHeld_35 ?_
    refine lv_iload_n S.1 S.2.1 dX3_setHeld_38 rfl (lv_at hl 3 rfl) ?_
    refine lv_iload_n S.1 S.2.1 dX3_setHeld_39 rfl (lv_at hl 4 rfl) ?_
    obtain ⟨z27, hz, hf⟩ := ob hf
    refine pk_cSI (As := [.int x2, .int x3]) (rest := [.int (σ.2 (5 + 3 * z16 + 2)), .ref (A 0)]) S hK hST hW (c_X3_codeOf  x2 x3 hz) mc_X3_codeOf wd_453 wd_454 np_X3_codeOf rfl hl.1 rfl (Nat.le_of_ble_eq_true rfl) dX3_setHeld_40 ⟨by decide, by decide⟩ ⟨by decide, by decide⟩ (fun r L28 F29 H30 l31 hp hW => ?_)
    obtain ⟨rfl, rfl, rfl⟩ := hp
    obtain ⟨z32, hz, hf⟩ := ob hf
    refine pk_cVV (As := [.int (σ.2 (5 + 3 * z16 + 2)), .int z27]) (rest := []) S hK hST hW (c_X3_layAnew hI (σ.2 (5 + 3 * z16 + 2)) z27 hz) mc_X3_layAnew wd_619 wd_621 wd_1692 rfl np_X3_layAnew (hI.mem 0 (by decide)) hI.this rfl rfl hl.1 rfl (Nat.le_of_ble_eq_true rfl) dX3_setHeld_43 ⟨by decide, by decide⟩ ⟨by decide, by decide⟩ (fun L33 F34 H35 l36 hp hW => ?_)
    obtain ⟨rfl, hI1, hFr1⟩ := hp
    have hI := hI1
    have hFr := hFr.tr hFr1
    refine lv_aload S.1 S.2.1 dX3_setHeld_46 (lv_at hl 0 rfl) ?_
    refine pk_getN S hK hW 1 (hI.mem _ (Nat.lt_of_lt_of_le (Nat.add_lt_add_left hbz16 16) (by decide))) (hI.kerH hbz16) rfl hinX2 (by decide) (va_Nw.use rfl (hST.1.1 _ wn_4)) rfl dX3_setHeld_48 ?_
    exact xk_iret S hr hlk hW ⟨rfl, _, (Option.some.inj hf).symm, rfl, hI, hFr⟩ (by decide) (by decide) dX3_setHeld_51
  · have hf := (if_pos c26).symm.trans hf
    refine lv_bipush (v := (-9)) S.1 S.2.1 dX3_setHeld_29 (by decide) ?_
    exact xk_iret S hr hlk hW ⟨rfl, _, (Option.some.inj hf).symm, rfl, hI, hFr⟩ (by decide) (by decide) dX3_setHeld_31
def f_X3_put (σ : CS) (x1 : Int32) (x2 : Int32) (x3 : Int32) : Option (Nat ⊕ (Int32 × CS)) := obx (f_X3_needWalker x1) fun z1 => obx (f_X3_needPiece x2 x3) fun z6 => obx (f_X3_needSomewhere σ x1) fun z11 => obx (f_X3_needRoom σ 1 1) fun z16 => (f_X3_walkerOf σ x1).bind fun z21 => (f_X2_isFresh (fun k => σ.2 (5 + 3 * z21 + k))).bind fun z26 => (if z26 = 0 then some (.inr ((-9), σ)) else (f_X3_codeOf x2 x3).bind fun z32 => (f_X0_enter (cap 1) (σ.1 1) (σ.2 (5 + 3 * z21 + 1)) z32).bind fun z37 => nm ((va_up σ.1 1 z37, σ.2) : CS) fun t42 => (f_X2_passNew (fun k => t42.2 (5 + 3 * z21 + k))).bind fun z43 => nm ((t42.1, scUp t42.2 (5 + 3 * z21) 3 z43) : CS) fun t48 => (f_X3_tearForWalker t48 x1).bind fun z49 => some (.inr (z49.2 (5 + 3 * z21 + 1), z49)))
theorem mc_X3_put : MCode yX3_put cX3_put 5 (some .int) := ⟨wd_719, wd_1, by decide, by decide⟩
theorem np_X3_put : (parseMethodDescriptor yX3_put.desc).map (fun d => d.parameters.length) = some 3 := by decide +kernel
set_option maxHeartbeats 4000000 in
set_option maxRecDepth 100000 in
theorem c_X3_put {l : Launch} {D : va_G} {κ : Nat → ClassId} {ζ : Nat → Nat} {L : List Nat} {F : Nat → va_E} {σ : CS} {A : Nat → Nat} (hst : l.stackTraces = false) (hI : CI κ A σ L F) (x1 : Int32) (x2 : Int32) (x3 : Int32) {res : (Nat ⊕ (Int32 × CS))} (hf : f_X3_put σ x1 x2 x3 = some res) : MxI l D cls (ty5 κ) ζ yX3_put cX3_put 5 (some .int) 9 5 30 ([.ref (A 0), .int x1, .int x2, .int x3] : List Value) L F (fun r L' F' => L = L' ∧ ∃ z, res = .inr z ∧ z.1 = r ∧ CI κ A z.2 L F' ∧ FrA A F F') (fun E => ∃ k, res = .inl k ∧ E = xName k) := by
  refine MxI.of (by decide) (Nat.le_of_ble_eq_true rfl) ?_
  intro p e s m below meth c S hr hlk hxt hK hW hST ls hl
  have hl : lv_has ls 5 [(0, .ref (A 0)), (1, .int x1), (2, .int x2), (3, .int x3)] := hl
  have hFr : FrA A F F := FrA.rf
  unfold f_X3_put at hf
  refine lv_iload_n S.1 S.2.1 dX3_put_0 rfl (lv_at hl 1 rfl) ?_
  obtain ⟨z1, hz, hxl, hxr⟩ := obx_ok hf
  refine xk_cSV (As := [.int x1]) (rest := []) S hK hST hW (c_X3_needWalker hst  x1 hz) mc_X3_needWalker wd_656 wd_657 np_X3_needWalker rfl hl.1 rfl (Nat.le_of_ble_eq_true rfl) dX3_put_1 ⟨by decide, by decide⟩ ⟨by decide, by decide⟩ (fun E ce q9 H4 l5 hE hW h1 h2 h3 => ?_) (fun L2 F3 H4 l5 hp hW => ?_)
  · obtain ⟨k, hk1, hk2⟩ := hE
    exact xk_outI hxt hlk hW ⟨k, hxl k hk1, hk2⟩ h1 h2 h3 (by decide) (by decide)
  obtain ⟨rfl, rfl, z1, hz1⟩ := hp
  have hf := hxr z1 hz1
  refine lv_iload_n S.1 S.2.1 dX3_put_4 rfl (lv_at hl 2 rfl) ?_
  refine lv_iload_n S.1 S.2.1 dX3_put_5 rfl (lv_at hl 3 rfl) ?_
  obtain ⟨z1, hz, hxl, hxr⟩ := obx_ok hf
  refine xk_cSV (As := [.int x2, .int x3]) (rest := []) S hK hST hW (c_X3_needPiece hst  x2 x3 hz) mc_X3_needPiece wd_413 wd_414 np_X3_needPiece rfl hl.1 rfl (Nat.le_of_ble_eq_true rfl) dX3_put_6 ⟨by decide, by decide⟩ ⟨by decide, by decide⟩ (fun E ce q9 H9 l10 hE hW h1 h2 h3 => ?_) (fun L7 F8 H9 l10 hp hW => ?_)
  · obtain ⟨k, hk1, hk2⟩ := hE
    exact xk_outI hxt hlk hW ⟨k, hxl k hk1, hk2⟩ h1 h2 h3 (by decide) (by decide)
  obtain ⟨rfl, rfl, z6, hz1⟩ := hp
  have hf := hxr z6 hz1
  refine lv_aload_n S.1 S.2.1 dX3_put_9 rfl (lv_at hl 0 rfl) ?_
  refine lv_iload_n S.1 S.2.1 dX3_put_10 rfl (lv_at hl 1 rfl) ?_
  obtain ⟨z1, hz, hxl, hxr⟩ := obx_ok hf
  refine xk_cVV (As := [.int x1]) (rest := []) S hK hST hW (c_X3_needSomewhere hst hI x1 hz) mc_X3_needSomewhere wd_670 wd_672 wd_1693 rfl np_X3_needSomewhere (hI.mem 0 (by decide)) hI.this rfl rfl hl.1 rfl (Nat.le_of_ble_eq_true rfl) dX3_put_11 ⟨by decide, by decide⟩ ⟨by decide, by decide⟩ (fun E ce q9 H14 l15 hE hW h1 h2 h3 => ?_) (fun L12 F13 H14 l15 hp hW => ?_)
  · obtain ⟨k, hk1, hk2⟩ := hE
    exact xk_outI hxt hlk hW ⟨k, hxl k hk1, hk2⟩ h1 h2 h3 (by decide) (by decide)
  obtain ⟨rfl, rfl, z11, hz1⟩ := hp
  have hf := hxr z11 hz1
  refine lv_aload_n S.1 S.2.1 dX3_put_14 rfl (lv_at hl 0 rfl) ?_
  refine lv_iconst (v := 1) S.1 S.2.1 dX3_put_15 (by decide) ?_
  refine lv_iconst (v := 1) S.1 S.2.1 dX3_put_16 (by decide) ?_
  obtain ⟨z1, hz, hxl, hxr⟩ := obx_ok hf
  refine xk_cVV (As := [.int 1, .int 1]) (rest := []) S hK hST hW (c_X3_needRoom hst hI 1 1 hz) mc_X3_needRoom wd_434 wd_436 wd_1686 rfl np_X3_needRoom (hI.mem 0 (by decide)) hI.this rfl rfl hl.1 rfl (Nat.le_of_ble_eq_true rfl) dX3_put_17 ⟨by decide, by decide⟩ ⟨by decide, by decide⟩ (fun E ce q9 H19 l20 hE hW h1 h2 h3 => ?_) (fun L17 F18 H19 l20 hp hW => ?_)
  · obtain ⟨k, hk1, hk2⟩ := hE
    exact xk_outI hxt hlk hW ⟨k, hxl k hk1, hk2⟩ h1 h2 h3 (by decide) (by decide)
  obtain ⟨rfl, rfl, z16, hz1⟩ := hp
  have hf := hxr z16 hz1
  refine lv_aload_n S.1 S.2.1 dX3_put_20 rfl (lv_at hl 0 rfl) ?_
  refine lv_iload_n S.1 S.2.1 dX3_put_21 rfl (lv_at hl 1 rfl) ?_
  obtain ⟨z21, hz, hf⟩ := ob hf
  refine pk_cVR (As := [.int x1]) (rest := []) S hK hST hW (c_X3_walkerOf hI x1 hz) mc_X3_walkerOf wd_320 wd_322 wd_1681 rfl np_X3_walkerOf (hI.mem 0 (by decide)) hI.this rfl rfl hl.1 rfl (Nat.le_of_ble_eq_true rfl) dX3_put_22 ⟨by decide, by decide⟩ ⟨by decide, by decide⟩ (fun r L22 F23 H24 l25 hp hW => ?_)
  obtain ⟨rfl, rfl, hbz21, rfl⟩ := hp
  refine lv_astore (lv' := [(4, .ref (A (16 + z21))), (0, .ref (A 0)), (1, .int x1), (2, .int x2), (3, .int x3)]) S.1 S.2.1 dX3_put_25 hl (by decide) rfl (fun ls hl => ?_)
  refine lv_aload S.1 S.2.1 dX3_put_27 (lv_at hl 0 rfl) ?_
  obtain ⟨z26, hz, hf⟩ := ob hf
  refine pk_cVI (As := []) (rest := []) S hK hST hW (c_X2_isFresh (hI.ker hbz21)  hz) mc_X2_isFresh wd_237 wd_238 wd_239 rfl np_X2_isFresh (hI.mem _ (by have := hbz21; omega)) (hI.kerH hbz21) rfl rfl hl.1 rfl (Nat.le_of_ble_eq_true rfl) dX3_put_29 ⟨by decide, by decide⟩ ⟨by decide, by decide⟩ (fun r L27 F28 H29 l30 hp hW => ?_)
  obtain ⟨rfl, rfl, rfl⟩ := hp
  refine lv_if_ne (tgt := 38) S.1 S.2.1 dX3_put_32 (by decide) (fun c31 => ?_) (fun c31 => ?_)
  · have hf := (if_neg c31).symm.trans hf
    refine lv_aload_n S.1 S.2.1 dX3_put_38 rfl (lv_at hl 1 rfl) ?_
    refine pk_get S hK hW 1 (hI.mem 0 (by decide)) hI.this rfl hinX3 (by decide) wd_81 rfl dX3_put_39 ?_
    refine lv_aload S.1 S.2.1 dX3_put_42 (lv_at hl 0 rfl) ?_
    refine pk_getN S hK hW 1 (hI.mem _ (Nat.lt_of_lt_of_le (Nat.add_lt_add_left hbz21 16) (by decide))) (hI.kerH hbz21) rfl hinX2 (by decide) (va_Nw.use rfl (hST.1.1 _ wn_4)) rfl dX3_put_44 ?_
    refine lv_iload_n S.1 S.2.1 dX3_put_47 rfl (lv_at hl 3 rfl) ?_
    refine lv_iload_n S.1 S.2.1 dX3_put_48 rfl (lv_at hl 4 rfl) ?_
    obtain ⟨z32, hz, hf⟩ := ob hf
    refine pk_cSI (As := [.int x2, .int x3]) (rest := [.int (σ.2 (5 + 3 * z21 + 1)), .ref (A (1 + 2 * 1))]) S hK hST hW (c_X3_codeOf  x2 x3 hz) mc_X3_codeOf wd_453 wd_454 np_X3_codeOf rfl hl.1 rfl (Nat.le_of_ble_eq_true rfl) dX3_put_49 ⟨by decide, by decide⟩ ⟨by decide, by decide⟩ (fun r L33 F34 H35 l36 hp hW => ?_)
    obtain ⟨rfl, rfl, rfl⟩ := hp
    obtain ⟨z37, hz, hf⟩ := ob hf
    refine pk_cVV (As := [.int (σ.2 (5 + 3 * z21 + 1)), .int z32]) (rest := []) S hK hST hW (c_X0_enter (hI.row (by decide : 1 < 7)) (σ.2 (5 + 3 * z21 + 1)) z32 hz) mc_X0_enter wd_147 wd_148 wd_149 rfl np_X0_enter (hI.mem _ (by have := (by decide : 1 < 7); omega)) (hI.rowH (by decide : 1 < 7)) rfl rfl hl.1 rfl (Nat.le_of_ble_eq_true rfl) dX3_put_52 ⟨by decide, by decide⟩ ⟨by decide, by decide⟩ (fun L38 F39 H40 l41 hp hW => ?_)
    obtain ⟨rfl, hI1, hFr1⟩ := hp
    have hFr := hFr.tr (FrA.row (by decide : 1 < 7) hFr1)
    have hI := hI.setRow (by decide : 1 < 7) hI1 hFr1
    obtain ⟨t42, et42, hf⟩ := nm_ok hf
    have hI := eqm (P := fun w => CI κ A w L F39) hI et42.symm
    refine lv_aload S.1 S.2.1 dX3_put_55 (lv_at hl 0 rfl) ?_
    obtain ⟨z43, hz, hf⟩ := ob hf
    refine pk_cVV (As := []) (rest := []) S hK hST hW (c_X2_passNew (hI.ker hbz21)  hz) mc_X2_passNew wd_720 wd_721 wd_722 rfl np_X2_passNew (hI.mem _ (by have := hbz21; omega)) (hI.kerH hbz21) rfl rfl hl.1 rfl (Nat.le_of_ble_eq_true rfl) dX3_put_57 ⟨by decide, by decide⟩ ⟨by decide, by decide⟩ (fun L44 F45 H46 l47 hp hW => ?_)
    obtain ⟨rfl, hI1, hFr1⟩ := hp
    have hFr := hFr.tr (FrA.ker (i := 16 + z21) (by have := hbz21; omega) hFr1)
    have hI := hI.setKer hbz21 hI1 hFr1
    obtain ⟨t48, et48, hf⟩ := nm_ok hf
    have hI := eqm (P := fun w => CI κ A w L F45) hI et48.symm
    refine lv_aload_n S.1 S.2.1 dX3_put_60 rfl (lv_at hl 1 rfl) ?_
    refine lv_iload_n S.1 S.2.1 dX3_put_61 rfl (lv_at hl 2 rfl) ?_
    obtain ⟨z49, hz, hf⟩ := ob hf
    refine pk_cVV (As := [.int x1]) (rest := []) S hK hST hW (c_X3_tearForWalker hI x1 hz) mc_X3_tearForWalker wd_704 wd_706 wd_1694 rfl np_X3_tearForWalker (hI.mem 0 (by decide)) hI.this rfl rfl hl.1 rfl (Nat.le_of_ble_eq_true rfl) dX3_put_62 ⟨by decide, by decide⟩ ⟨by decide, by decide⟩ (fun L50 F51 H52 l53 hp hW => ?_)
    obtain ⟨rfl, hI1, hFr1⟩ := hp
    have hI := hI1
    have hFr := hFr.tr hFr1
    refine lv_aload S.1 S.2.1 dX3_put_65 (lv_at hl 0 rfl) ?_
    refine pk_getN S hK hW 1 (hI.mem _ (Nat.lt_of_lt_of_le (Nat.add_lt_add_left hbz21 16) (by decide))) (hI.kerH hbz21) rfl hinX2 (by decide) (va_Nw.use rfl (hST.1.1 _ wn_4)) rfl dX3_put_67 ?_
    exact xk_iret S hr hlk hW ⟨rfl, _, (Option.some.inj hf).symm, rfl, hI, hFr⟩ (by decide) (by decide) dX3_put_70
  · have hf := (if_pos c31).symm.trans hf
    refine lv_bipush (v := (-9)) S.1 S.2.1 dX3_put_35 (by decide) ?_
    exact xk_iret S hr hlk hW ⟨rfl, _, (Option.some.inj hf).symm, rfl, hI, hFr⟩ (by decide) (by decide) dX3_put_37
def f_X3_oneIf (x1 : Int32) : Option Int32 := (if x1 = 0 then some (0) else some (1))
theorem mc_X3_oneIf : MCode yX3_oneIf cX3_oneIf 1 (some .int) := ⟨wd_275, wd_1, by decide, by decide⟩
theorem np_X3_oneIf : (parseMethodDescriptor yX3_oneIf.desc).map (fun d => d.parameters.length) = some 1 := by decide +kernel
set_option maxHeartbeats 4000000 in
set_option maxRecDepth 100000 in
theorem c_X3_oneIf {l : Launch} {D : va_G} {κ : Nat → ClassId} {ζ : Nat → Nat} {L : List Nat} {F : Nat → va_E} (x1 : Int32) {res : Int32} (hf : f_X3_oneIf x1 = some res) : MtI l D cls (ty5 κ) ζ yX3_oneIf cX3_oneIf 1 (some .int) 1 0 0 ([.int x1] : List Value) L F (fun r L' F' => L = L' ∧ F = F' ∧ res = r) := by
  refine MtI.of (by decide) (Nat.le_of_ble_eq_true rfl) ?_
  intro p e s m below meth c S hr hlk _ hK hW hST ls hl
  have hl : lv_has ls 1 [(0, .int x1)] := hl
  unfold f_X3_oneIf at hf
  refine lv_iload_n S.1 S.2.1 dX3_oneIf_0 rfl (lv_at hl 0 rfl) ?_
  refine lv_if_eq (tgt := 8) S.1 S.2.1 dX3_oneIf_1 (by decide) (fun c1 => ?_) (fun c1 => ?_)
  · have hf := (if_pos c1).symm.trans hf
    refine lv_iconst (v := 0) S.1 S.2.1 dX3_oneIf_8 (by decide) ?_
    exact pk_iret S hr hlk hW ⟨rfl, rfl, eqm (P := fun z => z = 0) rfl (Option.some.inj hf)⟩ (by decide) (by decide) dX3_oneIf_9
  · have hf := (if_neg c1).symm.trans hf
    refine lv_iconst (v := 1) S.1 S.2.1 dX3_oneIf_4 (by decide) ?_
    refine lv_goto (tgt := 9) S.1 S.2.1 dX3_oneIf_5 (by decide) ?_
    exact pk_iret S hr hlk hW ⟨rfl, rfl, eqm (P := fun z => z = 1) rfl (Option.some.inj hf)⟩ (by decide) (by decide) dX3_oneIf_9
def f_X3_ofWalker_72 (σ : CS)  (u0 : Int32) : Option Int32 := (f_X3_oneIf u0).bind fun z1 => some (z1)
def f_X3_ofWalker_88 (σ : CS)  (u0 : Int32) : Option Int32 := (f_X3_oneIf u0).bind fun z6 => some (z6)
def f_X3_ofWalker (σ : CS) (x1 : Int32) (x2 : Int32) : Option Int32 := (f_X3_walkerOf σ x1).bind fun z11 => (if x2 = nI 0 then some (σ.2 (5 + 3 * z11)) else if x2 = nI 1 then some (σ.2 (5 + 3 * z11 + 1)) else if x2 = nI 2 then some ((σ.2 (5 + 3 * z11 + 1)) - 1) else if x2 = nI 3 then (f_X0_size (cap 1) (σ.1 1)).bind fun z20 => (if z20 ≤ (σ.2 (5 + 3 * z11 + 1)) then f_X3_ofWalker_72 σ 0 else f_X3_ofWalker_72 σ 1) else (if (σ.2 (5 + 3 * z11 + 1)) ≤ 0 then f_X3_ofWalker_88 σ 0 else f_X3_ofWalker_88 σ 1))
theorem mc_X3_ofWalker : MCode yX3_ofWalker cX3_ofWalker 4 (some .int) := ⟨wd_319, wd_1, by decide, by decide⟩
theorem np_X3_ofWalker : (parseMethodDescriptor yX3_ofWalker.desc).map (fun d => d.parameters.length) = some 2 := by decide +kernel
set_option maxHeartbeats 4000000 in
set_option maxRecDepth 100000 in
theorem c_X3_ofWalker {l : Launch} {D : va_G} {κ : Nat → ClassId} {ζ : Nat → Nat} {L : List Nat} {F : Nat → va_E} {σ : CS} {A : Nat → Nat} (hI : CI κ A σ L F) (x1 : Int32) (x2 : Int32) {res : Int32} (hf : f_X3_ofWalker σ x1 x2 = some res) : MtI l D cls (ty5 κ) ζ yX3_ofWalker cX3_ofWalker 4 (some .int) 2 0 0 ([.ref (A 0), .int x1, .int x2] : List Value) L F (fun r L' F' => L = L' ∧ F = F' ∧ res = r) := by
  refine MtI.of (by decide) (Nat.le_of_ble_eq_true rfl) ?_
  intro p e s m below meth c S hr hlk _ hK hW hST ls hl
  have hl : lv_has ls 4 [(0, .ref (A 0)), (1, .int x1), (2, .int x2)] := hl
  have B72 : ∀   (u0 : Int32), f_X3_ofWalker_72 σ u0 = some res → ∀ (H72 : Heap) (l72 : List Loc) (ls : Array Slot), HW D cls L s H72 l72 L F → lv_has ls 4 [] → W p l e (Rm 2 0 0) s m ([.ref (A 0), .int x1, .int x2] : List Value).toArray below meth c H72 l72 0 0 (EnI D cls s below ([.ref (A 0), .int x1, .int x2] : List Value).toArray 0 0 L (fun r L' F' => L = L' ∧ F = F' ∧ res = r)) (F0 m 72 ls [.int u0]) := by
    intro u0 hf H72 l72 ls hW hl
    unfold f_X3_ofWalker_72 at hf
    obtain ⟨z1, hz, hf⟩ := ob hf
    refine pk_cSI (As := [.int u0]) (rest := []) S hK hST hW (c_X3_oneIf  u0 hz) mc_X3_oneIf wd_273 wd_274 np_X3_oneIf rfl hl.1 rfl (Nat.le_of_ble_eq_true rfl) dX3_ofWalker_72 ⟨by decide, by decide⟩ ⟨by decide, by decide⟩ (fun r L2 F3 H4 l5 hp hW => ?_)
    obtain ⟨rfl, rfl, rfl⟩ := hp
    exact pk_iret S hr hlk hW ⟨rfl, rfl, eqm (P := fun z => z = z1) rfl (Option.some.inj hf)⟩ (by decide) (by decide) dX3_ofWalker_75
  have B88 : ∀   (u0 : Int32), f_X3_ofWalker_88 σ u0 = some res → ∀ (H88 : Heap) (l88 : List Loc) (ls : Array Slot), HW D cls L s H88 l88 L F → lv_has ls 4 [] → W p l e (Rm 2 0 0) s m ([.ref (A 0), .int x1, .int x2] : List Value).toArray below meth c H88 l88 0 0 (EnI D cls s below ([.ref (A 0), .int x1, .int x2] : List Value).toArray 0 0 L (fun r L' F' => L = L' ∧ F = F' ∧ res = r)) (F0 m 88 ls [.int u0]) := by
    intro u0 hf H88 l88 ls hW hl
    unfold f_X3_ofWalker_88 at hf
    obtain ⟨z6, hz, hf⟩ := ob hf
    refine pk_cSI (As := [.int u0]) (rest := []) S hK hST hW (c_X3_oneIf  u0 hz) mc_X3_oneIf wd_273 wd_274 np_X3_oneIf rfl hl.1 rfl (Nat.le_of_ble_eq_true rfl) dX3_ofWalker_88 ⟨by decide, by decide⟩ ⟨by decide, by decide⟩ (fun r L7 F8 H9 l10 hp hW => ?_)
    obtain ⟨rfl, rfl, rfl⟩ := hp
    exact pk_iret S hr hlk hW ⟨rfl, rfl, eqm (P := fun z => z = z6) rfl (Option.some.inj hf)⟩ (by decide) (by decide) dX3_ofWalker_91
  unfold f_X3_ofWalker at hf
  refine lv_aload_n S.1 S.2.1 dX3_ofWalker_0 rfl (lv_at hl 0 rfl) ?_
  refine lv_iload_n S.1 S.2.1 dX3_ofWalker_1 rfl (lv_at hl 1 rfl) ?_
  obtain ⟨z11, hz, hf⟩ := ob hf
  refine pk_cVR (As := [.int x1]) (rest := []) S hK hST hW (c_X3_walkerOf hI x1 hz) mc_X3_walkerOf wd_320 wd_322 wd_1681 rfl np_X3_walkerOf (hI.mem 0 (by decide)) hI.this rfl rfl hl.1 rfl (Nat.le_of_ble_eq_true rfl) dX3_ofWalker_2 ⟨by decide, by decide⟩ ⟨by decide, by decide⟩ (fun r L12 F13 H14 l15 hp hW => ?_)
  obtain ⟨rfl, rfl, hbz11, rfl⟩ := hp
  refine lv_astore_n (lv' := [(3, .ref (A (16 + z11))), (0, .ref (A 0)), (1, .int x1), (2, .int x2)]) S.1 S.2.1 dX3_ofWalker_5 rfl hl (by decide) rfl (fun ls hl => ?_)
  refine lv_iload_n S.1 S.2.1 dX3_ofWalker_6 rfl (lv_at hl 3 rfl) ?_
  by_cases c16 : x2 = nI 0
  · have hf := (if_pos c16).symm.trans hf
    refine lv_tableIn (tgt := 36) S.1 S.2.1 dX3_ofWalker_7 (by rw [tbl_in (by decide) c16]; decide) (by rw [tbl_in (by decide) c16]; decide) (by rw [tbl_in (by decide) c16]; rfl) (by decide) ?_
    refine lv_aload_n S.1 S.2.1 dX3_ofWalker_36 rfl (lv_at hl 0 rfl) ?_
    refine pk_getN S hK hW 0 (hI.mem _ (Nat.lt_of_lt_of_le (Nat.add_lt_add_left hbz11 16) (by decide))) (hI.kerH hbz11) rfl hinX2 (by decide) (va_Nw.use rfl (hST.1.1 _ wn_3)) rfl dX3_ofWalker_37 ?_
    exact pk_iret S hr hlk hW ⟨rfl, rfl, eqm (P := fun z => z = σ.2 (5 + 3 * z11)) rfl (Option.some.inj hf)⟩ (by decide) (by decide) dX3_ofWalker_40
  · have hf := (if_neg c16).symm.trans hf
    by_cases c17 : x2 = nI 1
    · have hf := (if_pos c17).symm.trans hf
      refine lv_tableIn (tgt := 41) S.1 S.2.1 dX3_ofWalker_7 (by rw [tbl_in (by decide) c17]; decide) (by rw [tbl_in (by decide) c17]; decide) (by rw [tbl_in (by decide) c17]; rfl) (by decide) ?_
      refine lv_aload_n S.1 S.2.1 dX3_ofWalker_41 rfl (lv_at hl 0 rfl) ?_
      refine pk_getN S hK hW 1 (hI.mem _ (Nat.lt_of_lt_of_le (Nat.add_lt_add_left hbz11 16) (by decide))) (hI.kerH hbz11) rfl hinX2 (by decide) (va_Nw.use rfl (hST.1.1 _ wn_4)) rfl dX3_ofWalker_42 ?_
      exact pk_iret S hr hlk hW ⟨rfl, rfl, eqm (P := fun z => z = σ.2 (5 + 3 * z11 + 1)) rfl (Option.some.inj hf)⟩ (by decide) (by decide) dX3_ofWalker_45
    · have hf := (if_neg c17).symm.trans hf
      by_cases c18 : x2 = nI 2
      · have hf := (if_pos c18).symm.trans hf
        refine lv_tableIn (tgt := 46) S.1 S.2.1 dX3_ofWalker_7 (by rw [tbl_in (by decide) c18]; decide) (by rw [tbl_in (by decide) c18]; decide) (by rw [tbl_in (by decide) c18]; rfl) (by decide) ?_
        refine lv_aload_n S.1 S.2.1 dX3_ofWalker_46 rfl (lv_at hl 0 rfl) ?_
        refine pk_getN S hK hW 1 (hI.mem _ (Nat.lt_of_lt_of_le (Nat.add_lt_add_left hbz11 16) (by decide))) (hI.kerH hbz11) rfl hinX2 (by decide) (va_Nw.use rfl (hST.1.1 _ wn_4)) rfl dX3_ofWalker_47 ?_
        refine lv_iconst (v := 1) S.1 S.2.1 dX3_ofWalker_50 (by decide) ?_
        refine lv_isub S.1 S.2.1 dX3_ofWalker_51 ?_
        exact pk_iret S hr hlk hW ⟨rfl, rfl, eqm (P := fun z => z = (σ.2 (5 + 3 * z11 + 1)) - 1) rfl (Option.some.inj hf)⟩ (by decide) (by decide) dX3_ofWalker_52
      · have hf := (if_neg c18).symm.trans hf
        by_cases c19 : x2 = nI 3
        · have hf := (if_pos c19).symm.trans hf
          refine lv_tableIn (tgt := 53) S.1 S.2.1 dX3_ofWalker_7 (by rw [tbl_in (by decide) c19]; decide) (by rw [tbl_in (by decide) c19]; decide) (by rw [tbl_in (by decide) c19]; rfl) (by decide) ?_
          refine lv_aload_n S.1 S.2.1 dX3_ofWalker_53 rfl (lv_at hl 0 rfl) ?_
          refine pk_getN S hK hW 1 (hI.mem _ (Nat.lt_of_lt_of_le (Nat.add_lt_add_left hbz11 16) (by decide))) (hI.kerH hbz11) rfl hinX2 (by decide) (va_Nw.use rfl (hST.1.1 _ wn_4)) rfl dX3_ofWalker_54 ?_
          refine lv_aload_n S.1 S.2.1 dX3_ofWalker_57 rfl (lv_at hl 1 rfl) ?_
          refine pk_get S hK hW 1 (hI.mem 0 (by decide)) hI.this rfl hinX3 (by decide) wd_81 rfl dX3_ofWalker_58 ?_
          obtain ⟨z20, hz, hf⟩ := ob hf
          refine pk_cVI (As := []) (rest := [.int (σ.2 (5 + 3 * z11 + 1))]) S hK hST hW (c_X0_size (hI.row (by decide : 1 < 7))  hz) mc_X0_size wd_140 wd_141 wd_142 rfl np_X0_size (hI.mem _ (by have := (by decide : 1 < 7); omega)) (hI.rowH (by decide : 1 < 7)) rfl rfl hl.1 rfl (Nat.le_of_ble_eq_true rfl) dX3_ofWalker_61 ⟨by decide, by decide⟩ ⟨by decide, by decide⟩ (fun r L21 F22 H23 l24 hp hW => ?_)
          obtain ⟨rfl, rfl, rfl⟩ := hp
          refine lv_icmp_ge (tgt := 71) S.1 S.2.1 dX3_ofWalker_64 (by decide) (fun c25 => ?_) (fun c25 => ?_)
          · have hf := (if_pos c25).symm.trans hf
            refine lv_iconst (v := 0) S.1 S.2.1 dX3_ofWalker_71 (by decide) ?_
            exact B72  0 hf  _ _ _ hW (lv_sub hl [] rfl)
          · have hf := (if_neg c25).symm.trans hf
            refine lv_iconst (v := 1) S.1 S.2.1 dX3_ofWalker_67 (by decide) ?_
            refine lv_goto (tgt := 72) S.1 S.2.1 dX3_ofWalker_68 (by decide) ?_
            exact B72  1 hf  _ _ _ hW (lv_sub hl [] rfl)
        · have hf := (if_neg c19).symm.trans hf
          refine lv_tableOut (tgt := 76) S.1 S.2.1 dX3_ofWalker_7 (tbl_out 4 (by decide) (fun k hk => by match k, hk with | 0, _ => exact c16 | 1, _ => exact c17 | 2, _ => exact c18 | 3, _ => exact c19 | k + 4, hk => exact absurd hk (by omega))) (by decide) ?_
          refine lv_aload_n S.1 S.2.1 dX3_ofWalker_76 rfl (lv_at hl 0 rfl) ?_
          refine pk_getN S hK hW 1 (hI.mem _ (Nat.lt_of_lt_of_le (Nat.add_lt_add_left hbz11 16) (by decide))) (hI.kerH hbz11) rfl hinX2 (by decide) (va_Nw.use rfl (hST.1.1 _ wn_4)) rfl dX3_ofWalker_77 ?_
          refine lv_if_le (tgt := 87) S.1 S.2.1 dX3_ofWalker_80 (by decide) (fun c26 => ?_) (fun c26 => ?_)
          · have hf := (if_pos c26).symm.trans hf
            refine lv_iconst (v := 0) S.1 S.2.1 dX3_ofWalker_87 (by decide) ?_
            exact B88  0 hf  _ _ _ hW (lv_sub hl [] rfl)
          · have hf := (if_neg c26).symm.trans hf
            refine lv_iconst (v := 1) S.1 S.2.1 dX3_ofWalker_83 (by decide) ?_
            refine lv_goto (tgt := 88) S.1 S.2.1 dX3_ofWalker_84 (by decide) ?_
            exact B88  1 hf  _ _ _ hW (lv_sub hl [] rfl)
def f_X3_where_35 (σ : CS)  (v1 : Int32) (v2 : Int32) : Option (Nat ⊕ Int32) := (f_X3_ofWalker σ v1 v2).bind fun z1 => some (.inr z1)
def f_X3_where (σ : CS) (x1 : Int32) (x2 : Int32) : Option (Nat ⊕ Int32) := obx (f_X3_needWalker x1) fun z6 => obx (f_X3_needWithin x2 0 4) fun z11 => (if x2 ≤ 0 then f_X3_where_35 σ x1 x2 else (f_X3_walkerOf σ x1).bind fun z17 => (f_X2_isFresh (fun k => σ.2 (5 + 3 * z17 + k))).bind fun z22 => (if z22 = 0 then some (.inl 2) else f_X3_where_35 σ x1 x2))
theorem mc_X3_where : MCode yX3_where cX3_where 3 (some .int) := ⟨wd_729, wd_1, by decide, by decide⟩
theorem np_X3_where : (parseMethodDescriptor yX3_where.desc).map (fun d => d.parameters.length) = some 2 := by decide +kernel
set_option maxHeartbeats 4000000 in
set_option maxRecDepth 100000 in
theorem c_X3_where {l : Launch} {D : va_G} {κ : Nat → ClassId} {ζ : Nat → Nat} {L : List Nat} {F : Nat → va_E} {σ : CS} {A : Nat → Nat} (hst : l.stackTraces = false) (hI : CI κ A σ L F) (x1 : Int32) (x2 : Int32) {res : (Nat ⊕ Int32)} (hf : f_X3_where σ x1 x2 = some res) : MxI l D cls (ty5 κ) ζ yX3_where cX3_where 3 (some .int) 8 3 18 ([.ref (A 0), .int x1, .int x2] : List Value) L F (fun r L' F' => L = L' ∧ F = F' ∧ ∃ z, res = .inr z ∧ z = r) (fun E => ∃ k, res = .inl k ∧ E = xName k) := by
  refine MxI.of (by decide) (Nat.le_of_ble_eq_true rfl) ?_
  intro p e s m below meth c S hr hlk hxt hK hW hST ls hl
  have hl : lv_has ls 3 [(0, .ref (A 0)), (1, .int x1), (2, .int x2)] := hl
  have B35 : ∀   (v1 : Int32) (v2 : Int32), f_X3_where_35 σ v1 v2 = some res → ∀ (H35 : Heap) (l35 : List Loc) (ls : Array Slot), HW D cls L s H35 l35 L F → lv_has ls 3 [(0, .ref (A 0)), (1, .int v1), (2, .int v2)] → W p l e (Rm 8 3 18) s m ([.ref (A 0), .int x1, .int x2] : List Value).toArray below meth c H35 l35 2 12 (ExI D cls s below ([.ref (A 0), .int x1, .int x2] : List Value).toArray 3 18 L F (fun r L' F' => L = L' ∧ F = F' ∧ ∃ z, res = .inr z ∧ z = r) (fun E => ∃ k, res = .inl k ∧ E = xName k)) (F0 m 35 ls []) := by
    intro v1 v2 hf H35 l35 ls hW hl
    unfold f_X3_where_35 at hf
    refine lv_aload_n S.1 S.2.1 dX3_where_35 rfl (lv_at hl 0 rfl) ?_
    refine lv_iload_n S.1 S.2.1 dX3_where_36 rfl (lv_at hl 1 rfl) ?_
    refine lv_iload_n S.1 S.2.1 dX3_where_37 rfl (lv_at hl 2 rfl) ?_
    obtain ⟨z1, hz, hf⟩ := ob hf
    refine pk_cVI (As := [.int v1, .int v2]) (rest := []) S hK hST hW (c_X3_ofWalker hI v1 v2 hz) mc_X3_ofWalker wd_316 wd_318 wd_1680 rfl np_X3_ofWalker (hI.mem 0 (by decide)) hI.this rfl rfl hl.1 rfl (Nat.le_of_ble_eq_true rfl) dX3_where_38 ⟨by decide, by decide⟩ ⟨by decide, by decide⟩ (fun r L2 F3 H4 l5 hp hW => ?_)
    obtain ⟨rfl, rfl, rfl⟩ := hp
    exact xk_iret S hr hlk hW ⟨rfl, rfl, _, (Option.some.inj hf).symm, rfl⟩ (by decide) (by decide) dX3_where_41
  unfold f_X3_where at hf
  refine lv_iload_n S.1 S.2.1 dX3_where_0 rfl (lv_at hl 1 rfl) ?_
  obtain ⟨z1, hz, hxl, hxr⟩ := obx_ok hf
  refine xk_cSV (As := [.int x1]) (rest := []) S hK hST hW (c_X3_needWalker hst  x1 hz) mc_X3_needWalker wd_656 wd_657 np_X3_needWalker rfl hl.1 rfl (Nat.le_of_ble_eq_true rfl) dX3_where_1 ⟨by decide, by decide⟩ ⟨by decide, by decide⟩ (fun E ce q9 H9 l10 hE hW h1 h2 h3 => ?_) (fun L7 F8 H9 l10 hp hW => ?_)
  · obtain ⟨k, hk1, hk2⟩ := hE
    exact xk_outI hxt hlk hW ⟨k, hxl k hk1, hk2⟩ h1 h2 h3 (by decide) (by decide)
  obtain ⟨rfl, rfl, z6, hz1⟩ := hp
  have hf := hxr z6 hz1
  refine lv_iload_n S.1 S.2.1 dX3_where_4 rfl (lv_at hl 2 rfl) ?_
  refine lv_iconst (v := 0) S.1 S.2.1 dX3_where_5 (by decide) ?_
  refine lv_iconst (v := 4) S.1 S.2.1 dX3_where_6 (by decide) ?_
  obtain ⟨z1, hz, hxl, hxr⟩ := obx_ok hf
  refine xk_cSV (As := [.int x2, .int 0, .int 4]) (rest := []) S hK hST hW (c_X3_needWithin hst  x2 0 4 hz) mc_X3_needWithin wd_416 wd_417 np_X3_needWithin rfl hl.1 rfl (Nat.le_of_ble_eq_true rfl) dX3_where_7 ⟨by decide, by decide⟩ ⟨by decide, by decide⟩ (fun E ce q9 H14 l15 hE hW h1 h2 h3 => ?_) (fun L12 F13 H14 l15 hp hW => ?_)
  · obtain ⟨k, hk1, hk2⟩ := hE
    exact xk_outI hxt hlk hW ⟨k, hxl k hk1, hk2⟩ h1 h2 h3 (by decide) (by decide)
  obtain ⟨rfl, rfl, z11, hz1⟩ := hp
  have hf := hxr z11 hz1
  refine lv_iload_n S.1 S.2.1 dX3_where_10 rfl (lv_at hl 2 rfl) ?_
  refine lv_if_le (tgt := 35) S.1 S.2.1 dX3_where_11 (by decide) (fun c16 => ?_) (fun c16 => ?_)
  · have hf := (if_pos c16).symm.trans hf
    exact B35  x1 x2 hf  _ _ _ hW (lv_sub hl [0, 1, 2] rfl)
  · have hf := (if_neg c16).symm.trans hf
    refine lv_aload_n S.1 S.2.1 dX3_where_14 rfl (lv_at hl 0 rfl) ?_
    refine lv_iload_n S.1 S.2.1 dX3_where_15 rfl (lv_at hl 1 rfl) ?_
    obtain ⟨z17, hz, hf⟩ := ob hf
    refine pk_cVR (As := [.int x1]) (rest := []) S hK hST hW (c_X3_walkerOf hI x1 hz) mc_X3_walkerOf wd_320 wd_322 wd_1681 rfl np_X3_walkerOf (hI.mem 0 (by decide)) hI.this rfl rfl hl.1 rfl (Nat.le_of_ble_eq_true rfl) dX3_where_16 ⟨by decide, by decide⟩ ⟨by decide, by decide⟩ (fun r L18 F19 H20 l21 hp hW => ?_)
    obtain ⟨rfl, rfl, hbz17, rfl⟩ := hp
    obtain ⟨z22, hz, hf⟩ := ob hf
    refine pk_cVI (As := []) (rest := []) S hK hST hW (c_X2_isFresh (hI.ker hbz17)  hz) mc_X2_isFresh wd_237 wd_238 wd_239 rfl np_X2_isFresh (hI.mem _ (by have := hbz17; omega)) (hI.kerH hbz17) rfl rfl hl.1 rfl (Nat.le_of_ble_eq_true rfl) dX3_where_19 ⟨by decide, by decide⟩ ⟨by decide, by decide⟩ (fun r L23 F24 H25 l26 hp hW => ?_)
    obtain ⟨rfl, rfl, rfl⟩ := hp
    refine lv_if_ne (tgt := 35) S.1 S.2.1 dX3_where_22 (by decide) (fun c27 => ?_) (fun c27 => ?_)
    · have hf := (if_neg c27).symm.trans hf
      exact B35  x1 x2 hf  _ _ _ hW (lv_sub hl [0, 1, 2] rfl)
    · have hf := (if_pos c27).symm.trans hf
      exact xk_throwI S hst hW hST wd_438 wd_20 xs_240 xat_242 xgd_242 hl.1 dX3_where_25 dX3_where_28 dX3_where_29 dX3_where_31 dX3_where_34 hxt hlk ⟨2, (Option.some.inj hf).symm, rfl⟩ (by decide) (by decide) (by decide) (Nat.le_of_ble_eq_true rfl) (by decide) (by decide)
def f_X3_order (σ : CS) (x1 : Int32) : Option (Nat ⊕ (Int32 × CS)) := obx (f_X3_needWithin x1 0 7) fun z1 => (f_X0_isFull (cap 3) (σ.1 3)).bind fun z6 => (if z6 = 0 then (f_X0_enterLast (cap 3) (σ.1 3) x1).bind fun z12 => nm ((va_up σ.1 3 z12, σ.2) : CS) fun t17 => (f_X0_size (cap 3) (t17.1 3)).bind fun z18 => some (.inr (z18, t17)) else some (.inl 2))
theorem mc_X3_order : MCode yX3_order cX3_order 2 (some .int) := ⟨wd_736, wd_1, by decide, by decide⟩
theorem np_X3_order : (parseMethodDescriptor yX3_order.desc).map (fun d => d.parameters.length) = some 1 := by decide +kernel
set_option maxHeartbeats 4000000 in
set_option maxRecDepth 100000 in
theorem c_X3_order {l : Launch} {D : va_G} {κ : Nat → ClassId} {ζ : Nat → Nat} {L : List Nat} {F : Nat → va_E} {σ : CS} {A : Nat → Nat} (hst : l.stackTraces = false) (hI : CI κ A σ L F) (x1 : Int32) {res : (Nat ⊕ (Int32 × CS))} (hf : f_X3_order σ x1 = some res) : MxI l D cls (ty5 κ) ζ yX3_order cX3_order 2 (some .int) 8 2 12 ([.ref (A 0), .int x1] : List Value) L F (fun r L' F' => L = L' ∧ ∃ z, res = .inr z ∧ z.1 = r ∧ CI κ A z.2 L F' ∧ FrA A F F') (fun E => ∃ k, res = .inl k ∧ E = xName k) := by
  refine MxI.of (by decide) (Nat.le_of_ble_eq_true rfl) ?_
  intro p e s m below meth c S hr hlk hxt hK hW hST ls hl
  have hl : lv_has ls 2 [(0, .ref (A 0)), (1, .int x1)] := hl
  have hFr : FrA A F F := FrA.rf
  unfold f_X3_order at hf
  refine lv_iload_n S.1 S.2.1 dX3_order_0 rfl (lv_at hl 1 rfl) ?_
  refine lv_iconst (v := 0) S.1 S.2.1 dX3_order_1 (by decide) ?_
  refine lv_bipush (v := 7) S.1 S.2.1 dX3_order_2 (by decide) ?_
  obtain ⟨z1, hz, hxl, hxr⟩ := obx_ok hf
  refine xk_cSV (As := [.int x1, .int 0, .int 7]) (rest := []) S hK hST hW (c_X3_needWithin hst  x1 0 7 hz) mc_X3_needWithin wd_416 wd_417 np_X3_needWithin rfl hl.1 rfl (Nat.le_of_ble_eq_true rfl) dX3_order_4 ⟨by decide, by decide⟩ ⟨by decide, by decide⟩ (fun E ce q9 H4 l5 hE hW h1 h2 h3 => ?_) (fun L2 F3 H4 l5 hp hW => ?_)
  · obtain ⟨k, hk1, hk2⟩ := hE
    exact xk_outI hxt hlk hW ⟨k, hxl k hk1, hk2⟩ h1 h2 h3 (by decide) (by decide)
  obtain ⟨rfl, rfl, z1, hz1⟩ := hp
  have hf := hxr z1 hz1
  refine lv_aload_n S.1 S.2.1 dX3_order_7 rfl (lv_at hl 0 rfl) ?_
  refine pk_get S hK hW 3 (hI.mem 0 (by decide)) hI.this rfl hinX3 (by decide) wd_83 rfl dX3_order_8 ?_
  obtain ⟨z6, hz, hf⟩ := ob hf
  refine pk_cVI (As := []) (rest := []) S hK hST hW (c_X0_isFull (hI.row (by decide : 3 < 7))  hz) mc_X0_isFull wd_259 wd_152 wd_153 rfl np_X0_isFull (hI.mem _ (by have := (by decide : 3 < 7); omega)) (hI.rowH (by decide : 3 < 7)) rfl rfl hl.1 rfl (Nat.le_of_ble_eq_true rfl) dX3_order_11 ⟨by decide, by decide⟩ ⟨by decide, by decide⟩ (fun r L7 F8 H9 l10 hp hW => ?_)
  obtain ⟨rfl, rfl, rfl⟩ := hp
  refine lv_if_eq (tgt := 27) S.1 S.2.1 dX3_order_14 (by decide) (fun c11 => ?_) (fun c11 => ?_)
  · have hf := (if_pos c11).symm.trans hf
    refine lv_aload_n S.1 S.2.1 dX3_order_27 rfl (lv_at hl 0 rfl) ?_
    refine pk_get S hK hW 3 (hI.mem 0 (by decide)) hI.this rfl hinX3 (by decide) wd_83 rfl dX3_order_28 ?_
    refine lv_iload_n S.1 S.2.1 dX3_order_31 rfl (lv_at hl 1 rfl) ?_
    obtain ⟨z12, hz, hf⟩ := ob hf
    refine pk_cVV (As := [.int x1]) (rest := []) S hK hST hW (c_X0_enterLast (hI.row (by decide : 3 < 7)) x1 hz) mc_X0_enterLast wd_307 wd_252 wd_253 rfl np_X0_enterLast (hI.mem _ (by have := (by decide : 3 < 7); omega)) (hI.rowH (by decide : 3 < 7)) rfl rfl hl.1 rfl (Nat.le_of_ble_eq_true rfl) dX3_order_32 ⟨by decide, by decide⟩ ⟨by decide, by decide⟩ (fun L13 F14 H15 l16 hp hW => ?_)
    obtain ⟨rfl, hI1, hFr1⟩ := hp
    have hFr := hFr.tr (FrA.row (by decide : 3 < 7) hFr1)
    have hI := hI.setRow (by decide : 3 < 7) hI1 hFr1
    obtain ⟨t17, et17, hf⟩ := nm_ok hf
    have hI := eqm (P := fun w => CI κ A w L F14) hI et17.symm
    refine lv_aload_n S.1 S.2.1 dX3_order_35 rfl (lv_at hl 0 rfl) ?_
    refine pk_get S hK hW 3 (hI.mem 0 (by decide)) hI.this rfl hinX3 (by decide) wd_83 rfl dX3_order_36 ?_
    obtain ⟨z18, hz, hf⟩ := ob hf
    refine pk_cVI (As := []) (rest := []) S hK hST hW (c_X0_size (hI.row (by decide : 3 < 7))  hz) mc_X0_size wd_140 wd_141 wd_142 rfl np_X0_size (hI.mem _ (by have := (by decide : 3 < 7); omega)) (hI.rowH (by decide : 3 < 7)) rfl rfl hl.1 rfl (Nat.le_of_ble_eq_true rfl) dX3_order_39 ⟨by decide, by decide⟩ ⟨by decide, by decide⟩ (fun r L19 F20 H21 l22 hp hW => ?_)
    obtain ⟨rfl, rfl, rfl⟩ := hp
    exact xk_iret S hr hlk hW ⟨rfl, _, (Option.some.inj hf).symm, rfl, hI, hFr⟩ (by decide) (by decide) dX3_order_42
  · have hf := (if_neg c11).symm.trans hf
    exact xk_throwI S hst hW hST wd_438 wd_20 xs_251 xat_242 xgd_242 hl.1 dX3_order_17 dX3_order_20 dX3_order_21 dX3_order_23 dX3_order_26 hxt hlk ⟨2, (Option.some.inj hf).symm, rfl⟩ (by decide) (by decide) (by decide) (Nat.le_of_ble_eq_true rfl) (by decide) (by decide)
def f_X3_orderTrack (x1 : Int32) : Option Int32 := some (x1 / 4)
theorem mc_X3_orderTrack : MCode yX3_orderTrack cX3_orderTrack 1 (some .int) := ⟨wd_750, wd_1, by decide, by decide⟩
theorem np_X3_orderTrack : (parseMethodDescriptor yX3_orderTrack.desc).map (fun d => d.parameters.length) = some 1 := by decide +kernel
set_option maxHeartbeats 4000000 in
set_option maxRecDepth 100000 in
theorem c_X3_orderTrack {l : Launch} {D : va_G} {κ : Nat → ClassId} {ζ : Nat → Nat} {L : List Nat} {F : Nat → va_E} (x1 : Int32) {res : Int32} (hf : f_X3_orderTrack x1 = some res) : MtI l D cls (ty5 κ) ζ yX3_orderTrack cX3_orderTrack 1 (some .int) 1 0 0 ([.int x1] : List Value) L F (fun r L' F' => L = L' ∧ F = F' ∧ res = r) := by
  refine MtI.of (by decide) (Nat.le_of_ble_eq_true rfl) ?_
  intro p e s m below meth c S hr hlk _ hK hW hST ls hl
  have hl : lv_has ls 1 [(0, .int x1)] := hl
  unfold f_X3_orderTrack at hf
  refine lv_iload_n S.1 S.2.1 dX3_orderTrack_0 rfl (lv_at hl 0 rfl) ?_
  refine lv_iconst (v := 4) S.1 S.2.1 dX3_orderTrack_1 (by decide) ?_
  refine lv_idiv S.1 S.2.1 dX3_orderTrack_2 (by decide) ?_
  exact pk_iret S hr hlk hW ⟨rfl, rfl, eqm (P := fun z => z = x1 / 4) rfl (Option.some.inj hf)⟩ (by decide) (by decide) dX3_orderTrack_3
def f_X3_orderIsFromBack (x1 : Int32) : Option Int32 := (if (jrem (x1 / 2) 2) = 1 then some (1) else some (0))
theorem mc_X3_orderIsFromBack : MCode yX3_orderIsFromBack cX3_orderIsFromBack 1 (some .boolean) := ⟨wd_753, wd_1, by decide, by decide⟩
theorem np_X3_orderIsFromBack : (parseMethodDescriptor yX3_orderIsFromBack.desc).map (fun d => d.parameters.length) = some 1 := by decide +kernel
set_option maxHeartbeats 4000000 in
set_option maxRecDepth 100000 in
theorem c_X3_orderIsFromBack {l : Launch} {D : va_G} {κ : Nat → ClassId} {ζ : Nat → Nat} {L : List Nat} {F : Nat → va_E} (x1 : Int32) {res : Int32} (hf : f_X3_orderIsFromBack x1 = some res) : MtI l D cls (ty5 κ) ζ yX3_orderIsFromBack cX3_orderIsFromBack 1 (some .boolean) 1 0 0 ([.int x1] : List Value) L F (fun r L' F' => L = L' ∧ F = F' ∧ res = r) := by
  refine MtI.of (by decide) (Nat.le_of_ble_eq_true rfl) ?_
  intro p e s m below meth c S hr hlk _ hK hW hST ls hl
  have hl : lv_has ls 1 [(0, .int x1)] := hl
  unfold f_X3_orderIsFromBack at hf
  refine lv_iload_n S.1 S.2.1 dX3_orderIsFromBack_0 rfl (lv_at hl 0 rfl) ?_
  refine lv_iconst (v := 2) S.1 S.2.1 dX3_orderIsFromBack_1 (by decide) ?_
  refine lv_idiv S.1 S.2.1 dX3_orderIsFromBack_2 (by decide) ?_
  refine lv_iconst (v := 2) S.1 S.2.1 dX3_orderIsFromBack_3 (by decide) ?_
  refine pk_irem S dX3_orderIsFromBack_4 (by decide) ?_
  refine lv_iconst (v := 1) S.1 S.2.1 dX3_orderIsFromBack_5 (by decide) ?_
  refine lv_icmp_ne (tgt := 13) S.1 S.2.1 dX3_orderIsFromBack_6 (by decide) (fun c1 => ?_) (fun c1 => ?_)
  · have hf := (if_neg c1).symm.trans hf
    refine lv_iconst (v := 0) S.1 S.2.1 dX3_orderIsFromBack_13 (by decide) ?_
    exact pk_zret S hr hlk hW (by decide) ⟨rfl, rfl, eqm (P := fun z => z = 0) rfl (Option.some.inj hf)⟩ (by decide) (by decide) dX3_orderIsFromBack_14
  · have hf := (if_pos c1).symm.trans hf
    refine lv_iconst (v := 1) S.1 S.2.1 dX3_orderIsFromBack_9 (by decide) ?_
    refine lv_goto (tgt := 14) S.1 S.2.1 dX3_orderIsFromBack_10 (by decide) ?_
    exact pk_zret S hr hlk hW (by decide) ⟨rfl, rfl, eqm (P := fun z => z = 1) rfl (Option.some.inj hf)⟩ (by decide) (by decide) dX3_orderIsFromBack_14
def f_X3_canMove_53 (σ : CS)   : Option Int32 := some (1)
def f_X3_canMove (σ : CS) (x1 : Int32) : Option Int32 := (f_X3_orderTrack x1).bind fun z1 => nm (1 - z1 : Int32) fun y6 => (f_X3_trackOf σ z1).bind fun z7 => (f_X0_isEmpty (cap z7) (σ.1 z7)).bind fun z12 => (if z12 = 0 then (f_X3_trackOf σ y6).bind fun z18 => (f_X0_isFull (cap z18) (σ.1 z18)).bind fun z23 => (if z23 = 0 then (if y6 = 1 then f_X3_canMove_53 σ else (f_X3_orderIsFromBack x1).bind fun z30 => (f_X3_codeAtEnd σ z1 z30).bind fun z35 => (f_X3_kindOf z35).bind fun z40 => (if z40 = 0 then some (0) else f_X3_canMove_53 σ)) else some (0)) else some (0))
theorem mc_X3_canMove : MCode yX3_canMove cX3_canMove 4 (some .boolean) := ⟨wd_747, wd_1, by decide, by decide⟩
theorem np_X3_canMove : (parseMethodDescriptor yX3_canMove.desc).map (fun d => d.parameters.length) = some 1 := by decide +kernel
set_option maxHeartbeats 4000000 in
set_option maxRecDepth 100000 in
theorem c_X3_canMove {l : Launch} {D : va_G} {κ : Nat → ClassId} {ζ : Nat → Nat} {L : List Nat} {F : Nat → va_E} {σ : CS} {A : Nat → Nat} (hI : CI κ A σ L F) (x1 : Int32) {res : Int32} (hf : f_X3_canMove σ x1 = some res) : MtI l D cls (ty5 κ) ζ yX3_canMove cX3_canMove 4 (some .boolean) 3 0 0 ([.ref (A 0), .int x1] : List Value) L F (fun r L' F' => L = L' ∧ F = F' ∧ res = r) := by
  refine MtI.of (by decide) (Nat.le_of_ble_eq_true rfl) ?_
  intro p e s m below meth c S hr hlk _ hK hW hST ls hl
  have hl : lv_has ls 4 [(0, .ref (A 0)), (1, .int x1)] := hl
  have B53 :   f_X3_canMove_53 σ = some res → ∀ (H53 : Heap) (l53 : List Loc) (ls : Array Slot), HW D cls L s H53 l53 L F → lv_has ls 4 [] → W p l e (Rm 3 0 0) s m ([.ref (A 0), .int x1] : List Value).toArray below meth c H53 l53 0 0 (EnI D cls s below ([.ref (A 0), .int x1] : List Value).toArray 0 0 L (fun r L' F' => L = L' ∧ F = F' ∧ res = r)) (F0 m 53 ls []) := by
    intro  hf H53 l53 ls hW hl
    unfold f_X3_canMove_53 at hf
    refine lv_iconst (v := 1) S.1 S.2.1 dX3_canMove_53 (by decide) ?_
    refine lv_goto (tgt := 58) S.1 S.2.1 dX3_canMove_54 (by decide) ?_
    exact pk_zret S hr hlk hW (by decide) ⟨rfl, rfl, eqm (P := fun z => z = 1) rfl (Option.some.inj hf)⟩ (by decide) (by decide) dX3_canMove_58
  unfold f_X3_canMove at hf
  refine lv_iload_n S.1 S.2.1 dX3_canMove_0 rfl (lv_at hl 1 rfl) ?_
  obtain ⟨z1, hz, hf⟩ := ob hf
  refine pk_cSI (As := [.int x1]) (rest := []) S hK hST hW (c_X3_orderTrack  x1 hz) mc_X3_orderTrack wd_748 wd_749 np_X3_orderTrack rfl hl.1 rfl (Nat.le_of_ble_eq_true rfl) dX3_canMove_1 ⟨by decide, by decide⟩ ⟨by decide, by decide⟩ (fun r L2 F3 H4 l5 hp hW => ?_)
  obtain ⟨rfl, rfl, rfl⟩ := hp
  refine lv_istore_n (lv' := [(2, .int z1), (0, .ref (A 0)), (1, .int x1)]) S.1 S.2.1 dX3_canMove_4 rfl hl (by decide) rfl (fun ls hl => ?_)
  refine lv_iconst (v := 1) S.1 S.2.1 dX3_canMove_5 (by decide) ?_
  refine lv_iload_n S.1 S.2.1 dX3_canMove_6 rfl (lv_at hl 0 rfl) ?_
  refine lv_isub S.1 S.2.1 dX3_canMove_7 ?_
  refine lv_topi (fun y6 ey6 => ?_)
  have hf := nm_at hf ey6
  refine lv_istore_n (lv' := [(3, .int y6), (2, .int z1), (0, .ref (A 0)), (1, .int x1)]) S.1 S.2.1 dX3_canMove_8 rfl hl (by decide) rfl (fun ls hl => ?_)
  refine lv_aload_n S.1 S.2.1 dX3_canMove_9 rfl (lv_at hl 2 rfl) ?_
  refine lv_iload_n S.1 S.2.1 dX3_canMove_10 rfl (lv_at hl 1 rfl) ?_
  obtain ⟨z7, hz, hf⟩ := ob hf
  refine pk_cVR (As := [.int z1]) (rest := []) S hK hST hW (c_X3_trackOf hI z1 hz) mc_X3_trackOf wd_130 wd_132 wd_1664 rfl np_X3_trackOf (hI.mem 0 (by decide)) hI.this rfl rfl hl.1 rfl (Nat.le_of_ble_eq_true rfl) dX3_canMove_11 ⟨by decide, by decide⟩ ⟨by decide, by decide⟩ (fun r L8 F9 H10 l11 hp hW => ?_)
  obtain ⟨rfl, rfl, hbz7, rfl⟩ := hp
  obtain ⟨z12, hz, hf⟩ := ob hf
  refine pk_cVI (As := []) (rest := []) S hK hST hW (c_X0_isEmpty (hI.row hbz7)  hz) mc_X0_isEmpty wd_107 wd_108 wd_109 rfl np_X0_isEmpty (hI.mem _ (by have := hbz7; omega)) (hI.rowH hbz7) rfl rfl hl.1 rfl (Nat.le_of_ble_eq_true rfl) dX3_canMove_14 ⟨by decide, by decide⟩ ⟨by decide, by decide⟩ (fun r L13 F14 H15 l16 hp hW => ?_)
  obtain ⟨rfl, rfl, rfl⟩ := hp
  refine lv_if_ne (tgt := 31) S.1 S.2.1 dX3_canMove_17 (by decide) (fun c17 => ?_) (fun c17 => ?_)
  · have hf := (if_neg c17).symm.trans hf
    refine lv_iconst (v := 0) S.1 S.2.1 dX3_canMove_31 (by decide) ?_
    exact pk_zret S hr hlk hW (by decide) ⟨rfl, rfl, eqm (P := fun z => z = 0) rfl (Option.some.inj hf)⟩ (by decide) (by decide) dX3_canMove_32
  · have hf := (if_pos c17).symm.trans hf
    refine lv_aload_n S.1 S.2.1 dX3_canMove_20 rfl (lv_at hl 2 rfl) ?_
    refine lv_iload_n S.1 S.2.1 dX3_canMove_21 rfl (lv_at hl 0 rfl) ?_
    obtain ⟨z18, hz, hf⟩ := ob hf
    refine pk_cVR (As := [.int y6]) (rest := []) S hK hST hW (c_X3_trackOf hI y6 hz) mc_X3_trackOf wd_130 wd_132 wd_1664 rfl np_X3_trackOf (hI.mem 0 (by decide)) hI.this rfl rfl hl.1 rfl (Nat.le_of_ble_eq_true rfl) dX3_canMove_22 ⟨by decide, by decide⟩ ⟨by decide, by decide⟩ (fun r L19 F20 H21 l22 hp hW => ?_)
    obtain ⟨rfl, rfl, hbz18, rfl⟩ := hp
    obtain ⟨z23, hz, hf⟩ := ob hf
    refine pk_cVI (As := []) (rest := []) S hK hST hW (c_X0_isFull (hI.row hbz18)  hz) mc_X0_isFull wd_259 wd_152 wd_153 rfl np_X0_isFull (hI.mem _ (by have := hbz18; omega)) (hI.rowH hbz18) rfl rfl hl.1 rfl (Nat.le_of_ble_eq_true rfl) dX3_canMove_25 ⟨by decide, by decide⟩ ⟨by decide, by decide⟩ (fun r L24 F25 H26 l27 hp hW => ?_)
    obtain ⟨rfl, rfl, rfl⟩ := hp
    refine lv_if_eq (tgt := 33) S.1 S.2.1 dX3_canMove_28 (by decide) (fun c28 => ?_) (fun c28 => ?_)
    · have hf := (if_pos c28).symm.trans hf
      refine lv_iload_n S.1 S.2.1 dX3_canMove_33 rfl (lv_at hl 0 rfl) ?_
      refine lv_iconst (v := 1) S.1 S.2.1 dX3_canMove_34 (by decide) ?_
      refine lv_icmp_eq (tgt := 53) S.1 S.2.1 dX3_canMove_35 (by decide) (fun c29 => ?_) (fun c29 => ?_)
      · have hf := (if_pos c29).symm.trans hf
        exact B53   hf  _ _ _ hW (lv_sub hl [] rfl)
      · have hf := (if_neg c29).symm.trans hf
        refine lv_aload_n S.1 S.2.1 dX3_canMove_38 rfl (lv_at hl 2 rfl) ?_
        refine lv_iload_n S.1 S.2.1 dX3_canMove_39 rfl (lv_at hl 1 rfl) ?_
        refine lv_iload_n S.1 S.2.1 dX3_canMove_40 rfl (lv_at hl 3 rfl) ?_
        obtain ⟨z30, hz, hf⟩ := ob hf
        refine pk_cSI (As := [.int x1]) (rest := [.int z1, .ref (A 0)]) S hK hST hW (c_X3_orderIsFromBack  x1 hz) mc_X3_orderIsFromBack wd_751 wd_752 np_X3_orderIsFromBack rfl hl.1 rfl (Nat.le_of_ble_eq_true rfl) dX3_canMove_41 ⟨by decide, by decide⟩ ⟨by decide, by decide⟩ (fun r L31 F32 H33 l34 hp hW => ?_)
        obtain ⟨rfl, rfl, rfl⟩ := hp
        obtain ⟨z35, hz, hf⟩ := ob hf
        refine pk_cVI (As := [.int z1, .int z30]) (rest := []) S hK hST hW (c_X3_codeAtEnd hI z1 z30 hz) mc_X3_codeAtEnd wd_293 wd_295 wd_1676 rfl np_X3_codeAtEnd (hI.mem 0 (by decide)) hI.this rfl rfl hl.1 rfl (Nat.le_of_ble_eq_true rfl) dX3_canMove_44 ⟨by decide, by decide⟩ ⟨by decide, by decide⟩ (fun r L36 F37 H38 l39 hp hW => ?_)
        obtain ⟨rfl, rfl, rfl⟩ := hp
        obtain ⟨z40, hz, hf⟩ := ob hf
        refine pk_cSI (As := [.int z35]) (rest := []) S hK hST hW (c_X3_kindOf  z35 hz) mc_X3_kindOf wd_175 wd_176 np_X3_kindOf rfl hl.1 rfl (Nat.le_of_ble_eq_true rfl) dX3_canMove_47 ⟨by decide, by decide⟩ ⟨by decide, by decide⟩ (fun r L41 F42 H43 l44 hp hW => ?_)
        obtain ⟨rfl, rfl, rfl⟩ := hp
        refine lv_if_eq (tgt := 57) S.1 S.2.1 dX3_canMove_50 (by decide) (fun c45 => ?_) (fun c45 => ?_)
        · have hf := (if_pos c45).symm.trans hf
          refine lv_iconst (v := 0) S.1 S.2.1 dX3_canMove_57 (by decide) ?_
          exact pk_zret S hr hlk hW (by decide) ⟨rfl, rfl, eqm (P := fun z => z = 0) rfl (Option.some.inj hf)⟩ (by decide) (by decide) dX3_canMove_58
        · have hf := (if_neg c45).symm.trans hf
          exact B53   hf  _ _ _ hW (lv_sub hl [] rfl)
    · have hf := (if_neg c28).symm.trans hf
      refine lv_iconst (v := 0) S.1 S.2.1 dX3_canMove_31 (by decide) ?_
      exact pk_zret S hr hlk hW (by decide) ⟨rfl, rfl, eqm (P := fun z => z = 0) rfl (Option.some.inj hf)⟩ (by decide) (by decide) dX3_canMove_32
def f_X3_orderIsToBack (x1 : Int32) : Option Int32 := (if (jrem x1 2) = 1 then some (1) else some (0))
theorem mc_X3_orderIsToBack : MCode yX3_orderIsToBack cX3_orderIsToBack 1 (some .boolean) := ⟨wd_760, wd_1, by decide, by decide⟩
theorem np_X3_orderIsToBack : (parseMethodDescriptor yX3_orderIsToBack.desc).map (fun d => d.parameters.length) = some 1 := by decide +kernel
set_option maxHeartbeats 4000000 in
set_option maxRecDepth 100000 in
theorem c_X3_orderIsToBack {l : Launch} {D : va_G} {κ : Nat → ClassId} {ζ : Nat → Nat} {L : List Nat} {F : Nat → va_E} (x1 : Int32) {res : Int32} (hf : f_X3_orderIsToBack x1 = some res) : MtI l D cls (ty5 κ) ζ yX3_orderIsToBack cX3_orderIsToBack 1 (some .boolean) 1 0 0 ([.int x1] : List Value) L F (fun r L' F' => L = L' ∧ F = F' ∧ res = r) := by
  refine MtI.of (by decide) (Nat.le_of_ble_eq_true rfl) ?_
  intro p e s m below meth c S hr hlk _ hK hW hST ls hl
  have hl : lv_has ls 1 [(0, .int x1)] := hl
  unfold f_X3_orderIsToBack at hf
  refine lv_iload_n S.1 S.2.1 dX3_orderIsToBack_0 rfl (lv_at hl 0 rfl) ?_
  refine lv_iconst (v := 2) S.1 S.2.1 dX3_orderIsToBack_1 (by decide) ?_
  refine pk_irem S dX3_orderIsToBack_2 (by decide) ?_
  refine lv_iconst (v := 1) S.1 S.2.1 dX3_orderIsToBack_3 (by decide) ?_
  refine lv_icmp_ne (tgt := 11) S.1 S.2.1 dX3_orderIsToBack_4 (by decide) (fun c1 => ?_) (fun c1 => ?_)
  · have hf := (if_neg c1).symm.trans hf
    refine lv_iconst (v := 0) S.1 S.2.1 dX3_orderIsToBack_11 (by decide) ?_
    exact pk_zret S hr hlk hW (by decide) ⟨rfl, rfl, eqm (P := fun z => z = 0) rfl (Option.some.inj hf)⟩ (by decide) (by decide) dX3_orderIsToBack_12
  · have hf := (if_pos c1).symm.trans hf
    refine lv_iconst (v := 1) S.1 S.2.1 dX3_orderIsToBack_7 (by decide) ?_
    refine lv_goto (tgt := 12) S.1 S.2.1 dX3_orderIsToBack_8 (by decide) ?_
    exact pk_zret S hr hlk hW (by decide) ⟨rfl, rfl, eqm (P := fun z => z = 1) rfl (Option.some.inj hf)⟩ (by decide) (by decide) dX3_orderIsToBack_12
def f_X3_move (σ : CS) (x1 : Int32) : Option CS := (f_X3_orderTrack x1).bind fun z1 => (f_X3_orderIsFromBack x1).bind fun z6 => (f_X3_stepOff σ z1 z6).bind fun z11 => (f_X3_orderIsToBack x1).bind fun z16 => (f_X3_stepOn z11.2 (1 - z1) z16 z11.1).bind fun z21 => some z21
theorem mc_X3_move : MCode yX3_move cX3_move 4 none := ⟨wd_757, wd_1, by decide, by decide⟩
theorem np_X3_move : (parseMethodDescriptor yX3_move.desc).map (fun d => d.parameters.length) = some 1 := by decide +kernel
set_option maxHeartbeats 4000000 in
set_option maxRecDepth 100000 in
theorem c_X3_move {l : Launch} {D : va_G} {κ : Nat → ClassId} {ζ : Nat → Nat} {L : List Nat} {F : Nat → va_E} {σ : CS} {A : Nat → Nat} (hI : CI κ A σ L F) (x1 : Int32) {res : CS} (hf : f_X3_move σ x1 = some res) : MtV l D cls (ty5 κ) ζ yX3_move cX3_move 4 none 6 0 0 ([.ref (A 0), .int x1] : List Value) L F (fun L' F' => L = L' ∧ CI κ A res L F' ∧ FrA A F F') := by
  refine MtV.of (by decide) (Nat.le_of_ble_eq_true rfl) ?_
  intro p e s m below meth c S hr hlk _ hK hW hST ls hl
  have hl : lv_has ls 4 [(0, .ref (A 0)), (1, .int x1)] := hl
  have hFr : FrA A F F := FrA.rf
  unfold f_X3_move at hf
  refine lv_iload_n S.1 S.2.1 dX3_move_0 rfl (lv_at hl 1 rfl) ?_
  obtain ⟨z1, hz, hf⟩ := ob hf
  refine pk_cSI (As := [.int x1]) (rest := []) S hK hST hW (c_X3_orderTrack  x1 hz) mc_X3_orderTrack wd_748 wd_749 np_X3_orderTrack rfl hl.1 rfl (Nat.le_of_ble_eq_true rfl) dX3_move_1 ⟨by decide, by decide⟩ ⟨by decide, by decide⟩ (fun r L2 F3 H4 l5 hp hW => ?_)
  obtain ⟨rfl, rfl, rfl⟩ := hp
  refine lv_istore_n (lv' := [(2, .int z1), (0, .ref (A 0)), (1, .int x1)]) S.1 S.2.1 dX3_move_4 rfl hl (by decide) rfl (fun ls hl => ?_)
  refine lv_aload_n S.1 S.2.1 dX3_move_5 rfl (lv_at hl 1 rfl) ?_
  refine lv_iload_n S.1 S.2.1 dX3_move_6 rfl (lv_at hl 0 rfl) ?_
  refine lv_iload_n S.1 S.2.1 dX3_move_7 rfl (lv_at hl 2 rfl) ?_
  obtain ⟨z6, hz, hf⟩ := ob hf
  refine pk_cSI (As := [.int x1]) (rest := [.int z1, .ref (A 0)]) S hK hST hW (c_X3_orderIsFromBack  x1 hz) mc_X3_orderIsFromBack wd_751 wd_752 np_X3_orderIsFromBack rfl hl.1 rfl (Nat.le_of_ble_eq_true rfl) dX3_move_8 ⟨by decide, by decide⟩ ⟨by decide, by decide⟩ (fun r L7 F8 H9 l10 hp hW => ?_)
  obtain ⟨rfl, rfl, rfl⟩ := hp
  obtain ⟨z11, hz, hf⟩ := ob hf
  refine pk_cVI (As := [.int z1, .int z6]) (rest := []) S hK hST hW (c_X3_stepOff hI z1 z6 hz) mc_X3_stepOff wd_501 wd_503 wd_1690 rfl np_X3_stepOff (hI.mem 0 (by decide)) hI.this rfl rfl hl.1 rfl (Nat.le_of_ble_eq_true rfl) dX3_move_11 ⟨by decide, by decide⟩ ⟨by decide, by decide⟩ (fun r L12 F13 H14 l15 hp hW => ?_)
  obtain ⟨rfl, rfl, hI1, hFr1⟩ := hp
  have hI := hI1
  have hFr := hFr.tr hFr1
  refine lv_istore_n (lv' := [(3, .int z11.1), (2, .int z1), (0, .ref (A 0)), (1, .int x1)]) S.1 S.2.1 dX3_move_14 rfl hl (by decide) rfl (fun ls hl => ?_)
  refine lv_aload_n S.1 S.2.1 dX3_move_15 rfl (lv_at hl 2 rfl) ?_
  refine lv_iconst (v := 1) S.1 S.2.1 dX3_move_16 (by decide) ?_
  refine lv_iload_n S.1 S.2.1 dX3_move_17 rfl (lv_at hl 1 rfl) ?_
  refine lv_isub S.1 S.2.1 dX3_move_18 ?_
  refine lv_iload_n S.1 S.2.1 dX3_move_19 rfl (lv_at hl 3 rfl) ?_
  obtain ⟨z16, hz, hf⟩ := ob hf
  refine pk_cSI (As := [.int x1]) (rest := [.int (1 - z1), .ref (A 0)]) S hK hST hW (c_X3_orderIsToBack  x1 hz) mc_X3_orderIsToBack wd_758 wd_759 np_X3_orderIsToBack rfl hl.1 rfl (Nat.le_of_ble_eq_true rfl) dX3_move_20 ⟨by decide, by decide⟩ ⟨by decide, by decide⟩ (fun r L17 F18 H19 l20 hp hW => ?_)
  obtain ⟨rfl, rfl, rfl⟩ := hp
  refine lv_iload_n S.1 S.2.1 dX3_move_23 rfl (lv_at hl 0 rfl) ?_
  obtain ⟨z21, hz, hf⟩ := ob hf
  refine pk_cVV (As := [.int (1 - z1), .int z16, .int z11.1]) (rest := []) S hK hST hW (c_X3_stepOn hI (1 - z1) z16 z11.1 hz) mc_X3_stepOn wd_456 wd_458 wd_1687 rfl np_X3_stepOn (hI.mem 0 (by decide)) hI.this rfl rfl hl.1 rfl (Nat.le_of_ble_eq_true rfl) dX3_move_24 ⟨by decide, by decide⟩ ⟨by decide, by decide⟩ (fun L22 F23 H24 l25 hp hW => ?_)
  obtain ⟨rfl, hI1, hFr1⟩ := hp
  have hI := hI1
  have hFr := hFr.tr hFr1
  exact pk_vret S hr hlk hW ⟨rfl, eqm (P := fun z => CI κ A z L F23) hI (Option.some.inj hf), hFr⟩ (by decide) (by decide) dX3_move_27
def f_X3_work_72   (w72 : CS) (v2 : Int32) : Option (Nat ⊕ (Int32 × CS)) := some (.inr (v2, w72))
def f_X3_work_66  (k11 : (CS × Int32 × Int32 × Int32) → Option (Nat ⊕ (Int32 × CS))) (w66 : CS) (v1 : Int32) (v2 : Int32) (v3 : Int32) : Option (Nat ⊕ (Int32 × CS)) := nm (v3 + 1 : Int32) fun y1 => k11 (w66, v1, v2, y1)
def f_X3_work_11   (k11 : CS × Int32 × Int32 × Int32 → Option (Nat ⊕ (Int32 × CS))) (t : CS × Int32 × Int32 × Int32) : Option (Nat ⊕ (Int32 × CS)) := (if t.2.1 ≤ t.2.2.2 then f_X3_work_72 t.1 t.2.2.1 else (f_X0_isEmpty (cap 3) (t.1.1 3)).bind fun z3 => (if z3 = 0 then (f_X0_leave (cap 3) (t.1.1 3) 0).bind fun z9 => nm ((va_up t.1.1 3 z9.2, t.1.2) : CS) fun t14 => (f_X3_canMove t14 z9.1).bind fun z15 => (if z15 = 0 then (f_X0_enterLast (cap 3) (t14.1 3) z9.1).bind fun z21 => nm ((va_up t14.1 3 z21, t14.2) : CS) fun t26 => f_X3_work_66 k11 t26 t.2.1 t.2.2.1 t.2.2.2 else (f_X3_move t14 z9.1).bind fun z27 => nm (t.2.2.1 + 1 : Int32) fun y32 => f_X3_work_66 k11 z27 t.2.1 y32 t.2.2.2) else f_X3_work_72 t.1 t.2.2.1))
def f_X3_work (σ : CS) (x1 : Int32) : Option (Nat ⊕ (Int32 × CS)) := obx (f_X3_needWithin x1 1 10) fun z33 => lpn (f_X3_work_11 ) 64 (σ, x1, 0, 0)
theorem mc_X3_work : MCode yX3_work cX3_work 5 (some .int) := ⟨wd_743, wd_1, by decide, by decide⟩
theorem np_X3_work : (parseMethodDescriptor yX3_work.desc).map (fun d => d.parameters.length) = some 1 := by decide +kernel
set_option maxHeartbeats 4000000 in
set_option maxRecDepth 100000 in
theorem c_X3_work {l : Launch} {D : va_G} {κ : Nat → ClassId} {ζ : Nat → Nat} {L : List Nat} {F : Nat → va_E} {σ : CS} {A : Nat → Nat} (hst : l.stackTraces = false) (hI : CI κ A σ L F) (x1 : Int32) {res : (Nat ⊕ (Int32 × CS))} (hf : f_X3_work σ x1 = some res) : MxI l D cls (ty5 κ) ζ yX3_work cX3_work 5 (some .int) 8 1 6 ([.ref (A 0), .int x1] : List Value) L F (fun r L' F' => L = L' ∧ ∃ z, res = .inr z ∧ z.1 = r ∧ CI κ A z.2 L F' ∧ FrA A F F') (fun E => ∃ k, res = .inl k ∧ E = xName k) := by
  refine MxI.of (by decide) (Nat.le_of_ble_eq_true rfl) ?_
  intro p e s m below meth c S hr hlk hxt hK hW hST ls hl
  have hl : lv_has ls 5 [(0, .ref (A 0)), (1, .int x1)] := hl
  have hFr : FrA A F F := FrA.rf
  have B72 : ∀   (w72 : CS) (v2 : Int32), f_X3_work_72 w72 v2 = some res → ∀ (G72 : Nat → va_E), CI κ A w72 L G72 → FrA A F G72 → ∀ (H72 : Heap) (l72 : List Loc) (ls : Array Slot), HW D cls L s H72 l72 L G72 → lv_has ls 5 [(2, .int v2)] → W p l e (Rm 8 1 6) s m ([.ref (A 0), .int x1] : List Value).toArray below meth c H72 l72 1 6 (ExI D cls s below ([.ref (A 0), .int x1] : List Value).toArray 1 6 L F (fun r L' F' => L = L' ∧ ∃ z, res = .inr z ∧ z.1 = r ∧ CI κ A z.2 L F' ∧ FrA A F F') (fun E => ∃ k, res = .inl k ∧ E = xName k)) (F0 m 72 ls []) := by
    intro w72 v2 hf G72 hI hFr H72 l72 ls hW hl
    unfold f_X3_work_72 at hf
    refine lv_iload_n S.1 S.2.1 dX3_work_72 rfl (lv_at hl 0 rfl) ?_
    exact xk_iret S hr hlk hW ⟨rfl, _, (Option.some.inj hf).symm, rfl, hI, hFr⟩ (by decide) (by decide) dX3_work_73
  have B66 : ∀ (k11 : (CS × Int32 × Int32 × Int32) → Option (Nat ⊕ (Int32 × CS))) (hk11 : (∀ (w11 : CS) (v1 : Int32) (v2 : Int32) (v3 : Int32), k11 (w11, v1, v2, v3) = some res → ∀ (G11 : Nat → va_E), CI κ A w11 L G11 → FrA A F G11 → ∀ (H11 : Heap) (l11 : List Loc) (ls : Array Slot), HW D cls L s H11 l11 L G11 → lv_has ls 5 [(0, .ref (A 0)), (1, .int v1), (2, .int v2), (3, .int v3)] → W p l e (Rm 8 1 6) s m ([.ref (A 0), .int x1] : List Value).toArray below meth c H11 l11 1 6 (ExI D cls s below ([.ref (A 0), .int x1] : List Value).toArray 1 6 L F (fun r L' F' => L = L' ∧ ∃ z, res = .inr z ∧ z.1 = r ∧ CI κ A z.2 L F' ∧ FrA A F F') (fun E => ∃ k, res = .inl k ∧ E = xName k)) (F0 m 11 ls []))) (w66 : CS) (v1 : Int32) (v2 : Int32) (v3 : Int32), f_X3_work_66 k11 w66 v1 v2 v3 = some res → ∀ (G66 : Nat → va_E), CI κ A w66 L G66 → FrA A F G66 → ∀ (H66 : Heap) (l66 : List Loc) (ls : Array Slot), HW D cls L s H66 l66 L G66 → lv_has ls 5 [(0, .ref (A 0)), (1, .int v1), (2, .int v2), (3, .int v3)] → W p l e (Rm 8 1 6) s m ([.ref (A 0), .int x1] : List Value).toArray below meth c H66 l66 1 6 (ExI D cls s below ([.ref (A 0), .int x1] : List Value).toArray 1 6 L F (fun r L' F' => L = L' ∧ ∃ z, res = .inr z ∧ z.1 = r ∧ CI κ A z.2 L F' ∧ FrA A F F') (fun E => ∃ k, res = .inl k ∧ E = xName k)) (F0 m 66 ls []) := by
    intro k11 hk11 w66 v1 v2 v3 hf G66 hI hFr H66 l66 ls hW hl
    unfold f_X3_work_66 at hf
    obtain ⟨y1, ey1⟩ : ∃ y : Int32, y = v3 + 1 := ⟨_, rfl⟩
    have hf := nm_at hf ey1
    refine lv_iinc (v := y1) (lv' := [(3, .int y1), (0, .ref (A 0)), (1, .int v1), (2, .int v2)]) S.1 S.2.1 dX3_work_66 hl (k := 3) rfl (by rw [ey1]; rfl) (by decide) rfl (fun ls hl => ?_)
    refine lv_goto (tgt := 11) S.1 S.2.1 dX3_work_69 (by decide) ?_
    exact hk11 w66 v1 v2 y1 hf G66 hI hFr _ _ _ hW (lv_sub hl [1, 2, 3, 0] rfl)
  have B11 : ∀ (N : Nat), (∀ (w11 : CS) (v1 : Int32) (v2 : Int32) (v3 : Int32), (lpn (f_X3_work_11 ) N) (w11, v1, v2, v3) = some res → ∀ (G11 : Nat → va_E), CI κ A w11 L G11 → FrA A F G11 → ∀ (H11 : Heap) (l11 : List Loc) (ls : Array Slot), HW D cls L s H11 l11 L G11 → lv_has ls 5 [(0, .ref (A 0)), (1, .int v1), (2, .int v2), (3, .int v3)] → W p l e (Rm 8 1 6) s m ([.ref (A 0), .int x1] : List Value).toArray below meth c H11 l11 1 6 (ExI D cls s below ([.ref (A 0), .int x1] : List Value).toArray 1 6 L F (fun r L' F' => L = L' ∧ ∃ z, res = .inr z ∧ z.1 = r ∧ CI κ A z.2 L F' ∧ FrA A F F') (fun E => ∃ k, res = .inl k ∧ E = xName k)) (F0 m 11 ls [])) := by
    intro  N
    induction N with
    | zero => intro w11 v1 v2 v3 hf G11 hI hFr H11 l11 ls hW hl; cases hf
    | succ N ih =>
      intro w11 v1 v2 v3 hf G11 hI hFr H11 l11 ls hW hl
      have hf : f_X3_work_11 (lpn (f_X3_work_11 ) N) (w11, v1, v2, v3) = some res := hf
      generalize lpn (f_X3_work_11 ) N = k11 at hf ih
      have hk11 := ih
      unfold f_X3_work_11 at hf
      try dsimp only at hf
      refine lv_iload_n S.1 S.2.1 dX3_work_11 rfl (lv_at hl 3 rfl) ?_
      refine lv_iload_n S.1 S.2.1 dX3_work_12 rfl (lv_at hl 1 rfl) ?_
      refine lv_icmp_ge (tgt := 72) S.1 S.2.1 dX3_work_13 (by decide) (fun c2 => ?_) (fun c2 => ?_)
      · have hf := (if_pos c2).symm.trans hf
        exact B72  w11 v2 hf G11 hI hFr _ _ _ hW (lv_sub hl [2] rfl)
      · have hf := (if_neg c2).symm.trans hf
        refine lv_aload_n S.1 S.2.1 dX3_work_16 rfl (lv_at hl 0 rfl) ?_
        refine pk_get S hK hW 3 (hI.mem 0 (by decide)) hI.this rfl hinX3 (by decide) wd_83 rfl dX3_work_17 ?_
        obtain ⟨z3, hz, hf⟩ := ob hf
        refine pk_cVI (As := []) (rest := []) S hK hST hW (c_X0_isEmpty (hI.row (by decide : 3 < 7))  hz) mc_X0_isEmpty wd_107 wd_108 wd_109 rfl np_X0_isEmpty (hI.mem _ (by have := (by decide : 3 < 7); omega)) (hI.rowH (by decide : 3 < 7)) rfl rfl hl.1 rfl (Nat.le_of_ble_eq_true rfl) dX3_work_20 ⟨by decide, by decide⟩ ⟨by decide, by decide⟩ (fun r L4 F5 H6 l7 hp hW => ?_)
        obtain ⟨rfl, rfl, rfl⟩ := hp
        refine lv_if_ne (tgt := 72) S.1 S.2.1 dX3_work_23 (by decide) (fun c8 => ?_) (fun c8 => ?_)
        · have hf := (if_neg c8).symm.trans hf
          exact B72  w11 v2 hf G11 hI hFr _ _ _ hW (lv_sub hl [2] rfl)
        · have hf := (if_pos c8).symm.trans hf
          refine lv_aload_n S.1 S.2.1 dX3_work_26 rfl (lv_at hl 0 rfl) ?_
          refine pk_get S hK hW 3 (hI.mem 0 (by decide)) hI.this rfl hinX3 (by decide) wd_83 rfl dX3_work_27 ?_
          refine lv_iconst (v := 0) S.1 S.2.1 dX3_work_30 (by decide) ?_
          obtain ⟨z9, hz, hf⟩ := ob hf
          refine pk_cVI (As := [.int 0]) (rest := []) S hK hST hW (c_X0_leave (hI.row (by decide : 3 < 7)) 0 hz) mc_X0_leave wd_115 wd_116 wd_117 rfl np_X0_leave (hI.mem _ (by have := (by decide : 3 < 7); omega)) (hI.rowH (by decide : 3 < 7)) rfl rfl hl.1 rfl (Nat.le_of_ble_eq_true rfl) dX3_work_31 ⟨by decide, by decide⟩ ⟨by decide, by decide⟩ (fun r L10 F11 H12 l13 hp hW => ?_)
          obtain ⟨rfl, rfl, hI1, hFr1⟩ := hp
          have hFr := hFr.tr (FrA.row (by decide : 3 < 7) hFr1)
          have hI := hI.setRow (by decide : 3 < 7) hI1 hFr1
          obtain ⟨t14, et14, hf⟩ := nm_ok hf
          have hI := eqm (P := fun w => CI κ A w L F11) hI et14.symm
          refine lv_istore (lv' := [(4, .int z9.1), (0, .ref (A 0)), (1, .int v1), (2, .int v2), (3, .int v3)]) S.1 S.2.1 dX3_work_34 hl (by decide) rfl (fun ls hl => ?_)
          refine lv_aload_n S.1 S.2.1 dX3_work_36 rfl (lv_at hl 1 rfl) ?_
          refine lv_iload S.1 S.2.1 dX3_work_37 (lv_at hl 0 rfl) ?_
          obtain ⟨z15, hz, hf⟩ := ob hf
          refine pk_cVI (As := [.int z9.1]) (rest := []) S hK hST hW (c_X3_canMove hI z9.1 hz) mc_X3_canMove wd_744 wd_746 wd_1695 rfl np_X3_canMove (hI.mem 0 (by decide)) hI.this rfl rfl hl.1 rfl (Nat.le_of_ble_eq_true rfl) dX3_work_39 ⟨by decide, by decide⟩ ⟨by decide, by decide⟩ (fun r L16 F17 H18 l19 hp hW => ?_)
          obtain ⟨rfl, rfl, rfl⟩ := hp
          refine lv_if_eq (tgt := 57) S.1 S.2.1 dX3_work_42 (by decide) (fun c20 => ?_) (fun c20 => ?_)
          · have hf := (if_pos c20).symm.trans hf
            refine lv_aload_n S.1 S.2.1 dX3_work_57 rfl (lv_at hl 1 rfl) ?_
            refine pk_get S hK hW 3 (hI.mem 0 (by decide)) hI.this rfl hinX3 (by decide) wd_83 rfl dX3_work_58 ?_
            refine lv_iload S.1 S.2.1 dX3_work_61 (lv_at hl 0 rfl) ?_
            obtain ⟨z21, hz, hf⟩ := ob hf
            refine pk_cVV (As := [.int z9.1]) (rest := []) S hK hST hW (c_X0_enterLast (hI.row (by decide : 3 < 7)) z9.1 hz) mc_X0_enterLast wd_307 wd_252 wd_253 rfl np_X0_enterLast (hI.mem _ (by have := (by decide : 3 < 7); omega)) (hI.rowH (by decide : 3 < 7)) rfl rfl hl.1 rfl (Nat.le_of_ble_eq_true rfl) dX3_work_63 ⟨by decide, by decide⟩ ⟨by decide, by decide⟩ (fun L22 F23 H24 l25 hp hW => ?_)
            obtain ⟨rfl, hI1, hFr1⟩ := hp
            have hFr := hFr.tr (FrA.row (by decide : 3 < 7) hFr1)
            have hI := hI.setRow (by decide : 3 < 7) hI1 hFr1
            obtain ⟨t26, et26, hf⟩ := nm_ok hf
            have hI := eqm (P := fun w => CI κ A w L F23) hI et26.symm
            exact B66 k11 hk11 t26 v1 v2 v3 hf F23 hI hFr _ _ _ hW (lv_sub hl [1, 2, 3, 4] rfl)
          · have hf := (if_neg c20).symm.trans hf
            refine lv_aload_n S.1 S.2.1 dX3_work_45 rfl (lv_at hl 1 rfl) ?_
            refine lv_iload S.1 S.2.1 dX3_work_46 (lv_at hl 0 rfl) ?_
            obtain ⟨z27, hz, hf⟩ := ob hf
            refine pk_cVV (As := [.int z9.1]) (rest := []) S hK hST hW (c_X3_move hI z9.1 hz) mc_X3_move wd_754 wd_756 wd_1696 rfl np_X3_move (hI.mem 0 (by decide)) hI.this rfl rfl hl.1 rfl (Nat.le_of_ble_eq_true rfl) dX3_work_48 ⟨by decide, by decide⟩ ⟨by decide, by decide⟩ (fun L28 F29 H30 l31 hp hW => ?_)
            obtain ⟨rfl, hI1, hFr1⟩ := hp
            have hI := hI1
            have hFr := hFr.tr hFr1
            obtain ⟨y32, ey32⟩ : ∃ y : Int32, y = v2 + 1 := ⟨_, rfl⟩
            have hf := nm_at hf ey32
            refine lv_iinc (v := y32) (lv' := [(2, .int y32), (4, .int z9.1), (0, .ref (A 0)), (1, .int v1), (3, .int v3)]) S.1 S.2.1 dX3_work_51 hl (k := 3) rfl (by rw [ey32]; rfl) (by decide) rfl (fun ls hl => ?_)
            refine lv_goto (tgt := 66) S.1 S.2.1 dX3_work_54 (by decide) ?_
            exact B66 k11 hk11 z27 v1 y32 v3 hf F29 hI hFr _ _ _ hW (lv_sub hl [2, 3, 0, 4] rfl)
  unfold f_X3_work at hf
  refine lv_iload_n S.1 S.2.1 dX3_work_0 rfl (lv_at hl 1 rfl) ?_
  refine lv_iconst (v := 1) S.1 S.2.1 dX3_work_1 (by decide) ?_
  refine lv_bipush (v := 10) S.1 S.2.1 dX3_work_2 (by decide) ?_
  obtain ⟨z1, hz, hxl, hxr⟩ := obx_ok hf
  refine xk_cSV (As := [.int x1, .int 1, .int 10]) (rest := []) S hK hST hW (c_X3_needWithin hst  x1 1 10 hz) mc_X3_needWithin wd_416 wd_417 np_X3_needWithin rfl hl.1 rfl (Nat.le_of_ble_eq_true rfl) dX3_work_4 ⟨by decide, by decide⟩ ⟨by decide, by decide⟩ (fun E ce q9 H36 l37 hE hW h1 h2 h3 => ?_) (fun L34 F35 H36 l37 hp hW => ?_)
  · obtain ⟨k, hk1, hk2⟩ := hE
    exact xk_outI hxt hlk hW ⟨k, hxl k hk1, hk2⟩ h1 h2 h3 (by decide) (by decide)
  obtain ⟨rfl, rfl, z33, hz1⟩ := hp
  have hf := hxr z33 hz1
  refine lv_iconst (v := 0) S.1 S.2.1 dX3_work_7 (by decide) ?_
  refine lv_istore_n (lv' := [(2, .int 0), (0, .ref (A 0)), (1, .int x1)]) S.1 S.2.1 dX3_work_8 rfl hl (by decide) rfl (fun ls hl => ?_)
  refine lv_iconst (v := 0) S.1 S.2.1 dX3_work_9 (by decide) ?_
  refine lv_istore_n (lv' := [(3, .int 0), (2, .int 0), (0, .ref (A 0)), (1, .int x1)]) S.1 S.2.1 dX3_work_10 rfl hl (by decide) rfl (fun ls hl => ?_)
  exact B11  64 σ x1 0 0 hf F hI hFr _ _ _ hW (lv_sub hl [2, 3, 1, 0] rfl)
def f_X3_cancel (σ : CS) (x1 : Int32) (x2 : Int32) : Option (Nat ⊕ (Int32 × CS)) := obx (f_X3_needWithin x1 0 7) fun z1 => (f_X0_placeOf (cap 3) (σ.1 3) x1 x2).bind fun z6 => (if z6 = ((-1)) then some (.inr (0, σ)) else (f_X0_leave (cap 3) (σ.1 3) z6).bind fun z12 => nm ((va_up σ.1 3 z12.2, σ.2) : CS) fun t17 => some (.inr (1, t17)))
theorem mc_X3_cancel : MCode yX3_cancel cX3_cancel 4 (some .boolean) := ⟨wd_766, wd_1, by decide, by decide⟩
theorem np_X3_cancel : (parseMethodDescriptor yX3_cancel.desc).map (fun d => d.parameters.length) = some 2 := by decide +kernel
set_option maxHeartbeats 4000000 in
set_option maxRecDepth 100000 in
theorem c_X3_cancel {l : Launch} {D : va_G} {κ : Nat → ClassId} {ζ : Nat → Nat} {L : List Nat} {F : Nat → va_E} {σ : CS} {A : Nat → Nat} (hst : l.stackTraces = false) (hI : CI κ A σ L F) (x1 : Int32) (x2 : Int32) {res : (Nat ⊕ (Int32 × CS))} (hf : f_X3_cancel σ x1 x2 = some res) : MxI l D cls (ty5 κ) ζ yX3_cancel cX3_cancel 4 (some .boolean) 8 1 6 ([.ref (A 0), .int x1, .int x2] : List Value) L F (fun r L' F' => L = L' ∧ ∃ z, res = .inr z ∧ z.1 = r ∧ CI κ A z.2 L F' ∧ FrA A F F') (fun E => ∃ k, res = .inl k ∧ E = xName k) := by
  refine MxI.of (by decide) (Nat.le_of_ble_eq_true rfl) ?_
  intro p e s m below meth c S hr hlk hxt hK hW hST ls hl
  have hl : lv_has ls 4 [(0, .ref (A 0)), (1, .int x1), (2, .int x2)] := hl
  have hFr : FrA A F F := FrA.rf
  unfold f_X3_cancel at hf
  refine lv_iload_n S.1 S.2.1 dX3_cancel_0 rfl (lv_at hl 1 rfl) ?_
  refine lv_iconst (v := 0) S.1 S.2.1 dX3_cancel_1 (by decide) ?_
  refine lv_bipush (v := 7) S.1 S.2.1 dX3_cancel_2 (by decide) ?_
  obtain ⟨z1, hz, hxl, hxr⟩ := obx_ok hf
  refine xk_cSV (As := [.int x1, .int 0, .int 7]) (rest := []) S hK hST hW (c_X3_needWithin hst  x1 0 7 hz) mc_X3_needWithin wd_416 wd_417 np_X3_needWithin rfl hl.1 rfl (Nat.le_of_ble_eq_true rfl) dX3_cancel_4 ⟨by decide, by decide⟩ ⟨by decide, by decide⟩ (fun E ce q9 H4 l5 hE hW h1 h2 h3 => ?_) (fun L2 F3 H4 l5 hp hW => ?_)
  · obtain ⟨k, hk1, hk2⟩ := hE
    exact xk_outI hxt hlk hW ⟨k, hxl k hk1, hk2⟩ h1 h2 h3 (by decide) (by decide)
  obtain ⟨rfl, rfl, z1, hz1⟩ := hp
  have hf := hxr z1 hz1
  refine lv_aload_n S.1 S.2.1 dX3_cancel_7 rfl (lv_at hl 0 rfl) ?_
  refine pk_get S hK hW 3 (hI.mem 0 (by decide)) hI.this rfl hinX3 (by decide) wd_83 rfl dX3_cancel_8 ?_
  refine lv_iload_n S.1 S.2.1 dX3_cancel_11 rfl (lv_at hl 1 rfl) ?_
  refine lv_iload_n S.1 S.2.1 dX3_cancel_12 rfl (lv_at hl 2 rfl) ?_
  obtain ⟨z6, hz, hf⟩ := ob hf
  refine pk_cVI (As := [.int x1, .int x2]) (rest := []) S hK hST hW (c_X0_placeOf (hI.row (by decide : 3 < 7)) x1 x2 hz) mc_X0_placeOf wd_767 wd_768 wd_769 rfl np_X0_placeOf (hI.mem _ (by have := (by decide : 3 < 7); omega)) (hI.rowH (by decide : 3 < 7)) rfl rfl hl.1 rfl (Nat.le_of_ble_eq_true rfl) dX3_cancel_13 ⟨by decide, by decide⟩ ⟨by decide, by decide⟩ (fun r L7 F8 H9 l10 hp hW => ?_)
  obtain ⟨rfl, rfl, rfl⟩ := hp
  refine lv_istore_n (lv' := [(3, .int z6), (0, .ref (A 0)), (1, .int x1), (2, .int x2)]) S.1 S.2.1 dX3_cancel_16 rfl hl (by decide) rfl (fun ls hl => ?_)
  refine lv_iload_n S.1 S.2.1 dX3_cancel_17 rfl (lv_at hl 0 rfl) ?_
  refine lv_iconst (v := (-1)) S.1 S.2.1 dX3_cancel_18 (by decide) ?_
  refine lv_icmp_ne (tgt := 24) S.1 S.2.1 dX3_cancel_19 (by decide) (fun c11 => ?_) (fun c11 => ?_)
  · have hf := (if_neg c11).symm.trans hf
    refine lv_aload_n S.1 S.2.1 dX3_cancel_24 rfl (lv_at hl 1 rfl) ?_
    refine pk_get S hK hW 3 (hI.mem 0 (by decide)) hI.this rfl hinX3 (by decide) wd_83 rfl dX3_cancel_25 ?_
    refine lv_iload_n S.1 S.2.1 dX3_cancel_28 rfl (lv_at hl 0 rfl) ?_
    obtain ⟨z12, hz, hf⟩ := ob hf
    refine pk_cVI (As := [.int z6]) (rest := []) S hK hST hW (c_X0_leave (hI.row (by decide : 3 < 7)) z6 hz) mc_X0_leave wd_115 wd_116 wd_117 rfl np_X0_leave (hI.mem _ (by have := (by decide : 3 < 7); omega)) (hI.rowH (by decide : 3 < 7)) rfl rfl hl.1 rfl (Nat.le_of_ble_eq_true rfl) dX3_cancel_29 ⟨by decide, by decide⟩ ⟨by decide, by decide⟩ (fun r L13 F14 H15 l16 hp hW => ?_)
    obtain ⟨rfl, rfl, hI1, hFr1⟩ := hp
    have hFr := hFr.tr (FrA.row (by decide : 3 < 7) hFr1)
    have hI := hI.setRow (by decide : 3 < 7) hI1 hFr1
    obtain ⟨t17, et17, hf⟩ := nm_ok hf
    have hI := eqm (P := fun w => CI κ A w L F14) hI et17.symm
    refine lv_pop S.1 S.2.1 dX3_cancel_32 rfl ?_
    refine lv_iconst (v := 1) S.1 S.2.1 dX3_cancel_33 (by decide) ?_
    exact xk_zret S hr hlk hW (by decide) ⟨rfl, _, (Option.some.inj hf).symm, rfl, hI, hFr⟩ (by decide) (by decide) dX3_cancel_34
  · have hf := (if_pos c11).symm.trans hf
    refine lv_iconst (v := 0) S.1 S.2.1 dX3_cancel_22 (by decide) ?_
    exact xk_zret S hr hlk hW (by decide) ⟨rfl, _, (Option.some.inj hf).symm, rfl, hI, hFr⟩ (by decide) (by decide) dX3_cancel_23
def f_X3_atEnd_49 (σ : CS)  (u1 : Int32) (u2 : Int32) : Option Int32 := (f_X3_codeAtEnd σ u1 u2).bind fun z1 => some (z1)
def f_X3_atEnd_44 (σ : CS)  (u1 : Int32) : Option Int32 := f_X3_atEnd_49 σ u1 1
def f_X3_atEnd_25 (σ : CS)   : Option Int32 := some ((-9))
def f_X3_atEnd (σ : CS) (x1 : Int32) (x2 : Int32) : Option Int32 := (f_X3_trackOf σ x1).bind fun z6 => (f_X0_isEmpty (cap z6) (σ.1 z6)).bind fun z11 => (if z11 = 0 then (if x2 = 1 then f_X3_atEnd_44 σ x1 else (if x2 = 3 then f_X3_atEnd_44 σ x1 else f_X3_atEnd_49 σ x1 0)) else (if x2 = 0 then f_X3_atEnd_25 σ else (if x2 = 1 then f_X3_atEnd_25 σ else (if x2 = 4 then f_X3_atEnd_25 σ else some (0)))))
theorem mc_X3_atEnd : MCode yX3_atEnd cX3_atEnd 3 (some .int) := ⟨wd_292, wd_1, by decide, by decide⟩
theorem np_X3_atEnd : (parseMethodDescriptor yX3_atEnd.desc).map (fun d => d.parameters.length) = some 2 := by decide +kernel
set_option maxHeartbeats 4000000 in
set_option maxRecDepth 100000 in
theorem c_X3_atEnd {l : Launch} {D : va_G} {κ : Nat → ClassId} {ζ : Nat → Nat} {L : List Nat} {F : Nat → va_E} {σ : CS} {A : Nat → Nat} (hI : CI κ A σ L F) (x1 : Int32) (x2 : Int32) {res : Int32} (hf : f_X3_atEnd σ x1 x2 = some res) : MtI l D cls (ty5 κ) ζ yX3_atEnd cX3_atEnd 3 (some .int) 3 0 0 ([.ref (A 0), .int x1, .int x2] : List Value) L F (fun r L' F' => L = L' ∧ F = F' ∧ res = r) := by
  refine MtI.of (by decide) (Nat.le_of_ble_eq_true rfl) ?_
  intro p e s m below meth c S hr hlk _ hK hW hST ls hl
  have hl : lv_has ls 3 [(0, .ref (A 0)), (1, .int x1), (2, .int x2)] := hl
  have B49 : ∀   (u1 : Int32) (u2 : Int32), f_X3_atEnd_49 σ u1 u2 = some res → ∀ (H49 : Heap) (l49 : List Loc) (ls : Array Slot), HW D cls L s H49 l49 L F → lv_has ls 3 [] → W p l e (Rm 3 0 0) s m ([.ref (A 0), .int x1, .int x2] : List Value).toArray below meth c H49 l49 0 0 (EnI D cls s below ([.ref (A 0), .int x1, .int x2] : List Value).toArray 0 0 L (fun r L' F' => L = L' ∧ F = F' ∧ res = r)) (F0 m 49 ls [.int u2, .int u1, .ref (A 0)]) := by
    intro u1 u2 hf H49 l49 ls hW hl
    unfold f_X3_atEnd_49 at hf
    obtain ⟨z1, hz, hf⟩ := ob hf
    refine pk_cVI (As := [.int u1, .int u2]) (rest := []) S hK hST hW (c_X3_codeAtEnd hI u1 u2 hz) mc_X3_codeAtEnd wd_293 wd_295 wd_1676 rfl np_X3_codeAtEnd (hI.mem 0 (by decide)) hI.this rfl rfl hl.1 rfl (Nat.le_of_ble_eq_true rfl) dX3_atEnd_49 ⟨by decide, by decide⟩ ⟨by decide, by decide⟩ (fun r L2 F3 H4 l5 hp hW => ?_)
    obtain ⟨rfl, rfl, rfl⟩ := hp
    exact pk_iret S hr hlk hW ⟨rfl, rfl, eqm (P := fun z => z = z1) rfl (Option.some.inj hf)⟩ (by decide) (by decide) dX3_atEnd_52
  have B44 : ∀   (u1 : Int32), f_X3_atEnd_44 σ u1 = some res → ∀ (H44 : Heap) (l44 : List Loc) (ls : Array Slot), HW D cls L s H44 l44 L F → lv_has ls 3 [] → W p l e (Rm 3 0 0) s m ([.ref (A 0), .int x1, .int x2] : List Value).toArray below meth c H44 l44 0 0 (EnI D cls s below ([.ref (A 0), .int x1, .int x2] : List Value).toArray 0 0 L (fun r L' F' => L = L' ∧ F = F' ∧ res = r)) (F0 m 44 ls [.int u1, .ref (A 0)]) := by
    intro u1 hf H44 l44 ls hW hl
    unfold f_X3_atEnd_44 at hf
    refine lv_iconst (v := 1) S.1 S.2.1 dX3_atEnd_44 (by decide) ?_
    refine lv_goto (tgt := 49) S.1 S.2.1 dX3_atEnd_45 (by decide) ?_
    exact B49  u1 1 hf  _ _ _ hW (lv_sub hl [] rfl)
  have B25 :   f_X3_atEnd_25 σ = some res → ∀ (H25 : Heap) (l25 : List Loc) (ls : Array Slot), HW D cls L s H25 l25 L F → lv_has ls 3 [] → W p l e (Rm 3 0 0) s m ([.ref (A 0), .int x1, .int x2] : List Value).toArray below meth c H25 l25 0 0 (EnI D cls s below ([.ref (A 0), .int x1, .int x2] : List Value).toArray 0 0 L (fun r L' F' => L = L' ∧ F = F' ∧ res = r)) (F0 m 25 ls []) := by
    intro  hf H25 l25 ls hW hl
    unfold f_X3_atEnd_25 at hf
    refine lv_bipush (v := (-9)) S.1 S.2.1 dX3_atEnd_25 (by decide) ?_
    refine lv_goto (tgt := 31) S.1 S.2.1 dX3_atEnd_27 (by decide) ?_
    exact pk_iret S hr hlk hW ⟨rfl, rfl, eqm (P := fun z => z = (-9)) rfl (Option.some.inj hf)⟩ (by decide) (by decide) dX3_atEnd_31
  unfold f_X3_atEnd at hf
  refine lv_aload_n S.1 S.2.1 dX3_atEnd_0 rfl (lv_at hl 0 rfl) ?_
  refine lv_iload_n S.1 S.2.1 dX3_atEnd_1 rfl (lv_at hl 1 rfl) ?_
  obtain ⟨z6, hz, hf⟩ := ob hf
  refine pk_cVR (As := [.int x1]) (rest := []) S hK hST hW (c_X3_trackOf hI x1 hz) mc_X3_trackOf wd_130 wd_132 wd_1664 rfl np_X3_trackOf (hI.mem 0 (by decide)) hI.this rfl rfl hl.1 rfl (Nat.le_of_ble_eq_true rfl) dX3_atEnd_2 ⟨by decide, by decide⟩ ⟨by decide, by decide⟩ (fun r L7 F8 H9 l10 hp hW => ?_)
  obtain ⟨rfl, rfl, hbz6, rfl⟩ := hp
  obtain ⟨z11, hz, hf⟩ := ob hf
  refine pk_cVI (As := []) (rest := []) S hK hST hW (c_X0_isEmpty (hI.row hbz6)  hz) mc_X0_isEmpty wd_107 wd_108 wd_109 rfl np_X0_isEmpty (hI.mem _ (by have := hbz6; omega)) (hI.rowH hbz6) rfl rfl hl.1 rfl (Nat.le_of_ble_eq_true rfl) dX3_atEnd_5 ⟨by decide, by decide⟩ ⟨by decide, by decide⟩ (fun r L12 F13 H14 l15 hp hW => ?_)
  obtain ⟨rfl, rfl, rfl⟩ := hp
  refine lv_if_eq (tgt := 32) S.1 S.2.1 dX3_atEnd_8 (by decide) (fun c16 => ?_) (fun c16 => ?_)
  · have hf := (if_pos c16).symm.trans hf
    refine lv_aload_n S.1 S.2.1 dX3_atEnd_32 rfl (lv_at hl 0 rfl) ?_
    refine lv_iload_n S.1 S.2.1 dX3_atEnd_33 rfl (lv_at hl 1 rfl) ?_
    refine lv_iload_n S.1 S.2.1 dX3_atEnd_34 rfl (lv_at hl 2 rfl) ?_
    refine lv_iconst (v := 1) S.1 S.2.1 dX3_atEnd_35 (by decide) ?_
    refine lv_icmp_eq (tgt := 44) S.1 S.2.1 dX3_atEnd_36 (by decide) (fun c17 => ?_) (fun c17 => ?_)
    · have hf := (if_pos c17).symm.trans hf
      exact B44  x1 hf  _ _ _ hW (lv_sub hl [] rfl)
    · have hf := (if_neg c17).symm.trans hf
      refine lv_iload_n S.1 S.2.1 dX3_atEnd_39 rfl (lv_at hl 2 rfl) ?_
      refine lv_iconst (v := 3) S.1 S.2.1 dX3_atEnd_40 (by decide) ?_
      refine lv_icmp_ne (tgt := 48) S.1 S.2.1 dX3_atEnd_41 (by decide) (fun c18 => ?_) (fun c18 => ?_)
      · have hf := (if_neg c18).symm.trans hf
        refine lv_iconst (v := 0) S.1 S.2.1 dX3_atEnd_48 (by decide) ?_
        exact B49  x1 0 hf  _ _ _ hW (lv_sub hl [] rfl)
      · have hf := (if_pos c18).symm.trans hf
        exact B44  x1 hf  _ _ _ hW (lv_sub hl [] rfl)
  · have hf := (if_neg c16).symm.trans hf
    refine lv_iload_n S.1 S.2.1 dX3_atEnd_11 rfl (lv_at hl 2 rfl) ?_
    refine lv_if_eq (tgt := 25) S.1 S.2.1 dX3_atEnd_12 (by decide) (fun c19 => ?_) (fun c19 => ?_)
    · have hf := (if_pos c19).symm.trans hf
      exact B25   hf  _ _ _ hW (lv_sub hl [] rfl)
    · have hf := (if_neg c19).symm.trans hf
      refine lv_iload_n S.1 S.2.1 dX3_atEnd_15 rfl (lv_at hl 2 rfl) ?_
      refine lv_iconst (v := 1) S.1 S.2.1 dX3_atEnd_16 (by decide) ?_
      refine lv_icmp_eq (tgt := 25) S.1 S.2.1 dX3_atEnd_17 (by decide) (fun c20 => ?_) (fun c20 => ?_)
      · have hf := (if_pos c20).symm.trans hf
        exact B25   hf  _ _ _ hW (lv_sub hl [] rfl)
      · have hf := (if_neg c20).symm.trans hf
        refine lv_iload_n S.1 S.2.1 dX3_atEnd_20 rfl (lv_at hl 2 rfl) ?_
        refine lv_iconst (v := 4) S.1 S.2.1 dX3_atEnd_21 (by decide) ?_
        refine lv_icmp_ne (tgt := 30) S.1 S.2.1 dX3_atEnd_22 (by decide) (fun c21 => ?_) (fun c21 => ?_)
        · have hf := (if_neg c21).symm.trans hf
          refine lv_iconst (v := 0) S.1 S.2.1 dX3_atEnd_30 (by decide) ?_
          exact pk_iret S hr hlk hW ⟨rfl, rfl, eqm (P := fun z => z = 0) rfl (Option.some.inj hf)⟩ (by decide) (by decide) dX3_atEnd_31
        · have hf := (if_pos c21).symm.trans hf
          exact B25   hf  _ _ _ hW (lv_sub hl [] rfl)
def f_X3_ask (σ : CS) (x1 : Int32) (x2 : Int32) : Option (Nat ⊕ Int32) := obx (f_X3_needTrack x1) fun z1 => obx (f_X3_needWithin x2 0 5) fun z6 => (f_X3_atEnd σ x1 x2).bind fun z11 => some (.inr z11)
theorem mc_X3_ask : MCode yX3_ask cX3_ask 3 (some .int) := ⟨wd_776, wd_1, by decide, by decide⟩
theorem np_X3_ask : (parseMethodDescriptor yX3_ask.desc).map (fun d => d.parameters.length) = some 2 := by decide +kernel
set_option maxHeartbeats 4000000 in
set_option maxRecDepth 100000 in
theorem c_X3_ask {l : Launch} {D : va_G} {κ : Nat → ClassId} {ζ : Nat → Nat} {L : List Nat} {F : Nat → va_E} {σ : CS} {A : Nat → Nat} (hst : l.stackTraces = false) (hI : CI κ A σ L F) (x1 : Int32) (x2 : Int32) {res : (Nat ⊕ Int32)} (hf : f_X3_ask σ x1 x2 = some res) : MxI l D cls (ty5 κ) ζ yX3_ask cX3_ask 3 (some .int) 8 2 12 ([.ref (A 0), .int x1, .int x2] : List Value) L F (fun r L' F' => L = L' ∧ F = F' ∧ ∃ z, res = .inr z ∧ z = r) (fun E => ∃ k, res = .inl k ∧ E = xName k) := by
  refine MxI.of (by decide) (Nat.le_of_ble_eq_true rfl) ?_
  intro p e s m below meth c S hr hlk hxt hK hW hST ls hl
  have hl : lv_has ls 3 [(0, .ref (A 0)), (1, .int x1), (2, .int x2)] := hl
  unfold f_X3_ask at hf
  refine lv_iload_n S.1 S.2.1 dX3_ask_0 rfl (lv_at hl 1 rfl) ?_
  obtain ⟨z1, hz, hxl, hxr⟩ := obx_ok hf
  refine xk_cSV (As := [.int x1]) (rest := []) S hK hST hW (c_X3_needTrack hst  x1 hz) mc_X3_needTrack wd_359 wd_360 np_X3_needTrack rfl hl.1 rfl (Nat.le_of_ble_eq_true rfl) dX3_ask_1 ⟨by decide, by decide⟩ ⟨by decide, by decide⟩ (fun E ce q9 H4 l5 hE hW h1 h2 h3 => ?_) (fun L2 F3 H4 l5 hp hW => ?_)
  · obtain ⟨k, hk1, hk2⟩ := hE
    exact xk_outI hxt hlk hW ⟨k, hxl k hk1, hk2⟩ h1 h2 h3 (by decide) (by decide)
  obtain ⟨rfl, rfl, z1, hz1⟩ := hp
  have hf := hxr z1 hz1
  refine lv_iload_n S.1 S.2.1 dX3_ask_4 rfl (lv_at hl 2 rfl) ?_
  refine lv_iconst (v := 0) S.1 S.2.1 dX3_ask_5 (by decide) ?_
  refine lv_iconst (v := 5) S.1 S.2.1 dX3_ask_6 (by decide) ?_
  obtain ⟨z1, hz, hxl, hxr⟩ := obx_ok hf
  refine xk_cSV (As := [.int x2, .int 0, .int 5]) (rest := []) S hK hST hW (c_X3_needWithin hst  x2 0 5 hz) mc_X3_needWithin wd_416 wd_417 np_X3_needWithin rfl hl.1 rfl (Nat.le_of_ble_eq_true rfl) dX3_ask_7 ⟨by decide, by decide⟩ ⟨by decide, by decide⟩ (fun E ce q9 H9 l10 hE hW h1 h2 h3 => ?_) (fun L7 F8 H9 l10 hp hW => ?_)
  · obtain ⟨k, hk1, hk2⟩ := hE
    exact xk_outI hxt hlk hW ⟨k, hxl k hk1, hk2⟩ h1 h2 h3 (by decide) (by decide)
  obtain ⟨rfl, rfl, z6, hz1⟩ := hp
  have hf := hxr z6 hz1
  refine lv_aload_n S.1 S.2.1 dX3_ask_10 rfl (lv_at hl 0 rfl) ?_
  refine lv_iload_n S.1 S.2.1 dX3_ask_11 rfl (lv_at hl 1 rfl) ?_
  refine lv_iload_n S.1 S.2.1 dX3_ask_12 rfl (lv_at hl 2 rfl) ?_
  obtain ⟨z11, hz, hf⟩ := ob hf
  refine pk_cVI (As := [.int x1, .int x2]) (rest := []) S hK hST hW (c_X3_atEnd hI x1 x2 hz) mc_X3_atEnd wd_289 wd_291 wd_1675 rfl np_X3_atEnd (hI.mem 0 (by decide)) hI.this rfl rfl hl.1 rfl (Nat.le_of_ble_eq_true rfl) dX3_ask_13 ⟨by decide, by decide⟩ ⟨by decide, by decide⟩ (fun r L12 F13 H14 l15 hp hW => ?_)
  obtain ⟨rfl, rfl, rfl⟩ := hp
  exact xk_iret S hr hlk hW ⟨rfl, rfl, _, (Option.some.inj hf).symm, rfl⟩ (by decide) (by decide) dX3_ask_16
def f_X3_sumOfLoads_4 (σ : CS)  (k4 : Nat × Int32 × Int32 → Option Int32) (t : Nat × Int32 × Int32) : Option Int32 := (f_X0_size (cap t.1) (σ.1 t.1)).bind fun z1 => (if z1 ≤ t.2.2 then some (t.2.1) else (f_X0_read (cap t.1) (σ.1 t.1) t.2.2).bind fun z7 => (f_X3_loadOf z7).bind fun z12 => nm (t.2.1 + z12 : Int32) fun y17 => nm (t.2.2 + 1 : Int32) fun y18 => k4 (t.1, y17, y18))
def f_X3_sumOfLoads (σ : CS) (x1 : Nat) : Option Int32 := lpn (f_X3_sumOfLoads_4 σ) 64 (x1, 0, 0)
theorem mc_X3_sumOfLoads : MCode yX3_sumOfLoads cX3_sumOfLoads 3 (some .int) := ⟨wd_278, wd_1, by decide, by decide⟩
theorem np_X3_sumOfLoads : (parseMethodDescriptor yX3_sumOfLoads.desc).map (fun d => d.parameters.length) = some 1 := by decide +kernel
set_option maxHeartbeats 4000000 in
set_option maxRecDepth 100000 in
theorem c_X3_sumOfLoads {l : Launch} {D : va_G} {κ : Nat → ClassId} {ζ : Nat → Nat} {L : List Nat} {F : Nat → va_E} {σ : CS} {A : Nat → Nat} (hI : CI κ A σ L F) (x1 : Nat) (hx1 : x1 < 7) {res : Int32} (hf : f_X3_sumOfLoads σ x1 = some res) : MtI l D cls (ty5 κ) ζ yX3_sumOfLoads cX3_sumOfLoads 3 (some .int) 2 0 0 ([.ref (A (1 + 2 * x1))] : List Value) L F (fun r L' F' => L = L' ∧ F = F' ∧ res = r) := by
  refine MtI.of (by decide) (Nat.le_of_ble_eq_true rfl) ?_
  intro p e s m below meth c S hr hlk _ hK hW hST ls hl
  have hl : lv_has ls 3 [(0, .ref (A (1 + 2 * x1)))] := hl
  have B4 : ∀ (N : Nat), (∀ (v0 : Nat) (v1 : Int32) (v2 : Int32), (lpn (f_X3_sumOfLoads_4 σ) N) (v0, v1, v2) = some res → v0 < 7 → ∀ (H4 : Heap) (l4 : List Loc) (ls : Array Slot), HW D cls L s H4 l4 L F → lv_has ls 3 [(0, .ref (A (1 + 2 * v0))), (1, .int v1), (2, .int v2)] → W p l e (Rm 2 0 0) s m ([.ref (A (1 + 2 * x1))] : List Value).toArray below meth c H4 l4 0 0 (EnI D cls s below ([.ref (A (1 + 2 * x1))] : List Value).toArray 0 0 L (fun r L' F' => L = L' ∧ F = F' ∧ res = r)) (F0 m 4 ls [])) := by
    intro  N
    induction N with
    | zero => intro v0 v1 v2 hf hv0 H4 l4 ls hW hl; cases hf
    | succ N ih =>
      intro v0 v1 v2 hf hv0 H4 l4 ls hW hl
      have hf : f_X3_sumOfLoads_4 σ (lpn (f_X3_sumOfLoads_4 σ) N) (v0, v1, v2) = some res := hf
      generalize lpn (f_X3_sumOfLoads_4 σ) N = k4 at hf ih
      have hk4 := ih
      unfold f_X3_sumOfLoads_4 at hf
      try dsimp only at hf
      refine lv_iload_n S.1 S.2.1 dX3_sumOfLoads_4 rfl (lv_at hl 2 rfl) ?_
      refine lv_aload_n S.1 S.2.1 dX3_sumOfLoads_5 rfl (lv_at hl 0 rfl) ?_
      obtain ⟨z1, hz, hf⟩ := ob hf
      refine pk_cVI (As := []) (rest := [.int v2]) S hK hST hW (c_X0_size (hI.row hv0)  hz) mc_X0_size wd_140 wd_141 wd_142 rfl np_X0_size (hI.mem _ (by have := hv0; omega)) (hI.rowH hv0) rfl rfl hl.1 rfl (Nat.le_of_ble_eq_true rfl) dX3_sumOfLoads_6 ⟨by decide, by decide⟩ ⟨by decide, by decide⟩ (fun r L2 F3 H4 l5 hp hW => ?_)
      obtain ⟨rfl, rfl, rfl⟩ := hp
      refine lv_icmp_ge (tgt := 29) S.1 S.2.1 dX3_sumOfLoads_9 (by decide) (fun c6 => ?_) (fun c6 => ?_)
      · have hf := (if_pos c6).symm.trans hf
        refine lv_iload_n S.1 S.2.1 dX3_sumOfLoads_29 rfl (lv_at hl 1 rfl) ?_
        exact pk_iret S hr hlk hW ⟨rfl, rfl, eqm (P := fun z => z = v1) rfl (Option.some.inj hf)⟩ (by decide) (by decide) dX3_sumOfLoads_30
      · have hf := (if_neg c6).symm.trans hf
        refine lv_iload_n S.1 S.2.1 dX3_sumOfLoads_12 rfl (lv_at hl 1 rfl) ?_
        refine lv_aload_n S.1 S.2.1 dX3_sumOfLoads_13 rfl (lv_at hl 0 rfl) ?_
        refine lv_iload_n S.1 S.2.1 dX3_sumOfLoads_14 rfl (lv_at hl 2 rfl) ?_
        obtain ⟨z7, hz, hf⟩ := ob hf
        refine pk_cVI (As := [.int v2]) (rest := [.int v1]) S hK hST hW (c_X0_read (hI.row hv0) v2 hz) mc_X0_read wd_171 wd_120 wd_121 rfl np_X0_read (hI.mem _ (by have := hv0; omega)) (hI.rowH hv0) rfl rfl hl.1 rfl (Nat.le_of_ble_eq_true rfl) dX3_sumOfLoads_15 ⟨by decide, by decide⟩ ⟨by decide, by decide⟩ (fun r L8 F9 H10 l11 hp hW => ?_)
        obtain ⟨rfl, rfl, rfl⟩ := hp
        obtain ⟨z12, hz, hf⟩ := ob hf
        refine pk_cSI (As := [.int z7]) (rest := [.int v1]) S hK hST hW (c_X3_loadOf  z7 hz) mc_X3_loadOf wd_279 wd_280 np_X3_loadOf rfl hl.1 rfl (Nat.le_of_ble_eq_true rfl) dX3_sumOfLoads_18 ⟨by decide, by decide⟩ ⟨by decide, by decide⟩ (fun r L13 F14 H15 l16 hp hW => ?_)
        obtain ⟨rfl, rfl, rfl⟩ := hp
        refine lv_iadd S.1 S.2.1 dX3_sumOfLoads_21 ?_
        refine lv_topi (fun y17 ey17 => ?_)
        have hf := nm_at hf ey17
        refine lv_istore_n (lv' := [(1, .int y17), (0, .ref (A (1 + 2 * v0))), (2, .int v2)]) S.1 S.2.1 dX3_sumOfLoads_22 rfl hl (by decide) rfl (fun ls hl => ?_)
        obtain ⟨y18, ey18⟩ : ∃ y : Int32, y = v2 + 1 := ⟨_, rfl⟩
        have hf := nm_at hf ey18
        refine lv_iinc (v := y18) (lv' := [(2, .int y18), (1, .int y17), (0, .ref (A (1 + 2 * v0)))]) S.1 S.2.1 dX3_sumOfLoads_23 hl (k := 2) rfl (by rw [ey18]; rfl) (by decide) rfl (fun ls hl => ?_)
        refine lv_goto (tgt := 4) S.1 S.2.1 dX3_sumOfLoads_26 (by decide) ?_
        exact hk4 v0 y17 y18 hf hv0 _ _ _ hW (lv_sub hl [2, 1, 0] rfl)
  unfold f_X3_sumOfLoads at hf
  refine lv_iconst (v := 0) S.1 S.2.1 dX3_sumOfLoads_0 (by decide) ?_
  refine lv_istore_n (lv' := [(1, .int 0), (0, .ref (A (1 + 2 * x1)))]) S.1 S.2.1 dX3_sumOfLoads_1 rfl hl (by decide) rfl (fun ls hl => ?_)
  refine lv_iconst (v := 0) S.1 S.2.1 dX3_sumOfLoads_2 (by decide) ?_
  refine lv_istore_n (lv' := [(2, .int 0), (1, .int 0), (0, .ref (A (1 + 2 * x1)))]) S.1 S.2.1 dX3_sumOfLoads_3 rfl hl (by decide) rfl (fun ls hl => ?_)
  exact B4  64 x1 0 0 hf hx1 _ _ _ hW (lv_sub hl [2, 1, 0] rfl)
def f_X3_sealOf_4 (σ : CS)  (k4 : Nat × Int32 × Int32 → Option Int32) (t : Nat × Int32 × Int32) : Option Int32 := (f_X0_size (cap t.1) (σ.1 t.1)).bind fun z1 => (if z1 ≤ t.2.2 then some (t.2.1) else (f_X0_read (cap t.1) (σ.1 t.1) t.2.2).bind fun z7 => (f_X3_kindOf z7).bind fun z12 => nm ((31 * t.2.1) + z12 : Int32) fun y17 => nm (t.2.2 + 1 : Int32) fun y18 => k4 (t.1, y17, y18))
def f_X3_sealOf (σ : CS) (x1 : Nat) : Option Int32 := lpn (f_X3_sealOf_4 σ) 64 (x1, 1, 0)
theorem mc_X3_sealOf : MCode yX3_sealOf cX3_sealOf 3 (some .int) := ⟨wd_284, wd_1, by decide, by decide⟩
theorem np_X3_sealOf : (parseMethodDescriptor yX3_sealOf.desc).map (fun d => d.parameters.length) = some 1 := by decide +kernel
set_option maxHeartbeats 4000000 in
set_option maxRecDepth 100000 in
theorem c_X3_sealOf {l : Launch} {D : va_G} {κ : Nat → ClassId} {ζ : Nat → Nat} {L : List Nat} {F : Nat → va_E} {σ : CS} {A : Nat → Nat} (hI : CI κ A σ L F) (x1 : Nat) (hx1 : x1 < 7) {res : Int32} (hf : f_X3_sealOf σ x1 = some res) : MtI l D cls (ty5 κ) ζ yX3_sealOf cX3_sealOf 3 (some .int) 2 0 0 ([.ref (A (1 + 2 * x1))] : List Value) L F (fun r L' F' => L = L' ∧ F = F' ∧ res = r) := by
  refine MtI.of (by decide) (Nat.le_of_ble_eq_true rfl) ?_
  intro p e s m below meth c S hr hlk _ hK hW hST ls hl
  have hl : lv_has ls 3 [(0, .ref (A (1 + 2 * x1)))] := hl
  have B4 : ∀ (N : Nat), (∀ (v0 : Nat) (v1 : Int32) (v2 : Int32), (lpn (f_X3_sealOf_4 σ) N) (v0, v1, v2) = some res → v0 < 7 → ∀ (H4 : Heap) (l4 : List Loc) (ls : Array Slot), HW D cls L s H4 l4 L F → lv_has ls 3 [(0, .ref (A (1 + 2 * v0))), (1, .int v1), (2, .int v2)] → W p l e (Rm 2 0 0) s m ([.ref (A (1 + 2 * x1))] : List Value).toArray below meth c H4 l4 0 0 (EnI D cls s below ([.ref (A (1 + 2 * x1))] : List Value).toArray 0 0 L (fun r L' F' => L = L' ∧ F = F' ∧ res = r)) (F0 m 4 ls [])) := by
    intro  N
    induction N with
    | zero => intro v0 v1 v2 hf hv0 H4 l4 ls hW hl; cases hf
    | succ N ih =>
      intro v0 v1 v2 hf hv0 H4 l4 ls hW hl
      have hf : f_X3_sealOf_4 σ (lpn (f_X3_sealOf_4 σ) N) (v0, v1, v2) = some res := hf
      generalize lpn (f_X3_sealOf_4 σ) N = k4 at hf ih
      have hk4 := ih
      unfold f_X3_sealOf_4 at hf
      try dsimp only at hf
      refine lv_iload_n S.1 S.2.1 dX3_sealOf_4 rfl (lv_at hl 2 rfl) ?_
      refine lv_aload_n S.1 S.2.1 dX3_sealOf_5 rfl (lv_at hl 0 rfl) ?_
      obtain ⟨z1, hz, hf⟩ := ob hf
      refine pk_cVI (As := []) (rest := [.int v2]) S hK hST hW (c_X0_size (hI.row hv0)  hz) mc_X0_size wd_140 wd_141 wd_142 rfl np_X0_size (hI.mem _ (by have := hv0; omega)) (hI.rowH hv0) rfl rfl hl.1 rfl (Nat.le_of_ble_eq_true rfl) dX3_sealOf_6 ⟨by decide, by decide⟩ ⟨by decide, by decide⟩ (fun r L2 F3 H4 l5 hp hW => ?_)
      obtain ⟨rfl, rfl, rfl⟩ := hp
      refine lv_icmp_ge (tgt := 32) S.1 S.2.1 dX3_sealOf_9 (by decide) (fun c6 => ?_) (fun c6 => ?_)
      · have hf := (if_pos c6).symm.trans hf
        refine lv_iload_n S.1 S.2.1 dX3_sealOf_32 rfl (lv_at hl 1 rfl) ?_
        exact pk_iret S hr hlk hW ⟨rfl, rfl, eqm (P := fun z => z = v1) rfl (Option.some.inj hf)⟩ (by decide) (by decide) dX3_sealOf_33
      · have hf := (if_neg c6).symm.trans hf
        refine lv_bipush (v := 31) S.1 S.2.1 dX3_sealOf_12 (by decide) ?_
        refine lv_iload_n S.1 S.2.1 dX3_sealOf_14 rfl (lv_at hl 1 rfl) ?_
        refine lv_imul S.1 S.2.1 dX3_sealOf_15 ?_
        refine lv_aload_n S.1 S.2.1 dX3_sealOf_16 rfl (lv_at hl 0 rfl) ?_
        refine lv_iload_n S.1 S.2.1 dX3_sealOf_17 rfl (lv_at hl 2 rfl) ?_
        obtain ⟨z7, hz, hf⟩ := ob hf
        refine pk_cVI (As := [.int v2]) (rest := [.int (31 * v1)]) S hK hST hW (c_X0_read (hI.row hv0) v2 hz) mc_X0_read wd_171 wd_120 wd_121 rfl np_X0_read (hI.mem _ (by have := hv0; omega)) (hI.rowH hv0) rfl rfl hl.1 rfl (Nat.le_of_ble_eq_true rfl) dX3_sealOf_18 ⟨by decide, by decide⟩ ⟨by decide, by decide⟩ (fun r L8 F9 H10 l11 hp hW => ?_)
        obtain ⟨rfl, rfl, rfl⟩ := hp
        obtain ⟨z12, hz, hf⟩ := ob hf
        refine pk_cSI (As := [.int z7]) (rest := [.int (31 * v1)]) S hK hST hW (c_X3_kindOf  z7 hz) mc_X3_kindOf wd_175 wd_176 np_X3_kindOf rfl hl.1 rfl (Nat.le_of_ble_eq_true rfl) dX3_sealOf_21 ⟨by decide, by decide⟩ ⟨by decide, by decide⟩ (fun r L13 F14 H15 l16 hp hW => ?_)
        obtain ⟨rfl, rfl, rfl⟩ := hp
        refine lv_iadd S.1 S.2.1 dX3_sealOf_24 ?_
        refine lv_topi (fun y17 ey17 => ?_)
        have hf := nm_at hf ey17
        refine lv_istore_n (lv' := [(1, .int y17), (0, .ref (A (1 + 2 * v0))), (2, .int v2)]) S.1 S.2.1 dX3_sealOf_25 rfl hl (by decide) rfl (fun ls hl => ?_)
        obtain ⟨y18, ey18⟩ : ∃ y : Int32, y = v2 + 1 := ⟨_, rfl⟩
        have hf := nm_at hf ey18
        refine lv_iinc (v := y18) (lv' := [(2, .int y18), (1, .int y17), (0, .ref (A (1 + 2 * v0)))]) S.1 S.2.1 dX3_sealOf_26 hl (k := 2) rfl (by rw [ey18]; rfl) (by decide) rfl (fun ls hl => ?_)
        refine lv_goto (tgt := 4) S.1 S.2.1 dX3_sealOf_29 (by decide) ?_
        exact hk4 v0 y17 y18 hf hv0 _ _ _ hW (lv_sub hl [2, 1, 0] rfl)
  unfold f_X3_sealOf at hf
  refine lv_iconst (v := 1) S.1 S.2.1 dX3_sealOf_0 (by decide) ?_
  refine lv_istore_n (lv' := [(1, .int 1), (0, .ref (A (1 + 2 * x1)))]) S.1 S.2.1 dX3_sealOf_1 rfl hl (by decide) rfl (fun ls hl => ?_)
  refine lv_iconst (v := 0) S.1 S.2.1 dX3_sealOf_2 (by decide) ?_
  refine lv_istore_n (lv' := [(2, .int 0), (1, .int 1), (0, .ref (A (1 + 2 * x1)))]) S.1 S.2.1 dX3_sealOf_3 rfl hl (by decide) rfl (fun ls hl => ?_)
  exact B4  64 x1 1 0 hf hx1 _ _ _ hW (lv_sub hl [2, 1, 0] rfl)
def f_X3_factOfTrack (σ : CS) (x1 : Int32) (x2 : Int32) : Option Int32 := (f_X3_trackOf σ x1).bind fun z1 => (if x2 = nI 0 then (f_X0_size (cap z1) (σ.1 z1)).bind fun z7 => some (z7) else if x2 = nI 1 then (f_X0_isEmpty (cap z1) (σ.1 z1)).bind fun z13 => (f_X3_oneIf z13).bind fun z18 => some (z18) else if x2 = nI 2 then (f_X3_sumOfLoads σ z1).bind fun z24 => some (z24) else (f_X3_sealOf σ z1).bind fun z29 => some (z29))
theorem mc_X3_factOfTrack : MCode yX3_factOfTrack cX3_factOfTrack 4 (some .int) := ⟨wd_272, wd_1, by decide, by decide⟩
theorem np_X3_factOfTrack : (parseMethodDescriptor yX3_factOfTrack.desc).map (fun d => d.parameters.length) = some 2 := by decide +kernel
set_option maxHeartbeats 4000000 in
set_option maxRecDepth 100000 in
theorem c_X3_factOfTrack {l : Launch} {D : va_G} {κ : Nat → ClassId} {ζ : Nat → Nat} {L : List Nat} {F : Nat → va_E} {σ : CS} {A : Nat → Nat} (hI : CI κ A σ L F) (x1 : Int32) (x2 : Int32) {res : Int32} (hf : f_X3_factOfTrack σ x1 x2 = some res) : MtI l D cls (ty5 κ) ζ yX3_factOfTrack cX3_factOfTrack 4 (some .int) 3 0 0 ([.ref (A 0), .int x1, .int x2] : List Value) L F (fun r L' F' => L = L' ∧ F = F' ∧ res = r) := by
  refine MtI.of (by decide) (Nat.le_of_ble_eq_true rfl) ?_
  intro p e s m below meth c S hr hlk _ hK hW hST ls hl
  have hl : lv_has ls 4 [(0, .ref (A 0)), (1, .int x1), (2, .int x2)] := hl
  unfold f_X3_factOfTrack at hf
  refine lv_aload_n S.1 S.2.1 dX3_factOfTrack_0 rfl (lv_at hl 0 rfl) ?_
  refine lv_iload_n S.1 S.2.1 dX3_factOfTrack_1 rfl (lv_at hl 1 rfl) ?_
  obtain ⟨z1, hz, hf⟩ := ob hf
  refine pk_cVR (As := [.int x1]) (rest := []) S hK hST hW (c_X3_trackOf hI x1 hz) mc_X3_trackOf wd_130 wd_132 wd_1664 rfl np_X3_trackOf (hI.mem 0 (by decide)) hI.this rfl rfl hl.1 rfl (Nat.le_of_ble_eq_true rfl) dX3_factOfTrack_2 ⟨by decide, by decide⟩ ⟨by decide, by decide⟩ (fun r L2 F3 H4 l5 hp hW => ?_)
  obtain ⟨rfl, rfl, hbz1, rfl⟩ := hp
  refine lv_astore_n (lv' := [(3, .ref (A (1 + 2 * z1))), (0, .ref (A 0)), (1, .int x1), (2, .int x2)]) S.1 S.2.1 dX3_factOfTrack_5 rfl hl (by decide) rfl (fun ls hl => ?_)
  refine lv_iload_n S.1 S.2.1 dX3_factOfTrack_6 rfl (lv_at hl 3 rfl) ?_
  by_cases c6 : x2 = nI 0
  · have hf := (if_pos c6).symm.trans hf
    refine lv_tableIn (tgt := 32) S.1 S.2.1 dX3_factOfTrack_7 (by rw [tbl_in (by decide) c6]; decide) (by rw [tbl_in (by decide) c6]; decide) (by rw [tbl_in (by decide) c6]; rfl) (by decide) ?_
    refine lv_aload_n S.1 S.2.1 dX3_factOfTrack_32 rfl (lv_at hl 0 rfl) ?_
    obtain ⟨z7, hz, hf⟩ := ob hf
    refine pk_cVI (As := []) (rest := []) S hK hST hW (c_X0_size (hI.row hbz1)  hz) mc_X0_size wd_140 wd_141 wd_142 rfl np_X0_size (hI.mem _ (by have := hbz1; omega)) (hI.rowH hbz1) rfl rfl hl.1 rfl (Nat.le_of_ble_eq_true rfl) dX3_factOfTrack_33 ⟨by decide, by decide⟩ ⟨by decide, by decide⟩ (fun r L8 F9 H10 l11 hp hW => ?_)
    obtain ⟨rfl, rfl, rfl⟩ := hp
    exact pk_iret S hr hlk hW ⟨rfl, rfl, eqm (P := fun z => z = z7) rfl (Option.some.inj hf)⟩ (by decide) (by decide) dX3_factOfTrack_36
  · have hf := (if_neg c6).symm.trans hf
    by_cases c12 : x2 = nI 1
    · have hf := (if_pos c12).symm.trans hf
      refine lv_tableIn (tgt := 37) S.1 S.2.1 dX3_factOfTrack_7 (by rw [tbl_in (by decide) c12]; decide) (by rw [tbl_in (by decide) c12]; decide) (by rw [tbl_in (by decide) c12]; rfl) (by decide) ?_
      refine lv_aload_n S.1 S.2.1 dX3_factOfTrack_37 rfl (lv_at hl 0 rfl) ?_
      obtain ⟨z13, hz, hf⟩ := ob hf
      refine pk_cVI (As := []) (rest := []) S hK hST hW (c_X0_isEmpty (hI.row hbz1)  hz) mc_X0_isEmpty wd_107 wd_108 wd_109 rfl np_X0_isEmpty (hI.mem _ (by have := hbz1; omega)) (hI.rowH hbz1) rfl rfl hl.1 rfl (Nat.le_of_ble_eq_true rfl) dX3_factOfTrack_38 ⟨by decide, by decide⟩ ⟨by decide, by decide⟩ (fun r L14 F15 H16 l17 hp hW => ?_)
      obtain ⟨rfl, rfl, rfl⟩ := hp
      obtain ⟨z18, hz, hf⟩ := ob hf
      refine pk_cSI (As := [.int z13]) (rest := []) S hK hST hW (c_X3_oneIf  z13 hz) mc_X3_oneIf wd_273 wd_274 np_X3_oneIf rfl hl.1 rfl (Nat.le_of_ble_eq_true rfl) dX3_factOfTrack_41 ⟨by decide, by decide⟩ ⟨by decide, by decide⟩ (fun r L19 F20 H21 l22 hp hW => ?_)
      obtain ⟨rfl, rfl, rfl⟩ := hp
      exact pk_iret S hr hlk hW ⟨rfl, rfl, eqm (P := fun z => z = z18) rfl (Option.some.inj hf)⟩ (by decide) (by decide) dX3_factOfTrack_44
    · have hf := (if_neg c12).symm.trans hf
      by_cases c23 : x2 = nI 2
      · have hf := (if_pos c23).symm.trans hf
        refine lv_tableIn (tgt := 45) S.1 S.2.1 dX3_factOfTrack_7 (by rw [tbl_in (by decide) c23]; decide) (by rw [tbl_in (by decide) c23]; decide) (by rw [tbl_in (by decide) c23]; rfl) (by decide) ?_
        refine lv_aload_n S.1 S.2.1 dX3_factOfTrack_45 rfl (lv_at hl 0 rfl) ?_
        obtain ⟨z24, hz, hf⟩ := ob hf
        refine pk_cSI (As := [.ref (A (1 + 2 * z1))]) (rest := []) S hK hST hW (c_X3_sumOfLoads hI z1 hbz1 hz) mc_X3_sumOfLoads wd_276 wd_277 np_X3_sumOfLoads rfl hl.1 rfl (Nat.le_of_ble_eq_true rfl) dX3_factOfTrack_46 ⟨by decide, by decide⟩ ⟨by decide, by decide⟩ (fun r L25 F26 H27 l28 hp hW => ?_)
        obtain ⟨rfl, rfl, rfl⟩ := hp
        exact pk_iret S hr hlk hW ⟨rfl, rfl, eqm (P := fun z => z = z24) rfl (Option.some.inj hf)⟩ (by decide) (by decide) dX3_factOfTrack_49
      · have hf := (if_neg c23).symm.trans hf
        refine lv_tableOut (tgt := 50) S.1 S.2.1 dX3_factOfTrack_7 (tbl_out 3 (by decide) (fun k hk => by match k, hk with | 0, _ => exact c6 | 1, _ => exact c12 | 2, _ => exact c23 | k + 3, hk => exact absurd hk (by omega))) (by decide) ?_
        refine lv_aload_n S.1 S.2.1 dX3_factOfTrack_50 rfl (lv_at hl 0 rfl) ?_
        obtain ⟨z29, hz, hf⟩ := ob hf
        refine pk_cSI (As := [.ref (A (1 + 2 * z1))]) (rest := []) S hK hST hW (c_X3_sealOf hI z1 hbz1 hz) mc_X3_sealOf wd_282 wd_283 np_X3_sealOf rfl hl.1 rfl (Nat.le_of_ble_eq_true rfl) dX3_factOfTrack_51 ⟨by decide, by decide⟩ ⟨by decide, by decide⟩ (fun r L30 F31 H32 l33 hp hW => ?_)
        obtain ⟨rfl, rfl, rfl⟩ := hp
        exact pk_iret S hr hlk hW ⟨rfl, rfl, eqm (P := fun z => z = z29) rfl (Option.some.inj hf)⟩ (by decide) (by decide) dX3_factOfTrack_54
def f_X3_ofTrack (σ : CS) (x1 : Int32) (x2 : Int32) : Option (Nat ⊕ Int32) := obx (f_X3_needTrack x1) fun z1 => obx (f_X3_needWithin x2 0 3) fun z6 => (f_X3_factOfTrack σ x1 x2).bind fun z11 => some (.inr z11)
theorem mc_X3_ofTrack : MCode yX3_ofTrack cX3_ofTrack 3 (some .int) := ⟨wd_782, wd_1, by decide, by decide⟩
theorem np_X3_ofTrack : (parseMethodDescriptor yX3_ofTrack.desc).map (fun d => d.parameters.length) = some 2 := by decide +kernel
set_option maxHeartbeats 4000000 in
set_option maxRecDepth 100000 in
theorem c_X3_ofTrack {l : Launch} {D : va_G} {κ : Nat → ClassId} {ζ : Nat → Nat} {L : List Nat} {F : Nat → va_E} {σ : CS} {A : Nat → Nat} (hst : l.stackTraces = false) (hI : CI κ A σ L F) (x1 : Int32) (x2 : Int32) {res : (Nat ⊕ Int32)} (hf : f_X3_ofTrack σ x1 x2 = some res) : MxI l D cls (ty5 κ) ζ yX3_ofTrack cX3_ofTrack 3 (some .int) 8 2 12 ([.ref (A 0), .int x1, .int x2] : List Value) L F (fun r L' F' => L = L' ∧ F = F' ∧ ∃ z, res = .inr z ∧ z = r) (fun E => ∃ k, res = .inl k ∧ E = xName k) := by
  refine MxI.of (by decide) (Nat.le_of_ble_eq_true rfl) ?_
  intro p e s m below meth c S hr hlk hxt hK hW hST ls hl
  have hl : lv_has ls 3 [(0, .ref (A 0)), (1, .int x1), (2, .int x2)] := hl
  unfold f_X3_ofTrack at hf
  refine lv_iload_n S.1 S.2.1 dX3_ofTrack_0 rfl (lv_at hl 1 rfl) ?_
  obtain ⟨z1, hz, hxl, hxr⟩ := obx_ok hf
  refine xk_cSV (As := [.int x1]) (rest := []) S hK hST hW (c_X3_needTrack hst  x1 hz) mc_X3_needTrack wd_359 wd_360 np_X3_needTrack rfl hl.1 rfl (Nat.le_of_ble_eq_true rfl) dX3_ofTrack_1 ⟨by decide, by decide⟩ ⟨by decide, by decide⟩ (fun E ce q9 H4 l5 hE hW h1 h2 h3 => ?_) (fun L2 F3 H4 l5 hp hW => ?_)
  · obtain ⟨k, hk1, hk2⟩ := hE
    exact xk_outI hxt hlk hW ⟨k, hxl k hk1, hk2⟩ h1 h2 h3 (by decide) (by decide)
  obtain ⟨rfl, rfl, z1, hz1⟩ := hp
  have hf := hxr z1 hz1
  refine lv_iload_n S.1 S.2.1 dX3_ofTrack_4 rfl (lv_at hl 2 rfl) ?_
  refine lv_iconst (v := 0) S.1 S.2.1 dX3_ofTrack_5 (by decide) ?_
  refine lv_iconst (v := 3) S.1 S.2.1 dX3_ofTrack_6 (by decide) ?_
  obtain ⟨z1, hz, hxl, hxr⟩ := obx_ok hf
  refine xk_cSV (As := [.int x2, .int 0, .int 3]) (rest := []) S hK hST hW (c_X3_needWithin hst  x2 0 3 hz) mc_X3_needWithin wd_416 wd_417 np_X3_needWithin rfl hl.1 rfl (Nat.le_of_ble_eq_true rfl) dX3_ofTrack_7 ⟨by decide, by decide⟩ ⟨by decide, by decide⟩ (fun E ce q9 H9 l10 hE hW h1 h2 h3 => ?_) (fun L7 F8 H9 l10 hp hW => ?_)
  · obtain ⟨k, hk1, hk2⟩ := hE
    exact xk_outI hxt hlk hW ⟨k, hxl k hk1, hk2⟩ h1 h2 h3 (by decide) (by decide)
  obtain ⟨rfl, rfl, z6, hz1⟩ := hp
  have hf := hxr z6 hz1
  refine lv_aload_n S.1 S.2.1 dX3_ofTrack_10 rfl (lv_at hl 0 rfl) ?_
  refine lv_iload_n S.1 S.2.1 dX3_ofTrack_11 rfl (lv_at hl 1 rfl) ?_
  refine lv_iload_n S.1 S.2.1 dX3_ofTrack_12 rfl (lv_at hl 2 rfl) ?_
  obtain ⟨z11, hz, hf⟩ := ob hf
  refine pk_cVI (As := [.int x1, .int x2]) (rest := []) S hK hST hW (c_X3_factOfTrack hI x1 x2 hz) mc_X3_factOfTrack wd_269 wd_271 wd_1674 rfl np_X3_factOfTrack (hI.mem 0 (by decide)) hI.this rfl rfl hl.1 rfl (Nat.le_of_ble_eq_true rfl) dX3_ofTrack_13 ⟨by decide, by decide⟩ ⟨by decide, by decide⟩ (fun r L12 F13 H14 l15 hp hW => ?_)
  obtain ⟨rfl, rfl, rfl⟩ := hp
  exact xk_iret S hr hlk hW ⟨rfl, rfl, _, (Option.some.inj hf).symm, rfl⟩ (by decide) (by decide) dX3_ofTrack_16
def f_X3_has (σ : CS) (x1 : Int32) (x2 : Int32) : Option (Nat ⊕ Int32) := obx (f_X3_needTrack x1) fun z1 => obx (f_X3_needKindOf x1 x2) fun z6 => (f_X3_trackOf σ x1).bind fun z11 => (f_X0_placeOfKind (cap z11) (σ.1 z11) x2 0).bind fun z16 => (if z16 = ((-1)) then some (.inr 0) else some (.inr 1))
theorem mc_X3_has : MCode yX3_has cX3_has 3 (some .boolean) := ⟨wd_788, wd_1, by decide, by decide⟩
theorem np_X3_has : (parseMethodDescriptor yX3_has.desc).map (fun d => d.parameters.length) = some 2 := by decide +kernel
set_option maxHeartbeats 4000000 in
set_option maxRecDepth 100000 in
theorem c_X3_has {l : Launch} {D : va_G} {κ : Nat → ClassId} {ζ : Nat → Nat} {L : List Nat} {F : Nat → va_E} {σ : CS} {A : Nat → Nat} (hst : l.stackTraces = false) (hI : CI κ A σ L F) (x1 : Int32) (x2 : Int32) {res : (Nat ⊕ Int32)} (hf : f_X3_has σ x1 x2 = some res) : MxI l D cls (ty5 κ) ζ yX3_has cX3_has 3 (some .boolean) 9 2 12 ([.ref (A 0), .int x1, .int x2] : List Value) L F (fun r L' F' => L = L' ∧ F = F' ∧ ∃ z, res = .inr z ∧ z = r) (fun E => ∃ k, res = .inl k ∧ E = xName k) := by
  refine MxI.of (by decide) (Nat.le_of_ble_eq_true rfl) ?_
  intro p e s m below meth c S hr hlk hxt hK hW hST ls hl
  have hl : lv_has ls 3 [(0, .ref (A 0)), (1, .int x1), (2, .int x2)] := hl
  unfold f_X3_has at hf
  refine lv_iload_n S.1 S.2.1 dX3_has_0 rfl (lv_at hl 1 rfl) ?_
  obtain ⟨z1, hz, hxl, hxr⟩ := obx_ok hf
  refine xk_cSV (As := [.int x1]) (rest := []) S hK hST hW (c_X3_needTrack hst  x1 hz) mc_X3_needTrack wd_359 wd_360 np_X3_needTrack rfl hl.1 rfl (Nat.le_of_ble_eq_true rfl) dX3_has_1 ⟨by decide, by decide⟩ ⟨by decide, by decide⟩ (fun E ce q9 H4 l5 hE hW h1 h2 h3 => ?_) (fun L2 F3 H4 l5 hp hW => ?_)
  · obtain ⟨k, hk1, hk2⟩ := hE
    exact xk_outI hxt hlk hW ⟨k, hxl k hk1, hk2⟩ h1 h2 h3 (by decide) (by decide)
  obtain ⟨rfl, rfl, z1, hz1⟩ := hp
  have hf := hxr z1 hz1
  refine lv_iload_n S.1 S.2.1 dX3_has_4 rfl (lv_at hl 1 rfl) ?_
  refine lv_iload_n S.1 S.2.1 dX3_has_5 rfl (lv_at hl 2 rfl) ?_
  obtain ⟨z1, hz, hxl, hxr⟩ := obx_ok hf
  refine xk_cSV (As := [.int x1, .int x2]) (rest := []) S hK hST hW (c_X3_needKindOf hst  x1 x2 hz) mc_X3_needKindOf wd_538 wd_539 np_X3_needKindOf rfl hl.1 rfl (Nat.le_of_ble_eq_true rfl) dX3_has_6 ⟨by decide, by decide⟩ ⟨by decide, by decide⟩ (fun E ce q9 H9 l10 hE hW h1 h2 h3 => ?_) (fun L7 F8 H9 l10 hp hW => ?_)
  · obtain ⟨k, hk1, hk2⟩ := hE
    exact xk_outI hxt hlk hW ⟨k, hxl k hk1, hk2⟩ h1 h2 h3 (by decide) (by decide)
  obtain ⟨rfl, rfl, z6, hz1⟩ := hp
  have hf := hxr z6 hz1
  refine lv_aload_n S.1 S.2.1 dX3_has_9 rfl (lv_at hl 0 rfl) ?_
  refine lv_iload_n S.1 S.2.1 dX3_has_10 rfl (lv_at hl 1 rfl) ?_
  obtain ⟨z11, hz, hf⟩ := ob hf
  refine pk_cVR (As := [.int x1]) (rest := []) S hK hST hW (c_X3_trackOf hI x1 hz) mc_X3_trackOf wd_130 wd_132 wd_1664 rfl np_X3_trackOf (hI.mem 0 (by decide)) hI.this rfl rfl hl.1 rfl (Nat.le_of_ble_eq_true rfl) dX3_has_11 ⟨by decide, by decide⟩ ⟨by decide, by decide⟩ (fun r L12 F13 H14 l15 hp hW => ?_)
  obtain ⟨rfl, rfl, hbz11, rfl⟩ := hp
  refine lv_iload_n S.1 S.2.1 dX3_has_14 rfl (lv_at hl 2 rfl) ?_
  refine lv_iconst (v := 0) S.1 S.2.1 dX3_has_15 (by decide) ?_
  obtain ⟨z16, hz, hf⟩ := ob hf
  refine pk_cVI (As := [.int x2, .int 0]) (rest := []) S hK hST hW (c_X0_placeOfKind (hI.row hbz11) x2 0 hz) mc_X0_placeOfKind wd_178 wd_179 wd_180 rfl np_X0_placeOfKind (hI.mem _ (by have := hbz11; omega)) (hI.rowH hbz11) rfl rfl hl.1 rfl (Nat.le_of_ble_eq_true rfl) dX3_has_16 ⟨by decide, by decide⟩ ⟨by decide, by decide⟩ (fun r L17 F18 H19 l20 hp hW => ?_)
  obtain ⟨rfl, rfl, rfl⟩ := hp
  refine lv_iconst (v := (-1)) S.1 S.2.1 dX3_has_19 (by decide) ?_
  refine lv_icmp_eq (tgt := 27) S.1 S.2.1 dX3_has_20 (by decide) (fun c21 => ?_) (fun c21 => ?_)
  · have hf := (if_pos c21).symm.trans hf
    refine lv_iconst (v := 0) S.1 S.2.1 dX3_has_27 (by decide) ?_
    exact xk_zret S hr hlk hW (by decide) ⟨rfl, rfl, _, (Option.some.inj hf).symm, rfl⟩ (by decide) (by decide) dX3_has_28
  · have hf := (if_neg c21).symm.trans hf
    refine lv_iconst (v := 1) S.1 S.2.1 dX3_has_23 (by decide) ?_
    refine lv_goto (tgt := 28) S.1 S.2.1 dX3_has_24 (by decide) ?_
    exact xk_zret S hr hlk hW (by decide) ⟨rfl, rfl, _, (Option.some.inj hf).symm, rfl⟩ (by decide) (by decide) dX3_has_28
def f_X3_isSameAllAlong_21 (σ : CS)  (k21 : Int32 → Option Int32) (t : Int32) : Option Int32 := (f_X0_size (cap 1) (σ.1 1)).bind fun z1 => (if z1 ≤ t then some (1) else (f_X0_read (cap 0) (σ.1 0) t).bind fun z7 => (f_X3_kindOf z7).bind fun z12 => (f_X0_read (cap 1) (σ.1 1) t).bind fun z17 => (f_X3_kindOf z17).bind fun z22 => (if z12 = z22 then nm (t + 1 : Int32) fun y28 => k21 y28 else some (0)))
def f_X3_isSameAllAlong (σ : CS) : Option Int32 := (f_X0_size (cap 0) (σ.1 0)).bind fun z29 => (f_X0_size (cap 1) (σ.1 1)).bind fun z34 => (if z29 = z34 then lpn (f_X3_isSameAllAlong_21 σ) 64 0 else some (0))
theorem mc_X3_isSameAllAlong : MCode yX3_isSameAllAlong cX3_isSameAllAlong 2 (some .boolean) := ⟨wd_209, wd_1, by decide, by decide⟩
theorem np_X3_isSameAllAlong : (parseMethodDescriptor yX3_isSameAllAlong.desc).map (fun d => d.parameters.length) = some 0 := by decide +kernel
set_option maxHeartbeats 4000000 in
set_option maxRecDepth 100000 in
theorem c_X3_isSameAllAlong {l : Launch} {D : va_G} {κ : Nat → ClassId} {ζ : Nat → Nat} {L : List Nat} {F : Nat → va_E} {σ : CS} {A : Nat → Nat} (hI : CI κ A σ L F)  {res : Int32} (hf : f_X3_isSameAllAlong σ = some res) : MtI l D cls (ty5 κ) ζ yX3_isSameAllAlong cX3_isSameAllAlong 2 (some .boolean) 2 0 0 ([.ref (A 0)] : List Value) L F (fun r L' F' => L = L' ∧ F = F' ∧ res = r) := by
  refine MtI.of (by decide) (Nat.le_of_ble_eq_true rfl) ?_
  intro p e s m below meth c S hr hlk _ hK hW hST ls hl
  have hl : lv_has ls 2 [(0, .ref (A 0))] := hl
  have B21 : ∀ (N : Nat), (∀ (v1 : Int32), (lpn (f_X3_isSameAllAlong_21 σ) N) v1 = some res → ∀ (H21 : Heap) (l21 : List Loc) (ls : Array Slot), HW D cls L s H21 l21 L F → lv_has ls 2 [(0, .ref (A 0)), (1, .int v1)] → W p l e (Rm 2 0 0) s m ([.ref (A 0)] : List Value).toArray below meth c H21 l21 0 0 (EnI D cls s below ([.ref (A 0)] : List Value).toArray 0 0 L (fun r L' F' => L = L' ∧ F = F' ∧ res = r)) (F0 m 21 ls [])) := by
    intro  N
    induction N with
    | zero => intro v1 hf H21 l21 ls hW hl; cases hf
    | succ N ih =>
      intro v1 hf H21 l21 ls hW hl
      have hf : f_X3_isSameAllAlong_21 σ (lpn (f_X3_isSameAllAlong_21 σ) N) v1 = some res := hf
      generalize lpn (f_X3_isSameAllAlong_21 σ) N = k21 at hf ih
      have hk21 := ih
      unfold f_X3_isSameAllAlong_21 at hf
      try dsimp only at hf
      refine lv_iload_n S.1 S.2.1 dX3_isSameAllAlong_21 rfl (lv_at hl 1 rfl) ?_
      refine lv_aload_n S.1 S.2.1 dX3_isSameAllAlong_22 rfl (lv_at hl 0 rfl) ?_
      refine pk_get S hK hW 1 (hI.mem 0 (by decide)) hI.this rfl hinX3 (by decide) wd_81 rfl dX3_isSameAllAlong_23 ?_
      obtain ⟨z1, hz, hf⟩ := ob hf
      refine pk_cVI (As := []) (rest := [.int v1]) S hK hST hW (c_X0_size (hI.row (by decide : 1 < 7))  hz) mc_X0_size wd_140 wd_141 wd_142 rfl np_X0_size (hI.mem _ (by have := (by decide : 1 < 7); omega)) (hI.rowH (by decide : 1 < 7)) rfl rfl hl.1 rfl (Nat.le_of_ble_eq_true rfl) dX3_isSameAllAlong_26 ⟨by decide, by decide⟩ ⟨by decide, by decide⟩ (fun r L2 F3 H4 l5 hp hW => ?_)
      obtain ⟨rfl, rfl, rfl⟩ := hp
      refine lv_icmp_ge (tgt := 65) S.1 S.2.1 dX3_isSameAllAlong_29 (by decide) (fun c6 => ?_) (fun c6 => ?_)
      · have hf := (if_pos c6).symm.trans hf
        refine lv_iconst (v := 1) S.1 S.2.1 dX3_isSameAllAlong_65 (by decide) ?_
        exact pk_zret S hr hlk hW (by decide) ⟨rfl, rfl, eqm (P := fun z => z = 1) rfl (Option.some.inj hf)⟩ (by decide) (by decide) dX3_isSameAllAlong_66
      · have hf := (if_neg c6).symm.trans hf
        refine lv_aload_n S.1 S.2.1 dX3_isSameAllAlong_32 rfl (lv_at hl 0 rfl) ?_
        refine pk_get S hK hW 0 (hI.mem 0 (by decide)) hI.this rfl hinX3 (by decide) wd_80 rfl dX3_isSameAllAlong_33 ?_
        refine lv_iload_n S.1 S.2.1 dX3_isSameAllAlong_36 rfl (lv_at hl 1 rfl) ?_
        obtain ⟨z7, hz, hf⟩ := ob hf
        refine pk_cVI (As := [.int v1]) (rest := []) S hK hST hW (c_X0_read (hI.row (by decide : 0 < 7)) v1 hz) mc_X0_read wd_171 wd_120 wd_121 rfl np_X0_read (hI.mem _ (by have := (by decide : 0 < 7); omega)) (hI.rowH (by decide : 0 < 7)) rfl rfl hl.1 rfl (Nat.le_of_ble_eq_true rfl) dX3_isSameAllAlong_37 ⟨by decide, by decide⟩ ⟨by decide, by decide⟩ (fun r L8 F9 H10 l11 hp hW => ?_)
        obtain ⟨rfl, rfl, rfl⟩ := hp
        obtain ⟨z12, hz, hf⟩ := ob hf
        refine pk_cSI (As := [.int z7]) (rest := []) S hK hST hW (c_X3_kindOf  z7 hz) mc_X3_kindOf wd_175 wd_176 np_X3_kindOf rfl hl.1 rfl (Nat.le_of_ble_eq_true rfl) dX3_isSameAllAlong_40 ⟨by decide, by decide⟩ ⟨by decide, by decide⟩ (fun r L13 F14 H15 l16 hp hW => ?_)
        obtain ⟨rfl, rfl, rfl⟩ := hp
        refine lv_aload_n S.1 S.2.1 dX3_isSameAllAlong_43 rfl (lv_at hl 0 rfl) ?_
        refine pk_get S hK hW 1 (hI.mem 0 (by decide)) hI.this rfl hinX3 (by decide) wd_81 rfl dX3_isSameAllAlong_44 ?_
        refine lv_iload_n S.1 S.2.1 dX3_isSameAllAlong_47 rfl (lv_at hl 1 rfl) ?_
        obtain ⟨z17, hz, hf⟩ := ob hf
        refine pk_cVI (As := [.int v1]) (rest := [.int z12]) S hK hST hW (c_X0_read (hI.row (by decide : 1 < 7)) v1 hz) mc_X0_read wd_171 wd_120 wd_121 rfl np_X0_read (hI.mem _ (by have := (by decide : 1 < 7); omega)) (hI.rowH (by decide : 1 < 7)) rfl rfl hl.1 rfl (Nat.le_of_ble_eq_true rfl) dX3_isSameAllAlong_48 ⟨by decide, by decide⟩ ⟨by decide, by decide⟩ (fun r L18 F19 H20 l21 hp hW => ?_)
        obtain ⟨rfl, rfl, rfl⟩ := hp
        obtain ⟨z22, hz, hf⟩ := ob hf
        refine pk_cSI (As := [.int z17]) (rest := [.int z12]) S hK hST hW (c_X3_kindOf  z17 hz) mc_X3_kindOf wd_175 wd_176 np_X3_kindOf rfl hl.1 rfl (Nat.le_of_ble_eq_true rfl) dX3_isSameAllAlong_51 ⟨by decide, by decide⟩ ⟨by decide, by decide⟩ (fun r L23 F24 H25 l26 hp hW => ?_)
        obtain ⟨rfl, rfl, rfl⟩ := hp
        refine lv_icmp_eq (tgt := 59) S.1 S.2.1 dX3_isSameAllAlong_54 (by decide) (fun c27 => ?_) (fun c27 => ?_)
        · have hf := (if_pos c27).symm.trans hf
          obtain ⟨y28, ey28⟩ : ∃ y : Int32, y = v1 + 1 := ⟨_, rfl⟩
          have hf := nm_at hf ey28
          refine lv_iinc (v := y28) (lv' := [(1, .int y28), (0, .ref (A 0))]) S.1 S.2.1 dX3_isSameAllAlong_59 hl (k := 1) rfl (by rw [ey28]; rfl) (by decide) rfl (fun ls hl => ?_)
          refine lv_goto (tgt := 21) S.1 S.2.1 dX3_isSameAllAlong_62 (by decide) ?_
          exact hk21 y28 hf  _ _ _ hW (lv_sub hl [1, 0] rfl)
        · have hf := (if_neg c27).symm.trans hf
          refine lv_iconst (v := 0) S.1 S.2.1 dX3_isSameAllAlong_57 (by decide) ?_
          exact pk_zret S hr hlk hW (by decide) ⟨rfl, rfl, eqm (P := fun z => z = 0) rfl (Option.some.inj hf)⟩ (by decide) (by decide) dX3_isSameAllAlong_58
  unfold f_X3_isSameAllAlong at hf
  refine lv_aload_n S.1 S.2.1 dX3_isSameAllAlong_0 rfl (lv_at hl 0 rfl) ?_
  refine pk_get S hK hW 0 (hI.mem 0 (by decide)) hI.this rfl hinX3 (by decide) wd_80 rfl dX3_isSameAllAlong_1 ?_
  obtain ⟨z29, hz, hf⟩ := ob hf
  refine pk_cVI (As := []) (rest := []) S hK hST hW (c_X0_size (hI.row (by decide : 0 < 7))  hz) mc_X0_size wd_140 wd_141 wd_142 rfl np_X0_size (hI.mem _ (by have := (by decide : 0 < 7); omega)) (hI.rowH (by decide : 0 < 7)) rfl rfl hl.1 rfl (Nat.le_of_ble_eq_true rfl) dX3_isSameAllAlong_4 ⟨by decide, by decide⟩ ⟨by decide, by decide⟩ (fun r L30 F31 H32 l33 hp hW => ?_)
  obtain ⟨rfl, rfl, rfl⟩ := hp
  refine lv_aload_n S.1 S.2.1 dX3_isSameAllAlong_7 rfl (lv_at hl 0 rfl) ?_
  refine pk_get S hK hW 1 (hI.mem 0 (by decide)) hI.this rfl hinX3 (by decide) wd_81 rfl dX3_isSameAllAlong_8 ?_
  obtain ⟨z34, hz, hf⟩ := ob hf
  refine pk_cVI (As := []) (rest := [.int z29]) S hK hST hW (c_X0_size (hI.row (by decide : 1 < 7))  hz) mc_X0_size wd_140 wd_141 wd_142 rfl np_X0_size (hI.mem _ (by have := (by decide : 1 < 7); omega)) (hI.rowH (by decide : 1 < 7)) rfl rfl hl.1 rfl (Nat.le_of_ble_eq_true rfl) dX3_isSameAllAlong_11 ⟨by decide, by decide⟩ ⟨by decide, by decide⟩ (fun r L35 F36 H37 l38 hp hW => ?_)
  obtain ⟨rfl, rfl, rfl⟩ := hp
  refine lv_icmp_eq (tgt := 19) S.1 S.2.1 dX3_isSameAllAlong_14 (by decide) (fun c39 => ?_) (fun c39 => ?_)
  · have hf := (if_pos c39).symm.trans hf
    refine lv_iconst (v := 0) S.1 S.2.1 dX3_isSameAllAlong_19 (by decide) ?_
    refine lv_istore_n (lv' := [(1, .int 0), (0, .ref (A 0))]) S.1 S.2.1 dX3_isSameAllAlong_20 rfl hl (by decide) rfl (fun ls hl => ?_)
    exact B21  64 0 hf  _ _ _ hW (lv_sub hl [1, 0] rfl)
  · have hf := (if_neg c39).symm.trans hf
    refine lv_iconst (v := 0) S.1 S.2.1 dX3_isSameAllAlong_17 (by decide) ?_
    exact pk_zret S hr hlk hW (by decide) ⟨rfl, rfl, eqm (P := fun z => z = 0) rfl (Option.some.inj hf)⟩ (by decide) (by decide) dX3_isSameAllAlong_18
def f_X3_isSidingAmongLine_2 (σ : CS)  (k2 : Int32 → Option Int32) (t : Int32) : Option Int32 := (f_X0_size (cap 0) (σ.1 0)).bind fun z1 => (if z1 ≤ t then some (1) else (f_X0_read (cap 0) (σ.1 0) t).bind fun z7 => (f_X3_isLikeOneOf σ 1 z7).bind fun z12 => (if z12 = 0 then some (0) else nm (t + 1 : Int32) fun y18 => k2 y18))
def f_X3_isSidingAmongLine (σ : CS) : Option Int32 := lpn (f_X3_isSidingAmongLine_2 σ) 64 0
theorem mc_X3_isSidingAmongLine : MCode yX3_isSidingAmongLine cX3_isSidingAmongLine 2 (some .boolean) := ⟨wd_213, wd_1, by decide, by decide⟩
theorem np_X3_isSidingAmongLine : (parseMethodDescriptor yX3_isSidingAmongLine.desc).map (fun d => d.parameters.length) = some 0 := by decide +kernel
set_option maxHeartbeats 4000000 in
set_option maxRecDepth 100000 in
theorem c_X3_isSidingAmongLine {l : Launch} {D : va_G} {κ : Nat → ClassId} {ζ : Nat → Nat} {L : List Nat} {F : Nat → va_E} {σ : CS} {A : Nat → Nat} (hI : CI κ A σ L F)  {res : Int32} (hf : f_X3_isSidingAmongLine σ = some res) : MtI l D cls (ty5 κ) ζ yX3_isSidingAmongLine cX3_isSidingAmongLine 2 (some .boolean) 4 0 0 ([.ref (A 0)] : List Value) L F (fun r L' F' => L = L' ∧ F = F' ∧ res = r) := by
  refine MtI.of (by decide) (Nat.le_of_ble_eq_true rfl) ?_
  intro p e s m below meth c S hr hlk _ hK hW hST ls hl
  have hl : lv_has ls 2 [(0, .ref (A 0))] := hl
  have B2 : ∀ (N : Nat), (∀ (v1 : Int32), (lpn (f_X3_isSidingAmongLine_2 σ) N) v1 = some res → ∀ (H2 : Heap) (l2 : List Loc) (ls : Array Slot), HW D cls L s H2 l2 L F → lv_has ls 2 [(0, .ref (A 0)), (1, .int v1)] → W p l e (Rm 4 0 0) s m ([.ref (A 0)] : List Value).toArray below meth c H2 l2 0 0 (EnI D cls s below ([.ref (A 0)] : List Value).toArray 0 0 L (fun r L' F' => L = L' ∧ F = F' ∧ res = r)) (F0 m 2 ls [])) := by
    intro  N
    induction N with
    | zero => intro v1 hf H2 l2 ls hW hl; cases hf
    | succ N ih =>
      intro v1 hf H2 l2 ls hW hl
      have hf : f_X3_isSidingAmongLine_2 σ (lpn (f_X3_isSidingAmongLine_2 σ) N) v1 = some res := hf
      generalize lpn (f_X3_isSidingAmongLine_2 σ) N = k2 at hf ih
      have hk2 := ih
      unfold f_X3_isSidingAmongLine_2 at hf
      try dsimp only at hf
      refine lv_iload_n S.1 S.2.1 dX3_isSidingAmongLine_2 rfl (lv_at hl 1 rfl) ?_
      refine lv_aload_n S.1 S.2.1 dX3_isSidingAmongLine_3 rfl (lv_at hl 0 rfl) ?_
      refine pk_get S hK hW 0 (hI.mem 0 (by decide)) hI.this rfl hinX3 (by decide) wd_80 rfl dX3_isSidingAmongLine_4 ?_
      obtain ⟨z1, hz, hf⟩ := ob hf
      refine pk_cVI (As := []) (rest := [.int v1]) S hK hST hW (c_X0_size (hI.row (by decide : 0 < 7))  hz) mc_X0_size wd_140 wd_141 wd_142 rfl np_X0_size (hI.mem _ (by have := (by decide : 0 < 7); omega)) (hI.rowH (by decide : 0 < 7)) rfl rfl hl.1 rfl (Nat.le_of_ble_eq_true rfl) dX3_isSidingAmongLine_7 ⟨by decide, by decide⟩ ⟨by decide, by decide⟩ (fun r L2 F3 H4 l5 hp hW => ?_)
      obtain ⟨rfl, rfl, rfl⟩ := hp
      refine lv_icmp_ge (tgt := 39) S.1 S.2.1 dX3_isSidingAmongLine_10 (by decide) (fun c6 => ?_) (fun c6 => ?_)
      · have hf := (if_pos c6).symm.trans hf
        refine lv_iconst (v := 1) S.1 S.2.1 dX3_isSidingAmongLine_39 (by decide) ?_
        exact pk_zret S hr hlk hW (by decide) ⟨rfl, rfl, eqm (P := fun z => z = 1) rfl (Option.some.inj hf)⟩ (by decide) (by decide) dX3_isSidingAmongLine_40
      · have hf := (if_neg c6).symm.trans hf
        refine lv_aload_n S.1 S.2.1 dX3_isSidingAmongLine_13 rfl (lv_at hl 0 rfl) ?_
        refine pk_get S hK hW 1 (hI.mem 0 (by decide)) hI.this rfl hinX3 (by decide) wd_81 rfl dX3_isSidingAmongLine_14 ?_
        refine lv_aload_n S.1 S.2.1 dX3_isSidingAmongLine_17 rfl (lv_at hl 0 rfl) ?_
        refine pk_get S hK hW 0 (hI.mem 0 (by decide)) hI.this rfl hinX3 (by decide) wd_80 rfl dX3_isSidingAmongLine_18 ?_
        refine lv_iload_n S.1 S.2.1 dX3_isSidingAmongLine_21 rfl (lv_at hl 1 rfl) ?_
        obtain ⟨z7, hz, hf⟩ := ob hf
        refine pk_cVI (As := [.int v1]) (rest := [.ref (A (1 + 2 * 1))]) S hK hST hW (c_X0_read (hI.row (by decide : 0 < 7)) v1 hz) mc_X0_read wd_171 wd_120 wd_121 rfl np_X0_read (hI.mem _ (by have := (by decide : 0 < 7); omega)) (hI.rowH (by decide : 0 < 7)) rfl rfl hl.1 rfl (Nat.le_of_ble_eq_true rfl) dX3_isSidingAmongLine_22 ⟨by decide, by decide⟩ ⟨by decide, by decide⟩ (fun r L8 F9 H10 l11 hp hW => ?_)
        obtain ⟨rfl, rfl, rfl⟩ := hp
        obtain ⟨z12, hz, hf⟩ := ob hf
        refine pk_cSI (As := [.ref (A (1 + 2 * 1)), .int z7]) (rest := []) S hK hST hW (c_X3_isLikeOneOf hI 1 ((by decide : 1 < 7)) z7 hz) mc_X3_isLikeOneOf wd_172 wd_173 np_X3_isLikeOneOf rfl hl.1 rfl (Nat.le_of_ble_eq_true rfl) dX3_isSidingAmongLine_25 ⟨by decide, by decide⟩ ⟨by decide, by decide⟩ (fun r L13 F14 H15 l16 hp hW => ?_)
        obtain ⟨rfl, rfl, rfl⟩ := hp
        refine lv_if_ne (tgt := 33) S.1 S.2.1 dX3_isSidingAmongLine_28 (by decide) (fun c17 => ?_) (fun c17 => ?_)
        · have hf := (if_neg c17).symm.trans hf
          obtain ⟨y18, ey18⟩ : ∃ y : Int32, y = v1 + 1 := ⟨_, rfl⟩
          have hf := nm_at hf ey18
          refine lv_iinc (v := y18) (lv' := [(1, .int y18), (0, .ref (A 0))]) S.1 S.2.1 dX3_isSidingAmongLine_33 hl (k := 1) rfl (by rw [ey18]; rfl) (by decide) rfl (fun ls hl => ?_)
          refine lv_goto (tgt := 2) S.1 S.2.1 dX3_isSidingAmongLine_36 (by decide) ?_
          exact hk2 y18 hf  _ _ _ hW (lv_sub hl [1, 0] rfl)
        · have hf := (if_pos c17).symm.trans hf
          refine lv_iconst (v := 0) S.1 S.2.1 dX3_isSidingAmongLine_31 (by decide) ?_
          exact pk_zret S hr hlk hW (by decide) ⟨rfl, rfl, eqm (P := fun z => z = 0) rfl (Option.some.inj hf)⟩ (by decide) (by decide) dX3_isSidingAmongLine_32
  unfold f_X3_isSidingAmongLine at hf
  refine lv_iconst (v := 0) S.1 S.2.1 dX3_isSidingAmongLine_0 (by decide) ?_
  refine lv_istore_n (lv' := [(1, .int 0), (0, .ref (A 0))]) S.1 S.2.1 dX3_isSidingAmongLine_1 rfl hl (by decide) rfl (fun ls hl => ?_)
  exact B2  64 0 hf  _ _ _ hW (lv_sub hl [1, 0] rfl)
def f_X3_compare (σ : CS) (x1 : Int32) : Option Int32 := (if x1 = 0 then (f_X3_isSidingAmongLine σ).bind fun z2 => (if z2 = 0 ∨ z2 = 1 then some (z2) else none) else (f_X3_isSameAllAlong σ).bind fun z7 => (if z7 = 0 ∨ z7 = 1 then some (z7) else none))
theorem mc_X3_compare : MCode yX3_compare cX3_compare 2 (some .boolean) := ⟨wd_205, wd_1, by decide, by decide⟩
theorem np_X3_compare : (parseMethodDescriptor yX3_compare.desc).map (fun d => d.parameters.length) = some 1 := by decide +kernel
set_option maxHeartbeats 4000000 in
set_option maxRecDepth 100000 in
theorem c_X3_compare {l : Launch} {D : va_G} {κ : Nat → ClassId} {ζ : Nat → Nat} {L : List Nat} {F : Nat → va_E} {σ : CS} {A : Nat → Nat} (hI : CI κ A σ L F) (x1 : Int32) {res : Int32} (hf : f_X3_compare σ x1 = some res) : MtI l D cls (ty5 κ) ζ yX3_compare cX3_compare 2 (some .boolean) 5 0 0 ([.ref (A 0), .int x1] : List Value) L F (fun r L' F' => L = L' ∧ F = F' ∧ res = r) := by
  refine MtI.of (by decide) (Nat.le_of_ble_eq_true rfl) ?_
  intro p e s m below meth c S hr hlk _ hK hW hST ls hl
  have hl : lv_has ls 2 [(0, .ref (A 0)), (1, .int x1)] := hl
  unfold f_X3_compare at hf
  refine lv_iload_n S.1 S.2.1 dX3_compare_0 rfl (lv_at hl 1 rfl) ?_
  refine lv_if_eq (tgt := 11) S.1 S.2.1 dX3_compare_1 (by decide) (fun c1 => ?_) (fun c1 => ?_)
  · have hf := (if_pos c1).symm.trans hf
    refine lv_aload_n S.1 S.2.1 dX3_compare_11 rfl (lv_at hl 0 rfl) ?_
    obtain ⟨z2, hz, hf⟩ := ob hf
    refine pk_cVI (As := []) (rest := []) S hK hST hW (c_X3_isSidingAmongLine hI  hz) mc_X3_isSidingAmongLine wd_210 wd_212 wd_1669 rfl np_X3_isSidingAmongLine (hI.mem 0 (by decide)) hI.this rfl rfl hl.1 rfl (Nat.le_of_ble_eq_true rfl) dX3_compare_12 ⟨by decide, by decide⟩ ⟨by decide, by decide⟩ (fun r L3 F4 H5 l6 hp hW => ?_)
    obtain ⟨rfl, rfl, rfl⟩ := hp
    obtain ⟨hg, hf⟩ := gdp hf
    exact pk_zret S hr hlk hW hg ⟨rfl, rfl, eqm (P := fun z => z = z2) rfl (Option.some.inj hf)⟩ (by decide) (by decide) dX3_compare_15
  · have hf := (if_neg c1).symm.trans hf
    refine lv_aload_n S.1 S.2.1 dX3_compare_4 rfl (lv_at hl 0 rfl) ?_
    obtain ⟨z7, hz, hf⟩ := ob hf
    refine pk_cVI (As := []) (rest := []) S hK hST hW (c_X3_isSameAllAlong hI  hz) mc_X3_isSameAllAlong wd_206 wd_208 wd_1668 rfl np_X3_isSameAllAlong (hI.mem 0 (by decide)) hI.this rfl rfl hl.1 rfl (Nat.le_of_ble_eq_true rfl) dX3_compare_5 ⟨by decide, by decide⟩ ⟨by decide, by decide⟩ (fun r L8 F9 H10 l11 hp hW => ?_)
    obtain ⟨rfl, rfl, rfl⟩ := hp
    refine lv_goto (tgt := 15) S.1 S.2.1 dX3_compare_8 (by decide) ?_
    obtain ⟨hg, hf⟩ := gdp hf
    exact pk_zret S hr hlk hW hg ⟨rfl, rfl, eqm (P := fun z => z = z7) rfl (Option.some.inj hf)⟩ (by decide) (by decide) dX3_compare_15
def f_X3_closedBy (σ : CS) (x1 : Int32) : Option (Int32 × CS) := (f_X0_endPlace (cap 6) (σ.1 6) 1).bind fun z1 => (f_X0_leave (cap 6) (σ.1 6) z1).bind fun z6 => nm ((va_up σ.1 6 z6.2, σ.2) : CS) fun t11 => (if z6.1 = (x1 - 1) then some (1, t11) else some (0, t11))
theorem mc_X3_closedBy : MCode yX3_closedBy cX3_closedBy 2 (some .boolean) := ⟨wd_311, wd_1, by decide, by decide⟩
theorem np_X3_closedBy : (parseMethodDescriptor yX3_closedBy.desc).map (fun d => d.parameters.length) = some 1 := by decide +kernel
set_option maxHeartbeats 4000000 in
set_option maxRecDepth 100000 in
theorem c_X3_closedBy {l : Launch} {D : va_G} {κ : Nat → ClassId} {ζ : Nat → Nat} {L : List Nat} {F : Nat → va_E} {σ : CS} {A : Nat → Nat} (hI : CI κ A σ L F) (x1 : Int32) {res : (Int32 × CS)} (hf : f_X3_closedBy σ x1 = some res) : MtI l D cls (ty5 κ) ζ yX3_closedBy cX3_closedBy 2 (some .boolean) 3 0 0 ([.ref (A 0), .int x1] : List Value) L F (fun r L' F' => L = L' ∧ res.1 = r ∧ CI κ A res.2 L F' ∧ FrA A F F') := by
  refine MtI.of (by decide) (Nat.le_of_ble_eq_true rfl) ?_
  intro p e s m below meth c S hr hlk _ hK hW hST ls hl
  have hl : lv_has ls 2 [(0, .ref (A 0)), (1, .int x1)] := hl
  have hFr : FrA A F F := FrA.rf
  unfold f_X3_closedBy at hf
  refine lv_aload_n S.1 S.2.1 dX3_closedBy_0 rfl (lv_at hl 0 rfl) ?_
  refine pk_get S hK hW 10 (hI.mem 0 (by decide)) hI.this rfl hinX3 (by decide) wd_90 rfl dX3_closedBy_1 ?_
  refine lv_aload_n S.1 S.2.1 dX3_closedBy_4 rfl (lv_at hl 0 rfl) ?_
  refine pk_get S hK hW 10 (hI.mem 0 (by decide)) hI.this rfl hinX3 (by decide) wd_90 rfl dX3_closedBy_5 ?_
  refine lv_iconst (v := 1) S.1 S.2.1 dX3_closedBy_8 (by decide) ?_
  obtain ⟨z1, hz, hf⟩ := ob hf
  refine pk_cVI (As := [.int 1]) (rest := [.ref (A (1 + 2 * 6))]) S hK hST hW (c_X0_endPlace (hI.row (by decide : 6 < 7)) 1 hz) mc_X0_endPlace wd_111 wd_112 wd_113 rfl np_X0_endPlace (hI.mem _ (by have := (by decide : 6 < 7); omega)) (hI.rowH (by decide : 6 < 7)) rfl rfl hl.1 rfl (Nat.le_of_ble_eq_true rfl) dX3_closedBy_9 ⟨by decide, by decide⟩ ⟨by decide, by decide⟩ (fun r L2 F3 H4 l5 hp hW => ?_)
  obtain ⟨rfl, rfl, rfl⟩ := hp
  obtain ⟨z6, hz, hf⟩ := ob hf
  refine pk_cVI (As := [.int z1]) (rest := []) S hK hST hW (c_X0_leave (hI.row (by decide : 6 < 7)) z1 hz) mc_X0_leave wd_115 wd_116 wd_117 rfl np_X0_leave (hI.mem _ (by have := (by decide : 6 < 7); omega)) (hI.rowH (by decide : 6 < 7)) rfl rfl hl.1 rfl (Nat.le_of_ble_eq_true rfl) dX3_closedBy_12 ⟨by decide, by decide⟩ ⟨by decide, by decide⟩ (fun r L7 F8 H9 l10 hp hW => ?_)
  obtain ⟨rfl, rfl, hI1, hFr1⟩ := hp
  have hFr := hFr.tr (FrA.row (by decide : 6 < 7) hFr1)
  have hI := hI.setRow (by decide : 6 < 7) hI1 hFr1
  obtain ⟨t11, et11, hf⟩ := nm_ok hf
  have hI := eqm (P := fun w => CI κ A w L F8) hI et11.symm
  refine lv_iload_n S.1 S.2.1 dX3_closedBy_15 rfl (lv_at hl 1 rfl) ?_
  refine lv_iconst (v := 1) S.1 S.2.1 dX3_closedBy_16 (by decide) ?_
  refine lv_isub S.1 S.2.1 dX3_closedBy_17 ?_
  refine lv_icmp_ne (tgt := 25) S.1 S.2.1 dX3_closedBy_18 (by decide) (fun c12 => ?_) (fun c12 => ?_)
  · have hf := (if_neg c12).symm.trans hf
    refine lv_iconst (v := 0) S.1 S.2.1 dX3_closedBy_25 (by decide) ?_
    exact pk_zret S hr hlk hW (by decide) ⟨rfl, eqm (P := fun z => z.1 = 0 ∧ CI κ A z.2 L F8 ∧ FrA A F F8) ⟨rfl, hI, hFr⟩ (Option.some.inj hf)⟩ (by decide) (by decide) dX3_closedBy_26
  · have hf := (if_pos c12).symm.trans hf
    refine lv_iconst (v := 1) S.1 S.2.1 dX3_closedBy_21 (by decide) ?_
    refine lv_goto (tgt := 26) S.1 S.2.1 dX3_closedBy_22 (by decide) ?_
    exact pk_zret S hr hlk hW (by decide) ⟨rfl, eqm (P := fun z => z.1 = 1 ∧ CI κ A z.2 L F8 ∧ FrA A F F8) ⟨rfl, hI, hFr⟩ (Option.some.inj hf)⟩ (by decide) (by decide) dX3_closedBy_26
def f_X3_mostOpen_100  (k18 : (CS × Nat × Int32 × Int32) → Option (Int32 × CS)) (w100 : CS) (v2 : Nat) (v3 : Int32) (v4 : Int32) : Option (Int32 × CS) := nm (v4 + 1 : Int32) fun y1 => k18 (w100, v2, v3, y1)
def f_X3_mostOpen_77  (k18 : (CS × Nat × Int32 × Int32) → Option (Int32 × CS)) (w77 : CS) (v2 : Nat) (v3 : Int32) (v4 : Int32) (v5 : Int32) : Option (Int32 × CS) := (if (jrem v5 2) = 0 then (if v5 = 0 then f_X3_mostOpen_100 k18 w77 v2 v3 v4 else (f_X3_closedBy w77 v5).bind fun z4 => (if z4.1 = 0 then some ((-1), z4.2) else f_X3_mostOpen_100 k18 z4.2 v2 v3 v4)) else f_X3_mostOpen_100 k18 w77 v2 v3 v4)
def f_X3_mostOpen_18   (k18 : CS × Nat × Int32 × Int32 → Option (Int32 × CS)) (t : CS × Nat × Int32 × Int32) : Option (Int32 × CS) := (f_X0_size (cap t.2.1) (t.1.1 t.2.1)).bind fun z10 => (if z10 ≤ t.2.2.2 then (f_X0_isEmpty (cap 6) (t.1.1 6)).bind fun z16 => (if z16 = 0 then some ((-1), t.1) else some (t.2.2.1, t.1)) else (f_X0_read (cap t.2.1) (t.1.1 t.2.1) t.2.2.2).bind fun z22 => (f_X3_kindOf z22).bind fun z27 => (if (jrem z27 2) = 1 then (if 9 ≤ z27 then f_X3_mostOpen_77 k18 t.1 t.2.1 t.2.2.1 t.2.2.2 z27 else (f_X0_enterLast (cap 6) (t.1.1 6) z27).bind fun z34 => nm ((va_up t.1.1 6 z34, t.1.2) : CS) fun t39 => (f_X0_size (cap 6) (t39.1 6)).bind fun z40 => nm (if t.2.2.1 < z40 then z40 else t.2.2.1 : Int32) fun y45 => f_X3_mostOpen_100 k18 t39 t.2.1 y45 t.2.2.2) else f_X3_mostOpen_77 k18 t.1 t.2.1 t.2.2.1 t.2.2.2 z27))
def f_X3_mostOpen (σ : CS) (x1 : Int32) : Option (Int32 × CS) := (f_X3_trackOf σ x1).bind fun z46 => (f_X0_empty (cap 6) (σ.1 6)).bind fun z51 => nm ((va_up σ.1 6 z51, σ.2) : CS) fun t56 => lpn (f_X3_mostOpen_18 ) 64 (t56, z46, 0, 0)
theorem mc_X3_mostOpen : MCode yX3_mostOpen cX3_mostOpen 6 (some .int) := ⟨wd_306, wd_1, by decide, by decide⟩
theorem np_X3_mostOpen : (parseMethodDescriptor yX3_mostOpen.desc).map (fun d => d.parameters.length) = some 1 := by decide +kernel
set_option maxHeartbeats 4000000 in
set_option maxRecDepth 100000 in
theorem c_X3_mostOpen {l : Launch} {D : va_G} {κ : Nat → ClassId} {ζ : Nat → Nat} {L : List Nat} {F : Nat → va_E} {σ : CS} {A : Nat → Nat} (hI : CI κ A σ L F) (x1 : Int32) {res : (Int32 × CS)} (hf : f_X3_mostOpen σ x1 = some res) : MtI l D cls (ty5 κ) ζ yX3_mostOpen cX3_mostOpen 6 (some .int) 4 0 0 ([.ref (A 0), .int x1] : List Value) L F (fun r L' F' => L = L' ∧ res.1 = r ∧ CI κ A res.2 L F' ∧ FrA A F F') := by
  refine MtI.of (by decide) (Nat.le_of_ble_eq_true rfl) ?_
  intro p e s m below meth c S hr hlk _ hK hW hST ls hl
  have hl : lv_has ls 6 [(0, .ref (A 0)), (1, .int x1)] := hl
  have hFr : FrA A F F := FrA.rf
  have B100 : ∀ (k18 : (CS × Nat × Int32 × Int32) → Option (Int32 × CS)) (hk18 : (∀ (w18 : CS) (v2 : Nat) (v3 : Int32) (v4 : Int32), k18 (w18, v2, v3, v4) = some res → ∀ (G18 : Nat → va_E), v2 < 7 → CI κ A w18 L G18 → FrA A F G18 → ∀ (H18 : Heap) (l18 : List Loc) (ls : Array Slot), HW D cls L s H18 l18 L G18 → lv_has ls 6 [(0, .ref (A 0)), (2, .ref (A (1 + 2 * v2))), (3, .int v3), (4, .int v4)] → W p l e (Rm 4 0 0) s m ([.ref (A 0), .int x1] : List Value).toArray below meth c H18 l18 0 0 (EnI D cls s below ([.ref (A 0), .int x1] : List Value).toArray 0 0 L (fun r L' F' => L = L' ∧ res.1 = r ∧ CI κ A res.2 L F' ∧ FrA A F F')) (F0 m 18 ls []))) (w100 : CS) (v2 : Nat) (v3 : Int32) (v4 : Int32), f_X3_mostOpen_100 k18 w100 v2 v3 v4 = some res → ∀ (G100 : Nat → va_E), v2 < 7 → CI κ A w100 L G100 → FrA A F G100 → ∀ (H100 : Heap) (l100 : List Loc) (ls : Array Slot), HW D cls L s H100 l100 L G100 → lv_has ls 6 [(0, .ref (A 0)), (2, .ref (A (1 + 2 * v2))), (3, .int v3), (4, .int v4)] → W p l e (Rm 4 0 0) s m ([.ref (A 0), .int x1] : List Value).toArray below meth c H100 l100 0 0 (EnI D cls s below ([.ref (A 0), .int x1] : List Value).toArray 0 0 L (fun r L' F' => L = L' ∧ res.1 = r ∧ CI κ A res.2 L F' ∧ FrA A F F')) (F0 m 100 ls []) := by
    intro k18 hk18 w100 v2 v3 v4 hf G100 hv2 hI hFr H100 l100 ls hW hl
    unfold f_X3_mostOpen_100 at hf
    obtain ⟨y1, ey1⟩ : ∃ y : Int32, y = v4 + 1 := ⟨_, rfl⟩
    have hf := nm_at hf ey1
    refine lv_iinc (v := y1) (lv' := [(4, .int y1), (0, .ref (A 0)), (2, .ref (A (1 + 2 * v2))), (3, .int v3)]) S.1 S.2.1 dX3_mostOpen_100 hl (k := 3) rfl (by rw [ey1]; rfl) (by decide) rfl (fun ls hl => ?_)
    refine lv_goto (tgt := 18) S.1 S.2.1 dX3_mostOpen_103 (by decide) ?_
    exact hk18 w100 v2 v3 y1 hf G100 hv2 hI hFr _ _ _ hW (lv_sub hl [1, 2, 3, 0] rfl)
  have B77 : ∀ (k18 : (CS × Nat × Int32 × Int32) → Option (Int32 × CS)) (hk18 : (∀ (w18 : CS) (v2 : Nat) (v3 : Int32) (v4 : Int32), k18 (w18, v2, v3, v4) = some res → ∀ (G18 : Nat → va_E), v2 < 7 → CI κ A w18 L G18 → FrA A F G18 → ∀ (H18 : Heap) (l18 : List Loc) (ls : Array Slot), HW D cls L s H18 l18 L G18 → lv_has ls 6 [(0, .ref (A 0)), (2, .ref (A (1 + 2 * v2))), (3, .int v3), (4, .int v4)] → W p l e (Rm 4 0 0) s m ([.ref (A 0), .int x1] : List Value).toArray below meth c H18 l18 0 0 (EnI D cls s below ([.ref (A 0), .int x1] : List Value).toArray 0 0 L (fun r L' F' => L = L' ∧ res.1 = r ∧ CI κ A res.2 L F' ∧ FrA A F F')) (F0 m 18 ls []))) (w77 : CS) (v2 : Nat) (v3 : Int32) (v4 : Int32) (v5 : Int32), f_X3_mostOpen_77 k18 w77 v2 v3 v4 v5 = some res → ∀ (G77 : Nat → va_E), v2 < 7 → CI κ A w77 L G77 → FrA A F G77 → ∀ (H77 : Heap) (l77 : List Loc) (ls : Array Slot), HW D cls L s H77 l77 L G77 → lv_has ls 6 [(0, .ref (A 0)), (2, .ref (A (1 + 2 * v2))), (3, .int v3), (4, .int v4), (5, .int v5)] → W p l e (Rm 4 0 0) s m ([.ref (A 0), .int x1] : List Value).toArray below meth c H77 l77 0 0 (EnI D cls s below ([.ref (A 0), .int x1] : List Value).toArray 0 0 L (fun r L' F' => L = L' ∧ res.1 = r ∧ CI κ A res.2 L F' ∧ FrA A F F')) (F0 m 77 ls []) := by
    intro k18 hk18 w77 v2 v3 v4 v5 hf G77 hv2 hI hFr H77 l77 ls hW hl
    unfold f_X3_mostOpen_77 at hf
    refine lv_iload S.1 S.2.1 dX3_mostOpen_77 (lv_at hl 4 rfl) ?_
    refine lv_iconst (v := 2) S.1 S.2.1 dX3_mostOpen_79 (by decide) ?_
    refine pk_irem S dX3_mostOpen_80 (by decide) ?_
    refine lv_if_ne (tgt := 100) S.1 S.2.1 dX3_mostOpen_81 (by decide) (fun c2 => ?_) (fun c2 => ?_)
    · have hf := (if_neg c2).symm.trans hf
      exact B100 k18 hk18 w77 v2 v3 v4 hf G77 hv2 hI hFr _ _ _ hW (lv_sub hl [0, 1, 2, 3] rfl)
    · have hf := (if_pos c2).symm.trans hf
      refine lv_iload S.1 S.2.1 dX3_mostOpen_84 (lv_at hl 4 rfl) ?_
      refine lv_if_eq (tgt := 100) S.1 S.2.1 dX3_mostOpen_86 (by decide) (fun c3 => ?_) (fun c3 => ?_)
      · have hf := (if_pos c3).symm.trans hf
        exact B100 k18 hk18 w77 v2 v3 v4 hf G77 hv2 hI hFr _ _ _ hW (lv_sub hl [0, 1, 2, 3] rfl)
      · have hf := (if_neg c3).symm.trans hf
        refine lv_aload_n S.1 S.2.1 dX3_mostOpen_89 rfl (lv_at hl 0 rfl) ?_
        refine lv_iload S.1 S.2.1 dX3_mostOpen_90 (lv_at hl 4 rfl) ?_
        obtain ⟨z4, hz, hf⟩ := ob hf
        refine pk_cVI (As := [.int v5]) (rest := []) S hK hST hW (c_X3_closedBy hI v5 hz) mc_X3_closedBy wd_308 wd_310 wd_1678 rfl np_X3_closedBy (hI.mem 0 (by decide)) hI.this rfl rfl hl.1 rfl (Nat.le_of_ble_eq_true rfl) dX3_mostOpen_92 ⟨by decide, by decide⟩ ⟨by decide, by decide⟩ (fun r L5 F6 H7 l8 hp hW => ?_)
        obtain ⟨rfl, rfl, hI1, hFr1⟩ := hp
        have hI := hI1
        have hFr := hFr.tr hFr1
        refine lv_if_ne (tgt := 100) S.1 S.2.1 dX3_mostOpen_95 (by decide) (fun c9 => ?_) (fun c9 => ?_)
        · have hf := (if_neg c9).symm.trans hf
          exact B100 k18 hk18 z4.2 v2 v3 v4 hf F6 hv2 hI hFr _ _ _ hW (lv_sub hl [0, 1, 2, 3] rfl)
        · have hf := (if_pos c9).symm.trans hf
          refine lv_iconst (v := (-1)) S.1 S.2.1 dX3_mostOpen_98 (by decide) ?_
          exact pk_iret S hr hlk hW ⟨rfl, eqm (P := fun z => z.1 = (-1) ∧ CI κ A z.2 L F6 ∧ FrA A F F6) ⟨rfl, hI, hFr⟩ (Option.some.inj hf)⟩ (by decide) (by decide) dX3_mostOpen_99
  have B18 : ∀ (N : Nat), (∀ (w18 : CS) (v2 : Nat) (v3 : Int32) (v4 : Int32), (lpn (f_X3_mostOpen_18 ) N) (w18, v2, v3, v4) = some res → ∀ (G18 : Nat → va_E), v2 < 7 → CI κ A w18 L G18 → FrA A F G18 → ∀ (H18 : Heap) (l18 : List Loc) (ls : Array Slot), HW D cls L s H18 l18 L G18 → lv_has ls 6 [(0, .ref (A 0)), (2, .ref (A (1 + 2 * v2))), (3, .int v3), (4, .int v4)] → W p l e (Rm 4 0 0) s m ([.ref (A 0), .int x1] : List Value).toArray below meth c H18 l18 0 0 (EnI D cls s below ([.ref (A 0), .int x1] : List Value).toArray 0 0 L (fun r L' F' => L = L' ∧ res.1 = r ∧ CI κ A res.2 L F' ∧ FrA A F F')) (F0 m 18 ls [])) := by
    intro  N
    induction N with
    | zero => intro w18 v2 v3 v4 hf G18 hv2 hI hFr H18 l18 ls hW hl; cases hf
    | succ N ih =>
      intro w18 v2 v3 v4 hf G18 hv2 hI hFr H18 l18 ls hW hl
      have hf : f_X3_mostOpen_18 (lpn (f_X3_mostOpen_18 ) N) (w18, v2, v3, v4) = some res := hf
      generalize lpn (f_X3_mostOpen_18 ) N = k18 at hf ih
      have hk18 := ih
      unfold f_X3_mostOpen_18 at hf
      try dsimp only at hf
      refine lv_iload S.1 S.2.1 dX3_mostOpen_18 (lv_at hl 3 rfl) ?_
      refine lv_aload_n S.1 S.2.1 dX3_mostOpen_20 rfl (lv_at hl 1 rfl) ?_
      obtain ⟨z10, hz, hf⟩ := ob hf
      refine pk_cVI (As := []) (rest := [.int v4]) S hK hST hW (c_X0_size (hI.row hv2)  hz) mc_X0_size wd_140 wd_141 wd_142 rfl np_X0_size (hI.mem _ (by have := hv2; omega)) (hI.rowH hv2) rfl rfl hl.1 rfl (Nat.le_of_ble_eq_true rfl) dX3_mostOpen_21 ⟨by decide, by decide⟩ ⟨by decide, by decide⟩ (fun r L11 F12 H13 l14 hp hW => ?_)
      obtain ⟨rfl, rfl, rfl⟩ := hp
      refine lv_icmp_ge (tgt := 106) S.1 S.2.1 dX3_mostOpen_24 (by decide) (fun c15 => ?_) (fun c15 => ?_)
      · have hf := (if_pos c15).symm.trans hf
        refine lv_aload_n S.1 S.2.1 dX3_mostOpen_106 rfl (lv_at hl 0 rfl) ?_
        refine pk_get S hK hW 10 (hI.mem 0 (by decide)) hI.this rfl hinX3 (by decide) wd_90 rfl dX3_mostOpen_107 ?_
        obtain ⟨z16, hz, hf⟩ := ob hf
        refine pk_cVI (As := []) (rest := []) S hK hST hW (c_X0_isEmpty (hI.row (by decide : 6 < 7))  hz) mc_X0_isEmpty wd_107 wd_108 wd_109 rfl np_X0_isEmpty (hI.mem _ (by have := (by decide : 6 < 7); omega)) (hI.rowH (by decide : 6 < 7)) rfl rfl hl.1 rfl (Nat.le_of_ble_eq_true rfl) dX3_mostOpen_110 ⟨by decide, by decide⟩ ⟨by decide, by decide⟩ (fun r L17 F18 H19 l20 hp hW => ?_)
        obtain ⟨rfl, rfl, rfl⟩ := hp
        refine lv_if_eq (tgt := 120) S.1 S.2.1 dX3_mostOpen_113 (by decide) (fun c21 => ?_) (fun c21 => ?_)
        · have hf := (if_pos c21).symm.trans hf
          refine lv_iconst (v := (-1)) S.1 S.2.1 dX3_mostOpen_120 (by decide) ?_
          exact pk_iret S hr hlk hW ⟨rfl, eqm (P := fun z => z.1 = (-1) ∧ CI κ A z.2 L G18 ∧ FrA A F G18) ⟨rfl, hI, hFr⟩ (Option.some.inj hf)⟩ (by decide) (by decide) dX3_mostOpen_121
        · have hf := (if_neg c21).symm.trans hf
          refine lv_iload_n S.1 S.2.1 dX3_mostOpen_116 rfl (lv_at hl 2 rfl) ?_
          refine lv_goto (tgt := 121) S.1 S.2.1 dX3_mostOpen_117 (by decide) ?_
          exact pk_iret S hr hlk hW ⟨rfl, eqm (P := fun z => z.1 = v3 ∧ CI κ A z.2 L G18 ∧ FrA A F G18) ⟨rfl, hI, hFr⟩ (Option.some.inj hf)⟩ (by decide) (by decide) dX3_mostOpen_121
      · have hf := (if_neg c15).symm.trans hf
        refine lv_aload_n S.1 S.2.1 dX3_mostOpen_27 rfl (lv_at hl 1 rfl) ?_
        refine lv_iload S.1 S.2.1 dX3_mostOpen_28 (lv_at hl 3 rfl) ?_
        obtain ⟨z22, hz, hf⟩ := ob hf
        refine pk_cVI (As := [.int v4]) (rest := []) S hK hST hW (c_X0_read (hI.row hv2) v4 hz) mc_X0_read wd_171 wd_120 wd_121 rfl np_X0_read (hI.mem _ (by have := hv2; omega)) (hI.rowH hv2) rfl rfl hl.1 rfl (Nat.le_of_ble_eq_true rfl) dX3_mostOpen_30 ⟨by decide, by decide⟩ ⟨by decide, by decide⟩ (fun r L23 F24 H25 l26 hp hW => ?_)
        obtain ⟨rfl, rfl, rfl⟩ := hp
        obtain ⟨z27, hz, hf⟩ := ob hf
        refine pk_cSI (As := [.int z22]) (rest := []) S hK hST hW (c_X3_kindOf  z22 hz) mc_X3_kindOf wd_175 wd_176 np_X3_kindOf rfl hl.1 rfl (Nat.le_of_ble_eq_true rfl) dX3_mostOpen_33 ⟨by decide, by decide⟩ ⟨by decide, by decide⟩ (fun r L28 F29 H30 l31 hp hW => ?_)
        obtain ⟨rfl, rfl, rfl⟩ := hp
        refine lv_istore (lv' := [(5, .int z27), (0, .ref (A 0)), (2, .ref (A (1 + 2 * v2))), (3, .int v3), (4, .int v4)]) S.1 S.2.1 dX3_mostOpen_36 hl (by decide) rfl (fun ls hl => ?_)
        refine lv_iload S.1 S.2.1 dX3_mostOpen_38 (lv_at hl 0 rfl) ?_
        refine lv_iconst (v := 2) S.1 S.2.1 dX3_mostOpen_40 (by decide) ?_
        refine pk_irem S dX3_mostOpen_41 (by decide) ?_
        refine lv_iconst (v := 1) S.1 S.2.1 dX3_mostOpen_42 (by decide) ?_
        refine lv_icmp_ne (tgt := 77) S.1 S.2.1 dX3_mostOpen_43 (by decide) (fun c32 => ?_) (fun c32 => ?_)
        · have hf := (if_neg c32).symm.trans hf
          exact B77 k18 hk18 w18 v2 v3 v4 z27 hf G18 hv2 hI hFr _ _ _ hW (lv_sub hl [1, 2, 3, 4, 0] rfl)
        · have hf := (if_pos c32).symm.trans hf
          refine lv_iload S.1 S.2.1 dX3_mostOpen_46 (lv_at hl 0 rfl) ?_
          refine lv_bipush (v := 9) S.1 S.2.1 dX3_mostOpen_48 (by decide) ?_
          refine lv_icmp_ge (tgt := 77) S.1 S.2.1 dX3_mostOpen_50 (by decide) (fun c33 => ?_) (fun c33 => ?_)
          · have hf := (if_pos c33).symm.trans hf
            exact B77 k18 hk18 w18 v2 v3 v4 z27 hf G18 hv2 hI hFr _ _ _ hW (lv_sub hl [1, 2, 3, 4, 0] rfl)
          · have hf := (if_neg c33).symm.trans hf
            refine lv_aload_n S.1 S.2.1 dX3_mostOpen_53 rfl (lv_at hl 1 rfl) ?_
            refine pk_get S hK hW 10 (hI.mem 0 (by decide)) hI.this rfl hinX3 (by decide) wd_90 rfl dX3_mostOpen_54 ?_
            refine lv_iload S.1 S.2.1 dX3_mostOpen_57 (lv_at hl 0 rfl) ?_
            obtain ⟨z34, hz, hf⟩ := ob hf
            refine pk_cVV (As := [.int z27]) (rest := []) S hK hST hW (c_X0_enterLast (hI.row (by decide : 6 < 7)) z27 hz) mc_X0_enterLast wd_307 wd_252 wd_253 rfl np_X0_enterLast (hI.mem _ (by have := (by decide : 6 < 7); omega)) (hI.rowH (by decide : 6 < 7)) rfl rfl hl.1 rfl (Nat.le_of_ble_eq_true rfl) dX3_mostOpen_59 ⟨by decide, by decide⟩ ⟨by decide, by decide⟩ (fun L35 F36 H37 l38 hp hW => ?_)
            obtain ⟨rfl, hI1, hFr1⟩ := hp
            have hFr := hFr.tr (FrA.row (by decide : 6 < 7) hFr1)
            have hI := hI.setRow (by decide : 6 < 7) hI1 hFr1
            obtain ⟨t39, et39, hf⟩ := nm_ok hf
            have hI := eqm (P := fun w => CI κ A w L F36) hI et39.symm
            refine lv_iload_n S.1 S.2.1 dX3_mostOpen_62 rfl (lv_at hl 3 rfl) ?_
            refine lv_aload_n S.1 S.2.1 dX3_mostOpen_63 rfl (lv_at hl 1 rfl) ?_
            refine pk_get S hK hW 10 (hI.mem 0 (by decide)) hI.this rfl hinX3 (by decide) wd_90 rfl dX3_mostOpen_64 ?_
            obtain ⟨z40, hz, hf⟩ := ob hf
            refine pk_cVI (As := []) (rest := [.int v3]) S hK hST hW (c_X0_size (hI.row (by decide : 6 < 7))  hz) mc_X0_size wd_140 wd_141 wd_142 rfl np_X0_size (hI.mem _ (by have := (by decide : 6 < 7); omega)) (hI.rowH (by decide : 6 < 7)) rfl rfl hl.1 rfl (Nat.le_of_ble_eq_true rfl) dX3_mostOpen_67 ⟨by decide, by decide⟩ ⟨by decide, by decide⟩ (fun r L41 F42 H43 l44 hp hW => ?_)
            obtain ⟨rfl, rfl, rfl⟩ := hp
            refine va_mmax S.1 S.2.1 (S.2.2.1.trans hl.1.symm) S.2.2.2.1 (S.2.2.2.2 _ wd_300) (S.2.2.2.2 _ wd_301) (S.2.2.2.2 _ wd_11) (S.2.2.2.2 _ wd_302) (by decide) (by decide) (by decide) (by decide) dX3_mostOpen_70 ?_
            refine lv_topi (fun y45 ey45 => ?_)
            have hf := nm_at hf ey45
            refine lv_istore_n (lv' := [(3, .int y45), (5, .int z27), (0, .ref (A 0)), (2, .ref (A (1 + 2 * v2))), (4, .int v4)]) S.1 S.2.1 dX3_mostOpen_73 rfl hl (by decide) rfl (fun ls hl => ?_)
            refine lv_goto (tgt := 100) S.1 S.2.1 dX3_mostOpen_74 (by decide) ?_
            exact B100 k18 hk18 t39 v2 y45 v4 hf F36 hv2 hI hFr _ _ _ hW (lv_sub hl [2, 3, 0, 4] rfl)
  unfold f_X3_mostOpen at hf
  refine lv_aload_n S.1 S.2.1 dX3_mostOpen_0 rfl (lv_at hl 0 rfl) ?_
  refine lv_iload_n S.1 S.2.1 dX3_mostOpen_1 rfl (lv_at hl 1 rfl) ?_
  obtain ⟨z46, hz, hf⟩ := ob hf
  refine pk_cVR (As := [.int x1]) (rest := []) S hK hST hW (c_X3_trackOf hI x1 hz) mc_X3_trackOf wd_130 wd_132 wd_1664 rfl np_X3_trackOf (hI.mem 0 (by decide)) hI.this rfl rfl hl.1 rfl (Nat.le_of_ble_eq_true rfl) dX3_mostOpen_2 ⟨by decide, by decide⟩ ⟨by decide, by decide⟩ (fun r L47 F48 H49 l50 hp hW => ?_)
  obtain ⟨rfl, rfl, hbz46, rfl⟩ := hp
  refine lv_astore_n (lv' := [(2, .ref (A (1 + 2 * z46))), (0, .ref (A 0)), (1, .int x1)]) S.1 S.2.1 dX3_mostOpen_5 rfl hl (by decide) rfl (fun ls hl => ?_)
  refine lv_iconst (v := 0) S.1 S.2.1 dX3_mostOpen_6 (by decide) ?_
  refine lv_istore_n (lv' := [(3, .int 0), (2, .ref (A (1 + 2 * z46))), (0, .ref (A 0)), (1, .int x1)]) S.1 S.2.1 dX3_mostOpen_7 rfl hl (by decide) rfl (fun ls hl => ?_)
  refine lv_aload_n S.1 S.2.1 dX3_mostOpen_8 rfl (lv_at hl 2 rfl) ?_
  refine pk_get S hK hW 10 (hI.mem 0 (by decide)) hI.this rfl hinX3 (by decide) wd_90 rfl dX3_mostOpen_9 ?_
  obtain ⟨z51, hz, hf⟩ := ob hf
  refine pk_cVV (As := []) (rest := []) S hK hST hW (c_X0_empty (hI.row (by decide : 6 < 7))  hz) mc_X0_empty wd_190 wd_191 wd_192 rfl np_X0_empty (hI.mem _ (by have := (by decide : 6 < 7); omega)) (hI.rowH (by decide : 6 < 7)) rfl rfl hl.1 rfl (Nat.le_of_ble_eq_true rfl) dX3_mostOpen_12 ⟨by decide, by decide⟩ ⟨by decide, by decide⟩ (fun L52 F53 H54 l55 hp hW => ?_)
  obtain ⟨rfl, hI1, hFr1⟩ := hp
  have hFr := hFr.tr (FrA.row (by decide : 6 < 7) hFr1)
  have hI := hI.setRow (by decide : 6 < 7) hI1 hFr1
  obtain ⟨t56, et56, hf⟩ := nm_ok hf
  have hI := eqm (P := fun w => CI κ A w L F53) hI et56.symm
  refine lv_iconst (v := 0) S.1 S.2.1 dX3_mostOpen_15 (by decide) ?_
  refine lv_istore (lv' := [(4, .int 0), (3, .int 0), (2, .ref (A (1 + 2 * z46))), (0, .ref (A 0)), (1, .int x1)]) S.1 S.2.1 dX3_mostOpen_16 hl (by decide) rfl (fun ls hl => ?_)
  exact B18  64 t56 z46 0 0 hf F53 hbz46 hI hFr _ _ _ hW (lv_sub hl [3, 2, 1, 0] rfl)
def f_X3_nested (σ : CS) (x1 : Int32) : Option (Nat ⊕ (Int32 × CS)) := obx (f_X3_needTrack x1) fun z1 => (f_X3_mostOpen σ x1).bind fun z6 => some (.inr (z6.1, z6.2))
theorem mc_X3_nested : MCode yX3_nested cX3_nested 2 (some .int) := ⟨wd_1045, wd_1, by decide, by decide⟩
theorem np_X3_nested : (parseMethodDescriptor yX3_nested.desc).map (fun d => d.parameters.length) = some 1 := by decide +kernel
set_option maxHeartbeats 4000000 in
set_option maxRecDepth 100000 in
theorem c_X3_nested {l : Launch} {D : va_G} {κ : Nat → ClassId} {ζ : Nat → Nat} {L : List Nat} {F : Nat → va_E} {σ : CS} {A : Nat → Nat} (hst : l.stackTraces = false) (hI : CI κ A σ L F) (x1 : Int32) {res : (Nat ⊕ (Int32 × CS))} (hf : f_X3_nested σ x1 = some res) : MxI l D cls (ty5 κ) ζ yX3_nested cX3_nested 2 (some .int) 8 1 6 ([.ref (A 0), .int x1] : List Value) L F (fun r L' F' => L = L' ∧ ∃ z, res = .inr z ∧ z.1 = r ∧ CI κ A z.2 L F' ∧ FrA A F F') (fun E => ∃ k, res = .inl k ∧ E = xName k) := by
  refine MxI.of (by decide) (Nat.le_of_ble_eq_true rfl) ?_
  intro p e s m below meth c S hr hlk hxt hK hW hST ls hl
  have hl : lv_has ls 2 [(0, .ref (A 0)), (1, .int x1)] := hl
  have hFr : FrA A F F := FrA.rf
  unfold f_X3_nested at hf
  refine lv_iload_n S.1 S.2.1 dX3_nested_0 rfl (lv_at hl 1 rfl) ?_
  obtain ⟨z1, hz, hxl, hxr⟩ := obx_ok hf
  refine xk_cSV (As := [.int x1]) (rest := []) S hK hST hW (c_X3_needTrack hst  x1 hz) mc_X3_needTrack wd_359 wd_360 np_X3_needTrack rfl hl.1 rfl (Nat.le_of_ble_eq_true rfl) dX3_nested_1 ⟨by decide, by decide⟩ ⟨by decide, by decide⟩ (fun E ce q9 H4 l5 hE hW h1 h2 h3 => ?_) (fun L2 F3 H4 l5 hp hW => ?_)
  · obtain ⟨k, hk1, hk2⟩ := hE
    exact xk_outI hxt hlk hW ⟨k, hxl k hk1, hk2⟩ h1 h2 h3 (by decide) (by decide)
  obtain ⟨rfl, rfl, z1, hz1⟩ := hp
  have hf := hxr z1 hz1
  refine lv_aload_n S.1 S.2.1 dX3_nested_4 rfl (lv_at hl 0 rfl) ?_
  refine lv_iload_n S.1 S.2.1 dX3_nested_5 rfl (lv_at hl 1 rfl) ?_
  obtain ⟨z6, hz, hf⟩ := ob hf
  refine pk_cVI (As := [.int x1]) (rest := []) S hK hST hW (c_X3_mostOpen hI x1 hz) mc_X3_mostOpen wd_303 wd_305 wd_1677 rfl np_X3_mostOpen (hI.mem 0 (by decide)) hI.this rfl rfl hl.1 rfl (Nat.le_of_ble_eq_true rfl) dX3_nested_6 ⟨by decide, by decide⟩ ⟨by decide, by decide⟩ (fun r L7 F8 H9 l10 hp hW => ?_)
  obtain ⟨rfl, rfl, hI1, hFr1⟩ := hp
  have hI := hI1
  have hFr := hFr.tr hFr1
  exact xk_iret S hr hlk hW ⟨rfl, _, (Option.some.inj hf).symm, rfl, hI, hFr⟩ (by decide) (by decide) dX3_nested_9
def f_X3_heaviest_43 (σ : CS)  (k43 : Int32 × Int32 × Nat × Int32 × Int32 → Option (Nat ⊕ Int32)) (t : Int32 × Int32 × Nat × Int32 × Int32) : Option (Nat ⊕ Int32) := (if t.1 ≤ t.2.2.2.2 then some (.inr t.2.2.2.1) else (f_X0_read (cap t.2.2.1) (σ.1 t.2.2.1) (t.2.1 + t.2.2.2.2)).bind fun z2 => (f_X3_loadOf z2).bind fun z7 => nm (if t.2.2.2.1 < z7 then z7 else t.2.2.2.1 : Int32) fun y12 => nm (t.2.2.2.2 + 1 : Int32) fun y13 => k43 (t.1, t.2.1, t.2.2.1, y12, y13))
def f_X3_heaviest (σ : CS) (x1 : Int32) (x2 : Int32) (x3 : Int32) : Option (Nat ⊕ Int32) := obx (f_X3_needTrack x1) fun z14 => obx (f_X3_needPlace x3 19) fun z19 => obx (f_X3_needWithin x2 1 20) fun z24 => (f_X3_trackOf σ x1).bind fun z29 => (f_X0_size (cap z29) (σ.1 z29)).bind fun z34 => (if (x3 + x2) ≤ z34 then lpn (f_X3_heaviest_43 σ) 64 (x2, x3, z29, 0, 0) else some (.inr ((-1))))
theorem mc_X3_heaviest : MCode yX3_heaviest cX3_heaviest 7 (some .int) := ⟨wd_1051, wd_1, by decide, by decide⟩
theorem np_X3_heaviest : (parseMethodDescriptor yX3_heaviest.desc).map (fun d => d.parameters.length) = some 3 := by decide +kernel
set_option maxHeartbeats 4000000 in
set_option maxRecDepth 100000 in
theorem c_X3_heaviest {l : Launch} {D : va_G} {κ : Nat → ClassId} {ζ : Nat → Nat} {L : List Nat} {F : Nat → va_E} {σ : CS} {A : Nat → Nat} (hst : l.stackTraces = false) (hI : CI κ A σ L F) (x1 : Int32) (x2 : Int32) (x3 : Int32) {res : (Nat ⊕ Int32)} (hf : f_X3_heaviest σ x1 x2 x3 = some res) : MxI l D cls (ty5 κ) ζ yX3_heaviest cX3_heaviest 7 (some .int) 8 3 18 ([.ref (A 0), .int x1, .int x2, .int x3] : List Value) L F (fun r L' F' => L = L' ∧ F = F' ∧ ∃ z, res = .inr z ∧ z = r) (fun E => ∃ k, res = .inl k ∧ E = xName k) := by
  refine MxI.of (by decide) (Nat.le_of_ble_eq_true rfl) ?_
  intro p e s m below meth c S hr hlk hxt hK hW hST ls hl
  have hl : lv_has ls 7 [(0, .ref (A 0)), (1, .int x1), (2, .int x2), (3, .int x3)] := hl
  have B43 : ∀ (N : Nat), (∀ (v2 : Int32) (v3 : Int32) (v4 : Nat) (v5 : Int32) (v6 : Int32), (lpn (f_X3_heaviest_43 σ) N) (v2, v3, v4, v5, v6) = some res → v4 < 7 → ∀ (H43 : Heap) (l43 : List Loc) (ls : Array Slot), HW D cls L s H43 l43 L F → lv_has ls 7 [(2, .int v2), (3, .int v3), (4, .ref (A (1 + 2 * v4))), (5, .int v5), (6, .int v6)] → W p l e (Rm 8 3 18) s m ([.ref (A 0), .int x1, .int x2, .int x3] : List Value).toArray below meth c H43 l43 3 18 (ExI D cls s below ([.ref (A 0), .int x1, .int x2, .int x3] : List Value).toArray 3 18 L F (fun r L' F' => L = L' ∧ F = F' ∧ ∃ z, res = .inr z ∧ z = r) (fun E => ∃ k, res = .inl k ∧ E = xName k)) (F0 m 43 ls [])) := by
    intro  N
    induction N with
    | zero => intro v2 v3 v4 v5 v6 hf hv4 H43 l43 ls hW hl; cases hf
    | succ N ih =>
      intro v2 v3 v4 v5 v6 hf hv4 H43 l43 ls hW hl
      have hf : f_X3_heaviest_43 σ (lpn (f_X3_heaviest_43 σ) N) (v2, v3, v4, v5, v6) = some res := hf
      generalize lpn (f_X3_heaviest_43 σ) N = k43 at hf ih
      have hk43 := ih
      unfold f_X3_heaviest_43 at hf
      try dsimp only at hf
      refine lv_iload S.1 S.2.1 dX3_heaviest_43 (lv_at hl 4 rfl) ?_
      refine lv_iload_n S.1 S.2.1 dX3_heaviest_45 rfl (lv_at hl 0 rfl) ?_
      refine lv_icmp_ge (tgt := 74) S.1 S.2.1 dX3_heaviest_46 (by decide) (fun c1 => ?_) (fun c1 => ?_)
      · have hf := (if_pos c1).symm.trans hf
        refine lv_iload S.1 S.2.1 dX3_heaviest_74 (lv_at hl 3 rfl) ?_
        exact xk_iret S hr hlk hW ⟨rfl, rfl, _, (Option.some.inj hf).symm, rfl⟩ (by decide) (by decide) dX3_heaviest_76
      · have hf := (if_neg c1).symm.trans hf
        refine lv_iload S.1 S.2.1 dX3_heaviest_49 (lv_at hl 3 rfl) ?_
        refine lv_aload S.1 S.2.1 dX3_heaviest_51 (lv_at hl 2 rfl) ?_
        refine lv_iload_n S.1 S.2.1 dX3_heaviest_53 rfl (lv_at hl 1 rfl) ?_
        refine lv_iload S.1 S.2.1 dX3_heaviest_54 (lv_at hl 4 rfl) ?_
        refine lv_iadd S.1 S.2.1 dX3_heaviest_56 ?_
        obtain ⟨z2, hz, hf⟩ := ob hf
        refine pk_cVI (As := [.int (v3 + v6)]) (rest := [.int v5]) S hK hST hW (c_X0_read (hI.row hv4) (v3 + v6) hz) mc_X0_read wd_171 wd_120 wd_121 rfl np_X0_read (hI.mem _ (by have := hv4; omega)) (hI.rowH hv4) rfl rfl hl.1 rfl (Nat.le_of_ble_eq_true rfl) dX3_heaviest_57 ⟨by decide, by decide⟩ ⟨by decide, by decide⟩ (fun r L3 F4 H5 l6 hp hW => ?_)
        obtain ⟨rfl, rfl, rfl⟩ := hp
        obtain ⟨z7, hz, hf⟩ := ob hf
        refine pk_cSI (As := [.int z2]) (rest := [.int v5]) S hK hST hW (c_X3_loadOf  z2 hz) mc_X3_loadOf wd_279 wd_280 np_X3_loadOf rfl hl.1 rfl (Nat.le_of_ble_eq_true rfl) dX3_heaviest_60 ⟨by decide, by decide⟩ ⟨by decide, by decide⟩ (fun r L8 F9 H10 l11 hp hW => ?_)
        obtain ⟨rfl, rfl, rfl⟩ := hp
        refine va_mmax S.1 S.2.1 (S.2.2.1.trans hl.1.symm) S.2.2.2.1 (S.2.2.2.2 _ wd_300) (S.2.2.2.2 _ wd_301) (S.2.2.2.2 _ wd_11) (S.2.2.2.2 _ wd_302) (by decide) (by decide) (by decide) (by decide) dX3_heaviest_63 ?_
        refine lv_topi (fun y12 ey12 => ?_)
        have hf := nm_at hf ey12
        refine lv_istore (lv' := [(5, .int y12), (2, .int v2), (3, .int v3), (4, .ref (A (1 + 2 * v4))), (6, .int v6)]) S.1 S.2.1 dX3_heaviest_66 hl (by decide) rfl (fun ls hl => ?_)
        obtain ⟨y13, ey13⟩ : ∃ y : Int32, y = v6 + 1 := ⟨_, rfl⟩
        have hf := nm_at hf ey13
        refine lv_iinc (v := y13) (lv' := [(6, .int y13), (5, .int y12), (2, .int v2), (3, .int v3), (4, .ref (A (1 + 2 * v4)))]) S.1 S.2.1 dX3_heaviest_68 hl (k := 4) rfl (by rw [ey13]; rfl) (by decide) rfl (fun ls hl => ?_)
        refine lv_goto (tgt := 43) S.1 S.2.1 dX3_heaviest_71 (by decide) ?_
        exact hk43 v2 v3 v4 y12 y13 hf hv4 _ _ _ hW (lv_sub hl [2, 3, 4, 1, 0] rfl)
  unfold f_X3_heaviest at hf
  refine lv_iload_n S.1 S.2.1 dX3_heaviest_0 rfl (lv_at hl 1 rfl) ?_
  obtain ⟨z1, hz, hxl, hxr⟩ := obx_ok hf
  refine xk_cSV (As := [.int x1]) (rest := []) S hK hST hW (c_X3_needTrack hst  x1 hz) mc_X3_needTrack wd_359 wd_360 np_X3_needTrack rfl hl.1 rfl (Nat.le_of_ble_eq_true rfl) dX3_heaviest_1 ⟨by decide, by decide⟩ ⟨by decide, by decide⟩ (fun E ce q9 H17 l18 hE hW h1 h2 h3 => ?_) (fun L15 F16 H17 l18 hp hW => ?_)
  · obtain ⟨k, hk1, hk2⟩ := hE
    exact xk_outI hxt hlk hW ⟨k, hxl k hk1, hk2⟩ h1 h2 h3 (by decide) (by decide)
  obtain ⟨rfl, rfl, z14, hz1⟩ := hp
  have hf := hxr z14 hz1
  refine lv_iload_n S.1 S.2.1 dX3_heaviest_4 rfl (lv_at hl 3 rfl) ?_
  refine lv_bipush (v := 19) S.1 S.2.1 dX3_heaviest_5 (by decide) ?_
  obtain ⟨z1, hz, hxl, hxr⟩ := obx_ok hf
  refine xk_cSV (As := [.int x3, .int 19]) (rest := []) S hK hST hW (c_X3_needPlace hst  x3 19 hz) mc_X3_needPlace wd_603 wd_604 np_X3_needPlace rfl hl.1 rfl (Nat.le_of_ble_eq_true rfl) dX3_heaviest_7 ⟨by decide, by decide⟩ ⟨by decide, by decide⟩ (fun E ce q9 H22 l23 hE hW h1 h2 h3 => ?_) (fun L20 F21 H22 l23 hp hW => ?_)
  · obtain ⟨k, hk1, hk2⟩ := hE
    exact xk_outI hxt hlk hW ⟨k, hxl k hk1, hk2⟩ h1 h2 h3 (by decide) (by decide)
  obtain ⟨rfl, rfl, z19, hz1⟩ := hp
  have hf := hxr z19 hz1
  refine lv_iload_n S.1 S.2.1 dX3_heaviest_10 rfl (lv_at hl 2 rfl) ?_
  refine lv_iconst (v := 1) S.1 S.2.1 dX3_heaviest_11 (by decide) ?_
  refine lv_bipush (v := 20) S.1 S.2.1 dX3_heaviest_12 (by decide) ?_
  obtain ⟨z1, hz, hxl, hxr⟩ := obx_ok hf
  refine xk_cSV (As := [.int x2, .int 1, .int 20]) (rest := []) S hK hST hW (c_X3_needWithin hst  x2 1 20 hz) mc_X3_needWithin wd_416 wd_417 np_X3_needWithin rfl hl.1 rfl (Nat.le_of_ble_eq_true rfl) dX3_heaviest_14 ⟨by decide, by decide⟩ ⟨by decide, by decide⟩ (fun E ce q9 H27 l28 hE hW h1 h2 h3 => ?_) (fun L25 F26 H27 l28 hp hW => ?_)
  · obtain ⟨k, hk1, hk2⟩ := hE
    exact xk_outI hxt hlk hW ⟨k, hxl k hk1, hk2⟩ h1 h2 h3 (by decide) (by decide)
  obtain ⟨rfl, rfl, z24, hz1⟩ := hp
  have hf := hxr z24 hz1
  refine lv_aload_n S.1 S.2.1 dX3_heaviest_17 rfl (lv_at hl 0 rfl) ?_
  refine lv_iload_n S.1 S.2.1 dX3_heaviest_18 rfl (lv_at hl 1 rfl) ?_
  obtain ⟨z29, hz, hf⟩ := ob hf
  refine pk_cVR (As := [.int x1]) (rest := []) S hK hST hW (c_X3_trackOf hI x1 hz) mc_X3_trackOf wd_130 wd_132 wd_1664 rfl np_X3_trackOf (hI.mem 0 (by decide)) hI.this rfl rfl hl.1 rfl (Nat.le_of_ble_eq_true rfl) dX3_heaviest_19 ⟨by decide, by decide⟩ ⟨by decide, by decide⟩ (fun r L30 F31 H32 l33 hp hW => ?_)
  obtain ⟨rfl, rfl, hbz29, rfl⟩ := hp
  refine lv_astore (lv' := [(4, .ref (A (1 + 2 * z29))), (0, .ref (A 0)), (1, .int x1), (2, .int x2), (3, .int x3)]) S.1 S.2.1 dX3_heaviest_22 hl (by decide) rfl (fun ls hl => ?_)
  refine lv_iload_n S.1 S.2.1 dX3_heaviest_24 rfl (lv_at hl 4 rfl) ?_
  refine lv_iload_n S.1 S.2.1 dX3_heaviest_25 rfl (lv_at hl 3 rfl) ?_
  refine lv_iadd S.1 S.2.1 dX3_heaviest_26 ?_
  refine lv_aload S.1 S.2.1 dX3_heaviest_27 (lv_at hl 0 rfl) ?_
  obtain ⟨z34, hz, hf⟩ := ob hf
  refine pk_cVI (As := []) (rest := [.int (x3 + x2)]) S hK hST hW (c_X0_size (hI.row hbz29)  hz) mc_X0_size wd_140 wd_141 wd_142 rfl np_X0_size (hI.mem _ (by have := hbz29; omega)) (hI.rowH hbz29) rfl rfl hl.1 rfl (Nat.le_of_ble_eq_true rfl) dX3_heaviest_29 ⟨by decide, by decide⟩ ⟨by decide, by decide⟩ (fun r L35 F36 H37 l38 hp hW => ?_)
  obtain ⟨rfl, rfl, rfl⟩ := hp
  refine lv_icmp_le (tgt := 37) S.1 S.2.1 dX3_heaviest_32 (by decide) (fun c39 => ?_) (fun c39 => ?_)
  · have hf := (if_pos c39).symm.trans hf
    refine lv_iconst (v := 0) S.1 S.2.1 dX3_heaviest_37 (by decide) ?_
    refine lv_istore (lv' := [(5, .int 0), (4, .ref (A (1 + 2 * z29))), (0, .ref (A 0)), (1, .int x1), (2, .int x2), (3, .int x3)]) S.1 S.2.1 dX3_heaviest_38 hl (by decide) rfl (fun ls hl => ?_)
    refine lv_iconst (v := 0) S.1 S.2.1 dX3_heaviest_40 (by decide) ?_
    refine lv_istore (lv' := [(6, .int 0), (5, .int 0), (4, .ref (A (1 + 2 * z29))), (0, .ref (A 0)), (1, .int x1), (2, .int x2), (3, .int x3)]) S.1 S.2.1 dX3_heaviest_41 hl (by decide) rfl (fun ls hl => ?_)
    exact B43  64 x2 x3 z29 0 0 hf hbz29 _ _ _ hW (lv_sub hl [5, 6, 2, 1, 0] rfl)
  · have hf := (if_neg c39).symm.trans hf
    refine lv_iconst (v := (-1)) S.1 S.2.1 dX3_heaviest_35 (by decide) ?_
    exact xk_iret S hr hlk hW ⟨rfl, rfl, _, (Option.some.inj hf).symm, rfl⟩ (by decide) (by decide) dX3_heaviest_36
def f_X3_ahead_42 (σ : CS)  (k42 : Nat × Int32 × Int32 → Option (Nat ⊕ Int32)) (t : Nat × Int32 × Int32) : Option (Nat ⊕ Int32) := (if t.2.2 < 0 then some (.inr ((-1))) else (f_X0_read (cap t.1) (σ.1 t.1) t.2.2).bind fun z2 => (f_X3_loadOf z2).bind fun z7 => (if z7 ≤ t.2.1 then nm (t.2.2 + (-1) : Int32) fun y13 => k42 (t.1, t.2.1, y13) else some (.inr t.2.2)))
def f_X3_ahead (σ : CS) (x1 : Int32) (x2 : Int32) : Option (Nat ⊕ Int32) := obx (f_X3_needTrack x1) fun z14 => obx (f_X3_needPlace x2 19) fun z19 => (f_X3_trackOf σ x1).bind fun z24 => (f_X0_size (cap z24) (σ.1 z24)).bind fun z29 => (if x2 < z29 then (f_X0_read (cap z24) (σ.1 z24) x2).bind fun z35 => (f_X3_loadOf z35).bind fun z40 => nm (x2 - 1 : Int32) fun y45 => lpn (f_X3_ahead_42 σ) 64 (z24, z40, y45) else some (.inr ((-9))))
theorem mc_X3_ahead : MCode yX3_ahead cX3_ahead 6 (some .int) := ⟨wd_1057, wd_1, by decide, by decide⟩
theorem np_X3_ahead : (parseMethodDescriptor yX3_ahead.desc).map (fun d => d.parameters.length) = some 2 := by decide +kernel
set_option maxHeartbeats 4000000 in
set_option maxRecDepth 100000 in
theorem c_X3_ahead {l : Launch} {D : va_G} {κ : Nat → ClassId} {ζ : Nat → Nat} {L : List Nat} {F : Nat → va_E} {σ : CS} {A : Nat → Nat} (hst : l.stackTraces = false) (hI : CI κ A σ L F) (x1 : Int32) (x2 : Int32) {res : (Nat ⊕ Int32)} (hf : f_X3_ahead σ x1 x2 = some res) : MxI l D cls (ty5 κ) ζ yX3_ahead cX3_ahead 6 (some .int) 8 2 12 ([.ref (A 0), .int x1, .int x2] : List Value) L F (fun r L' F' => L = L' ∧ F = F' ∧ ∃ z, res = .inr z ∧ z = r) (fun E => ∃ k, res = .inl k ∧ E = xName k) := by
  refine MxI.of (by decide) (Nat.le_of_ble_eq_true rfl) ?_
  intro p e s m below meth c S hr hlk hxt hK hW hST ls hl
  have hl : lv_has ls 6 [(0, .ref (A 0)), (1, .int x1), (2, .int x2)] := hl
  have B42 : ∀ (N : Nat), (∀ (v3 : Nat) (v4 : Int32) (v5 : Int32), (lpn (f_X3_ahead_42 σ) N) (v3, v4, v5) = some res → v3 < 7 → ∀ (H42 : Heap) (l42 : List Loc) (ls : Array Slot), HW D cls L s H42 l42 L F → lv_has ls 6 [(3, .ref (A (1 + 2 * v3))), (4, .int v4), (5, .int v5)] → W p l e (Rm 8 2 12) s m ([.ref (A 0), .int x1, .int x2] : List Value).toArray below meth c H42 l42 2 12 (ExI D cls s below ([.ref (A 0), .int x1, .int x2] : List Value).toArray 2 12 L F (fun r L' F' => L = L' ∧ F = F' ∧ ∃ z, res = .inr z ∧ z = r) (fun E => ∃ k, res = .inl k ∧ E = xName k)) (F0 m 42 ls [])) := by
    intro  N
    induction N with
    | zero => intro v3 v4 v5 hf hv3 H42 l42 ls hW hl; cases hf
    | succ N ih =>
      intro v3 v4 v5 hf hv3 H42 l42 ls hW hl
      have hf : f_X3_ahead_42 σ (lpn (f_X3_ahead_42 σ) N) (v3, v4, v5) = some res := hf
      generalize lpn (f_X3_ahead_42 σ) N = k42 at hf ih
      have hk42 := ih
      unfold f_X3_ahead_42 at hf
      try dsimp only at hf
      refine lv_iload S.1 S.2.1 dX3_ahead_42 (lv_at hl 2 rfl) ?_
      refine lv_if_lt (tgt := 70) S.1 S.2.1 dX3_ahead_44 (by decide) (fun c1 => ?_) (fun c1 => ?_)
      · have hf := (if_pos c1).symm.trans hf
        refine lv_iconst (v := (-1)) S.1 S.2.1 dX3_ahead_70 (by decide) ?_
        exact xk_iret S hr hlk hW ⟨rfl, rfl, _, (Option.some.inj hf).symm, rfl⟩ (by decide) (by decide) dX3_ahead_71
      · have hf := (if_neg c1).symm.trans hf
        refine lv_aload_n S.1 S.2.1 dX3_ahead_47 rfl (lv_at hl 0 rfl) ?_
        refine lv_iload S.1 S.2.1 dX3_ahead_48 (lv_at hl 2 rfl) ?_
        obtain ⟨z2, hz, hf⟩ := ob hf
        refine pk_cVI (As := [.int v5]) (rest := []) S hK hST hW (c_X0_read (hI.row hv3) v5 hz) mc_X0_read wd_171 wd_120 wd_121 rfl np_X0_read (hI.mem _ (by have := hv3; omega)) (hI.rowH hv3) rfl rfl hl.1 rfl (Nat.le_of_ble_eq_true rfl) dX3_ahead_50 ⟨by decide, by decide⟩ ⟨by decide, by decide⟩ (fun r L3 F4 H5 l6 hp hW => ?_)
        obtain ⟨rfl, rfl, rfl⟩ := hp
        obtain ⟨z7, hz, hf⟩ := ob hf
        refine pk_cSI (As := [.int z2]) (rest := []) S hK hST hW (c_X3_loadOf  z2 hz) mc_X3_loadOf wd_279 wd_280 np_X3_loadOf rfl hl.1 rfl (Nat.le_of_ble_eq_true rfl) dX3_ahead_53 ⟨by decide, by decide⟩ ⟨by decide, by decide⟩ (fun r L8 F9 H10 l11 hp hW => ?_)
        obtain ⟨rfl, rfl, rfl⟩ := hp
        refine lv_iload S.1 S.2.1 dX3_ahead_56 (lv_at hl 1 rfl) ?_
        refine lv_icmp_le (tgt := 64) S.1 S.2.1 dX3_ahead_58 (by decide) (fun c12 => ?_) (fun c12 => ?_)
        · have hf := (if_pos c12).symm.trans hf
          obtain ⟨y13, ey13⟩ : ∃ y : Int32, y = v5 + (-1) := ⟨_, rfl⟩
          have hf := nm_at hf ey13
          refine lv_iinc (v := y13) (lv' := [(5, .int y13), (3, .ref (A (1 + 2 * v3))), (4, .int v4)]) S.1 S.2.1 dX3_ahead_64 hl (k := 2) rfl (by rw [ey13]; rfl) (by decide) rfl (fun ls hl => ?_)
          refine lv_goto (tgt := 42) S.1 S.2.1 dX3_ahead_67 (by decide) ?_
          exact hk42 v3 v4 y13 hf hv3 _ _ _ hW (lv_sub hl [1, 2, 0] rfl)
        · have hf := (if_neg c12).symm.trans hf
          refine lv_iload S.1 S.2.1 dX3_ahead_61 (lv_at hl 2 rfl) ?_
          exact xk_iret S hr hlk hW ⟨rfl, rfl, _, (Option.some.inj hf).symm, rfl⟩ (by decide) (by decide) dX3_ahead_63
  unfold f_X3_ahead at hf
  refine lv_iload_n S.1 S.2.1 dX3_ahead_0 rfl (lv_at hl 1 rfl) ?_
  obtain ⟨z1, hz, hxl, hxr⟩ := obx_ok hf
  refine xk_cSV (As := [.int x1]) (rest := []) S hK hST hW (c_X3_needTrack hst  x1 hz) mc_X3_needTrack wd_359 wd_360 np_X3_needTrack rfl hl.1 rfl (Nat.le_of_ble_eq_true rfl) dX3_ahead_1 ⟨by decide, by decide⟩ ⟨by decide, by decide⟩ (fun E ce q9 H17 l18 hE hW h1 h2 h3 => ?_) (fun L15 F16 H17 l18 hp hW => ?_)
  · obtain ⟨k, hk1, hk2⟩ := hE
    exact xk_outI hxt hlk hW ⟨k, hxl k hk1, hk2⟩ h1 h2 h3 (by decide) (by decide)
  obtain ⟨rfl, rfl, z14, hz1⟩ := hp
  have hf := hxr z14 hz1
  refine lv_iload_n S.1 S.2.1 dX3_ahead_4 rfl (lv_at hl 2 rfl) ?_
  refine lv_bipush (v := 19) S.1 S.2.1 dX3_ahead_5 (by decide) ?_
  obtain ⟨z1, hz, hxl, hxr⟩ := obx_ok hf
  refine xk_cSV (As := [.int x2, .int 19]) (rest := []) S hK hST hW (c_X3_needPlace hst  x2 19 hz) mc_X3_needPlace wd_603 wd_604 np_X3_needPlace rfl hl.1 rfl (Nat.le_of_ble_eq_true rfl) dX3_ahead_7 ⟨by decide, by decide⟩ ⟨by decide, by decide⟩ (fun E ce q9 H22 l23 hE hW h1 h2 h3 => ?_) (fun L20 F21 H22 l23 hp hW => ?_)
  · obtain ⟨k, hk1, hk2⟩ := hE
    exact xk_outI hxt hlk hW ⟨k, hxl k hk1, hk2⟩ h1 h2 h3 (by decide) (by decide)
  obtain ⟨rfl, rfl, z19, hz1⟩ := hp
  have hf := hxr z19 hz1
  refine lv_aload_n S.1 S.2.1 dX3_ahead_10 rfl (lv_at hl 0 rfl) ?_
  refine lv_iload_n S.1 S.2.1 dX3_ahead_11 rfl (lv_at hl 1 rfl) ?_
  obtain ⟨z24, hz, hf⟩ := ob hf
  refine pk_cVR (As := [.int x1]) (rest := []) S hK hST hW (c_X3_trackOf hI x1 hz) mc_X3_trackOf wd_130 wd_132 wd_1664 rfl np_X3_trackOf (hI.mem 0 (by decide)) hI.this rfl rfl hl.1 rfl (Nat.le_of_ble_eq_true rfl) dX3_ahead_12 ⟨by decide, by decide⟩ ⟨by decide, by decide⟩ (fun r L25 F26 H27 l28 hp hW => ?_)
  obtain ⟨rfl, rfl, hbz24, rfl⟩ := hp
  refine lv_astore_n (lv' := [(3, .ref (A (1 + 2 * z24))), (0, .ref (A 0)), (1, .int x1), (2, .int x2)]) S.1 S.2.1 dX3_ahead_15 rfl hl (by decide) rfl (fun ls hl => ?_)
  refine lv_iload_n S.1 S.2.1 dX3_ahead_16 rfl (lv_at hl 3 rfl) ?_
  refine lv_aload_n S.1 S.2.1 dX3_ahead_17 rfl (lv_at hl 0 rfl) ?_
  obtain ⟨z29, hz, hf⟩ := ob hf
  refine pk_cVI (As := []) (rest := [.int x2]) S hK hST hW (c_X0_size (hI.row hbz24)  hz) mc_X0_size wd_140 wd_141 wd_142 rfl np_X0_size (hI.mem _ (by have := hbz24; omega)) (hI.rowH hbz24) rfl rfl hl.1 rfl (Nat.le_of_ble_eq_true rfl) dX3_ahead_18 ⟨by decide, by decide⟩ ⟨by decide, by decide⟩ (fun r L30 F31 H32 l33 hp hW => ?_)
  obtain ⟨rfl, rfl, rfl⟩ := hp
  refine lv_icmp_lt (tgt := 27) S.1 S.2.1 dX3_ahead_21 (by decide) (fun c34 => ?_) (fun c34 => ?_)
  · have hf := (if_pos c34).symm.trans hf
    refine lv_aload_n S.1 S.2.1 dX3_ahead_27 rfl (lv_at hl 0 rfl) ?_
    refine lv_iload_n S.1 S.2.1 dX3_ahead_28 rfl (lv_at hl 3 rfl) ?_
    obtain ⟨z35, hz, hf⟩ := ob hf
    refine pk_cVI (As := [.int x2]) (rest := []) S hK hST hW (c_X0_read (hI.row hbz24) x2 hz) mc_X0_read wd_171 wd_120 wd_121 rfl np_X0_read (hI.mem _ (by have := hbz24; omega)) (hI.rowH hbz24) rfl rfl hl.1 rfl (Nat.le_of_ble_eq_true rfl) dX3_ahead_29 ⟨by decide, by decide⟩ ⟨by decide, by decide⟩ (fun r L36 F37 H38 l39 hp hW => ?_)
    obtain ⟨rfl, rfl, rfl⟩ := hp
    obtain ⟨z40, hz, hf⟩ := ob hf
    refine pk_cSI (As := [.int z35]) (rest := []) S hK hST hW (c_X3_loadOf  z35 hz) mc_X3_loadOf wd_279 wd_280 np_X3_loadOf rfl hl.1 rfl (Nat.le_of_ble_eq_true rfl) dX3_ahead_32 ⟨by decide, by decide⟩ ⟨by decide, by decide⟩ (fun r L41 F42 H43 l44 hp hW => ?_)
    obtain ⟨rfl, rfl, rfl⟩ := hp
    refine lv_istore (lv' := [(4, .int z40), (3, .ref (A (1 + 2 * z24))), (0, .ref (A 0)), (1, .int x1), (2, .int x2)]) S.1 S.2.1 dX3_ahead_35 hl (by decide) rfl (fun ls hl => ?_)
    refine lv_iload_n S.1 S.2.1 dX3_ahead_37 rfl (lv_at hl 4 rfl) ?_
    refine lv_iconst (v := 1) S.1 S.2.1 dX3_ahead_38 (by decide) ?_
    refine lv_isub S.1 S.2.1 dX3_ahead_39 ?_
    refine lv_topi (fun y45 ey45 => ?_)
    have hf := nm_at hf ey45
    refine lv_istore (lv' := [(5, .int y45), (4, .int z40), (3, .ref (A (1 + 2 * z24))), (0, .ref (A 0)), (1, .int x1), (2, .int x2)]) S.1 S.2.1 dX3_ahead_40 hl (by decide) rfl (fun ls hl => ?_)
    exact B42  64 z24 z40 y45 hf hbz24 _ _ _ hW (lv_sub hl [2, 1, 0] rfl)
  · have hf := (if_neg c34).symm.trans hf
    refine lv_bipush (v := (-9)) S.1 S.2.1 dX3_ahead_24 (by decide) ?_
    exact xk_iret S hr hlk hW ⟨rfl, rfl, _, (Option.some.inj hf).symm, rfl⟩ (by decide) (by decide) dX3_ahead_26
def f_X3_wayOfWalk (σ : CS) : Option Int32 := (if (σ.2 1) = 0 then some (0) else (if (σ.2 2) = 0 then some (1) else some (2)))
theorem mc_X3_wayOfWalk : MCode yX3_wayOfWalk cX3_wayOfWalk 1 (some .int) := ⟨wd_331, wd_1, by decide, by decide⟩
theorem np_X3_wayOfWalk : (parseMethodDescriptor yX3_wayOfWalk.desc).map (fun d => d.parameters.length) = some 0 := by decide +kernel
set_option maxHeartbeats 4000000 in
set_option maxRecDepth 100000 in
theorem c_X3_wayOfWalk {l : Launch} {D : va_G} {κ : Nat → ClassId} {ζ : Nat → Nat} {L : List Nat} {F : Nat → va_E} {σ : CS} {A : Nat → Nat} (hI : CI κ A σ L F)  {res : Int32} (hf : f_X3_wayOfWalk σ = some res) : MtI l D cls (ty5 κ) ζ yX3_wayOfWalk cX3_wayOfWalk 1 (some .int) 1 0 0 ([.ref (A 0)] : List Value) L F (fun r L' F' => L = L' ∧ F = F' ∧ res = r) := by
  refine MtI.of (by decide) (Nat.le_of_ble_eq_true rfl) ?_
  intro p e s m below meth c S hr hlk _ hK hW hST ls hl
  have hl : lv_has ls 1 [(0, .ref (A 0))] := hl
  unfold f_X3_wayOfWalk at hf
  refine lv_aload_n S.1 S.2.1 dX3_wayOfWalk_0 rfl (lv_at hl 0 rfl) ?_
  refine pk_get S hK hW 4 (hI.mem 0 (by decide)) hI.this rfl hinX3 (by decide) wd_84 rfl dX3_wayOfWalk_1 ?_
  refine pk_getN S hK hW 0 (hI.mem 15 (by decide)) hI.walkH rfl hinX1 (by decide) (va_Nw.use rfl (hST.1.1 _ wn_0)) rfl dX3_wayOfWalk_4 ?_
  refine lv_if_ne (tgt := 12) S.1 S.2.1 dX3_wayOfWalk_7 (by decide) (fun c1 => ?_) (fun c1 => ?_)
  · have hf := (if_neg c1).symm.trans hf
    refine lv_aload_n S.1 S.2.1 dX3_wayOfWalk_12 rfl (lv_at hl 0 rfl) ?_
    refine pk_get S hK hW 4 (hI.mem 0 (by decide)) hI.this rfl hinX3 (by decide) wd_84 rfl dX3_wayOfWalk_13 ?_
    refine pk_getN S hK hW 1 (hI.mem 15 (by decide)) hI.walkH rfl hinX1 (by decide) (va_Nw.use rfl (hST.1.1 _ wn_1)) rfl dX3_wayOfWalk_16 ?_
    refine lv_if_eq (tgt := 26) S.1 S.2.1 dX3_wayOfWalk_19 (by decide) (fun c2 => ?_) (fun c2 => ?_)
    · have hf := (if_pos c2).symm.trans hf
      refine lv_iconst (v := 1) S.1 S.2.1 dX3_wayOfWalk_26 (by decide) ?_
      exact pk_iret S hr hlk hW ⟨rfl, rfl, eqm (P := fun z => z = 1) rfl (Option.some.inj hf)⟩ (by decide) (by decide) dX3_wayOfWalk_27
    · have hf := (if_neg c2).symm.trans hf
      refine lv_iconst (v := 2) S.1 S.2.1 dX3_wayOfWalk_22 (by decide) ?_
      refine lv_goto (tgt := 27) S.1 S.2.1 dX3_wayOfWalk_23 (by decide) ?_
      exact pk_iret S hr hlk hW ⟨rfl, rfl, eqm (P := fun z => z = 2) rfl (Option.some.inj hf)⟩ (by decide) (by decide) dX3_wayOfWalk_27
  · have hf := (if_pos c1).symm.trans hf
    refine lv_iconst (v := 0) S.1 S.2.1 dX3_wayOfWalk_10 (by decide) ?_
    exact pk_iret S hr hlk hW ⟨rfl, rfl, eqm (P := fun z => z = 0) rfl (Option.some.inj hf)⟩ (by decide) (by decide) dX3_wayOfWalk_11
def f_X3_factOfYard (σ : CS) (x1 : Int32) : Option Int32 := (if x1 = nI 0 then (f_X0_size (cap 3) (σ.1 3)).bind fun z2 => some (z2) else if x1 = nI 1 then (f_X0_isEmpty (cap 3) (σ.1 3)).bind fun z8 => (if z8 = 0 then (f_X0_read (cap 3) (σ.1 3) 0).bind fun z14 => some (z14) else some ((-1))) else if x1 = nI 2 then (f_X0_isEmpty (cap 3) (σ.1 3)).bind fun z20 => (if z20 = 0 then (f_X0_endPlace (cap 3) (σ.1 3) 1).bind fun z26 => (f_X0_read (cap 3) (σ.1 3) z26).bind fun z31 => some (z31) else some ((-1))) else if x1 = nI 3 then (f_X0_size (cap 2) (σ.1 2)).bind fun z37 => some (z37) else if x1 = nI 4 then (f_X0_isEmpty (cap 2) (σ.1 2)).bind fun z43 => (if z43 = 0 then (f_X0_endPlace (cap 2) (σ.1 2) 1).bind fun z49 => (f_X0_read (cap 2) (σ.1 2) z49).bind fun z54 => some (z54) else some ((-1))) else if x1 = nI 5 then (f_X3_wayOfWalk σ).bind fun z60 => some (z60) else if x1 = nI 6 then (f_X0_size (cap 0) (σ.1 0)).bind fun z66 => (f_X1_hasNext (fun k => σ.2 (1 + k)) z66).bind fun z71 => (f_X3_oneIf z71).bind fun z76 => some (z76) else some (σ.2 0))
theorem mc_X3_factOfYard : MCode yX3_factOfYard cX3_factOfYard 2 (some .int) := ⟨wd_327, wd_1, by decide, by decide⟩
theorem np_X3_factOfYard : (parseMethodDescriptor yX3_factOfYard.desc).map (fun d => d.parameters.length) = some 1 := by decide +kernel
set_option maxHeartbeats 4000000 in
set_option maxRecDepth 100000 in
theorem c_X3_factOfYard {l : Launch} {D : va_G} {κ : Nat → ClassId} {ζ : Nat → Nat} {L : List Nat} {F : Nat → va_E} {σ : CS} {A : Nat → Nat} (hI : CI κ A σ L F) (x1 : Int32) {res : Int32} (hf : f_X3_factOfYard σ x1 = some res) : MtI l D cls (ty5 κ) ζ yX3_factOfYard cX3_factOfYard 2 (some .int) 2 0 0 ([.ref (A 0), .int x1] : List Value) L F (fun r L' F' => L = L' ∧ F = F' ∧ res = r) := by
  refine MtI.of (by decide) (Nat.le_of_ble_eq_true rfl) ?_
  intro p e s m below meth c S hr hlk _ hK hW hST ls hl
  have hl : lv_has ls 2 [(0, .ref (A 0)), (1, .int x1)] := hl
  unfold f_X3_factOfYard at hf
  refine lv_iload_n S.1 S.2.1 dX3_factOfYard_0 rfl (lv_at hl 1 rfl) ?_
  by_cases c1 : x1 = nI 0
  · have hf := (if_pos c1).symm.trans hf
    refine lv_tableIn (tgt := 44) S.1 S.2.1 dX3_factOfYard_1 (by rw [tbl_in (by decide) c1]; decide) (by rw [tbl_in (by decide) c1]; decide) (by rw [tbl_in (by decide) c1]; rfl) (by decide) ?_
    refine lv_aload_n S.1 S.2.1 dX3_factOfYard_44 rfl (lv_at hl 0 rfl) ?_
    refine pk_get S hK hW 3 (hI.mem 0 (by decide)) hI.this rfl hinX3 (by decide) wd_83 rfl dX3_factOfYard_45 ?_
    obtain ⟨z2, hz, hf⟩ := ob hf
    refine pk_cVI (As := []) (rest := []) S hK hST hW (c_X0_size (hI.row (by decide : 3 < 7))  hz) mc_X0_size wd_140 wd_141 wd_142 rfl np_X0_size (hI.mem _ (by have := (by decide : 3 < 7); omega)) (hI.rowH (by decide : 3 < 7)) rfl rfl hl.1 rfl (Nat.le_of_ble_eq_true rfl) dX3_factOfYard_48 ⟨by decide, by decide⟩ ⟨by decide, by decide⟩ (fun r L3 F4 H5 l6 hp hW => ?_)
    obtain ⟨rfl, rfl, rfl⟩ := hp
    exact pk_iret S hr hlk hW ⟨rfl, rfl, eqm (P := fun z => z = z2) rfl (Option.some.inj hf)⟩ (by decide) (by decide) dX3_factOfYard_51
  · have hf := (if_neg c1).symm.trans hf
    by_cases c7 : x1 = nI 1
    · have hf := (if_pos c7).symm.trans hf
      refine lv_tableIn (tgt := 52) S.1 S.2.1 dX3_factOfYard_1 (by rw [tbl_in (by decide) c7]; decide) (by rw [tbl_in (by decide) c7]; decide) (by rw [tbl_in (by decide) c7]; rfl) (by decide) ?_
      refine lv_aload_n S.1 S.2.1 dX3_factOfYard_52 rfl (lv_at hl 0 rfl) ?_
      refine pk_get S hK hW 3 (hI.mem 0 (by decide)) hI.this rfl hinX3 (by decide) wd_83 rfl dX3_factOfYard_53 ?_
      obtain ⟨z8, hz, hf⟩ := ob hf
      refine pk_cVI (As := []) (rest := []) S hK hST hW (c_X0_isEmpty (hI.row (by decide : 3 < 7))  hz) mc_X0_isEmpty wd_107 wd_108 wd_109 rfl np_X0_isEmpty (hI.mem _ (by have := (by decide : 3 < 7); omega)) (hI.rowH (by decide : 3 < 7)) rfl rfl hl.1 rfl (Nat.le_of_ble_eq_true rfl) dX3_factOfYard_56 ⟨by decide, by decide⟩ ⟨by decide, by decide⟩ (fun r L9 F10 H11 l12 hp hW => ?_)
      obtain ⟨rfl, rfl, rfl⟩ := hp
      refine lv_if_eq (tgt := 66) S.1 S.2.1 dX3_factOfYard_59 (by decide) (fun c13 => ?_) (fun c13 => ?_)
      · have hf := (if_pos c13).symm.trans hf
        refine lv_aload_n S.1 S.2.1 dX3_factOfYard_66 rfl (lv_at hl 0 rfl) ?_
        refine pk_get S hK hW 3 (hI.mem 0 (by decide)) hI.this rfl hinX3 (by decide) wd_83 rfl dX3_factOfYard_67 ?_
        refine lv_iconst (v := 0) S.1 S.2.1 dX3_factOfYard_70 (by decide) ?_
        obtain ⟨z14, hz, hf⟩ := ob hf
        refine pk_cVI (As := [.int 0]) (rest := []) S hK hST hW (c_X0_read (hI.row (by decide : 3 < 7)) 0 hz) mc_X0_read wd_171 wd_120 wd_121 rfl np_X0_read (hI.mem _ (by have := (by decide : 3 < 7); omega)) (hI.rowH (by decide : 3 < 7)) rfl rfl hl.1 rfl (Nat.le_of_ble_eq_true rfl) dX3_factOfYard_71 ⟨by decide, by decide⟩ ⟨by decide, by decide⟩ (fun r L15 F16 H17 l18 hp hW => ?_)
        obtain ⟨rfl, rfl, rfl⟩ := hp
        exact pk_iret S hr hlk hW ⟨rfl, rfl, eqm (P := fun z => z = z14) rfl (Option.some.inj hf)⟩ (by decide) (by decide) dX3_factOfYard_74
      · have hf := (if_neg c13).symm.trans hf
        refine lv_iconst (v := (-1)) S.1 S.2.1 dX3_factOfYard_62 (by decide) ?_
        refine lv_goto (tgt := 74) S.1 S.2.1 dX3_factOfYard_63 (by decide) ?_
        exact pk_iret S hr hlk hW ⟨rfl, rfl, eqm (P := fun z => z = (-1)) rfl (Option.some.inj hf)⟩ (by decide) (by decide) dX3_factOfYard_74
    · have hf := (if_neg c7).symm.trans hf
      by_cases c19 : x1 = nI 2
      · have hf := (if_pos c19).symm.trans hf
        refine lv_tableIn (tgt := 75) S.1 S.2.1 dX3_factOfYard_1 (by rw [tbl_in (by decide) c19]; decide) (by rw [tbl_in (by decide) c19]; decide) (by rw [tbl_in (by decide) c19]; rfl) (by decide) ?_
        refine lv_aload_n S.1 S.2.1 dX3_factOfYard_75 rfl (lv_at hl 0 rfl) ?_
        refine pk_get S hK hW 3 (hI.mem 0 (by decide)) hI.this rfl hinX3 (by decide) wd_83 rfl dX3_factOfYard_76 ?_
        obtain ⟨z20, hz, hf⟩ := ob hf
        refine pk_cVI (As := []) (rest := []) S hK hST hW (c_X0_isEmpty (hI.row (by decide : 3 < 7))  hz) mc_X0_isEmpty wd_107 wd_108 wd_109 rfl np_X0_isEmpty (hI.mem _ (by have := (by decide : 3 < 7); omega)) (hI.rowH (by decide : 3 < 7)) rfl rfl hl.1 rfl (Nat.le_of_ble_eq_true rfl) dX3_factOfYard_79 ⟨by decide, by decide⟩ ⟨by decide, by decide⟩ (fun r L21 F22 H23 l24 hp hW => ?_)
        obtain ⟨rfl, rfl, rfl⟩ := hp
        refine lv_if_eq (tgt := 89) S.1 S.2.1 dX3_factOfYard_82 (by decide) (fun c25 => ?_) (fun c25 => ?_)
        · have hf := (if_pos c25).symm.trans hf
          refine lv_aload_n S.1 S.2.1 dX3_factOfYard_89 rfl (lv_at hl 0 rfl) ?_
          refine pk_get S hK hW 3 (hI.mem 0 (by decide)) hI.this rfl hinX3 (by decide) wd_83 rfl dX3_factOfYard_90 ?_
          refine lv_aload_n S.1 S.2.1 dX3_factOfYard_93 rfl (lv_at hl 0 rfl) ?_
          refine pk_get S hK hW 3 (hI.mem 0 (by decide)) hI.this rfl hinX3 (by decide) wd_83 rfl dX3_factOfYard_94 ?_
          refine lv_iconst (v := 1) S.1 S.2.1 dX3_factOfYard_97 (by decide) ?_
          obtain ⟨z26, hz, hf⟩ := ob hf
          refine pk_cVI (As := [.int 1]) (rest := [.ref (A (1 + 2 * 3))]) S hK hST hW (c_X0_endPlace (hI.row (by decide : 3 < 7)) 1 hz) mc_X0_endPlace wd_111 wd_112 wd_113 rfl np_X0_endPlace (hI.mem _ (by have := (by decide : 3 < 7); omega)) (hI.rowH (by decide : 3 < 7)) rfl rfl hl.1 rfl (Nat.le_of_ble_eq_true rfl) dX3_factOfYard_98 ⟨by decide, by decide⟩ ⟨by decide, by decide⟩ (fun r L27 F28 H29 l30 hp hW => ?_)
          obtain ⟨rfl, rfl, rfl⟩ := hp
          obtain ⟨z31, hz, hf⟩ := ob hf
          refine pk_cVI (As := [.int z26]) (rest := []) S hK hST hW (c_X0_read (hI.row (by decide : 3 < 7)) z26 hz) mc_X0_read wd_171 wd_120 wd_121 rfl np_X0_read (hI.mem _ (by have := (by decide : 3 < 7); omega)) (hI.rowH (by decide : 3 < 7)) rfl rfl hl.1 rfl (Nat.le_of_ble_eq_true rfl) dX3_factOfYard_101 ⟨by decide, by decide⟩ ⟨by decide, by decide⟩ (fun r L32 F33 H34 l35 hp hW => ?_)
          obtain ⟨rfl, rfl, rfl⟩ := hp
          exact pk_iret S hr hlk hW ⟨rfl, rfl, eqm (P := fun z => z = z31) rfl (Option.some.inj hf)⟩ (by decide) (by decide) dX3_factOfYard_104
        · have hf := (if_neg c25).symm.trans hf
          refine lv_iconst (v := (-1)) S.1 S.2.1 dX3_factOfYard_85 (by decide) ?_
          refine lv_goto (tgt := 104) S.1 S.2.1 dX3_factOfYard_86 (by decide) ?_
          exact pk_iret S hr hlk hW ⟨rfl, rfl, eqm (P := fun z => z = (-1)) rfl (Option.some.inj hf)⟩ (by decide) (by decide) dX3_factOfYard_104
      · have hf := (if_neg c19).symm.trans hf
        by_cases c36 : x1 = nI 3
        · have hf := (if_pos c36).symm.trans hf
          refine lv_tableIn (tgt := 105) S.1 S.2.1 dX3_factOfYard_1 (by rw [tbl_in (by decide) c36]; decide) (by rw [tbl_in (by decide) c36]; decide) (by rw [tbl_in (by decide) c36]; rfl) (by decide) ?_
          refine lv_aload_n S.1 S.2.1 dX3_factOfYard_105 rfl (lv_at hl 0 rfl) ?_
          refine pk_get S hK hW 2 (hI.mem 0 (by decide)) hI.this rfl hinX3 (by decide) wd_82 rfl dX3_factOfYard_106 ?_
          obtain ⟨z37, hz, hf⟩ := ob hf
          refine pk_cVI (As := []) (rest := []) S hK hST hW (c_X0_size (hI.row (by decide : 2 < 7))  hz) mc_X0_size wd_140 wd_141 wd_142 rfl np_X0_size (hI.mem _ (by have := (by decide : 2 < 7); omega)) (hI.rowH (by decide : 2 < 7)) rfl rfl hl.1 rfl (Nat.le_of_ble_eq_true rfl) dX3_factOfYard_109 ⟨by decide, by decide⟩ ⟨by decide, by decide⟩ (fun r L38 F39 H40 l41 hp hW => ?_)
          obtain ⟨rfl, rfl, rfl⟩ := hp
          exact pk_iret S hr hlk hW ⟨rfl, rfl, eqm (P := fun z => z = z37) rfl (Option.some.inj hf)⟩ (by decide) (by decide) dX3_factOfYard_112
        · have hf := (if_neg c36).symm.trans hf
          by_cases c42 : x1 = nI 4
          · have hf := (if_pos c42).symm.trans hf
            refine lv_tableIn (tgt := 113) S.1 S.2.1 dX3_factOfYard_1 (by rw [tbl_in (by decide) c42]; decide) (by rw [tbl_in (by decide) c42]; decide) (by rw [tbl_in (by decide) c42]; rfl) (by decide) ?_
            refine lv_aload_n S.1 S.2.1 dX3_factOfYard_113 rfl (lv_at hl 0 rfl) ?_
            refine pk_get S hK hW 2 (hI.mem 0 (by decide)) hI.this rfl hinX3 (by decide) wd_82 rfl dX3_factOfYard_114 ?_
            obtain ⟨z43, hz, hf⟩ := ob hf
            refine pk_cVI (As := []) (rest := []) S hK hST hW (c_X0_isEmpty (hI.row (by decide : 2 < 7))  hz) mc_X0_isEmpty wd_107 wd_108 wd_109 rfl np_X0_isEmpty (hI.mem _ (by have := (by decide : 2 < 7); omega)) (hI.rowH (by decide : 2 < 7)) rfl rfl hl.1 rfl (Nat.le_of_ble_eq_true rfl) dX3_factOfYard_117 ⟨by decide, by decide⟩ ⟨by decide, by decide⟩ (fun r L44 F45 H46 l47 hp hW => ?_)
            obtain ⟨rfl, rfl, rfl⟩ := hp
            refine lv_if_eq (tgt := 127) S.1 S.2.1 dX3_factOfYard_120 (by decide) (fun c48 => ?_) (fun c48 => ?_)
            · have hf := (if_pos c48).symm.trans hf
              refine lv_aload_n S.1 S.2.1 dX3_factOfYard_127 rfl (lv_at hl 0 rfl) ?_
              refine pk_get S hK hW 2 (hI.mem 0 (by decide)) hI.this rfl hinX3 (by decide) wd_82 rfl dX3_factOfYard_128 ?_
              refine lv_aload_n S.1 S.2.1 dX3_factOfYard_131 rfl (lv_at hl 0 rfl) ?_
              refine pk_get S hK hW 2 (hI.mem 0 (by decide)) hI.this rfl hinX3 (by decide) wd_82 rfl dX3_factOfYard_132 ?_
              refine lv_iconst (v := 1) S.1 S.2.1 dX3_factOfYard_135 (by decide) ?_
              obtain ⟨z49, hz, hf⟩ := ob hf
              refine pk_cVI (As := [.int 1]) (rest := [.ref (A (1 + 2 * 2))]) S hK hST hW (c_X0_endPlace (hI.row (by decide : 2 < 7)) 1 hz) mc_X0_endPlace wd_111 wd_112 wd_113 rfl np_X0_endPlace (hI.mem _ (by have := (by decide : 2 < 7); omega)) (hI.rowH (by decide : 2 < 7)) rfl rfl hl.1 rfl (Nat.le_of_ble_eq_true rfl) dX3_factOfYard_136 ⟨by decide, by decide⟩ ⟨by decide, by decide⟩ (fun r L50 F51 H52 l53 hp hW => ?_)
              obtain ⟨rfl, rfl, rfl⟩ := hp
              obtain ⟨z54, hz, hf⟩ := ob hf
              refine pk_cVI (As := [.int z49]) (rest := []) S hK hST hW (c_X0_read (hI.row (by decide : 2 < 7)) z49 hz) mc_X0_read wd_171 wd_120 wd_121 rfl np_X0_read (hI.mem _ (by have := (by decide : 2 < 7); omega)) (hI.rowH (by decide : 2 < 7)) rfl rfl hl.1 rfl (Nat.le_of_ble_eq_true rfl) dX3_factOfYard_139 ⟨by decide, by decide⟩ ⟨by decide, by decide⟩ (fun r L55 F56 H57 l58 hp hW => ?_)
              obtain ⟨rfl, rfl, rfl⟩ := hp
              exact pk_iret S hr hlk hW ⟨rfl, rfl, eqm (P := fun z => z = z54) rfl (Option.some.inj hf)⟩ (by decide) (by decide) dX3_factOfYard_142
            · have hf := (if_neg c48).symm.trans hf
              refine lv_iconst (v := (-1)) S.1 S.2.1 dX3_factOfYard_123 (by decide) ?_
              refine lv_goto (tgt := 142) S.1 S.2.1 dX3_factOfYard_124 (by decide) ?_
              exact pk_iret S hr hlk hW ⟨rfl, rfl, eqm (P := fun z => z = (-1)) rfl (Option.some.inj hf)⟩ (by decide) (by decide) dX3_factOfYard_142
          · have hf := (if_neg c42).symm.trans hf
            by_cases c59 : x1 = nI 5
            · have hf := (if_pos c59).symm.trans hf
              refine lv_tableIn (tgt := 143) S.1 S.2.1 dX3_factOfYard_1 (by rw [tbl_in (by decide) c59]; decide) (by rw [tbl_in (by decide) c59]; decide) (by rw [tbl_in (by decide) c59]; rfl) (by decide) ?_
              refine lv_aload_n S.1 S.2.1 dX3_factOfYard_143 rfl (lv_at hl 0 rfl) ?_
              obtain ⟨z60, hz, hf⟩ := ob hf
              refine pk_cVI (As := []) (rest := []) S hK hST hW (c_X3_wayOfWalk hI  hz) mc_X3_wayOfWalk wd_328 wd_330 wd_1683 rfl np_X3_wayOfWalk (hI.mem 0 (by decide)) hI.this rfl rfl hl.1 rfl (Nat.le_of_ble_eq_true rfl) dX3_factOfYard_144 ⟨by decide, by decide⟩ ⟨by decide, by decide⟩ (fun r L61 F62 H63 l64 hp hW => ?_)
              obtain ⟨rfl, rfl, rfl⟩ := hp
              exact pk_iret S hr hlk hW ⟨rfl, rfl, eqm (P := fun z => z = z60) rfl (Option.some.inj hf)⟩ (by decide) (by decide) dX3_factOfYard_147
            · have hf := (if_neg c59).symm.trans hf
              by_cases c65 : x1 = nI 6
              · have hf := (if_pos c65).symm.trans hf
                refine lv_tableIn (tgt := 148) S.1 S.2.1 dX3_factOfYard_1 (by rw [tbl_in (by decide) c65]; decide) (by rw [tbl_in (by decide) c65]; decide) (by rw [tbl_in (by decide) c65]; rfl) (by decide) ?_
                refine lv_aload_n S.1 S.2.1 dX3_factOfYard_148 rfl (lv_at hl 0 rfl) ?_
                refine pk_get S hK hW 4 (hI.mem 0 (by decide)) hI.this rfl hinX3 (by decide) wd_84 rfl dX3_factOfYard_149 ?_
                refine lv_aload_n S.1 S.2.1 dX3_factOfYard_152 rfl (lv_at hl 0 rfl) ?_
                refine pk_get S hK hW 0 (hI.mem 0 (by decide)) hI.this rfl hinX3 (by decide) wd_80 rfl dX3_factOfYard_153 ?_
                obtain ⟨z66, hz, hf⟩ := ob hf
                refine pk_cVI (As := []) (rest := [.ref (A 15)]) S hK hST hW (c_X0_size (hI.row (by decide : 0 < 7))  hz) mc_X0_size wd_140 wd_141 wd_142 rfl np_X0_size (hI.mem _ (by have := (by decide : 0 < 7); omega)) (hI.rowH (by decide : 0 < 7)) rfl rfl hl.1 rfl (Nat.le_of_ble_eq_true rfl) dX3_factOfYard_156 ⟨by decide, by decide⟩ ⟨by decide, by decide⟩ (fun r L67 F68 H69 l70 hp hW => ?_)
                obtain ⟨rfl, rfl, rfl⟩ := hp
                obtain ⟨z71, hz, hf⟩ := ob hf
                refine pk_cVI (As := [.int z66]) (rest := []) S hK hST hW (c_X1_hasNext hI.walk z66 hz) mc_X1_hasNext wd_332 wd_333 wd_334 rfl np_X1_hasNext (hI.mem 15 (by decide)) hI.walkH rfl rfl hl.1 rfl (Nat.le_of_ble_eq_true rfl) dX3_factOfYard_159 ⟨by decide, by decide⟩ ⟨by decide, by decide⟩ (fun r L72 F73 H74 l75 hp hW => ?_)
                obtain ⟨rfl, rfl, rfl⟩ := hp
                obtain ⟨z76, hz, hf⟩ := ob hf
                refine pk_cSI (As := [.int z71]) (rest := []) S hK hST hW (c_X3_oneIf  z71 hz) mc_X3_oneIf wd_273 wd_274 np_X3_oneIf rfl hl.1 rfl (Nat.le_of_ble_eq_true rfl) dX3_factOfYard_162 ⟨by decide, by decide⟩ ⟨by decide, by decide⟩ (fun r L77 F78 H79 l80 hp hW => ?_)
                obtain ⟨rfl, rfl, rfl⟩ := hp
                exact pk_iret S hr hlk hW ⟨rfl, rfl, eqm (P := fun z => z = z76) rfl (Option.some.inj hf)⟩ (by decide) (by decide) dX3_factOfYard_165
              · have hf := (if_neg c65).symm.trans hf
                refine lv_tableOut (tgt := 166) S.1 S.2.1 dX3_factOfYard_1 (tbl_out 7 (by decide) (fun k hk => by match k, hk with | 0, _ => exact c1 | 1, _ => exact c7 | 2, _ => exact c19 | 3, _ => exact c36 | 4, _ => exact c42 | 5, _ => exact c59 | 6, _ => exact c65 | k + 7, hk => exact absurd hk (by omega))) (by decide) ?_
                refine lv_aload_n S.1 S.2.1 dX3_factOfYard_166 rfl (lv_at hl 0 rfl) ?_
                refine pk_get S hK hW 7 (hI.mem 0 (by decide)) hI.this rfl hinX3 (by decide) wd_87 rfl dX3_factOfYard_167 ?_
                exact pk_iret S hr hlk hW ⟨rfl, rfl, eqm (P := fun z => z = σ.2 0) rfl (Option.some.inj hf)⟩ (by decide) (by decide) dX3_factOfYard_170
