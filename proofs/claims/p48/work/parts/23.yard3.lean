def f_X3_yard (σ : CS) (x1 : Int32) : Option (Nat ⊕ Int32) := obx (f_X3_needWithin x1 0 7) fun z1 => (f_X3_factOfYard σ x1).bind fun z6 => some (.inr z6)
theorem mc_X3_yard : MCode yX3_yard cX3_yard 2 (some .int) := ⟨wd_1063, wd_1, by decide, by decide⟩
theorem np_X3_yard : (parseMethodDescriptor yX3_yard.desc).map (fun d => d.parameters.length) = some 1 := by decide +kernel
set_option maxHeartbeats 4000000 in
set_option maxRecDepth 100000 in
theorem c_X3_yard {l : Launch} {D : va_G} {κ : Nat → ClassId} {ζ : Nat → Nat} {L : List Nat} {F : Nat → va_E} {σ : CS} {A : Nat → Nat} (hst : l.stackTraces = false) (hI : CI κ A σ L F) (x1 : Int32) {res : (Nat ⊕ Int32)} (hf : f_X3_yard σ x1 = some res) : MxI l D cls (ty5 κ) ζ yX3_yard cX3_yard 2 (some .int) 8 1 6 ([.ref (A 0), .int x1] : List Value) L F (fun r L' F' => L = L' ∧ F = F' ∧ ∃ z, res = .inr z ∧ z = r) (fun E => ∃ k, res = .inl k ∧ E = xName k) := by
  refine MxI.of (by decide) (Nat.le_of_ble_eq_true rfl) ?_
  intro p e s m below meth c S hr hlk hxt hK hW hST ls hl
  have hl : lv_has ls 2 [(0, .ref (A 0)), (1, .int x1)] := hl
  unfold f_X3_yard at hf
  refine lv_iload_n S.1 S.2.1 dX3_yard_0 rfl (lv_at hl 1 rfl) ?_
  refine lv_iconst (v := 0) S.1 S.2.1 dX3_yard_1 (by decide) ?_
  refine lv_bipush (v := 7) S.1 S.2.1 dX3_yard_2 (by decide) ?_
  obtain ⟨z1, hz, hxl, hxr⟩ := obx_ok hf
  refine xk_cSV (As := [.int x1, .int 0, .int 7]) (rest := []) S hK hST hW (c_X3_needWithin hst  x1 0 7 hz) mc_X3_needWithin wd_416 wd_417 np_X3_needWithin rfl hl.1 rfl (Nat.le_of_ble_eq_true rfl) dX3_yard_4 ⟨by decide, by decide⟩ ⟨by decide, by decide⟩ (fun E ce q9 H4 l5 hE hW h1 h2 h3 => ?_) (fun L2 F3 H4 l5 hp hW => ?_)
  · obtain ⟨k, hk1, hk2⟩ := hE
    exact xk_outI hxt hlk hW ⟨k, hxl k hk1, hk2⟩ h1 h2 h3 (by decide) (by decide)
  obtain ⟨rfl, rfl, z1, hz1⟩ := hp
  have hf := hxr z1 hz1
  refine lv_aload_n S.1 S.2.1 dX3_yard_7 rfl (lv_at hl 0 rfl) ?_
  refine lv_iload_n S.1 S.2.1 dX3_yard_8 rfl (lv_at hl 1 rfl) ?_
  obtain ⟨z6, hz, hf⟩ := ob hf
  refine pk_cVI (As := [.int x1]) (rest := []) S hK hST hW (c_X3_factOfYard hI x1 hz) mc_X3_factOfYard wd_324 wd_326 wd_1682 rfl np_X3_factOfYard (hI.mem 0 (by decide)) hI.this rfl rfl hl.1 rfl (Nat.le_of_ble_eq_true rfl) dX3_yard_9 ⟨by decide, by decide⟩ ⟨by decide, by decide⟩ (fun r L7 F8 H9 l10 hp hW => ?_)
  obtain ⟨rfl, rfl, rfl⟩ := hp
  exact xk_iret S hr hlk hW ⟨rfl, rfl, _, (Option.some.inj hf).symm, rfl⟩ (by decide) (by decide) dX3_yard_12
def f_X3_knock (σ : CS) : Option (Int32 × CS) := nm ((σ.1, va_up σ.2 0 ((σ.2 0) + 1)) : CS) fun t4 => some (t4.2 0, t4)
theorem mc_X3_knock : MCode yX3_knock cX3_knock 1 (some .int) := ⟨wd_217, wd_1, by decide, by decide⟩
theorem np_X3_knock : (parseMethodDescriptor yX3_knock.desc).map (fun d => d.parameters.length) = some 0 := by decide +kernel
set_option maxHeartbeats 4000000 in
set_option maxRecDepth 100000 in
theorem c_X3_knock {l : Launch} {D : va_G} {κ : Nat → ClassId} {ζ : Nat → Nat} {L : List Nat} {F : Nat → va_E} {σ : CS} {A : Nat → Nat} (hI : CI κ A σ L F)  {res : (Int32 × CS)} (hf : f_X3_knock σ = some res) : MtI l D cls (ty5 κ) ζ yX3_knock cX3_knock 1 (some .int) 1 0 0 ([.ref (A 0)] : List Value) L F (fun r L' F' => L = L' ∧ res.1 = r ∧ CI κ A res.2 L F' ∧ FrA A F F') := by
  refine MtI.of (by decide) (Nat.le_of_ble_eq_true rfl) ?_
  intro p e s m below meth c S hr hlk _ hK hW hST ls hl
  have hl : lv_has ls 1 [(0, .ref (A 0))] := hl
  have hFr : FrA A F F := FrA.rf
  unfold f_X3_knock at hf
  refine lv_aload_n S.1 S.2.1 dX3_knock_0 rfl (lv_at hl 0 rfl) ?_
  refine lv_dup S.1 S.2.1 dX3_knock_1 rfl ?_
  refine pk_get S hK hW 7 (hI.mem 0 (by decide)) hI.this rfl hinX3 (by decide) wd_87 rfl dX3_knock_2 ?_
  refine lv_iconst (v := 1) S.1 S.2.1 dX3_knock_5 (by decide) ?_
  refine lv_iadd S.1 S.2.1 dX3_knock_6 ?_
  refine pk_put (v := .int ((σ.2 0) + 1)) S hK hW 7 (hI.mem 0 (by decide)) hI.this rfl hinX3 tyX3_ok nmX3 (by decide) wd_87 rfl rfl rfl rfl (Nat.le_of_ble_eq_true rfl) dX3_knock_7 (fun H1 l2 hW => ?_)
  have hFr := hFr.tr (FrA.this (e := .inr (8, ([.ref (A 1), .ref (A 3), .ref (A 5), .ref (A 7), .ref (A 15), .ref (A 16), .ref (A 17), .int (σ.2 0), .ref (A 9), .ref (A 11), .ref (A 13)] : List Value).set 7 (.int ((σ.2 0) + 1)))))
  have hI := hI.setKnocks ((σ.2 0) + 1)
  generalize va_up F (A 0) (.inr (8, ([.ref (A 1), .ref (A 3), .ref (A 5), .ref (A 7), .ref (A 15), .ref (A 16), .ref (A 17), .int (σ.2 0), .ref (A 9), .ref (A 11), .ref (A 13)] : List Value).set 7 (.int ((σ.2 0) + 1)))) = F3 at hW hI hFr
  obtain ⟨t4, et4, hf⟩ := nm_ok hf
  have hI := eqm (P := fun w => CI κ A w L F3) hI et4.symm
  refine lv_aload_n S.1 S.2.1 dX3_knock_10 rfl (lv_at hl 0 rfl) ?_
  refine pk_get S hK hW 7 (hI.mem 0 (by decide)) hI.this rfl hinX3 (by decide) wd_87 rfl dX3_knock_11 ?_
  exact pk_iret S hr hlk hW ⟨rfl, eqm (P := fun z => z.1 = t4.2 0 ∧ CI κ A z.2 L F3 ∧ FrA A F F3) ⟨rfl, hI, hFr⟩ (Option.some.inj hf)⟩ (by decide) (by decide) dX3_knock_14
def f_X3_isRowSound_20 (σ : CS)  (k20 : Nat × Int32 → Option Int32) (t : Nat × Int32) : Option Int32 := (f_X0_size (cap t.1) (σ.1 t.1)).bind fun z1 => (if z1 ≤ t.2 then some (1) else (f_X0_readFrom (cap t.1) (σ.1 t.1) 0 t.2).bind fun z7 => (f_X0_size (cap t.1) (σ.1 t.1)).bind fun z12 => (f_X0_readFrom (cap t.1) (σ.1 t.1) 1 ((z12 - 1) - t.2)).bind fun z17 => (if z7 = z17 then nm (t.2 + 1 : Int32) fun y23 => k20 (t.1, y23) else some (0)))
def f_X3_isRowSound (σ : CS) (x1 : Nat) : Option Int32 := (f_X0_size (cap x1) (σ.1 x1)).bind fun z24 => (if z24 < 0 then some (0) else (f_X0_size (cap x1) (σ.1 x1)).bind fun z30 => (if z30 ≤ 20 then lpn (f_X3_isRowSound_20 σ) 64 (x1, 0) else some (0)))
theorem mc_X3_isRowSound : MCode yX3_isRowSound cX3_isRowSound 2 (some .boolean) := ⟨wd_224, wd_1, by decide, by decide⟩
theorem np_X3_isRowSound : (parseMethodDescriptor yX3_isRowSound.desc).map (fun d => d.parameters.length) = some 1 := by decide +kernel
set_option maxHeartbeats 4000000 in
set_option maxRecDepth 100000 in
theorem c_X3_isRowSound {l : Launch} {D : va_G} {κ : Nat → ClassId} {ζ : Nat → Nat} {L : List Nat} {F : Nat → va_E} {σ : CS} {A : Nat → Nat} (hI : CI κ A σ L F) (x1 : Nat) (hx1 : x1 < 7) {res : Int32} (hf : f_X3_isRowSound σ x1 = some res) : MtI l D cls (ty5 κ) ζ yX3_isRowSound cX3_isRowSound 2 (some .boolean) 3 0 0 ([.ref (A (1 + 2 * x1))] : List Value) L F (fun r L' F' => L = L' ∧ F = F' ∧ res = r) := by
  refine MtI.of (by decide) (Nat.le_of_ble_eq_true rfl) ?_
  intro p e s m below meth c S hr hlk _ hK hW hST ls hl
  have hl : lv_has ls 2 [(0, .ref (A (1 + 2 * x1)))] := hl
  have B20 : ∀ (N : Nat), (∀ (v0 : Nat) (v1 : Int32), (lpn (f_X3_isRowSound_20 σ) N) (v0, v1) = some res → v0 < 7 → ∀ (H20 : Heap) (l20 : List Loc) (ls : Array Slot), HW D cls L s H20 l20 L F → lv_has ls 2 [(0, .ref (A (1 + 2 * v0))), (1, .int v1)] → W p l e (Rm 3 0 0) s m ([.ref (A (1 + 2 * x1))] : List Value).toArray below meth c H20 l20 0 0 (EnI D cls s below ([.ref (A (1 + 2 * x1))] : List Value).toArray 0 0 L (fun r L' F' => L = L' ∧ F = F' ∧ res = r)) (F0 m 20 ls [])) := by
    intro  N
    induction N with
    | zero => intro v0 v1 hf hv0 H20 l20 ls hW hl; cases hf
    | succ N ih =>
      intro v0 v1 hf hv0 H20 l20 ls hW hl
      have hf : f_X3_isRowSound_20 σ (lpn (f_X3_isRowSound_20 σ) N) (v0, v1) = some res := hf
      generalize lpn (f_X3_isRowSound_20 σ) N = k20 at hf ih
      have hk20 := ih
      unfold f_X3_isRowSound_20 at hf
      try dsimp only at hf
      refine lv_iload_n S.1 S.2.1 dX3_isRowSound_20 rfl (lv_at hl 1 rfl) ?_
      refine lv_aload_n S.1 S.2.1 dX3_isRowSound_21 rfl (lv_at hl 0 rfl) ?_
      obtain ⟨z1, hz, hf⟩ := ob hf
      refine pk_cVI (As := []) (rest := [.int v1]) S hK hST hW (c_X0_size (hI.row hv0)  hz) mc_X0_size wd_140 wd_141 wd_142 rfl np_X0_size (hI.mem _ (by have := hv0; omega)) (hI.rowH hv0) rfl rfl hl.1 rfl (Nat.le_of_ble_eq_true rfl) dX3_isRowSound_22 ⟨by decide, by decide⟩ ⟨by decide, by decide⟩ (fun r L2 F3 H4 l5 hp hW => ?_)
      obtain ⟨rfl, rfl, rfl⟩ := hp
      refine lv_icmp_ge (tgt := 58) S.1 S.2.1 dX3_isRowSound_25 (by decide) (fun c6 => ?_) (fun c6 => ?_)
      · have hf := (if_pos c6).symm.trans hf
        refine lv_iconst (v := 1) S.1 S.2.1 dX3_isRowSound_58 (by decide) ?_
        exact pk_zret S hr hlk hW (by decide) ⟨rfl, rfl, eqm (P := fun z => z = 1) rfl (Option.some.inj hf)⟩ (by decide) (by decide) dX3_isRowSound_59
      · have hf := (if_neg c6).symm.trans hf
        refine lv_aload_n S.1 S.2.1 dX3_isRowSound_28 rfl (lv_at hl 0 rfl) ?_
        refine lv_iconst (v := 0) S.1 S.2.1 dX3_isRowSound_29 (by decide) ?_
        refine lv_iload_n S.1 S.2.1 dX3_isRowSound_30 rfl (lv_at hl 1 rfl) ?_
        obtain ⟨z7, hz, hf⟩ := ob hf
        refine pk_cVI (As := [.int 0, .int v1]) (rest := []) S hK hST hW (c_X0_readFrom (hI.row hv0) 0 v1 hz) mc_X0_readFrom wd_225 wd_226 wd_227 rfl np_X0_readFrom (hI.mem _ (by have := hv0; omega)) (hI.rowH hv0) rfl rfl hl.1 rfl (Nat.le_of_ble_eq_true rfl) dX3_isRowSound_31 ⟨by decide, by decide⟩ ⟨by decide, by decide⟩ (fun r L8 F9 H10 l11 hp hW => ?_)
        obtain ⟨rfl, rfl, rfl⟩ := hp
        refine lv_aload_n S.1 S.2.1 dX3_isRowSound_34 rfl (lv_at hl 0 rfl) ?_
        refine lv_iconst (v := 1) S.1 S.2.1 dX3_isRowSound_35 (by decide) ?_
        refine lv_aload_n S.1 S.2.1 dX3_isRowSound_36 rfl (lv_at hl 0 rfl) ?_
        obtain ⟨z12, hz, hf⟩ := ob hf
        refine pk_cVI (As := []) (rest := [.int 1, .ref (A (1 + 2 * v0)), .int z7]) S hK hST hW (c_X0_size (hI.row hv0)  hz) mc_X0_size wd_140 wd_141 wd_142 rfl np_X0_size (hI.mem _ (by have := hv0; omega)) (hI.rowH hv0) rfl rfl hl.1 rfl (Nat.le_of_ble_eq_true rfl) dX3_isRowSound_37 ⟨by decide, by decide⟩ ⟨by decide, by decide⟩ (fun r L13 F14 H15 l16 hp hW => ?_)
        obtain ⟨rfl, rfl, rfl⟩ := hp
        refine lv_iconst (v := 1) S.1 S.2.1 dX3_isRowSound_40 (by decide) ?_
        refine lv_isub S.1 S.2.1 dX3_isRowSound_41 ?_
        refine lv_iload_n S.1 S.2.1 dX3_isRowSound_42 rfl (lv_at hl 1 rfl) ?_
        refine lv_isub S.1 S.2.1 dX3_isRowSound_43 ?_
        obtain ⟨z17, hz, hf⟩ := ob hf
        refine pk_cVI (As := [.int 1, .int ((z12 - 1) - v1)]) (rest := [.int z7]) S hK hST hW (c_X0_readFrom (hI.row hv0) 1 ((z12 - 1) - v1) hz) mc_X0_readFrom wd_225 wd_226 wd_227 rfl np_X0_readFrom (hI.mem _ (by have := hv0; omega)) (hI.rowH hv0) rfl rfl hl.1 rfl (Nat.le_of_ble_eq_true rfl) dX3_isRowSound_44 ⟨by decide, by decide⟩ ⟨by decide, by decide⟩ (fun r L18 F19 H20 l21 hp hW => ?_)
        obtain ⟨rfl, rfl, rfl⟩ := hp
        refine lv_icmp_eq (tgt := 52) S.1 S.2.1 dX3_isRowSound_47 (by decide) (fun c22 => ?_) (fun c22 => ?_)
        · have hf := (if_pos c22).symm.trans hf
          obtain ⟨y23, ey23⟩ : ∃ y : Int32, y = v1 + 1 := ⟨_, rfl⟩
          have hf := nm_at hf ey23
          refine lv_iinc (v := y23) (lv' := [(1, .int y23), (0, .ref (A (1 + 2 * v0)))]) S.1 S.2.1 dX3_isRowSound_52 hl (k := 1) rfl (by rw [ey23]; rfl) (by decide) rfl (fun ls hl => ?_)
          refine lv_goto (tgt := 20) S.1 S.2.1 dX3_isRowSound_55 (by decide) ?_
          exact hk20 v0 y23 hf hv0 _ _ _ hW (lv_sub hl [1, 0] rfl)
        · have hf := (if_neg c22).symm.trans hf
          refine lv_iconst (v := 0) S.1 S.2.1 dX3_isRowSound_50 (by decide) ?_
          exact pk_zret S hr hlk hW (by decide) ⟨rfl, rfl, eqm (P := fun z => z = 0) rfl (Option.some.inj hf)⟩ (by decide) (by decide) dX3_isRowSound_51
  unfold f_X3_isRowSound at hf
  refine lv_aload_n S.1 S.2.1 dX3_isRowSound_0 rfl (lv_at hl 0 rfl) ?_
  obtain ⟨z24, hz, hf⟩ := ob hf
  refine pk_cVI (As := []) (rest := []) S hK hST hW (c_X0_size (hI.row hx1)  hz) mc_X0_size wd_140 wd_141 wd_142 rfl np_X0_size (hI.mem _ (by have := hx1; omega)) (hI.rowH hx1) rfl rfl hl.1 rfl (Nat.le_of_ble_eq_true rfl) dX3_isRowSound_1 ⟨by decide, by decide⟩ ⟨by decide, by decide⟩ (fun r L25 F26 H27 l28 hp hW => ?_)
  obtain ⟨rfl, rfl, rfl⟩ := hp
  refine lv_if_lt (tgt := 16) S.1 S.2.1 dX3_isRowSound_4 (by decide) (fun c29 => ?_) (fun c29 => ?_)
  · have hf := (if_pos c29).symm.trans hf
    refine lv_iconst (v := 0) S.1 S.2.1 dX3_isRowSound_16 (by decide) ?_
    exact pk_zret S hr hlk hW (by decide) ⟨rfl, rfl, eqm (P := fun z => z = 0) rfl (Option.some.inj hf)⟩ (by decide) (by decide) dX3_isRowSound_17
  · have hf := (if_neg c29).symm.trans hf
    refine lv_aload_n S.1 S.2.1 dX3_isRowSound_7 rfl (lv_at hl 0 rfl) ?_
    obtain ⟨z30, hz, hf⟩ := ob hf
    refine pk_cVI (As := []) (rest := []) S hK hST hW (c_X0_size (hI.row hx1)  hz) mc_X0_size wd_140 wd_141 wd_142 rfl np_X0_size (hI.mem _ (by have := hx1; omega)) (hI.rowH hx1) rfl rfl hl.1 rfl (Nat.le_of_ble_eq_true rfl) dX3_isRowSound_8 ⟨by decide, by decide⟩ ⟨by decide, by decide⟩ (fun r L31 F32 H33 l34 hp hW => ?_)
    obtain ⟨rfl, rfl, rfl⟩ := hp
    refine lv_bipush (v := 20) S.1 S.2.1 dX3_isRowSound_11 (by decide) ?_
    refine lv_icmp_le (tgt := 18) S.1 S.2.1 dX3_isRowSound_13 (by decide) (fun c35 => ?_) (fun c35 => ?_)
    · have hf := (if_pos c35).symm.trans hf
      refine lv_iconst (v := 0) S.1 S.2.1 dX3_isRowSound_18 (by decide) ?_
      refine lv_istore_n (lv' := [(1, .int 0), (0, .ref (A (1 + 2 * x1)))]) S.1 S.2.1 dX3_isRowSound_19 rfl hl (by decide) rfl (fun ls hl => ?_)
      exact B20  64 x1 0 hf hx1 _ _ _ hW (lv_sub hl [1, 0] rfl)
    · have hf := (if_neg c35).symm.trans hf
      refine lv_iconst (v := 0) S.1 S.2.1 dX3_isRowSound_16 (by decide) ?_
      exact pk_zret S hr hlk hW (by decide) ⟨rfl, rfl, eqm (P := fun z => z = 0) rfl (Option.some.inj hf)⟩ (by decide) (by decide) dX3_isRowSound_17
def f_X3_isLineFound_2 (σ : CS)  (k2 : Int32 → Option Int32) (t : Int32) : Option Int32 := (f_X0_size (cap 1) (σ.1 1)).bind fun z1 => (if z1 ≤ t then some (1) else (f_X0_read (cap 1) (σ.1 1) t).bind fun z7 => (f_X3_kindOf z7).bind fun z12 => (f_X0_placeOfKind (cap 1) (σ.1 1) z12 0).bind fun z17 => (if t < z17 then some (0) else (f_X0_placeOfKind (cap 1) (σ.1 1) z12 1).bind fun z23 => (if t ≤ z23 then nm (t + 1 : Int32) fun y29 => k2 y29 else some (0))))
def f_X3_isLineFound (σ : CS) : Option Int32 := lpn (f_X3_isLineFound_2 σ) 64 0
theorem mc_X3_isLineFound : MCode yX3_isLineFound cX3_isLineFound 3 (some .boolean) := ⟨wd_232, wd_1, by decide, by decide⟩
theorem np_X3_isLineFound : (parseMethodDescriptor yX3_isLineFound.desc).map (fun d => d.parameters.length) = some 0 := by decide +kernel
set_option maxHeartbeats 4000000 in
set_option maxRecDepth 100000 in
theorem c_X3_isLineFound {l : Launch} {D : va_G} {κ : Nat → ClassId} {ζ : Nat → Nat} {L : List Nat} {F : Nat → va_E} {σ : CS} {A : Nat → Nat} (hI : CI κ A σ L F)  {res : Int32} (hf : f_X3_isLineFound σ = some res) : MtI l D cls (ty5 κ) ζ yX3_isLineFound cX3_isLineFound 3 (some .boolean) 3 0 0 ([.ref (A 0)] : List Value) L F (fun r L' F' => L = L' ∧ F = F' ∧ res = r) := by
  refine MtI.of (by decide) (Nat.le_of_ble_eq_true rfl) ?_
  intro p e s m below meth c S hr hlk _ hK hW hST ls hl
  have hl : lv_has ls 3 [(0, .ref (A 0))] := hl
  have B2 : ∀ (N : Nat), (∀ (v1 : Int32), (lpn (f_X3_isLineFound_2 σ) N) v1 = some res → ∀ (H2 : Heap) (l2 : List Loc) (ls : Array Slot), HW D cls L s H2 l2 L F → lv_has ls 3 [(0, .ref (A 0)), (1, .int v1)] → W p l e (Rm 3 0 0) s m ([.ref (A 0)] : List Value).toArray below meth c H2 l2 0 0 (EnI D cls s below ([.ref (A 0)] : List Value).toArray 0 0 L (fun r L' F' => L = L' ∧ F = F' ∧ res = r)) (F0 m 2 ls [])) := by
    intro  N
    induction N with
    | zero => intro v1 hf H2 l2 ls hW hl; cases hf
    | succ N ih =>
      intro v1 hf H2 l2 ls hW hl
      have hf : f_X3_isLineFound_2 σ (lpn (f_X3_isLineFound_2 σ) N) v1 = some res := hf
      generalize lpn (f_X3_isLineFound_2 σ) N = k2 at hf ih
      have hk2 := ih
      unfold f_X3_isLineFound_2 at hf
      try dsimp only at hf
      refine lv_iload_n S.1 S.2.1 dX3_isLineFound_2 rfl (lv_at hl 1 rfl) ?_
      refine lv_aload_n S.1 S.2.1 dX3_isLineFound_3 rfl (lv_at hl 0 rfl) ?_
      refine pk_get S hK hW 1 (hI.mem 0 (by decide)) hI.this rfl hinX3 (by decide) wd_81 rfl dX3_isLineFound_4 ?_
      obtain ⟨z1, hz, hf⟩ := ob hf
      refine pk_cVI (As := []) (rest := [.int v1]) S hK hST hW (c_X0_size (hI.row (by decide : 1 < 7))  hz) mc_X0_size wd_140 wd_141 wd_142 rfl np_X0_size (hI.mem _ (by have := (by decide : 1 < 7); omega)) (hI.rowH (by decide : 1 < 7)) rfl rfl hl.1 rfl (Nat.le_of_ble_eq_true rfl) dX3_isLineFound_7 ⟨by decide, by decide⟩ ⟨by decide, by decide⟩ (fun r L2 F3 H4 l5 hp hW => ?_)
      obtain ⟨rfl, rfl, rfl⟩ := hp
      refine lv_icmp_ge (tgt := 59) S.1 S.2.1 dX3_isLineFound_10 (by decide) (fun c6 => ?_) (fun c6 => ?_)
      · have hf := (if_pos c6).symm.trans hf
        refine lv_iconst (v := 1) S.1 S.2.1 dX3_isLineFound_59 (by decide) ?_
        exact pk_zret S hr hlk hW (by decide) ⟨rfl, rfl, eqm (P := fun z => z = 1) rfl (Option.some.inj hf)⟩ (by decide) (by decide) dX3_isLineFound_60
      · have hf := (if_neg c6).symm.trans hf
        refine lv_aload_n S.1 S.2.1 dX3_isLineFound_13 rfl (lv_at hl 0 rfl) ?_
        refine pk_get S hK hW 1 (hI.mem 0 (by decide)) hI.this rfl hinX3 (by decide) wd_81 rfl dX3_isLineFound_14 ?_
        refine lv_iload_n S.1 S.2.1 dX3_isLineFound_17 rfl (lv_at hl 1 rfl) ?_
        obtain ⟨z7, hz, hf⟩ := ob hf
        refine pk_cVI (As := [.int v1]) (rest := []) S hK hST hW (c_X0_read (hI.row (by decide : 1 < 7)) v1 hz) mc_X0_read wd_171 wd_120 wd_121 rfl np_X0_read (hI.mem _ (by have := (by decide : 1 < 7); omega)) (hI.rowH (by decide : 1 < 7)) rfl rfl hl.1 rfl (Nat.le_of_ble_eq_true rfl) dX3_isLineFound_18 ⟨by decide, by decide⟩ ⟨by decide, by decide⟩ (fun r L8 F9 H10 l11 hp hW => ?_)
        obtain ⟨rfl, rfl, rfl⟩ := hp
        obtain ⟨z12, hz, hf⟩ := ob hf
        refine pk_cSI (As := [.int z7]) (rest := []) S hK hST hW (c_X3_kindOf  z7 hz) mc_X3_kindOf wd_175 wd_176 np_X3_kindOf rfl hl.1 rfl (Nat.le_of_ble_eq_true rfl) dX3_isLineFound_21 ⟨by decide, by decide⟩ ⟨by decide, by decide⟩ (fun r L13 F14 H15 l16 hp hW => ?_)
        obtain ⟨rfl, rfl, rfl⟩ := hp
        refine lv_istore_n (lv' := [(2, .int z12), (0, .ref (A 0)), (1, .int v1)]) S.1 S.2.1 dX3_isLineFound_24 rfl hl (by decide) rfl (fun ls hl => ?_)
        refine lv_aload_n S.1 S.2.1 dX3_isLineFound_25 rfl (lv_at hl 1 rfl) ?_
        refine pk_get S hK hW 1 (hI.mem 0 (by decide)) hI.this rfl hinX3 (by decide) wd_81 rfl dX3_isLineFound_26 ?_
        refine lv_iload_n S.1 S.2.1 dX3_isLineFound_29 rfl (lv_at hl 0 rfl) ?_
        refine lv_iconst (v := 0) S.1 S.2.1 dX3_isLineFound_30 (by decide) ?_
        obtain ⟨z17, hz, hf⟩ := ob hf
        refine pk_cVI (As := [.int z12, .int 0]) (rest := []) S hK hST hW (c_X0_placeOfKind (hI.row (by decide : 1 < 7)) z12 0 hz) mc_X0_placeOfKind wd_178 wd_179 wd_180 rfl np_X0_placeOfKind (hI.mem _ (by have := (by decide : 1 < 7); omega)) (hI.rowH (by decide : 1 < 7)) rfl rfl hl.1 rfl (Nat.le_of_ble_eq_true rfl) dX3_isLineFound_31 ⟨by decide, by decide⟩ ⟨by decide, by decide⟩ (fun r L18 F19 H20 l21 hp hW => ?_)
        obtain ⟨rfl, rfl, rfl⟩ := hp
        refine lv_iload_n S.1 S.2.1 dX3_isLineFound_34 rfl (lv_at hl 2 rfl) ?_
        refine lv_icmp_gt (tgt := 51) S.1 S.2.1 dX3_isLineFound_35 (by decide) (fun c22 => ?_) (fun c22 => ?_)
        · have hf := (if_pos c22).symm.trans hf
          refine lv_iconst (v := 0) S.1 S.2.1 dX3_isLineFound_51 (by decide) ?_
          exact pk_zret S hr hlk hW (by decide) ⟨rfl, rfl, eqm (P := fun z => z = 0) rfl (Option.some.inj hf)⟩ (by decide) (by decide) dX3_isLineFound_52
        · have hf := (if_neg c22).symm.trans hf
          refine lv_aload_n S.1 S.2.1 dX3_isLineFound_38 rfl (lv_at hl 1 rfl) ?_
          refine pk_get S hK hW 1 (hI.mem 0 (by decide)) hI.this rfl hinX3 (by decide) wd_81 rfl dX3_isLineFound_39 ?_
          refine lv_iload_n S.1 S.2.1 dX3_isLineFound_42 rfl (lv_at hl 0 rfl) ?_
          refine lv_iconst (v := 1) S.1 S.2.1 dX3_isLineFound_43 (by decide) ?_
          obtain ⟨z23, hz, hf⟩ := ob hf
          refine pk_cVI (As := [.int z12, .int 1]) (rest := []) S hK hST hW (c_X0_placeOfKind (hI.row (by decide : 1 < 7)) z12 1 hz) mc_X0_placeOfKind wd_178 wd_179 wd_180 rfl np_X0_placeOfKind (hI.mem _ (by have := (by decide : 1 < 7); omega)) (hI.rowH (by decide : 1 < 7)) rfl rfl hl.1 rfl (Nat.le_of_ble_eq_true rfl) dX3_isLineFound_44 ⟨by decide, by decide⟩ ⟨by decide, by decide⟩ (fun r L24 F25 H26 l27 hp hW => ?_)
          obtain ⟨rfl, rfl, rfl⟩ := hp
          refine lv_iload_n S.1 S.2.1 dX3_isLineFound_47 rfl (lv_at hl 2 rfl) ?_
          refine lv_icmp_ge (tgt := 53) S.1 S.2.1 dX3_isLineFound_48 (by decide) (fun c28 => ?_) (fun c28 => ?_)
          · have hf := (if_pos c28).symm.trans hf
            obtain ⟨y29, ey29⟩ : ∃ y : Int32, y = v1 + 1 := ⟨_, rfl⟩
            have hf := nm_at hf ey29
            refine lv_iinc (v := y29) (lv' := [(1, .int y29), (2, .int z12), (0, .ref (A 0))]) S.1 S.2.1 dX3_isLineFound_53 hl (k := 2) rfl (by rw [ey29]; rfl) (by decide) rfl (fun ls hl => ?_)
            refine lv_goto (tgt := 2) S.1 S.2.1 dX3_isLineFound_56 (by decide) ?_
            exact hk2 y29 hf  _ _ _ hW (lv_sub hl [2, 0] rfl)
          · have hf := (if_neg c28).symm.trans hf
            refine lv_iconst (v := 0) S.1 S.2.1 dX3_isLineFound_51 (by decide) ?_
            exact pk_zret S hr hlk hW (by decide) ⟨rfl, rfl, eqm (P := fun z => z = 0) rfl (Option.some.inj hf)⟩ (by decide) (by decide) dX3_isLineFound_52
  unfold f_X3_isLineFound at hf
  refine lv_iconst (v := 0) S.1 S.2.1 dX3_isLineFound_0 (by decide) ?_
  refine lv_istore_n (lv' := [(1, .int 0), (0, .ref (A 0))]) S.1 S.2.1 dX3_isLineFound_1 rfl hl (by decide) rfl (fun ls hl => ?_)
  exact B2  64 0 hf  _ _ _ hW (lv_sub hl [1, 0] rfl)
def f_X3_isWalkerSound_28 (σ : CS)   : Option Int32 := some (1)
def f_X3_isWalkerSound (σ : CS) (x1 : Nat) : Option Int32 := (f_X2_isFresh (fun k => σ.2 (5 + 3 * x1 + k))).bind fun z1 => (if z1 = 0 then f_X3_isWalkerSound_28 σ else (if (σ.2 (5 + 3 * x1 + 1)) < 0 then some (0) else (f_X0_size (cap 1) (σ.1 1)).bind fun z8 => (if z8 < (σ.2 (5 + 3 * x1 + 1)) then some (0) else f_X3_isWalkerSound_28 σ)))
theorem mc_X3_isWalkerSound : MCode yX3_isWalkerSound cX3_isWalkerSound 2 (some .boolean) := ⟨wd_236, wd_1, by decide, by decide⟩
theorem np_X3_isWalkerSound : (parseMethodDescriptor yX3_isWalkerSound.desc).map (fun d => d.parameters.length) = some 1 := by decide +kernel
set_option maxHeartbeats 4000000 in
set_option maxRecDepth 100000 in
theorem c_X3_isWalkerSound {l : Launch} {D : va_G} {κ : Nat → ClassId} {ζ : Nat → Nat} {L : List Nat} {F : Nat → va_E} {σ : CS} {A : Nat → Nat} (hI : CI κ A σ L F) (x1 : Nat) (hx1 : x1 < 2) {res : Int32} (hf : f_X3_isWalkerSound σ x1 = some res) : MtI l D cls (ty5 κ) ζ yX3_isWalkerSound cX3_isWalkerSound 2 (some .boolean) 2 0 0 ([.ref (A 0), .ref (A (16 + x1))] : List Value) L F (fun r L' F' => L = L' ∧ F = F' ∧ res = r) := by
  refine MtI.of (by decide) (Nat.le_of_ble_eq_true rfl) ?_
  intro p e s m below meth c S hr hlk _ hK hW hST ls hl
  have hl : lv_has ls 2 [(0, .ref (A 0)), (1, .ref (A (16 + x1)))] := hl
  have B28 :   f_X3_isWalkerSound_28 σ = some res → ∀ (H28 : Heap) (l28 : List Loc) (ls : Array Slot), HW D cls L s H28 l28 L F → lv_has ls 2 [] → W p l e (Rm 2 0 0) s m ([.ref (A 0), .ref (A (16 + x1))] : List Value).toArray below meth c H28 l28 0 0 (EnI D cls s below ([.ref (A 0), .ref (A (16 + x1))] : List Value).toArray 0 0 L (fun r L' F' => L = L' ∧ F = F' ∧ res = r)) (F0 m 28 ls []) := by
    intro  hf H28 l28 ls hW hl
    unfold f_X3_isWalkerSound_28 at hf
    refine lv_iconst (v := 1) S.1 S.2.1 dX3_isWalkerSound_28 (by decide) ?_
    refine lv_goto (tgt := 33) S.1 S.2.1 dX3_isWalkerSound_29 (by decide) ?_
    exact pk_zret S hr hlk hW (by decide) ⟨rfl, rfl, eqm (P := fun z => z = 1) rfl (Option.some.inj hf)⟩ (by decide) (by decide) dX3_isWalkerSound_33
  unfold f_X3_isWalkerSound at hf
  refine lv_aload_n S.1 S.2.1 dX3_isWalkerSound_0 rfl (lv_at hl 1 rfl) ?_
  obtain ⟨z1, hz, hf⟩ := ob hf
  refine pk_cVI (As := []) (rest := []) S hK hST hW (c_X2_isFresh (hI.ker hx1)  hz) mc_X2_isFresh wd_237 wd_238 wd_239 rfl np_X2_isFresh (hI.mem _ (by have := hx1; omega)) (hI.kerH hx1) rfl rfl hl.1 rfl (Nat.le_of_ble_eq_true rfl) dX3_isWalkerSound_1 ⟨by decide, by decide⟩ ⟨by decide, by decide⟩ (fun r L2 F3 H4 l5 hp hW => ?_)
  obtain ⟨rfl, rfl, rfl⟩ := hp
  refine lv_if_eq (tgt := 28) S.1 S.2.1 dX3_isWalkerSound_4 (by decide) (fun c6 => ?_) (fun c6 => ?_)
  · have hf := (if_pos c6).symm.trans hf
    exact B28   hf  _ _ _ hW (lv_sub hl [] rfl)
  · have hf := (if_neg c6).symm.trans hf
    refine lv_aload_n S.1 S.2.1 dX3_isWalkerSound_7 rfl (lv_at hl 1 rfl) ?_
    refine pk_getN S hK hW 1 (hI.mem _ (Nat.lt_of_lt_of_le (Nat.add_lt_add_left hx1 16) (by decide))) (hI.kerH hx1) rfl hinX2 (by decide) (va_Nw.use rfl (hST.1.1 _ wn_4)) rfl dX3_isWalkerSound_8 ?_
    refine lv_if_lt (tgt := 32) S.1 S.2.1 dX3_isWalkerSound_11 (by decide) (fun c7 => ?_) (fun c7 => ?_)
    · have hf := (if_pos c7).symm.trans hf
      refine lv_iconst (v := 0) S.1 S.2.1 dX3_isWalkerSound_32 (by decide) ?_
      exact pk_zret S hr hlk hW (by decide) ⟨rfl, rfl, eqm (P := fun z => z = 0) rfl (Option.some.inj hf)⟩ (by decide) (by decide) dX3_isWalkerSound_33
    · have hf := (if_neg c7).symm.trans hf
      refine lv_aload_n S.1 S.2.1 dX3_isWalkerSound_14 rfl (lv_at hl 1 rfl) ?_
      refine pk_getN S hK hW 1 (hI.mem _ (Nat.lt_of_lt_of_le (Nat.add_lt_add_left hx1 16) (by decide))) (hI.kerH hx1) rfl hinX2 (by decide) (va_Nw.use rfl (hST.1.1 _ wn_4)) rfl dX3_isWalkerSound_15 ?_
      refine lv_aload_n S.1 S.2.1 dX3_isWalkerSound_18 rfl (lv_at hl 0 rfl) ?_
      refine pk_get S hK hW 1 (hI.mem 0 (by decide)) hI.this rfl hinX3 (by decide) wd_81 rfl dX3_isWalkerSound_19 ?_
      obtain ⟨z8, hz, hf⟩ := ob hf
      refine pk_cVI (As := []) (rest := [.int (σ.2 (5 + 3 * x1 + 1))]) S hK hST hW (c_X0_size (hI.row (by decide : 1 < 7))  hz) mc_X0_size wd_140 wd_141 wd_142 rfl np_X0_size (hI.mem _ (by have := (by decide : 1 < 7); omega)) (hI.rowH (by decide : 1 < 7)) rfl rfl hl.1 rfl (Nat.le_of_ble_eq_true rfl) dX3_isWalkerSound_22 ⟨by decide, by decide⟩ ⟨by decide, by decide⟩ (fun r L9 F10 H11 l12 hp hW => ?_)
      obtain ⟨rfl, rfl, rfl⟩ := hp
      refine lv_icmp_gt (tgt := 32) S.1 S.2.1 dX3_isWalkerSound_25 (by decide) (fun c13 => ?_) (fun c13 => ?_)
      · have hf := (if_pos c13).symm.trans hf
        refine lv_iconst (v := 0) S.1 S.2.1 dX3_isWalkerSound_32 (by decide) ?_
        exact pk_zret S hr hlk hW (by decide) ⟨rfl, rfl, eqm (P := fun z => z = 0) rfl (Option.some.inj hf)⟩ (by decide) (by decide) dX3_isWalkerSound_33
      · have hf := (if_neg c13).symm.trans hf
        exact B28   hf  _ _ _ hW (lv_sub hl [] rfl)
def f_X3_isUndoneOn_63 (σ : CS)  (v1 : Int32) (u0 : Nat) (u1 : Int32) : Option (Int32 × CS) := (f_X3_slipCode v1).bind fun z1 => (f_X0_enter (cap u0) (σ.1 u0) u1 z1).bind fun z6 => nm ((va_up σ.1 u0 z6, σ.2) : CS) fun t11 => some (1, t11)
def f_X3_isUndoneOn (σ : CS) (x1 : Nat) (x2 : Int32) : Option (Int32 × CS) := (f_X3_slipIsBack x2).bind fun z12 => (f_X3_slipIsPut x2).bind fun z17 => (if z17 = 0 then (f_X0_isFull (cap x1) (σ.1 x1)).bind fun z23 => (if z23 = 0 then (if z12 = 0 then f_X3_isUndoneOn_63 σ x2 x1 0 else (f_X0_size (cap x1) (σ.1 x1)).bind fun z30 => f_X3_isUndoneOn_63 σ x2 x1 z30) else some (0, σ)) else (f_X0_isEmpty (cap x1) (σ.1 x1)).bind fun z35 => (if z35 = 0 then (f_X0_endPlace (cap x1) (σ.1 x1) z12).bind fun z41 => (f_X0_leave (cap x1) (σ.1 x1) z41).bind fun z46 => nm ((va_up σ.1 x1 z46.2, σ.2) : CS) fun t51 => (f_X3_slipCode x2).bind fun z52 => (if z46.1 = z52 then some (1, t51) else some (0, t51)) else some (0, σ)))
theorem mc_X3_isUndoneOn : MCode yX3_isUndoneOn cX3_isUndoneOn 3 (some .boolean) := ⟨wd_258, wd_1, by decide, by decide⟩
theorem np_X3_isUndoneOn : (parseMethodDescriptor yX3_isUndoneOn.desc).map (fun d => d.parameters.length) = some 2 := by decide +kernel
set_option maxHeartbeats 4000000 in
set_option maxRecDepth 100000 in
theorem c_X3_isUndoneOn {l : Launch} {D : va_G} {κ : Nat → ClassId} {ζ : Nat → Nat} {L : List Nat} {F : Nat → va_E} {σ : CS} {A : Nat → Nat} (hI : CI κ A σ L F) (x1 : Nat) (hx1 : x1 < 7) (x2 : Int32) {res : (Int32 × CS)} (hf : f_X3_isUndoneOn σ x1 x2 = some res) : MtI l D cls (ty5 κ) ζ yX3_isUndoneOn cX3_isUndoneOn 3 (some .boolean) 3 0 0 ([.ref (A (1 + 2 * x1)), .int x2] : List Value) L F (fun r L' F' => L = L' ∧ res.1 = r ∧ CI κ A res.2 L F' ∧ FrA A F F') := by
  refine MtI.of (by decide) (Nat.le_of_ble_eq_true rfl) ?_
  intro p e s m below meth c S hr hlk _ hK hW hST ls hl
  have hl : lv_has ls 3 [(0, .ref (A (1 + 2 * x1))), (1, .int x2)] := hl
  have hFr : FrA A F F := FrA.rf
  have B63 : ∀   (v1 : Int32) (u0 : Nat) (u1 : Int32), f_X3_isUndoneOn_63 σ v1 u0 u1 = some res → u0 < 7 → ∀ (H63 : Heap) (l63 : List Loc) (ls : Array Slot), HW D cls L s H63 l63 L F → lv_has ls 3 [(1, .int v1)] → W p l e (Rm 3 0 0) s m ([.ref (A (1 + 2 * x1)), .int x2] : List Value).toArray below meth c H63 l63 0 0 (EnI D cls s below ([.ref (A (1 + 2 * x1)), .int x2] : List Value).toArray 0 0 L (fun r L' F' => L = L' ∧ res.1 = r ∧ CI κ A res.2 L F' ∧ FrA A F F')) (F0 m 63 ls [.int u1, .ref (A (1 + 2 * u0))]) := by
    intro v1 u0 u1 hf hu0 H63 l63 ls hW hl
    unfold f_X3_isUndoneOn_63 at hf
    refine lv_iload_n S.1 S.2.1 dX3_isUndoneOn_63 rfl (lv_at hl 0 rfl) ?_
    obtain ⟨z1, hz, hf⟩ := ob hf
    refine pk_cSI (As := [.int v1]) (rest := [.int u1, .ref (A (1 + 2 * u0))]) S hK hST hW (c_X3_slipCode  v1 hz) mc_X3_slipCode wd_144 wd_145 np_X3_slipCode rfl hl.1 rfl (Nat.le_of_ble_eq_true rfl) dX3_isUndoneOn_64 ⟨by decide, by decide⟩ ⟨by decide, by decide⟩ (fun r L2 F3 H4 l5 hp hW => ?_)
    obtain ⟨rfl, rfl, rfl⟩ := hp
    obtain ⟨z6, hz, hf⟩ := ob hf
    refine pk_cVV (As := [.int u1, .int z1]) (rest := []) S hK hST hW (c_X0_enter (hI.row hu0) u1 z1 hz) mc_X0_enter wd_147 wd_148 wd_149 rfl np_X0_enter (hI.mem _ (by have := hu0; omega)) (hI.rowH hu0) rfl rfl hl.1 rfl (Nat.le_of_ble_eq_true rfl) dX3_isUndoneOn_67 ⟨by decide, by decide⟩ ⟨by decide, by decide⟩ (fun L7 F8 H9 l10 hp hW => ?_)
    obtain ⟨rfl, hI1, hFr1⟩ := hp
    have hFr := hFr.tr (FrA.row hu0 hFr1)
    have hI := hI.setRow hu0 hI1 hFr1
    obtain ⟨t11, et11, hf⟩ := nm_ok hf
    have hI := eqm (P := fun w => CI κ A w L F8) hI et11.symm
    refine lv_iconst (v := 1) S.1 S.2.1 dX3_isUndoneOn_70 (by decide) ?_
    exact pk_zret S hr hlk hW (by decide) ⟨rfl, eqm (P := fun z => z.1 = 1 ∧ CI κ A z.2 L F8 ∧ FrA A F F8) ⟨rfl, hI, hFr⟩ (Option.some.inj hf)⟩ (by decide) (by decide) dX3_isUndoneOn_71
  unfold f_X3_isUndoneOn at hf
  refine lv_iload_n S.1 S.2.1 dX3_isUndoneOn_0 rfl (lv_at hl 1 rfl) ?_
  obtain ⟨z12, hz, hf⟩ := ob hf
  refine pk_cSI (As := [.int x2]) (rest := []) S hK hST hW (c_X3_slipIsBack  x2 hz) mc_X3_slipIsBack wd_137 wd_138 np_X3_slipIsBack rfl hl.1 rfl (Nat.le_of_ble_eq_true rfl) dX3_isUndoneOn_1 ⟨by decide, by decide⟩ ⟨by decide, by decide⟩ (fun r L13 F14 H15 l16 hp hW => ?_)
  obtain ⟨rfl, rfl, rfl⟩ := hp
  refine lv_istore_n (lv' := [(2, .int z12), (0, .ref (A (1 + 2 * x1))), (1, .int x2)]) S.1 S.2.1 dX3_isUndoneOn_4 rfl hl (by decide) rfl (fun ls hl => ?_)
  refine lv_iload_n S.1 S.2.1 dX3_isUndoneOn_5 rfl (lv_at hl 2 rfl) ?_
  obtain ⟨z17, hz, hf⟩ := ob hf
  refine pk_cSI (As := [.int x2]) (rest := []) S hK hST hW (c_X3_slipIsPut  x2 hz) mc_X3_slipIsPut wd_134 wd_135 np_X3_slipIsPut rfl hl.1 rfl (Nat.le_of_ble_eq_true rfl) dX3_isUndoneOn_6 ⟨by decide, by decide⟩ ⟨by decide, by decide⟩ (fun r L18 F19 H20 l21 hp hW => ?_)
  obtain ⟨rfl, rfl, rfl⟩ := hp
  refine lv_if_eq (tgt := 41) S.1 S.2.1 dX3_isUndoneOn_9 (by decide) (fun c22 => ?_) (fun c22 => ?_)
  · have hf := (if_pos c22).symm.trans hf
    refine lv_aload_n S.1 S.2.1 dX3_isUndoneOn_41 rfl (lv_at hl 1 rfl) ?_
    obtain ⟨z23, hz, hf⟩ := ob hf
    refine pk_cVI (As := []) (rest := []) S hK hST hW (c_X0_isFull (hI.row hx1)  hz) mc_X0_isFull wd_259 wd_152 wd_153 rfl np_X0_isFull (hI.mem _ (by have := hx1; omega)) (hI.rowH hx1) rfl rfl hl.1 rfl (Nat.le_of_ble_eq_true rfl) dX3_isUndoneOn_42 ⟨by decide, by decide⟩ ⟨by decide, by decide⟩ (fun r L24 F25 H26 l27 hp hW => ?_)
    obtain ⟨rfl, rfl, rfl⟩ := hp
    refine lv_if_eq (tgt := 50) S.1 S.2.1 dX3_isUndoneOn_45 (by decide) (fun c28 => ?_) (fun c28 => ?_)
    · have hf := (if_pos c28).symm.trans hf
      refine lv_aload_n S.1 S.2.1 dX3_isUndoneOn_50 rfl (lv_at hl 1 rfl) ?_
      refine lv_iload_n S.1 S.2.1 dX3_isUndoneOn_51 rfl (lv_at hl 0 rfl) ?_
      refine lv_if_eq (tgt := 62) S.1 S.2.1 dX3_isUndoneOn_52 (by decide) (fun c29 => ?_) (fun c29 => ?_)
      · have hf := (if_pos c29).symm.trans hf
        refine lv_iconst (v := 0) S.1 S.2.1 dX3_isUndoneOn_62 (by decide) ?_
        exact B63  x2 x1 0 hf hx1 _ _ _ hW (lv_sub hl [2] rfl)
      · have hf := (if_neg c29).symm.trans hf
        refine lv_aload_n S.1 S.2.1 dX3_isUndoneOn_55 rfl (lv_at hl 1 rfl) ?_
        obtain ⟨z30, hz, hf⟩ := ob hf
        refine pk_cVI (As := []) (rest := [.ref (A (1 + 2 * x1))]) S hK hST hW (c_X0_size (hI.row hx1)  hz) mc_X0_size wd_140 wd_141 wd_142 rfl np_X0_size (hI.mem _ (by have := hx1; omega)) (hI.rowH hx1) rfl rfl hl.1 rfl (Nat.le_of_ble_eq_true rfl) dX3_isUndoneOn_56 ⟨by decide, by decide⟩ ⟨by decide, by decide⟩ (fun r L31 F32 H33 l34 hp hW => ?_)
        obtain ⟨rfl, rfl, rfl⟩ := hp
        refine lv_goto (tgt := 63) S.1 S.2.1 dX3_isUndoneOn_59 (by decide) ?_
        exact B63  x2 x1 z30 hf hx1 _ _ _ hW (lv_sub hl [2] rfl)
    · have hf := (if_neg c28).symm.trans hf
      refine lv_iconst (v := 0) S.1 S.2.1 dX3_isUndoneOn_48 (by decide) ?_
      exact pk_zret S hr hlk hW (by decide) ⟨rfl, eqm (P := fun z => z.1 = 0 ∧ CI κ A z.2 L F ∧ FrA A F F) ⟨rfl, hI, hFr⟩ (Option.some.inj hf)⟩ (by decide) (by decide) dX3_isUndoneOn_49
  · have hf := (if_neg c22).symm.trans hf
    refine lv_aload_n S.1 S.2.1 dX3_isUndoneOn_12 rfl (lv_at hl 1 rfl) ?_
    obtain ⟨z35, hz, hf⟩ := ob hf
    refine pk_cVI (As := []) (rest := []) S hK hST hW (c_X0_isEmpty (hI.row hx1)  hz) mc_X0_isEmpty wd_107 wd_108 wd_109 rfl np_X0_isEmpty (hI.mem _ (by have := hx1; omega)) (hI.rowH hx1) rfl rfl hl.1 rfl (Nat.le_of_ble_eq_true rfl) dX3_isUndoneOn_13 ⟨by decide, by decide⟩ ⟨by decide, by decide⟩ (fun r L36 F37 H38 l39 hp hW => ?_)
    obtain ⟨rfl, rfl, rfl⟩ := hp
    refine lv_if_ne (tgt := 39) S.1 S.2.1 dX3_isUndoneOn_16 (by decide) (fun c40 => ?_) (fun c40 => ?_)
    · have hf := (if_neg c40).symm.trans hf
      refine lv_iconst (v := 0) S.1 S.2.1 dX3_isUndoneOn_39 (by decide) ?_
      exact pk_zret S hr hlk hW (by decide) ⟨rfl, eqm (P := fun z => z.1 = 0 ∧ CI κ A z.2 L F ∧ FrA A F F) ⟨rfl, hI, hFr⟩ (Option.some.inj hf)⟩ (by decide) (by decide) dX3_isUndoneOn_40
    · have hf := (if_pos c40).symm.trans hf
      refine lv_aload_n S.1 S.2.1 dX3_isUndoneOn_19 rfl (lv_at hl 1 rfl) ?_
      refine lv_aload_n S.1 S.2.1 dX3_isUndoneOn_20 rfl (lv_at hl 1 rfl) ?_
      refine lv_iload_n S.1 S.2.1 dX3_isUndoneOn_21 rfl (lv_at hl 0 rfl) ?_
      obtain ⟨z41, hz, hf⟩ := ob hf
      refine pk_cVI (As := [.int z12]) (rest := [.ref (A (1 + 2 * x1))]) S hK hST hW (c_X0_endPlace (hI.row hx1) z12 hz) mc_X0_endPlace wd_111 wd_112 wd_113 rfl np_X0_endPlace (hI.mem _ (by have := hx1; omega)) (hI.rowH hx1) rfl rfl hl.1 rfl (Nat.le_of_ble_eq_true rfl) dX3_isUndoneOn_22 ⟨by decide, by decide⟩ ⟨by decide, by decide⟩ (fun r L42 F43 H44 l45 hp hW => ?_)
      obtain ⟨rfl, rfl, rfl⟩ := hp
      obtain ⟨z46, hz, hf⟩ := ob hf
      refine pk_cVI (As := [.int z41]) (rest := []) S hK hST hW (c_X0_leave (hI.row hx1) z41 hz) mc_X0_leave wd_115 wd_116 wd_117 rfl np_X0_leave (hI.mem _ (by have := hx1; omega)) (hI.rowH hx1) rfl rfl hl.1 rfl (Nat.le_of_ble_eq_true rfl) dX3_isUndoneOn_25 ⟨by decide, by decide⟩ ⟨by decide, by decide⟩ (fun r L47 F48 H49 l50 hp hW => ?_)
      obtain ⟨rfl, rfl, hI1, hFr1⟩ := hp
      have hFr := hFr.tr (FrA.row hx1 hFr1)
      have hI := hI.setRow hx1 hI1 hFr1
      obtain ⟨t51, et51, hf⟩ := nm_ok hf
      have hI := eqm (P := fun w => CI κ A w L F48) hI et51.symm
      refine lv_iload_n S.1 S.2.1 dX3_isUndoneOn_28 rfl (lv_at hl 2 rfl) ?_
      obtain ⟨z52, hz, hf⟩ := ob hf
      refine pk_cSI (As := [.int x2]) (rest := [.int z46.1]) S hK hST hW (c_X3_slipCode  x2 hz) mc_X3_slipCode wd_144 wd_145 np_X3_slipCode rfl hl.1 rfl (Nat.le_of_ble_eq_true rfl) dX3_isUndoneOn_29 ⟨by decide, by decide⟩ ⟨by decide, by decide⟩ (fun r L53 F54 H55 l56 hp hW => ?_)
      obtain ⟨rfl, rfl, rfl⟩ := hp
      refine lv_icmp_ne (tgt := 39) S.1 S.2.1 dX3_isUndoneOn_32 (by decide) (fun c57 => ?_) (fun c57 => ?_)
      · have hf := (if_neg c57).symm.trans hf
        refine lv_iconst (v := 0) S.1 S.2.1 dX3_isUndoneOn_39 (by decide) ?_
        exact pk_zret S hr hlk hW (by decide) ⟨rfl, eqm (P := fun z => z.1 = 0 ∧ CI κ A z.2 L F48 ∧ FrA A F F48) ⟨rfl, hI, hFr⟩ (Option.some.inj hf)⟩ (by decide) (by decide) dX3_isUndoneOn_40
      · have hf := (if_pos c57).symm.trans hf
        refine lv_iconst (v := 1) S.1 S.2.1 dX3_isUndoneOn_35 (by decide) ?_
        refine lv_goto (tgt := 40) S.1 S.2.1 dX3_isUndoneOn_36 (by decide) ?_
        exact pk_zret S hr hlk hW (by decide) ⟨rfl, eqm (P := fun z => z.1 = 1 ∧ CI κ A z.2 L F48 ∧ FrA A F F48) ⟨rfl, hI, hFr⟩ (Option.some.inj hf)⟩ (by decide) (by decide) dX3_isUndoneOn_40
def f_X3_isUndoneOnPaper_63  (k32 : (CS × Int32) → Option (Int32 × CS)) (w63 : CS) (v1 : Int32) (v2 : Int32) (u0 : Nat) : Option (Int32 × CS) := (f_X3_isUndoneOn w63 u0 v2).bind fun z1 => (if z1.1 = 0 then some (0, z1.2) else nm (v1 + (-1) : Int32) fun y7 => k32 (z1.2, y7))
def f_X3_isUndoneOnPaper_32   (k32 : CS × Int32 → Option (Int32 × CS)) (t : CS × Int32) : Option (Int32 × CS) := (if t.2 < 0 then some (1, t.1) else (f_X0_read (cap 2) (t.1.1 2) t.2).bind fun z9 => (f_X3_slipTrack z9).bind fun z14 => (if z14 = 0 then f_X3_isUndoneOnPaper_63 k32 t.1 t.2 z9 4 else f_X3_isUndoneOnPaper_63 k32 t.1 t.2 z9 5))
def f_X3_isUndoneOnPaper (σ : CS) : Option (Int32 × CS) := (f_X0_copyFrom σ 4 0).bind fun z20 => (f_X0_copyFrom z20 5 1).bind fun z25 => (f_X0_size (cap 2) (z25.1 2)).bind fun z30 => nm (z30 - 1 : Int32) fun y35 => lpn (f_X3_isUndoneOnPaper_32 ) 64 (z25, y35)
theorem mc_X3_isUndoneOnPaper : MCode yX3_isUndoneOnPaper cX3_isUndoneOnPaper 4 (some .boolean) := ⟨wd_244, wd_1, by decide, by decide⟩
theorem np_X3_isUndoneOnPaper : (parseMethodDescriptor yX3_isUndoneOnPaper.desc).map (fun d => d.parameters.length) = some 0 := by decide +kernel
set_option maxHeartbeats 4000000 in
set_option maxRecDepth 100000 in
theorem c_X3_isUndoneOnPaper {l : Launch} {D : va_G} {κ : Nat → ClassId} {ζ : Nat → Nat} {L : List Nat} {F : Nat → va_E} {σ : CS} {A : Nat → Nat} (hI : CI κ A σ L F)  {res : (Int32 × CS)} (hf : f_X3_isUndoneOnPaper σ = some res) : MtI l D cls (ty5 κ) ζ yX3_isUndoneOnPaper cX3_isUndoneOnPaper 4 (some .boolean) 5 0 0 ([.ref (A 0)] : List Value) L F (fun r L' F' => L = L' ∧ res.1 = r ∧ CI κ A res.2 L F' ∧ FrA A F F') := by
  refine MtI.of (by decide) (Nat.le_of_ble_eq_true rfl) ?_
  intro p e s m below meth c S hr hlk _ hK hW hST ls hl
  have hl : lv_has ls 4 [(0, .ref (A 0))] := hl
  have hFr : FrA A F F := FrA.rf
  have B63 : ∀ (k32 : (CS × Int32) → Option (Int32 × CS)) (hk32 : (∀ (w32 : CS) (v1 : Int32), k32 (w32, v1) = some res → ∀ (G32 : Nat → va_E), CI κ A w32 L G32 → FrA A F G32 → ∀ (H32 : Heap) (l32 : List Loc) (ls : Array Slot), HW D cls L s H32 l32 L G32 → lv_has ls 4 [(0, .ref (A 0)), (1, .int v1)] → W p l e (Rm 5 0 0) s m ([.ref (A 0)] : List Value).toArray below meth c H32 l32 0 0 (EnI D cls s below ([.ref (A 0)] : List Value).toArray 0 0 L (fun r L' F' => L = L' ∧ res.1 = r ∧ CI κ A res.2 L F' ∧ FrA A F F')) (F0 m 32 ls []))) (w63 : CS) (v1 : Int32) (v2 : Int32) (u0 : Nat), f_X3_isUndoneOnPaper_63 k32 w63 v1 v2 u0 = some res → ∀ (G63 : Nat → va_E), u0 < 7 → CI κ A w63 L G63 → FrA A F G63 → ∀ (H63 : Heap) (l63 : List Loc) (ls : Array Slot), HW D cls L s H63 l63 L G63 → lv_has ls 4 [(0, .ref (A 0)), (1, .int v1), (2, .int v2)] → W p l e (Rm 5 0 0) s m ([.ref (A 0)] : List Value).toArray below meth c H63 l63 0 0 (EnI D cls s below ([.ref (A 0)] : List Value).toArray 0 0 L (fun r L' F' => L = L' ∧ res.1 = r ∧ CI κ A res.2 L F' ∧ FrA A F F')) (F0 m 63 ls [.ref (A (1 + 2 * u0))]) := by
    intro k32 hk32 w63 v1 v2 u0 hf G63 hu0 hI hFr H63 l63 ls hW hl
    unfold f_X3_isUndoneOnPaper_63 at hf
    refine lv_astore_n (lv' := [(3, .ref (A (1 + 2 * u0))), (0, .ref (A 0)), (1, .int v1), (2, .int v2)]) S.1 S.2.1 dX3_isUndoneOnPaper_63 rfl hl (by decide) rfl (fun ls hl => ?_)
    refine lv_aload_n S.1 S.2.1 dX3_isUndoneOnPaper_64 rfl (lv_at hl 0 rfl) ?_
    refine lv_iload_n S.1 S.2.1 dX3_isUndoneOnPaper_65 rfl (lv_at hl 3 rfl) ?_
    obtain ⟨z1, hz, hf⟩ := ob hf
    refine pk_cSI (As := [.ref (A (1 + 2 * u0)), .int v2]) (rest := []) S hK hST hW (c_X3_isUndoneOn hI u0 hu0 v2 hz) mc_X3_isUndoneOn wd_256 wd_257 np_X3_isUndoneOn rfl hl.1 rfl (Nat.le_of_ble_eq_true rfl) dX3_isUndoneOnPaper_66 ⟨by decide, by decide⟩ ⟨by decide, by decide⟩ (fun r L2 F3 H4 l5 hp hW => ?_)
    obtain ⟨rfl, rfl, hI1, hFr1⟩ := hp
    have hI := hI1
    have hFr := hFr.tr hFr1
    refine lv_if_ne (tgt := 74) S.1 S.2.1 dX3_isUndoneOnPaper_69 (by decide) (fun c6 => ?_) (fun c6 => ?_)
    · have hf := (if_neg c6).symm.trans hf
      obtain ⟨y7, ey7⟩ : ∃ y : Int32, y = v1 + (-1) := ⟨_, rfl⟩
      have hf := nm_at hf ey7
      refine lv_iinc (v := y7) (lv' := [(1, .int y7), (3, .ref (A (1 + 2 * u0))), (0, .ref (A 0)), (2, .int v2)]) S.1 S.2.1 dX3_isUndoneOnPaper_74 hl (k := 2) rfl (by rw [ey7]; rfl) (by decide) rfl (fun ls hl => ?_)
      refine lv_goto (tgt := 32) S.1 S.2.1 dX3_isUndoneOnPaper_77 (by decide) ?_
      exact hk32 z1.2 y7 hf F3 hI hFr _ _ _ hW (lv_sub hl [2, 0] rfl)
    · have hf := (if_pos c6).symm.trans hf
      refine lv_iconst (v := 0) S.1 S.2.1 dX3_isUndoneOnPaper_72 (by decide) ?_
      exact pk_zret S hr hlk hW (by decide) ⟨rfl, eqm (P := fun z => z.1 = 0 ∧ CI κ A z.2 L F3 ∧ FrA A F F3) ⟨rfl, hI, hFr⟩ (Option.some.inj hf)⟩ (by decide) (by decide) dX3_isUndoneOnPaper_73
  have B32 : ∀ (N : Nat), (∀ (w32 : CS) (v1 : Int32), (lpn (f_X3_isUndoneOnPaper_32 ) N) (w32, v1) = some res → ∀ (G32 : Nat → va_E), CI κ A w32 L G32 → FrA A F G32 → ∀ (H32 : Heap) (l32 : List Loc) (ls : Array Slot), HW D cls L s H32 l32 L G32 → lv_has ls 4 [(0, .ref (A 0)), (1, .int v1)] → W p l e (Rm 5 0 0) s m ([.ref (A 0)] : List Value).toArray below meth c H32 l32 0 0 (EnI D cls s below ([.ref (A 0)] : List Value).toArray 0 0 L (fun r L' F' => L = L' ∧ res.1 = r ∧ CI κ A res.2 L F' ∧ FrA A F F')) (F0 m 32 ls [])) := by
    intro  N
    induction N with
    | zero => intro w32 v1 hf G32 hI hFr H32 l32 ls hW hl; cases hf
    | succ N ih =>
      intro w32 v1 hf G32 hI hFr H32 l32 ls hW hl
      have hf : f_X3_isUndoneOnPaper_32 (lpn (f_X3_isUndoneOnPaper_32 ) N) (w32, v1) = some res := hf
      generalize lpn (f_X3_isUndoneOnPaper_32 ) N = k32 at hf ih
      have hk32 := ih
      unfold f_X3_isUndoneOnPaper_32 at hf
      try dsimp only at hf
      refine lv_iload_n S.1 S.2.1 dX3_isUndoneOnPaper_32 rfl (lv_at hl 1 rfl) ?_
      refine lv_if_lt (tgt := 80) S.1 S.2.1 dX3_isUndoneOnPaper_33 (by decide) (fun c8 => ?_) (fun c8 => ?_)
      · have hf := (if_pos c8).symm.trans hf
        refine lv_iconst (v := 1) S.1 S.2.1 dX3_isUndoneOnPaper_80 (by decide) ?_
        exact pk_zret S hr hlk hW (by decide) ⟨rfl, eqm (P := fun z => z.1 = 1 ∧ CI κ A z.2 L G32 ∧ FrA A F G32) ⟨rfl, hI, hFr⟩ (Option.some.inj hf)⟩ (by decide) (by decide) dX3_isUndoneOnPaper_81
      · have hf := (if_neg c8).symm.trans hf
        refine lv_aload_n S.1 S.2.1 dX3_isUndoneOnPaper_36 rfl (lv_at hl 0 rfl) ?_
        refine pk_get S hK hW 2 (hI.mem 0 (by decide)) hI.this rfl hinX3 (by decide) wd_82 rfl dX3_isUndoneOnPaper_37 ?_
        refine lv_iload_n S.1 S.2.1 dX3_isUndoneOnPaper_40 rfl (lv_at hl 1 rfl) ?_
        obtain ⟨z9, hz, hf⟩ := ob hf
        refine pk_cVI (As := [.int v1]) (rest := []) S hK hST hW (c_X0_read (hI.row (by decide : 2 < 7)) v1 hz) mc_X0_read wd_171 wd_120 wd_121 rfl np_X0_read (hI.mem _ (by have := (by decide : 2 < 7); omega)) (hI.rowH (by decide : 2 < 7)) rfl rfl hl.1 rfl (Nat.le_of_ble_eq_true rfl) dX3_isUndoneOnPaper_41 ⟨by decide, by decide⟩ ⟨by decide, by decide⟩ (fun r L10 F11 H12 l13 hp hW => ?_)
        obtain ⟨rfl, rfl, rfl⟩ := hp
        refine lv_istore_n (lv' := [(2, .int z9), (0, .ref (A 0)), (1, .int v1)]) S.1 S.2.1 dX3_isUndoneOnPaper_44 rfl hl (by decide) rfl (fun ls hl => ?_)
        refine lv_iload_n S.1 S.2.1 dX3_isUndoneOnPaper_45 rfl (lv_at hl 0 rfl) ?_
        obtain ⟨z14, hz, hf⟩ := ob hf
        refine pk_cSI (As := [.int z9]) (rest := []) S hK hST hW (c_X3_slipTrack  z9 hz) mc_X3_slipTrack wd_127 wd_128 np_X3_slipTrack rfl hl.1 rfl (Nat.le_of_ble_eq_true rfl) dX3_isUndoneOnPaper_46 ⟨by decide, by decide⟩ ⟨by decide, by decide⟩ (fun r L15 F16 H17 l18 hp hW => ?_)
        obtain ⟨rfl, rfl, rfl⟩ := hp
        refine lv_if_ne (tgt := 59) S.1 S.2.1 dX3_isUndoneOnPaper_49 (by decide) (fun c19 => ?_) (fun c19 => ?_)
        · have hf := (if_neg c19).symm.trans hf
          refine lv_aload_n S.1 S.2.1 dX3_isUndoneOnPaper_59 rfl (lv_at hl 1 rfl) ?_
          refine pk_get S hK hW 9 (hI.mem 0 (by decide)) hI.this rfl hinX3 (by decide) wd_89 rfl dX3_isUndoneOnPaper_60 ?_
          exact B63 k32 hk32 w32 v1 z9 5 hf G32 ((by decide : 5 < 7)) hI hFr _ _ _ hW (lv_sub hl [1, 2, 0] rfl)
        · have hf := (if_pos c19).symm.trans hf
          refine lv_aload_n S.1 S.2.1 dX3_isUndoneOnPaper_52 rfl (lv_at hl 1 rfl) ?_
          refine pk_get S hK hW 8 (hI.mem 0 (by decide)) hI.this rfl hinX3 (by decide) wd_88 rfl dX3_isUndoneOnPaper_53 ?_
          refine lv_goto (tgt := 63) S.1 S.2.1 dX3_isUndoneOnPaper_56 (by decide) ?_
          exact B63 k32 hk32 w32 v1 z9 4 hf G32 ((by decide : 4 < 7)) hI hFr _ _ _ hW (lv_sub hl [1, 2, 0] rfl)
  unfold f_X3_isUndoneOnPaper at hf
  refine lv_aload_n S.1 S.2.1 dX3_isUndoneOnPaper_0 rfl (lv_at hl 0 rfl) ?_
  refine pk_get S hK hW 8 (hI.mem 0 (by decide)) hI.this rfl hinX3 (by decide) wd_88 rfl dX3_isUndoneOnPaper_1 ?_
  refine lv_aload_n S.1 S.2.1 dX3_isUndoneOnPaper_4 rfl (lv_at hl 0 rfl) ?_
  refine pk_get S hK hW 0 (hI.mem 0 (by decide)) hI.this rfl hinX3 (by decide) wd_80 rfl dX3_isUndoneOnPaper_5 ?_
  obtain ⟨z20, hz, hf⟩ := ob hf
  refine pk_cVV (As := [.ref (A (1 + 2 * 0))]) (rest := []) S hK hST hW (c_X0_copyFrom hI 4 ((by decide : 4 < 7)) 0 ((by decide : 0 < 7)) hz) mc_X0_copyFrom wd_245 wd_246 wd_247 rfl np_X0_copyFrom (hI.mem _ (by have := (by decide : 4 < 7); omega)) (hI.rowH (by decide : 4 < 7)) rfl rfl hl.1 rfl (Nat.le_of_ble_eq_true rfl) dX3_isUndoneOnPaper_8 ⟨by decide, by decide⟩ ⟨by decide, by decide⟩ (fun L21 F22 H23 l24 hp hW => ?_)
  obtain ⟨rfl, hI1, hFr1⟩ := hp
  have hI := hI1
  have hFr := hFr.tr hFr1
  refine lv_aload_n S.1 S.2.1 dX3_isUndoneOnPaper_11 rfl (lv_at hl 0 rfl) ?_
  refine pk_get S hK hW 9 (hI.mem 0 (by decide)) hI.this rfl hinX3 (by decide) wd_89 rfl dX3_isUndoneOnPaper_12 ?_
  refine lv_aload_n S.1 S.2.1 dX3_isUndoneOnPaper_15 rfl (lv_at hl 0 rfl) ?_
  refine pk_get S hK hW 1 (hI.mem 0 (by decide)) hI.this rfl hinX3 (by decide) wd_81 rfl dX3_isUndoneOnPaper_16 ?_
  obtain ⟨z25, hz, hf⟩ := ob hf
  refine pk_cVV (As := [.ref (A (1 + 2 * 1))]) (rest := []) S hK hST hW (c_X0_copyFrom hI 5 ((by decide : 5 < 7)) 1 ((by decide : 1 < 7)) hz) mc_X0_copyFrom wd_245 wd_246 wd_247 rfl np_X0_copyFrom (hI.mem _ (by have := (by decide : 5 < 7); omega)) (hI.rowH (by decide : 5 < 7)) rfl rfl hl.1 rfl (Nat.le_of_ble_eq_true rfl) dX3_isUndoneOnPaper_19 ⟨by decide, by decide⟩ ⟨by decide, by decide⟩ (fun L26 F27 H28 l29 hp hW => ?_)
  obtain ⟨rfl, hI1, hFr1⟩ := hp
  have hI := hI1
  have hFr := hFr.tr hFr1
  refine lv_aload_n S.1 S.2.1 dX3_isUndoneOnPaper_22 rfl (lv_at hl 0 rfl) ?_
  refine pk_get S hK hW 2 (hI.mem 0 (by decide)) hI.this rfl hinX3 (by decide) wd_82 rfl dX3_isUndoneOnPaper_23 ?_
  obtain ⟨z30, hz, hf⟩ := ob hf
  refine pk_cVI (As := []) (rest := []) S hK hST hW (c_X0_size (hI.row (by decide : 2 < 7))  hz) mc_X0_size wd_140 wd_141 wd_142 rfl np_X0_size (hI.mem _ (by have := (by decide : 2 < 7); omega)) (hI.rowH (by decide : 2 < 7)) rfl rfl hl.1 rfl (Nat.le_of_ble_eq_true rfl) dX3_isUndoneOnPaper_26 ⟨by decide, by decide⟩ ⟨by decide, by decide⟩ (fun r L31 F32 H33 l34 hp hW => ?_)
  obtain ⟨rfl, rfl, rfl⟩ := hp
  refine lv_iconst (v := 1) S.1 S.2.1 dX3_isUndoneOnPaper_29 (by decide) ?_
  refine lv_isub S.1 S.2.1 dX3_isUndoneOnPaper_30 ?_
  refine lv_topi (fun y35 ey35 => ?_)
  have hf := nm_at hf ey35
  refine lv_istore_n (lv' := [(1, .int y35), (0, .ref (A 0))]) S.1 S.2.1 dX3_isUndoneOnPaper_31 rfl hl (by decide) rfl (fun ls hl => ?_)
  exact B32  64 z25 y35 hf F27 hI hFr _ _ _ hW (lv_sub hl [1, 0] rfl)
def f_X3_isSound (σ : CS) : Option (Int32 × CS) := (f_X3_isRowSound σ 0).bind fun z1 => (if z1 = 0 then some (0, σ) else (f_X3_isRowSound σ 1).bind fun z7 => (if z7 = 0 then some (0, σ) else (f_X0_placeOfKind (cap 0) (σ.1 0) 0 0).bind fun z13 => (if z13 = ((-1)) then (f_X3_isLineFound σ).bind fun z19 => (if z19 = 0 then some (0, σ) else (f_X3_isWalkerSound σ 0).bind fun z25 => (if z25 = 0 then some (0, σ) else (f_X3_isWalkerSound σ 1).bind fun z31 => (if z31 = 0 then some (0, σ) else (f_X0_size (cap 2) (σ.1 2)).bind fun z37 => (if 12 < z37 then some (0, σ) else (f_X0_size (cap 3) (σ.1 3)).bind fun z43 => (if 10 < z43 then some (0, σ) else (f_X3_isUndoneOnPaper σ).bind fun z49 => (if z49.1 = 0 then some (0, z49.2) else some (1, z49.2))))))) else some (0, σ))))
theorem mc_X3_isSound : MCode yX3_isSound cX3_isSound 1 (some .boolean) := ⟨wd_221, wd_1, by decide, by decide⟩
theorem np_X3_isSound : (parseMethodDescriptor yX3_isSound.desc).map (fun d => d.parameters.length) = some 0 := by decide +kernel
set_option maxHeartbeats 4000000 in
set_option maxRecDepth 100000 in
theorem c_X3_isSound {l : Launch} {D : va_G} {κ : Nat → ClassId} {ζ : Nat → Nat} {L : List Nat} {F : Nat → va_E} {σ : CS} {A : Nat → Nat} (hI : CI κ A σ L F)  {res : (Int32 × CS)} (hf : f_X3_isSound σ = some res) : MtI l D cls (ty5 κ) ζ yX3_isSound cX3_isSound 1 (some .boolean) 6 0 0 ([.ref (A 0)] : List Value) L F (fun r L' F' => L = L' ∧ res.1 = r ∧ CI κ A res.2 L F' ∧ FrA A F F') := by
  refine MtI.of (by decide) (Nat.le_of_ble_eq_true rfl) ?_
  intro p e s m below meth c S hr hlk _ hK hW hST ls hl
  have hl : lv_has ls 1 [(0, .ref (A 0))] := hl
  have hFr : FrA A F F := FrA.rf
  unfold f_X3_isSound at hf
  refine lv_aload_n S.1 S.2.1 dX3_isSound_0 rfl (lv_at hl 0 rfl) ?_
  refine pk_get S hK hW 0 (hI.mem 0 (by decide)) hI.this rfl hinX3 (by decide) wd_80 rfl dX3_isSound_1 ?_
  obtain ⟨z1, hz, hf⟩ := ob hf
  refine pk_cSI (As := [.ref (A (1 + 2 * 0))]) (rest := []) S hK hST hW (c_X3_isRowSound hI 0 ((by decide : 0 < 7)) hz) mc_X3_isRowSound wd_222 wd_223 np_X3_isRowSound rfl hl.1 rfl (Nat.le_of_ble_eq_true rfl) dX3_isSound_4 ⟨by decide, by decide⟩ ⟨by decide, by decide⟩ (fun r L2 F3 H4 l5 hp hW => ?_)
  obtain ⟨rfl, rfl, rfl⟩ := hp
  refine lv_if_eq (tgt := 97) S.1 S.2.1 dX3_isSound_7 (by decide) (fun c6 => ?_) (fun c6 => ?_)
  · have hf := (if_pos c6).symm.trans hf
    refine lv_iconst (v := 0) S.1 S.2.1 dX3_isSound_97 (by decide) ?_
    exact pk_zret S hr hlk hW (by decide) ⟨rfl, eqm (P := fun z => z.1 = 0 ∧ CI κ A z.2 L F ∧ FrA A F F) ⟨rfl, hI, hFr⟩ (Option.some.inj hf)⟩ (by decide) (by decide) dX3_isSound_98
  · have hf := (if_neg c6).symm.trans hf
    refine lv_aload_n S.1 S.2.1 dX3_isSound_10 rfl (lv_at hl 0 rfl) ?_
    refine pk_get S hK hW 1 (hI.mem 0 (by decide)) hI.this rfl hinX3 (by decide) wd_81 rfl dX3_isSound_11 ?_
    obtain ⟨z7, hz, hf⟩ := ob hf
    refine pk_cSI (As := [.ref (A (1 + 2 * 1))]) (rest := []) S hK hST hW (c_X3_isRowSound hI 1 ((by decide : 1 < 7)) hz) mc_X3_isRowSound wd_222 wd_223 np_X3_isRowSound rfl hl.1 rfl (Nat.le_of_ble_eq_true rfl) dX3_isSound_14 ⟨by decide, by decide⟩ ⟨by decide, by decide⟩ (fun r L8 F9 H10 l11 hp hW => ?_)
    obtain ⟨rfl, rfl, rfl⟩ := hp
    refine lv_if_eq (tgt := 97) S.1 S.2.1 dX3_isSound_17 (by decide) (fun c12 => ?_) (fun c12 => ?_)
    · have hf := (if_pos c12).symm.trans hf
      refine lv_iconst (v := 0) S.1 S.2.1 dX3_isSound_97 (by decide) ?_
      exact pk_zret S hr hlk hW (by decide) ⟨rfl, eqm (P := fun z => z.1 = 0 ∧ CI κ A z.2 L F ∧ FrA A F F) ⟨rfl, hI, hFr⟩ (Option.some.inj hf)⟩ (by decide) (by decide) dX3_isSound_98
    · have hf := (if_neg c12).symm.trans hf
      refine lv_aload_n S.1 S.2.1 dX3_isSound_20 rfl (lv_at hl 0 rfl) ?_
      refine pk_get S hK hW 0 (hI.mem 0 (by decide)) hI.this rfl hinX3 (by decide) wd_80 rfl dX3_isSound_21 ?_
      refine lv_iconst (v := 0) S.1 S.2.1 dX3_isSound_24 (by decide) ?_
      refine lv_iconst (v := 0) S.1 S.2.1 dX3_isSound_25 (by decide) ?_
      obtain ⟨z13, hz, hf⟩ := ob hf
      refine pk_cVI (As := [.int 0, .int 0]) (rest := []) S hK hST hW (c_X0_placeOfKind (hI.row (by decide : 0 < 7)) 0 0 hz) mc_X0_placeOfKind wd_178 wd_179 wd_180 rfl np_X0_placeOfKind (hI.mem _ (by have := (by decide : 0 < 7); omega)) (hI.rowH (by decide : 0 < 7)) rfl rfl hl.1 rfl (Nat.le_of_ble_eq_true rfl) dX3_isSound_26 ⟨by decide, by decide⟩ ⟨by decide, by decide⟩ (fun r L14 F15 H16 l17 hp hW => ?_)
      obtain ⟨rfl, rfl, rfl⟩ := hp
      refine lv_iconst (v := (-1)) S.1 S.2.1 dX3_isSound_29 (by decide) ?_
      refine lv_icmp_ne (tgt := 97) S.1 S.2.1 dX3_isSound_30 (by decide) (fun c18 => ?_) (fun c18 => ?_)
      · have hf := (if_neg c18).symm.trans hf
        refine lv_iconst (v := 0) S.1 S.2.1 dX3_isSound_97 (by decide) ?_
        exact pk_zret S hr hlk hW (by decide) ⟨rfl, eqm (P := fun z => z.1 = 0 ∧ CI κ A z.2 L F ∧ FrA A F F) ⟨rfl, hI, hFr⟩ (Option.some.inj hf)⟩ (by decide) (by decide) dX3_isSound_98
      · have hf := (if_pos c18).symm.trans hf
        refine lv_aload_n S.1 S.2.1 dX3_isSound_33 rfl (lv_at hl 0 rfl) ?_
        obtain ⟨z19, hz, hf⟩ := ob hf
        refine pk_cVI (As := []) (rest := []) S hK hST hW (c_X3_isLineFound hI  hz) mc_X3_isLineFound wd_229 wd_231 wd_1670 rfl np_X3_isLineFound (hI.mem 0 (by decide)) hI.this rfl rfl hl.1 rfl (Nat.le_of_ble_eq_true rfl) dX3_isSound_34 ⟨by decide, by decide⟩ ⟨by decide, by decide⟩ (fun r L20 F21 H22 l23 hp hW => ?_)
        obtain ⟨rfl, rfl, rfl⟩ := hp
        refine lv_if_eq (tgt := 97) S.1 S.2.1 dX3_isSound_37 (by decide) (fun c24 => ?_) (fun c24 => ?_)
        · have hf := (if_pos c24).symm.trans hf
          refine lv_iconst (v := 0) S.1 S.2.1 dX3_isSound_97 (by decide) ?_
          exact pk_zret S hr hlk hW (by decide) ⟨rfl, eqm (P := fun z => z.1 = 0 ∧ CI κ A z.2 L F ∧ FrA A F F) ⟨rfl, hI, hFr⟩ (Option.some.inj hf)⟩ (by decide) (by decide) dX3_isSound_98
        · have hf := (if_neg c24).symm.trans hf
          refine lv_aload_n S.1 S.2.1 dX3_isSound_40 rfl (lv_at hl 0 rfl) ?_
          refine lv_aload_n S.1 S.2.1 dX3_isSound_41 rfl (lv_at hl 0 rfl) ?_
          refine pk_get S hK hW 5 (hI.mem 0 (by decide)) hI.this rfl hinX3 (by decide) wd_85 rfl dX3_isSound_42 ?_
          obtain ⟨z25, hz, hf⟩ := ob hf
          refine pk_cVI (As := [.ref (A (16 + 0))]) (rest := []) S hK hST hW (c_X3_isWalkerSound hI 0 ((by decide : 0 < 2)) hz) mc_X3_isWalkerSound wd_233 wd_235 wd_1671 rfl np_X3_isWalkerSound (hI.mem 0 (by decide)) hI.this rfl rfl hl.1 rfl (Nat.le_of_ble_eq_true rfl) dX3_isSound_45 ⟨by decide, by decide⟩ ⟨by decide, by decide⟩ (fun r L26 F27 H28 l29 hp hW => ?_)
          obtain ⟨rfl, rfl, rfl⟩ := hp
          refine lv_if_eq (tgt := 97) S.1 S.2.1 dX3_isSound_48 (by decide) (fun c30 => ?_) (fun c30 => ?_)
          · have hf := (if_pos c30).symm.trans hf
            refine lv_iconst (v := 0) S.1 S.2.1 dX3_isSound_97 (by decide) ?_
            exact pk_zret S hr hlk hW (by decide) ⟨rfl, eqm (P := fun z => z.1 = 0 ∧ CI κ A z.2 L F ∧ FrA A F F) ⟨rfl, hI, hFr⟩ (Option.some.inj hf)⟩ (by decide) (by decide) dX3_isSound_98
          · have hf := (if_neg c30).symm.trans hf
            refine lv_aload_n S.1 S.2.1 dX3_isSound_51 rfl (lv_at hl 0 rfl) ?_
            refine lv_aload_n S.1 S.2.1 dX3_isSound_52 rfl (lv_at hl 0 rfl) ?_
            refine pk_get S hK hW 6 (hI.mem 0 (by decide)) hI.this rfl hinX3 (by decide) wd_86 rfl dX3_isSound_53 ?_
            obtain ⟨z31, hz, hf⟩ := ob hf
            refine pk_cVI (As := [.ref (A (16 + 1))]) (rest := []) S hK hST hW (c_X3_isWalkerSound hI 1 ((by decide : 1 < 2)) hz) mc_X3_isWalkerSound wd_233 wd_235 wd_1671 rfl np_X3_isWalkerSound (hI.mem 0 (by decide)) hI.this rfl rfl hl.1 rfl (Nat.le_of_ble_eq_true rfl) dX3_isSound_56 ⟨by decide, by decide⟩ ⟨by decide, by decide⟩ (fun r L32 F33 H34 l35 hp hW => ?_)
            obtain ⟨rfl, rfl, rfl⟩ := hp
            refine lv_if_eq (tgt := 97) S.1 S.2.1 dX3_isSound_59 (by decide) (fun c36 => ?_) (fun c36 => ?_)
            · have hf := (if_pos c36).symm.trans hf
              refine lv_iconst (v := 0) S.1 S.2.1 dX3_isSound_97 (by decide) ?_
              exact pk_zret S hr hlk hW (by decide) ⟨rfl, eqm (P := fun z => z.1 = 0 ∧ CI κ A z.2 L F ∧ FrA A F F) ⟨rfl, hI, hFr⟩ (Option.some.inj hf)⟩ (by decide) (by decide) dX3_isSound_98
            · have hf := (if_neg c36).symm.trans hf
              refine lv_aload_n S.1 S.2.1 dX3_isSound_62 rfl (lv_at hl 0 rfl) ?_
              refine pk_get S hK hW 2 (hI.mem 0 (by decide)) hI.this rfl hinX3 (by decide) wd_82 rfl dX3_isSound_63 ?_
              obtain ⟨z37, hz, hf⟩ := ob hf
              refine pk_cVI (As := []) (rest := []) S hK hST hW (c_X0_size (hI.row (by decide : 2 < 7))  hz) mc_X0_size wd_140 wd_141 wd_142 rfl np_X0_size (hI.mem _ (by have := (by decide : 2 < 7); omega)) (hI.rowH (by decide : 2 < 7)) rfl rfl hl.1 rfl (Nat.le_of_ble_eq_true rfl) dX3_isSound_66 ⟨by decide, by decide⟩ ⟨by decide, by decide⟩ (fun r L38 F39 H40 l41 hp hW => ?_)
              obtain ⟨rfl, rfl, rfl⟩ := hp
              refine lv_bipush (v := 12) S.1 S.2.1 dX3_isSound_69 (by decide) ?_
              refine lv_icmp_gt (tgt := 97) S.1 S.2.1 dX3_isSound_71 (by decide) (fun c42 => ?_) (fun c42 => ?_)
              · have hf := (if_pos c42).symm.trans hf
                refine lv_iconst (v := 0) S.1 S.2.1 dX3_isSound_97 (by decide) ?_
                exact pk_zret S hr hlk hW (by decide) ⟨rfl, eqm (P := fun z => z.1 = 0 ∧ CI κ A z.2 L F ∧ FrA A F F) ⟨rfl, hI, hFr⟩ (Option.some.inj hf)⟩ (by decide) (by decide) dX3_isSound_98
              · have hf := (if_neg c42).symm.trans hf
                refine lv_aload_n S.1 S.2.1 dX3_isSound_74 rfl (lv_at hl 0 rfl) ?_
                refine pk_get S hK hW 3 (hI.mem 0 (by decide)) hI.this rfl hinX3 (by decide) wd_83 rfl dX3_isSound_75 ?_
                obtain ⟨z43, hz, hf⟩ := ob hf
                refine pk_cVI (As := []) (rest := []) S hK hST hW (c_X0_size (hI.row (by decide : 3 < 7))  hz) mc_X0_size wd_140 wd_141 wd_142 rfl np_X0_size (hI.mem _ (by have := (by decide : 3 < 7); omega)) (hI.rowH (by decide : 3 < 7)) rfl rfl hl.1 rfl (Nat.le_of_ble_eq_true rfl) dX3_isSound_78 ⟨by decide, by decide⟩ ⟨by decide, by decide⟩ (fun r L44 F45 H46 l47 hp hW => ?_)
                obtain ⟨rfl, rfl, rfl⟩ := hp
                refine lv_bipush (v := 10) S.1 S.2.1 dX3_isSound_81 (by decide) ?_
                refine lv_icmp_gt (tgt := 97) S.1 S.2.1 dX3_isSound_83 (by decide) (fun c48 => ?_) (fun c48 => ?_)
                · have hf := (if_pos c48).symm.trans hf
                  refine lv_iconst (v := 0) S.1 S.2.1 dX3_isSound_97 (by decide) ?_
                  exact pk_zret S hr hlk hW (by decide) ⟨rfl, eqm (P := fun z => z.1 = 0 ∧ CI κ A z.2 L F ∧ FrA A F F) ⟨rfl, hI, hFr⟩ (Option.some.inj hf)⟩ (by decide) (by decide) dX3_isSound_98
                · have hf := (if_neg c48).symm.trans hf
                  refine lv_aload_n S.1 S.2.1 dX3_isSound_86 rfl (lv_at hl 0 rfl) ?_
                  obtain ⟨z49, hz, hf⟩ := ob hf
                  refine pk_cVI (As := []) (rest := []) S hK hST hW (c_X3_isUndoneOnPaper hI  hz) mc_X3_isUndoneOnPaper wd_241 wd_243 wd_1672 rfl np_X3_isUndoneOnPaper (hI.mem 0 (by decide)) hI.this rfl rfl hl.1 rfl (Nat.le_of_ble_eq_true rfl) dX3_isSound_87 ⟨by decide, by decide⟩ ⟨by decide, by decide⟩ (fun r L50 F51 H52 l53 hp hW => ?_)
                  obtain ⟨rfl, rfl, hI1, hFr1⟩ := hp
                  have hI := hI1
                  have hFr := hFr.tr hFr1
                  refine lv_if_eq (tgt := 97) S.1 S.2.1 dX3_isSound_90 (by decide) (fun c54 => ?_) (fun c54 => ?_)
                  · have hf := (if_pos c54).symm.trans hf
                    refine lv_iconst (v := 0) S.1 S.2.1 dX3_isSound_97 (by decide) ?_
                    exact pk_zret S hr hlk hW (by decide) ⟨rfl, eqm (P := fun z => z.1 = 0 ∧ CI κ A z.2 L F51 ∧ FrA A F F51) ⟨rfl, hI, hFr⟩ (Option.some.inj hf)⟩ (by decide) (by decide) dX3_isSound_98
                  · have hf := (if_neg c54).symm.trans hf
                    refine lv_iconst (v := 1) S.1 S.2.1 dX3_isSound_93 (by decide) ?_
                    refine lv_goto (tgt := 98) S.1 S.2.1 dX3_isSound_94 (by decide) ?_
                    exact pk_zret S hr hlk hW (by decide) ⟨rfl, eqm (P := fun z => z.1 = 1 ∧ CI κ A z.2 L F51 ∧ FrA A F F51) ⟨rfl, hI, hFr⟩ (Option.some.inj hf)⟩ (by decide) (by decide) dX3_isSound_98
def f_X3_with (x1 : Int64) (x2 : Int32) : Option Int64 := some ((x1 * 31) + (Int32.toInt64 x2))
theorem mc_X3_with : MCode yX3_with cX3_with 3 (some .long) := ⟨wd_287, wd_1, by decide, by decide⟩
theorem np_X3_with : (parseMethodDescriptor yX3_with.desc).map (fun d => d.parameters.length) = some 2 := by decide +kernel
set_option maxHeartbeats 4000000 in
set_option maxRecDepth 100000 in
theorem c_X3_with {l : Launch} {D : va_G} {κ : Nat → ClassId} {ζ : Nat → Nat} {L : List Nat} {F : Nat → va_E} (x1 : Int64) (x2 : Int32) {res : Int64} (hf : f_X3_with x1 x2 = some res) : MtJ l D cls (ty5 κ) ζ yX3_with cX3_with 3 (some .long) 1 0 0 ([.long x1, .int x2] : List Value) L F (fun r L' F' => L = L' ∧ F = F' ∧ res = r) := by
  refine MtJ.of (by decide) (Nat.le_of_ble_eq_true rfl) ?_
  intro p e s m below meth c S hr hlk _ hK hW hST ls hl
  have hl : lv_has ls 3 [(0, .long x1), (2, .int x2)] := hl
  unfold f_X3_with at hf
  refine lv_lload_n S.1 S.2.1 dX3_with_0 rfl (lv_at hl 0 rfl) ?_
  refine lv_ldc2 (v := 31) S.1 S.2.1 S.2.2.2.1 (S.2.2.2.2 _ wd_288) dX3_with_1 ?_
  refine lv_lmul S.1 S.2.1 dX3_with_4 ?_
  refine lv_iload_n S.1 S.2.1 dX3_with_5 rfl (lv_at hl 1 rfl) ?_
  refine lv_i2l (v := Int32.toInt64 x2) S.1 S.2.1 dX3_with_6 rfl ?_
  refine lv_ladd S.1 S.2.1 dX3_with_7 ?_
  exact pk_lret S hr hlk hW ⟨rfl, rfl, eqm (P := fun z => z = (x1 * 31) + (Int32.toInt64 x2)) rfl (Option.some.inj hf)⟩ (by decide) (by decide) dX3_with_8
def f_X3_writtenLength_38 (σ : CS) (k13 : (Nat × Int32 × Int32) → Option Int32) (v0 : Nat) (v2 : Int32) (u0 : Int32) (u1 : Int32) : Option Int32 := nm (u0 + u1 : Int32) fun y1 => nm (v2 + 1 : Int32) fun y2 => k13 (v0, y1, y2)
def f_X3_writtenLength_13 (σ : CS)  (k13 : Nat × Int32 × Int32 → Option Int32) (t : Nat × Int32 × Int32) : Option Int32 := (f_X0_size (cap t.1) (σ.1 t.1)).bind fun z3 => (if z3 ≤ t.2.2 then some (t.2.1) else (f_X0_read (cap t.1) (σ.1 t.1) t.2.2).bind fun z9 => (f_X3_kindOf z9).bind fun z14 => (if z14 = 0 then f_X3_writtenLength_38 σ k13 t.1 t.2.2 t.2.1 1 else f_X3_writtenLength_38 σ k13 t.1 t.2.2 t.2.1 3))
def f_X3_writtenLength (σ : CS) (x1 : Nat) : Option Int32 := (f_X0_size (cap x1) (σ.1 x1)).bind fun z20 => nm (if 0 < z20 - 1 then z20 - 1 else 0 : Int32) fun y25 => lpn (f_X3_writtenLength_13 σ) 64 (x1, y25, 0)
theorem mc_X3_writtenLength : MCode yX3_writtenLength cX3_writtenLength 3 (some .int) := ⟨wd_299, wd_1, by decide, by decide⟩
theorem np_X3_writtenLength : (parseMethodDescriptor yX3_writtenLength.desc).map (fun d => d.parameters.length) = some 1 := by decide +kernel
set_option maxHeartbeats 4000000 in
set_option maxRecDepth 100000 in
theorem c_X3_writtenLength {l : Launch} {D : va_G} {κ : Nat → ClassId} {ζ : Nat → Nat} {L : List Nat} {F : Nat → va_E} {σ : CS} {A : Nat → Nat} (hI : CI κ A σ L F) (x1 : Nat) (hx1 : x1 < 7) {res : Int32} (hf : f_X3_writtenLength σ x1 = some res) : MtI l D cls (ty5 κ) ζ yX3_writtenLength cX3_writtenLength 3 (some .int) 2 0 0 ([.ref (A (1 + 2 * x1))] : List Value) L F (fun r L' F' => L = L' ∧ F = F' ∧ res = r) := by
  refine MtI.of (by decide) (Nat.le_of_ble_eq_true rfl) ?_
  intro p e s m below meth c S hr hlk _ hK hW hST ls hl
  have hl : lv_has ls 3 [(0, .ref (A (1 + 2 * x1)))] := hl
  have B38 : ∀ (k13 : (Nat × Int32 × Int32) → Option Int32) (hk13 : (∀ (v0 : Nat) (v1 : Int32) (v2 : Int32), k13 (v0, v1, v2) = some res → v0 < 7 → ∀ (H13 : Heap) (l13 : List Loc) (ls : Array Slot), HW D cls L s H13 l13 L F → lv_has ls 3 [(0, .ref (A (1 + 2 * v0))), (1, .int v1), (2, .int v2)] → W p l e (Rm 2 0 0) s m ([.ref (A (1 + 2 * x1))] : List Value).toArray below meth c H13 l13 0 0 (EnI D cls s below ([.ref (A (1 + 2 * x1))] : List Value).toArray 0 0 L (fun r L' F' => L = L' ∧ F = F' ∧ res = r)) (F0 m 13 ls []))) (v0 : Nat) (v2 : Int32) (u0 : Int32) (u1 : Int32), f_X3_writtenLength_38 σ k13 v0 v2 u0 u1 = some res → v0 < 7 → ∀ (H38 : Heap) (l38 : List Loc) (ls : Array Slot), HW D cls L s H38 l38 L F → lv_has ls 3 [(0, .ref (A (1 + 2 * v0))), (2, .int v2)] → W p l e (Rm 2 0 0) s m ([.ref (A (1 + 2 * x1))] : List Value).toArray below meth c H38 l38 0 0 (EnI D cls s below ([.ref (A (1 + 2 * x1))] : List Value).toArray 0 0 L (fun r L' F' => L = L' ∧ F = F' ∧ res = r)) (F0 m 38 ls [.int u1, .int u0]) := by
    intro k13 hk13 v0 v2 u0 u1 hf hv0 H38 l38 ls hW hl
    unfold f_X3_writtenLength_38 at hf
    refine lv_iadd S.1 S.2.1 dX3_writtenLength_38 ?_
    refine lv_topi (fun y1 ey1 => ?_)
    have hf := nm_at hf ey1
    refine lv_istore_n (lv' := [(1, .int y1), (0, .ref (A (1 + 2 * v0))), (2, .int v2)]) S.1 S.2.1 dX3_writtenLength_39 rfl hl (by decide) rfl (fun ls hl => ?_)
    obtain ⟨y2, ey2⟩ : ∃ y : Int32, y = v2 + 1 := ⟨_, rfl⟩
    have hf := nm_at hf ey2
    refine lv_iinc (v := y2) (lv' := [(2, .int y2), (1, .int y1), (0, .ref (A (1 + 2 * v0)))]) S.1 S.2.1 dX3_writtenLength_40 hl (k := 2) rfl (by rw [ey2]; rfl) (by decide) rfl (fun ls hl => ?_)
    refine lv_goto (tgt := 13) S.1 S.2.1 dX3_writtenLength_43 (by decide) ?_
    exact hk13 v0 y1 y2 hf hv0 _ _ _ hW (lv_sub hl [2, 1, 0] rfl)
  have B13 : ∀ (N : Nat), (∀ (v0 : Nat) (v1 : Int32) (v2 : Int32), (lpn (f_X3_writtenLength_13 σ) N) (v0, v1, v2) = some res → v0 < 7 → ∀ (H13 : Heap) (l13 : List Loc) (ls : Array Slot), HW D cls L s H13 l13 L F → lv_has ls 3 [(0, .ref (A (1 + 2 * v0))), (1, .int v1), (2, .int v2)] → W p l e (Rm 2 0 0) s m ([.ref (A (1 + 2 * x1))] : List Value).toArray below meth c H13 l13 0 0 (EnI D cls s below ([.ref (A (1 + 2 * x1))] : List Value).toArray 0 0 L (fun r L' F' => L = L' ∧ F = F' ∧ res = r)) (F0 m 13 ls [])) := by
    intro  N
    induction N with
    | zero => intro v0 v1 v2 hf hv0 H13 l13 ls hW hl; cases hf
    | succ N ih =>
      intro v0 v1 v2 hf hv0 H13 l13 ls hW hl
      have hf : f_X3_writtenLength_13 σ (lpn (f_X3_writtenLength_13 σ) N) (v0, v1, v2) = some res := hf
      generalize lpn (f_X3_writtenLength_13 σ) N = k13 at hf ih
      have hk13 := ih
      unfold f_X3_writtenLength_13 at hf
      try dsimp only at hf
      refine lv_iload_n S.1 S.2.1 dX3_writtenLength_13 rfl (lv_at hl 2 rfl) ?_
      refine lv_aload_n S.1 S.2.1 dX3_writtenLength_14 rfl (lv_at hl 0 rfl) ?_
      obtain ⟨z3, hz, hf⟩ := ob hf
      refine pk_cVI (As := []) (rest := [.int v2]) S hK hST hW (c_X0_size (hI.row hv0)  hz) mc_X0_size wd_140 wd_141 wd_142 rfl np_X0_size (hI.mem _ (by have := hv0; omega)) (hI.rowH hv0) rfl rfl hl.1 rfl (Nat.le_of_ble_eq_true rfl) dX3_writtenLength_15 ⟨by decide, by decide⟩ ⟨by decide, by decide⟩ (fun r L4 F5 H6 l7 hp hW => ?_)
      obtain ⟨rfl, rfl, rfl⟩ := hp
      refine lv_icmp_ge (tgt := 46) S.1 S.2.1 dX3_writtenLength_18 (by decide) (fun c8 => ?_) (fun c8 => ?_)
      · have hf := (if_pos c8).symm.trans hf
        refine lv_iload_n S.1 S.2.1 dX3_writtenLength_46 rfl (lv_at hl 1 rfl) ?_
        exact pk_iret S hr hlk hW ⟨rfl, rfl, eqm (P := fun z => z = v1) rfl (Option.some.inj hf)⟩ (by decide) (by decide) dX3_writtenLength_47
      · have hf := (if_neg c8).symm.trans hf
        refine lv_iload_n S.1 S.2.1 dX3_writtenLength_21 rfl (lv_at hl 1 rfl) ?_
        refine lv_aload_n S.1 S.2.1 dX3_writtenLength_22 rfl (lv_at hl 0 rfl) ?_
        refine lv_iload_n S.1 S.2.1 dX3_writtenLength_23 rfl (lv_at hl 2 rfl) ?_
        obtain ⟨z9, hz, hf⟩ := ob hf
        refine pk_cVI (As := [.int v2]) (rest := [.int v1]) S hK hST hW (c_X0_read (hI.row hv0) v2 hz) mc_X0_read wd_171 wd_120 wd_121 rfl np_X0_read (hI.mem _ (by have := hv0; omega)) (hI.rowH hv0) rfl rfl hl.1 rfl (Nat.le_of_ble_eq_true rfl) dX3_writtenLength_24 ⟨by decide, by decide⟩ ⟨by decide, by decide⟩ (fun r L10 F11 H12 l13 hp hW => ?_)
        obtain ⟨rfl, rfl, rfl⟩ := hp
        obtain ⟨z14, hz, hf⟩ := ob hf
        refine pk_cSI (As := [.int z9]) (rest := [.int v1]) S hK hST hW (c_X3_kindOf  z9 hz) mc_X3_kindOf wd_175 wd_176 np_X3_kindOf rfl hl.1 rfl (Nat.le_of_ble_eq_true rfl) dX3_writtenLength_27 ⟨by decide, by decide⟩ ⟨by decide, by decide⟩ (fun r L15 F16 H17 l18 hp hW => ?_)
        obtain ⟨rfl, rfl, rfl⟩ := hp
        refine lv_if_ne (tgt := 37) S.1 S.2.1 dX3_writtenLength_30 (by decide) (fun c19 => ?_) (fun c19 => ?_)
        · have hf := (if_neg c19).symm.trans hf
          refine lv_iconst (v := 3) S.1 S.2.1 dX3_writtenLength_37 (by decide) ?_
          exact B38 k13 hk13 v0 v2 v1 3 hf hv0 _ _ _ hW (lv_sub hl [0, 2] rfl)
        · have hf := (if_pos c19).symm.trans hf
          refine lv_iconst (v := 1) S.1 S.2.1 dX3_writtenLength_33 (by decide) ?_
          refine lv_goto (tgt := 38) S.1 S.2.1 dX3_writtenLength_34 (by decide) ?_
          exact B38 k13 hk13 v0 v2 v1 1 hf hv0 _ _ _ hW (lv_sub hl [0, 2] rfl)
  unfold f_X3_writtenLength at hf
  refine lv_iconst (v := 0) S.1 S.2.1 dX3_writtenLength_0 (by decide) ?_
  refine lv_aload_n S.1 S.2.1 dX3_writtenLength_1 rfl (lv_at hl 0 rfl) ?_
  obtain ⟨z20, hz, hf⟩ := ob hf
  refine pk_cVI (As := []) (rest := [.int 0]) S hK hST hW (c_X0_size (hI.row hx1)  hz) mc_X0_size wd_140 wd_141 wd_142 rfl np_X0_size (hI.mem _ (by have := hx1; omega)) (hI.rowH hx1) rfl rfl hl.1 rfl (Nat.le_of_ble_eq_true rfl) dX3_writtenLength_2 ⟨by decide, by decide⟩ ⟨by decide, by decide⟩ (fun r L21 F22 H23 l24 hp hW => ?_)
  obtain ⟨rfl, rfl, rfl⟩ := hp
  refine lv_iconst (v := 1) S.1 S.2.1 dX3_writtenLength_5 (by decide) ?_
  refine lv_isub S.1 S.2.1 dX3_writtenLength_6 ?_
  refine va_mmax S.1 S.2.1 (S.2.2.1.trans hl.1.symm) S.2.2.2.1 (S.2.2.2.2 _ wd_300) (S.2.2.2.2 _ wd_301) (S.2.2.2.2 _ wd_11) (S.2.2.2.2 _ wd_302) (by decide) (by decide) (by decide) (by decide) dX3_writtenLength_7 ?_
  refine lv_topi (fun y25 ey25 => ?_)
  have hf := nm_at hf ey25
  refine lv_istore_n (lv' := [(1, .int y25), (0, .ref (A (1 + 2 * x1)))]) S.1 S.2.1 dX3_writtenLength_10 rfl hl (by decide) rfl (fun ls hl => ?_)
  refine lv_iconst (v := 0) S.1 S.2.1 dX3_writtenLength_11 (by decide) ?_
  refine lv_istore_n (lv' := [(2, .int 0), (1, .int y25), (0, .ref (A (1 + 2 * x1)))]) S.1 S.2.1 dX3_writtenLength_12 rfl hl (by decide) rfl (fun ls hl => ?_)
  exact B13  64 x1 y25 0 hf hx1 _ _ _ hW (lv_sub hl [2, 1, 0] rfl)
def f_X3_withTrack_71 (σ : CS)  (k71 : Int32 × Int64 × Nat × Int32 → Option (Int64 × CS)) (t : Int32 × Int64 × Nat × Int32) : Option (Int64 × CS) := (f_X0_size (cap t.2.2.1) (σ.1 t.2.2.1)).bind fun z1 => (if z1 ≤ t.2.2.2 then (f_X3_writtenLength σ t.2.2.1).bind fun z7 => (f_X3_with t.2.1 z7).bind fun z12 => (f_X3_mostOpen σ t.1).bind fun z17 => (f_X3_with z12 z17.1).bind fun z22 => some (z22, z17.2) else (f_X0_read (cap t.2.2.1) (σ.1 t.2.2.1) t.2.2.2).bind fun z27 => (f_X3_with t.2.1 z27).bind fun z32 => nm (t.2.2.2 + 1 : Int32) fun y37 => k71 (t.1, z32, t.2.2.1, y37))
def f_X3_withTrack_35 (σ : CS)  (k35 : Int32 × Int64 × Int32 → Option (Int64 × CS)) (t : Int32 × Int64 × Int32) : Option (Int64 × CS) := (if 5 < t.2.2 then (f_X3_trackOf σ t.1).bind fun z39 => lpn (f_X3_withTrack_71 σ) 64 (t.1, t.2.1, z39, 0) else (f_X3_atEnd σ t.1 t.2.2).bind fun z44 => (f_X3_with t.2.1 z44).bind fun z49 => nm (t.2.2 + 1 : Int32) fun y54 => k35 (t.1, z49, y54))
def f_X3_withTrack_6 (σ : CS)  (k6 : Int32 × Int64 × Int32 → Option (Int64 × CS)) (t : Int32 × Int64 × Int32) : Option (Int64 × CS) := (if 3 < t.2.2 then lpn (f_X3_withTrack_35 σ) 64 (t.1, t.2.1, 0) else (f_X3_factOfTrack σ t.1 t.2.2).bind fun z56 => (f_X3_with t.2.1 z56).bind fun z61 => nm (t.2.2 + 1 : Int32) fun y66 => k6 (t.1, z61, y66))
def f_X3_withTrack (σ : CS) (x1 : Int64) (x2 : Int32) : Option (Int64 × CS) := lpn (f_X3_withTrack_6 σ) 64 (x2, x1, 0)
theorem mc_X3_withTrack : MCode yX3_withTrack cX3_withTrack 8 (some .long) := ⟨wd_268, wd_1, by decide, by decide⟩
theorem np_X3_withTrack : (parseMethodDescriptor yX3_withTrack.desc).map (fun d => d.parameters.length) = some 2 := by decide +kernel
set_option maxHeartbeats 4000000 in
set_option maxRecDepth 100000 in
theorem c_X3_withTrack {l : Launch} {D : va_G} {κ : Nat → ClassId} {ζ : Nat → Nat} {L : List Nat} {F : Nat → va_E} {σ : CS} {A : Nat → Nat} (hI : CI κ A σ L F) (x1 : Int64) (x2 : Int32) {res : (Int64 × CS)} (hf : f_X3_withTrack σ x1 x2 = some res) : MtJ l D cls (ty5 κ) ζ yX3_withTrack cX3_withTrack 8 (some .long) 5 0 0 ([.ref (A 0), .long x1, .int x2] : List Value) L F (fun r L' F' => L = L' ∧ res.1 = r ∧ CI κ A res.2 L F' ∧ FrA A F F') := by
  refine MtJ.of (by decide) (Nat.le_of_ble_eq_true rfl) ?_
  intro p e s m below meth c S hr hlk _ hK hW hST ls hl
  have hl : lv_has ls 8 [(0, .ref (A 0)), (1, .long x1), (3, .int x2)] := hl
  have hFr : FrA A F F := FrA.rf
  have B71 : ∀ (N : Nat), (∀ (v3 : Int32) (v4 : Int64) (v6 : Nat) (v7 : Int32), (lpn (f_X3_withTrack_71 σ) N) (v3, v4, v6, v7) = some res → v6 < 7 → ∀ (H71 : Heap) (l71 : List Loc) (ls : Array Slot), HW D cls L s H71 l71 L F → lv_has ls 8 [(0, .ref (A 0)), (3, .int v3), (4, .long v4), (6, .ref (A (1 + 2 * v6))), (7, .int v7)] → W p l e (Rm 5 0 0) s m ([.ref (A 0), .long x1, .int x2] : List Value).toArray below meth c H71 l71 0 0 (EnJ D cls s below ([.ref (A 0), .long x1, .int x2] : List Value).toArray 0 0 L (fun r L' F' => L = L' ∧ res.1 = r ∧ CI κ A res.2 L F' ∧ FrA A F F')) (F0 m 71 ls [])) := by
    intro  N
    induction N with
    | zero => intro v3 v4 v6 v7 hf hv6 H71 l71 ls hW hl; cases hf
    | succ N ih =>
      intro v3 v4 v6 v7 hf hv6 H71 l71 ls hW hl
      have hf : f_X3_withTrack_71 σ (lpn (f_X3_withTrack_71 σ) N) (v3, v4, v6, v7) = some res := hf
      generalize lpn (f_X3_withTrack_71 σ) N = k71 at hf ih
      have hk71 := ih
      unfold f_X3_withTrack_71 at hf
      try dsimp only at hf
      refine lv_iload S.1 S.2.1 dX3_withTrack_71 (lv_at hl 4 rfl) ?_
      refine lv_aload S.1 S.2.1 dX3_withTrack_73 (lv_at hl 3 rfl) ?_
      obtain ⟨z1, hz, hf⟩ := ob hf
      refine pk_cVI (As := []) (rest := [.int v7]) S hK hST hW (c_X0_size (hI.row hv6)  hz) mc_X0_size wd_140 wd_141 wd_142 rfl np_X0_size (hI.mem _ (by have := hv6; omega)) (hI.rowH hv6) rfl rfl hl.1 rfl (Nat.le_of_ble_eq_true rfl) dX3_withTrack_75 ⟨by decide, by decide⟩ ⟨by decide, by decide⟩ (fun r L2 F3 H4 l5 hp hW => ?_)
      obtain ⟨rfl, rfl, rfl⟩ := hp
      refine lv_icmp_ge (tgt := 101) S.1 S.2.1 dX3_withTrack_78 (by decide) (fun c6 => ?_) (fun c6 => ?_)
      · have hf := (if_pos c6).symm.trans hf
        refine lv_lload S.1 S.2.1 dX3_withTrack_101 (lv_at hl 2 rfl) ?_
        refine lv_aload S.1 S.2.1 dX3_withTrack_103 (lv_at hl 3 rfl) ?_
        obtain ⟨z7, hz, hf⟩ := ob hf
        refine pk_cSI (As := [.ref (A (1 + 2 * v6))]) (rest := [.long v4]) S hK hST hW (c_X3_writtenLength hI v6 hv6 hz) mc_X3_writtenLength wd_297 wd_298 np_X3_writtenLength rfl hl.1 rfl (Nat.le_of_ble_eq_true rfl) dX3_withTrack_105 ⟨by decide, by decide⟩ ⟨by decide, by decide⟩ (fun r L8 F9 H10 l11 hp hW => ?_)
        obtain ⟨rfl, rfl, rfl⟩ := hp
        obtain ⟨z12, hz, hf⟩ := ob hf
        refine pk_cSJ (As := [.long v4, .int z7]) (rest := []) S hK hST hW (c_X3_with  v4 z7 hz) mc_X3_with wd_285 wd_286 np_X3_with rfl hl.1 rfl (Nat.le_of_ble_eq_true rfl) dX3_withTrack_108 ⟨by decide, by decide⟩ ⟨by decide, by decide⟩ (fun r L13 F14 H15 l16 hp hW => ?_)
        obtain ⟨rfl, rfl, rfl⟩ := hp
        refine lv_lstore (lv' := [(4, .long z12), (0, .ref (A 0)), (3, .int v3), (6, .ref (A (1 + 2 * v6))), (7, .int v7)]) S.1 S.2.1 dX3_withTrack_111 hl (by decide) rfl (fun ls hl => ?_)
        refine lv_lload S.1 S.2.1 dX3_withTrack_113 (lv_at hl 0 rfl) ?_
        refine lv_aload_n S.1 S.2.1 dX3_withTrack_115 rfl (lv_at hl 1 rfl) ?_
        refine lv_iload_n S.1 S.2.1 dX3_withTrack_116 rfl (lv_at hl 2 rfl) ?_
        obtain ⟨z17, hz, hf⟩ := ob hf
        refine pk_cVI (As := [.int v3]) (rest := [.long z12]) S hK hST hW (c_X3_mostOpen hI v3 hz) mc_X3_mostOpen wd_303 wd_305 wd_1677 rfl np_X3_mostOpen (hI.mem 0 (by decide)) hI.this rfl rfl hl.1 rfl (Nat.le_of_ble_eq_true rfl) dX3_withTrack_117 ⟨by decide, by decide⟩ ⟨by decide, by decide⟩ (fun r L18 F19 H20 l21 hp hW => ?_)
        obtain ⟨rfl, rfl, hI1, hFr1⟩ := hp
        have hI := hI1
        have hFr := hFr.tr hFr1
        obtain ⟨z22, hz, hf⟩ := ob hf
        refine pk_cSJ (As := [.long z12, .int z17.1]) (rest := []) S hK hST hW (c_X3_with  z12 z17.1 hz) mc_X3_with wd_285 wd_286 np_X3_with rfl hl.1 rfl (Nat.le_of_ble_eq_true rfl) dX3_withTrack_120 ⟨by decide, by decide⟩ ⟨by decide, by decide⟩ (fun r L23 F24 H25 l26 hp hW => ?_)
        obtain ⟨rfl, rfl, rfl⟩ := hp
        exact pk_lret S hr hlk hW ⟨rfl, eqm (P := fun z => z.1 = z22 ∧ CI κ A z.2 L F19 ∧ FrA A F F19) ⟨rfl, hI, hFr⟩ (Option.some.inj hf)⟩ (by decide) (by decide) dX3_withTrack_123
      · have hf := (if_neg c6).symm.trans hf
        refine lv_lload S.1 S.2.1 dX3_withTrack_81 (lv_at hl 2 rfl) ?_
        refine lv_aload S.1 S.2.1 dX3_withTrack_83 (lv_at hl 3 rfl) ?_
        refine lv_iload S.1 S.2.1 dX3_withTrack_85 (lv_at hl 4 rfl) ?_
        obtain ⟨z27, hz, hf⟩ := ob hf
        refine pk_cVI (As := [.int v7]) (rest := [.long v4]) S hK hST hW (c_X0_read (hI.row hv6) v7 hz) mc_X0_read wd_171 wd_120 wd_121 rfl np_X0_read (hI.mem _ (by have := hv6; omega)) (hI.rowH hv6) rfl rfl hl.1 rfl (Nat.le_of_ble_eq_true rfl) dX3_withTrack_87 ⟨by decide, by decide⟩ ⟨by decide, by decide⟩ (fun r L28 F29 H30 l31 hp hW => ?_)
        obtain ⟨rfl, rfl, rfl⟩ := hp
        obtain ⟨z32, hz, hf⟩ := ob hf
        refine pk_cSJ (As := [.long v4, .int z27]) (rest := []) S hK hST hW (c_X3_with  v4 z27 hz) mc_X3_with wd_285 wd_286 np_X3_with rfl hl.1 rfl (Nat.le_of_ble_eq_true rfl) dX3_withTrack_90 ⟨by decide, by decide⟩ ⟨by decide, by decide⟩ (fun r L33 F34 H35 l36 hp hW => ?_)
        obtain ⟨rfl, rfl, rfl⟩ := hp
        refine lv_lstore (lv' := [(4, .long z32), (0, .ref (A 0)), (3, .int v3), (6, .ref (A (1 + 2 * v6))), (7, .int v7)]) S.1 S.2.1 dX3_withTrack_93 hl (by decide) rfl (fun ls hl => ?_)
        obtain ⟨y37, ey37⟩ : ∃ y : Int32, y = v7 + 1 := ⟨_, rfl⟩
        have hf := nm_at hf ey37
        refine lv_iinc (v := y37) (lv' := [(7, .int y37), (4, .long z32), (0, .ref (A 0)), (3, .int v3), (6, .ref (A (1 + 2 * v6)))]) S.1 S.2.1 dX3_withTrack_95 hl (k := 4) rfl (by rw [ey37]; rfl) (by decide) rfl (fun ls hl => ?_)
        refine lv_goto (tgt := 71) S.1 S.2.1 dX3_withTrack_98 (by decide) ?_
        exact hk71 v3 z32 v6 y37 hf hv6 _ _ _ hW (lv_sub hl [2, 3, 1, 4, 0] rfl)
  have B35 : ∀ (N : Nat), (∀ (v3 : Int32) (v4 : Int64) (v6 : Int32), (lpn (f_X3_withTrack_35 σ) N) (v3, v4, v6) = some res → ∀ (H35 : Heap) (l35 : List Loc) (ls : Array Slot), HW D cls L s H35 l35 L F → lv_has ls 8 [(0, .ref (A 0)), (3, .int v3), (4, .long v4), (6, .int v6)] → W p l e (Rm 5 0 0) s m ([.ref (A 0), .long x1, .int x2] : List Value).toArray below meth c H35 l35 0 0 (EnJ D cls s below ([.ref (A 0), .long x1, .int x2] : List Value).toArray 0 0 L (fun r L' F' => L = L' ∧ res.1 = r ∧ CI κ A res.2 L F' ∧ FrA A F F')) (F0 m 35 ls [])) := by
    intro  N
    induction N with
    | zero => intro v3 v4 v6 hf H35 l35 ls hW hl; cases hf
    | succ N ih =>
      intro v3 v4 v6 hf H35 l35 ls hW hl
      have hf : f_X3_withTrack_35 σ (lpn (f_X3_withTrack_35 σ) N) (v3, v4, v6) = some res := hf
      generalize lpn (f_X3_withTrack_35 σ) N = k35 at hf ih
      have hk35 := ih
      unfold f_X3_withTrack_35 at hf
      try dsimp only at hf
      refine lv_iload S.1 S.2.1 dX3_withTrack_35 (lv_at hl 3 rfl) ?_
      refine lv_iconst (v := 5) S.1 S.2.1 dX3_withTrack_37 (by decide) ?_
      refine lv_icmp_gt (tgt := 61) S.1 S.2.1 dX3_withTrack_38 (by decide) (fun c38 => ?_) (fun c38 => ?_)
      · have hf := (if_pos c38).symm.trans hf
        refine lv_aload_n S.1 S.2.1 dX3_withTrack_61 rfl (lv_at hl 0 rfl) ?_
        refine lv_iload_n S.1 S.2.1 dX3_withTrack_62 rfl (lv_at hl 1 rfl) ?_
        obtain ⟨z39, hz, hf⟩ := ob hf
        refine pk_cVR (As := [.int v3]) (rest := []) S hK hST hW (c_X3_trackOf hI v3 hz) mc_X3_trackOf wd_130 wd_132 wd_1664 rfl np_X3_trackOf (hI.mem 0 (by decide)) hI.this rfl rfl hl.1 rfl (Nat.le_of_ble_eq_true rfl) dX3_withTrack_63 ⟨by decide, by decide⟩ ⟨by decide, by decide⟩ (fun r L40 F41 H42 l43 hp hW => ?_)
        obtain ⟨rfl, rfl, hbz39, rfl⟩ := hp
        refine lv_astore (lv' := [(6, .ref (A (1 + 2 * z39))), (0, .ref (A 0)), (3, .int v3), (4, .long v4)]) S.1 S.2.1 dX3_withTrack_66 hl (by decide) rfl (fun ls hl => ?_)
        refine lv_iconst (v := 0) S.1 S.2.1 dX3_withTrack_68 (by decide) ?_
        refine lv_istore (lv' := [(7, .int 0), (6, .ref (A (1 + 2 * z39))), (0, .ref (A 0)), (3, .int v3), (4, .long v4)]) S.1 S.2.1 dX3_withTrack_69 hl (by decide) rfl (fun ls hl => ?_)
        exact B71  64 v3 v4 z39 0 hf hbz39 _ _ _ hW (lv_sub hl [2, 3, 4, 1, 0] rfl)
      · have hf := (if_neg c38).symm.trans hf
        refine lv_lload S.1 S.2.1 dX3_withTrack_41 (lv_at hl 2 rfl) ?_
        refine lv_aload_n S.1 S.2.1 dX3_withTrack_43 rfl (lv_at hl 0 rfl) ?_
        refine lv_iload_n S.1 S.2.1 dX3_withTrack_44 rfl (lv_at hl 1 rfl) ?_
        refine lv_iload S.1 S.2.1 dX3_withTrack_45 (lv_at hl 3 rfl) ?_
        obtain ⟨z44, hz, hf⟩ := ob hf
        refine pk_cVI (As := [.int v3, .int v6]) (rest := [.long v4]) S hK hST hW (c_X3_atEnd hI v3 v6 hz) mc_X3_atEnd wd_289 wd_291 wd_1675 rfl np_X3_atEnd (hI.mem 0 (by decide)) hI.this rfl rfl hl.1 rfl (Nat.le_of_ble_eq_true rfl) dX3_withTrack_47 ⟨by decide, by decide⟩ ⟨by decide, by decide⟩ (fun r L45 F46 H47 l48 hp hW => ?_)
        obtain ⟨rfl, rfl, rfl⟩ := hp
        obtain ⟨z49, hz, hf⟩ := ob hf
        refine pk_cSJ (As := [.long v4, .int z44]) (rest := []) S hK hST hW (c_X3_with  v4 z44 hz) mc_X3_with wd_285 wd_286 np_X3_with rfl hl.1 rfl (Nat.le_of_ble_eq_true rfl) dX3_withTrack_50 ⟨by decide, by decide⟩ ⟨by decide, by decide⟩ (fun r L50 F51 H52 l53 hp hW => ?_)
        obtain ⟨rfl, rfl, rfl⟩ := hp
        refine lv_lstore (lv' := [(4, .long z49), (0, .ref (A 0)), (3, .int v3), (6, .int v6)]) S.1 S.2.1 dX3_withTrack_53 hl (by decide) rfl (fun ls hl => ?_)
        obtain ⟨y54, ey54⟩ : ∃ y : Int32, y = v6 + 1 := ⟨_, rfl⟩
        have hf := nm_at hf ey54
        refine lv_iinc (v := y54) (lv' := [(6, .int y54), (4, .long z49), (0, .ref (A 0)), (3, .int v3)]) S.1 S.2.1 dX3_withTrack_55 hl (k := 3) rfl (by rw [ey54]; rfl) (by decide) rfl (fun ls hl => ?_)
        refine lv_goto (tgt := 35) S.1 S.2.1 dX3_withTrack_58 (by decide) ?_
        exact hk35 v3 z49 y54 hf  _ _ _ hW (lv_sub hl [2, 3, 1, 0] rfl)
  have B6 : ∀ (N : Nat), (∀ (v3 : Int32) (v4 : Int64) (v6 : Int32), (lpn (f_X3_withTrack_6 σ) N) (v3, v4, v6) = some res → ∀ (H6 : Heap) (l6 : List Loc) (ls : Array Slot), HW D cls L s H6 l6 L F → lv_has ls 8 [(0, .ref (A 0)), (3, .int v3), (4, .long v4), (6, .int v6)] → W p l e (Rm 5 0 0) s m ([.ref (A 0), .long x1, .int x2] : List Value).toArray below meth c H6 l6 0 0 (EnJ D cls s below ([.ref (A 0), .long x1, .int x2] : List Value).toArray 0 0 L (fun r L' F' => L = L' ∧ res.1 = r ∧ CI κ A res.2 L F' ∧ FrA A F F')) (F0 m 6 ls [])) := by
    intro  N
    induction N with
    | zero => intro v3 v4 v6 hf H6 l6 ls hW hl; cases hf
    | succ N ih =>
      intro v3 v4 v6 hf H6 l6 ls hW hl
      have hf : f_X3_withTrack_6 σ (lpn (f_X3_withTrack_6 σ) N) (v3, v4, v6) = some res := hf
      generalize lpn (f_X3_withTrack_6 σ) N = k6 at hf ih
      have hk6 := ih
      unfold f_X3_withTrack_6 at hf
      try dsimp only at hf
      refine lv_iload S.1 S.2.1 dX3_withTrack_6 (lv_at hl 3 rfl) ?_
      refine lv_iconst (v := 3) S.1 S.2.1 dX3_withTrack_8 (by decide) ?_
      refine lv_icmp_gt (tgt := 32) S.1 S.2.1 dX3_withTrack_9 (by decide) (fun c55 => ?_) (fun c55 => ?_)
      · have hf := (if_pos c55).symm.trans hf
        refine lv_iconst (v := 0) S.1 S.2.1 dX3_withTrack_32 (by decide) ?_
        refine lv_istore (lv' := [(6, .int 0), (0, .ref (A 0)), (3, .int v3), (4, .long v4)]) S.1 S.2.1 dX3_withTrack_33 hl (by decide) rfl (fun ls hl => ?_)
        exact B35  64 v3 v4 0 hf  _ _ _ hW (lv_sub hl [1, 2, 3, 0] rfl)
      · have hf := (if_neg c55).symm.trans hf
        refine lv_lload S.1 S.2.1 dX3_withTrack_12 (lv_at hl 2 rfl) ?_
        refine lv_aload_n S.1 S.2.1 dX3_withTrack_14 rfl (lv_at hl 0 rfl) ?_
        refine lv_iload_n S.1 S.2.1 dX3_withTrack_15 rfl (lv_at hl 1 rfl) ?_
        refine lv_iload S.1 S.2.1 dX3_withTrack_16 (lv_at hl 3 rfl) ?_
        obtain ⟨z56, hz, hf⟩ := ob hf
        refine pk_cVI (As := [.int v3, .int v6]) (rest := [.long v4]) S hK hST hW (c_X3_factOfTrack hI v3 v6 hz) mc_X3_factOfTrack wd_269 wd_271 wd_1674 rfl np_X3_factOfTrack (hI.mem 0 (by decide)) hI.this rfl rfl hl.1 rfl (Nat.le_of_ble_eq_true rfl) dX3_withTrack_18 ⟨by decide, by decide⟩ ⟨by decide, by decide⟩ (fun r L57 F58 H59 l60 hp hW => ?_)
        obtain ⟨rfl, rfl, rfl⟩ := hp
        obtain ⟨z61, hz, hf⟩ := ob hf
        refine pk_cSJ (As := [.long v4, .int z56]) (rest := []) S hK hST hW (c_X3_with  v4 z56 hz) mc_X3_with wd_285 wd_286 np_X3_with rfl hl.1 rfl (Nat.le_of_ble_eq_true rfl) dX3_withTrack_21 ⟨by decide, by decide⟩ ⟨by decide, by decide⟩ (fun r L62 F63 H64 l65 hp hW => ?_)
        obtain ⟨rfl, rfl, rfl⟩ := hp
        refine lv_lstore (lv' := [(4, .long z61), (0, .ref (A 0)), (3, .int v3), (6, .int v6)]) S.1 S.2.1 dX3_withTrack_24 hl (by decide) rfl (fun ls hl => ?_)
        obtain ⟨y66, ey66⟩ : ∃ y : Int32, y = v6 + 1 := ⟨_, rfl⟩
        have hf := nm_at hf ey66
        refine lv_iinc (v := y66) (lv' := [(6, .int y66), (4, .long z61), (0, .ref (A 0)), (3, .int v3)]) S.1 S.2.1 dX3_withTrack_26 hl (k := 3) rfl (by rw [ey66]; rfl) (by decide) rfl (fun ls hl => ?_)
        refine lv_goto (tgt := 6) S.1 S.2.1 dX3_withTrack_29 (by decide) ?_
        exact hk6 v3 z61 y66 hf  _ _ _ hW (lv_sub hl [2, 3, 1, 0] rfl)
  unfold f_X3_withTrack at hf
  refine lv_lload_n S.1 S.2.1 dX3_withTrack_0 rfl (lv_at hl 1 rfl) ?_
  refine lv_lstore (lv' := [(4, .long x1), (0, .ref (A 0)), (1, .long x1), (3, .int x2)]) S.1 S.2.1 dX3_withTrack_1 hl (by decide) rfl (fun ls hl => ?_)
  refine lv_iconst (v := 0) S.1 S.2.1 dX3_withTrack_3 (by decide) ?_
  refine lv_istore (lv' := [(6, .int 0), (4, .long x1), (0, .ref (A 0)), (1, .long x1), (3, .int x2)]) S.1 S.2.1 dX3_withTrack_4 hl (by decide) rfl (fun ls hl => ?_)
  exact B6  64 x2 x1 0 hf  _ _ _ hW (lv_sub hl [2, 4, 1, 0] rfl)
def f_X3_withWalker_52 (σ : CS)  (v4 : Int64) : Option Int64 := some (v4)
def f_X3_withWalker_26 (σ : CS)  (k26 : Int32 × Int64 × Int32 → Option Int64) (t : Int32 × Int64 × Int32) : Option Int64 := (if 4 < t.2.2 then f_X3_withWalker_52 σ t.2.1 else (f_X3_ofWalker σ t.1 t.2.2).bind fun z2 => (f_X3_with t.2.1 z2).bind fun z7 => nm (t.2.2 + 1 : Int32) fun y12 => k26 (t.1, z7, y12))
def f_X3_withWalker (σ : CS) (x1 : Int64) (x2 : Int32) : Option Int64 := (f_X3_ofWalker σ x2 0).bind fun z13 => (f_X3_with x1 z13).bind fun z18 => (f_X3_walkerOf σ x2).bind fun z23 => (f_X2_isFresh (fun k => σ.2 (5 + 3 * z23 + k))).bind fun z28 => (if z28 = 0 then f_X3_withWalker_52 σ z18 else lpn (f_X3_withWalker_26 σ) 64 (x2, z18, 1))
theorem mc_X3_withWalker : MCode yX3_withWalker cX3_withWalker 7 (some .long) := ⟨wd_315, wd_1, by decide, by decide⟩
theorem np_X3_withWalker : (parseMethodDescriptor yX3_withWalker.desc).map (fun d => d.parameters.length) = some 2 := by decide +kernel
set_option maxHeartbeats 4000000 in
set_option maxRecDepth 100000 in
theorem c_X3_withWalker {l : Launch} {D : va_G} {κ : Nat → ClassId} {ζ : Nat → Nat} {L : List Nat} {F : Nat → va_E} {σ : CS} {A : Nat → Nat} (hI : CI κ A σ L F) (x1 : Int64) (x2 : Int32) {res : Int64} (hf : f_X3_withWalker σ x1 x2 = some res) : MtJ l D cls (ty5 κ) ζ yX3_withWalker cX3_withWalker 7 (some .long) 3 0 0 ([.ref (A 0), .long x1, .int x2] : List Value) L F (fun r L' F' => L = L' ∧ F = F' ∧ res = r) := by
  refine MtJ.of (by decide) (Nat.le_of_ble_eq_true rfl) ?_
  intro p e s m below meth c S hr hlk _ hK hW hST ls hl
  have hl : lv_has ls 7 [(0, .ref (A 0)), (1, .long x1), (3, .int x2)] := hl
  have B52 : ∀   (v4 : Int64), f_X3_withWalker_52 σ v4 = some res → ∀ (H52 : Heap) (l52 : List Loc) (ls : Array Slot), HW D cls L s H52 l52 L F → lv_has ls 7 [(4, .long v4)] → W p l e (Rm 3 0 0) s m ([.ref (A 0), .long x1, .int x2] : List Value).toArray below meth c H52 l52 0 0 (EnJ D cls s below ([.ref (A 0), .long x1, .int x2] : List Value).toArray 0 0 L (fun r L' F' => L = L' ∧ F = F' ∧ res = r)) (F0 m 52 ls []) := by
    intro v4 hf H52 l52 ls hW hl
    unfold f_X3_withWalker_52 at hf
    refine lv_lload S.1 S.2.1 dX3_withWalker_52 (lv_at hl 0 rfl) ?_
    exact pk_lret S hr hlk hW ⟨rfl, rfl, eqm (P := fun z => z = v4) rfl (Option.some.inj hf)⟩ (by decide) (by decide) dX3_withWalker_54
  have B26 : ∀ (N : Nat), (∀ (v3 : Int32) (v4 : Int64) (v6 : Int32), (lpn (f_X3_withWalker_26 σ) N) (v3, v4, v6) = some res → ∀ (H26 : Heap) (l26 : List Loc) (ls : Array Slot), HW D cls L s H26 l26 L F → lv_has ls 7 [(0, .ref (A 0)), (3, .int v3), (4, .long v4), (6, .int v6)] → W p l e (Rm 3 0 0) s m ([.ref (A 0), .long x1, .int x2] : List Value).toArray below meth c H26 l26 0 0 (EnJ D cls s below ([.ref (A 0), .long x1, .int x2] : List Value).toArray 0 0 L (fun r L' F' => L = L' ∧ F = F' ∧ res = r)) (F0 m 26 ls [])) := by
    intro  N
    induction N with
    | zero => intro v3 v4 v6 hf H26 l26 ls hW hl; cases hf
    | succ N ih =>
      intro v3 v4 v6 hf H26 l26 ls hW hl
      have hf : f_X3_withWalker_26 σ (lpn (f_X3_withWalker_26 σ) N) (v3, v4, v6) = some res := hf
      generalize lpn (f_X3_withWalker_26 σ) N = k26 at hf ih
      have hk26 := ih
      unfold f_X3_withWalker_26 at hf
      try dsimp only at hf
      refine lv_iload S.1 S.2.1 dX3_withWalker_26 (lv_at hl 3 rfl) ?_
      refine lv_iconst (v := 4) S.1 S.2.1 dX3_withWalker_28 (by decide) ?_
      refine lv_icmp_gt (tgt := 52) S.1 S.2.1 dX3_withWalker_29 (by decide) (fun c1 => ?_) (fun c1 => ?_)
      · have hf := (if_pos c1).symm.trans hf
        exact B52  v4 hf  _ _ _ hW (lv_sub hl [2] rfl)
      · have hf := (if_neg c1).symm.trans hf
        refine lv_lload S.1 S.2.1 dX3_withWalker_32 (lv_at hl 2 rfl) ?_
        refine lv_aload_n S.1 S.2.1 dX3_withWalker_34 rfl (lv_at hl 0 rfl) ?_
        refine lv_iload_n S.1 S.2.1 dX3_withWalker_35 rfl (lv_at hl 1 rfl) ?_
        refine lv_iload S.1 S.2.1 dX3_withWalker_36 (lv_at hl 3 rfl) ?_
        obtain ⟨z2, hz, hf⟩ := ob hf
        refine pk_cVI (As := [.int v3, .int v6]) (rest := [.long v4]) S hK hST hW (c_X3_ofWalker hI v3 v6 hz) mc_X3_ofWalker wd_316 wd_318 wd_1680 rfl np_X3_ofWalker (hI.mem 0 (by decide)) hI.this rfl rfl hl.1 rfl (Nat.le_of_ble_eq_true rfl) dX3_withWalker_38 ⟨by decide, by decide⟩ ⟨by decide, by decide⟩ (fun r L3 F4 H5 l6 hp hW => ?_)
        obtain ⟨rfl, rfl, rfl⟩ := hp
        obtain ⟨z7, hz, hf⟩ := ob hf
        refine pk_cSJ (As := [.long v4, .int z2]) (rest := []) S hK hST hW (c_X3_with  v4 z2 hz) mc_X3_with wd_285 wd_286 np_X3_with rfl hl.1 rfl (Nat.le_of_ble_eq_true rfl) dX3_withWalker_41 ⟨by decide, by decide⟩ ⟨by decide, by decide⟩ (fun r L8 F9 H10 l11 hp hW => ?_)
        obtain ⟨rfl, rfl, rfl⟩ := hp
        refine lv_lstore (lv' := [(4, .long z7), (0, .ref (A 0)), (3, .int v3), (6, .int v6)]) S.1 S.2.1 dX3_withWalker_44 hl (by decide) rfl (fun ls hl => ?_)
        obtain ⟨y12, ey12⟩ : ∃ y : Int32, y = v6 + 1 := ⟨_, rfl⟩
        have hf := nm_at hf ey12
        refine lv_iinc (v := y12) (lv' := [(6, .int y12), (4, .long z7), (0, .ref (A 0)), (3, .int v3)]) S.1 S.2.1 dX3_withWalker_46 hl (k := 3) rfl (by rw [ey12]; rfl) (by decide) rfl (fun ls hl => ?_)
        refine lv_goto (tgt := 26) S.1 S.2.1 dX3_withWalker_49 (by decide) ?_
        exact hk26 v3 z7 y12 hf  _ _ _ hW (lv_sub hl [2, 3, 1, 0] rfl)
  unfold f_X3_withWalker at hf
  refine lv_lload_n S.1 S.2.1 dX3_withWalker_0 rfl (lv_at hl 1 rfl) ?_
  refine lv_aload_n S.1 S.2.1 dX3_withWalker_1 rfl (lv_at hl 0 rfl) ?_
  refine lv_iload_n S.1 S.2.1 dX3_withWalker_2 rfl (lv_at hl 2 rfl) ?_
  refine lv_iconst (v := 0) S.1 S.2.1 dX3_withWalker_3 (by decide) ?_
  obtain ⟨z13, hz, hf⟩ := ob hf
  refine pk_cVI (As := [.int x2, .int 0]) (rest := [.long x1]) S hK hST hW (c_X3_ofWalker hI x2 0 hz) mc_X3_ofWalker wd_316 wd_318 wd_1680 rfl np_X3_ofWalker (hI.mem 0 (by decide)) hI.this rfl rfl hl.1 rfl (Nat.le_of_ble_eq_true rfl) dX3_withWalker_4 ⟨by decide, by decide⟩ ⟨by decide, by decide⟩ (fun r L14 F15 H16 l17 hp hW => ?_)
  obtain ⟨rfl, rfl, rfl⟩ := hp
  obtain ⟨z18, hz, hf⟩ := ob hf
  refine pk_cSJ (As := [.long x1, .int z13]) (rest := []) S hK hST hW (c_X3_with  x1 z13 hz) mc_X3_with wd_285 wd_286 np_X3_with rfl hl.1 rfl (Nat.le_of_ble_eq_true rfl) dX3_withWalker_7 ⟨by decide, by decide⟩ ⟨by decide, by decide⟩ (fun r L19 F20 H21 l22 hp hW => ?_)
  obtain ⟨rfl, rfl, rfl⟩ := hp
  refine lv_lstore (lv' := [(4, .long z18), (0, .ref (A 0)), (1, .long x1), (3, .int x2)]) S.1 S.2.1 dX3_withWalker_10 hl (by decide) rfl (fun ls hl => ?_)
  refine lv_aload_n S.1 S.2.1 dX3_withWalker_12 rfl (lv_at hl 1 rfl) ?_
  refine lv_iload_n S.1 S.2.1 dX3_withWalker_13 rfl (lv_at hl 3 rfl) ?_
  obtain ⟨z23, hz, hf⟩ := ob hf
  refine pk_cVR (As := [.int x2]) (rest := []) S hK hST hW (c_X3_walkerOf hI x2 hz) mc_X3_walkerOf wd_320 wd_322 wd_1681 rfl np_X3_walkerOf (hI.mem 0 (by decide)) hI.this rfl rfl hl.1 rfl (Nat.le_of_ble_eq_true rfl) dX3_withWalker_14 ⟨by decide, by decide⟩ ⟨by decide, by decide⟩ (fun r L24 F25 H26 l27 hp hW => ?_)
  obtain ⟨rfl, rfl, hbz23, rfl⟩ := hp
  obtain ⟨z28, hz, hf⟩ := ob hf
  refine pk_cVI (As := []) (rest := []) S hK hST hW (c_X2_isFresh (hI.ker hbz23)  hz) mc_X2_isFresh wd_237 wd_238 wd_239 rfl np_X2_isFresh (hI.mem _ (by have := hbz23; omega)) (hI.kerH hbz23) rfl rfl hl.1 rfl (Nat.le_of_ble_eq_true rfl) dX3_withWalker_17 ⟨by decide, by decide⟩ ⟨by decide, by decide⟩ (fun r L29 F30 H31 l32 hp hW => ?_)
  obtain ⟨rfl, rfl, rfl⟩ := hp
  refine lv_if_eq (tgt := 52) S.1 S.2.1 dX3_withWalker_20 (by decide) (fun c33 => ?_) (fun c33 => ?_)
  · have hf := (if_pos c33).symm.trans hf
    exact B52  z18 hf  _ _ _ hW (lv_sub hl [0] rfl)
  · have hf := (if_neg c33).symm.trans hf
    refine lv_iconst (v := 1) S.1 S.2.1 dX3_withWalker_23 (by decide) ?_
    refine lv_istore (lv' := [(6, .int 1), (4, .long z18), (0, .ref (A 0)), (1, .long x1), (3, .int x2)]) S.1 S.2.1 dX3_withWalker_24 hl (by decide) rfl (fun ls hl => ?_)
    exact B26  64 x2 z18 1 hf  _ _ _ hW (lv_sub hl [2, 4, 1, 0] rfl)
def f_X3_digest_133   (k133 : CS × Int64 × Int32 → Option (Int64 × CS)) (t : CS × Int64 × Int32) : Option (Int64 × CS) := (f_X0_size (cap 3) (t.1.1 3)).bind fun z1 => (if z1 ≤ t.2.2 then (f_X3_compare t.1 0).bind fun z7 => (f_X3_oneIf z7).bind fun z12 => (f_X3_with t.2.1 z12).bind fun z17 => (f_X3_compare t.1 1).bind fun z22 => (f_X3_oneIf z22).bind fun z27 => (f_X3_with z17 z27).bind fun z32 => (f_X3_isSound t.1).bind fun z37 => (f_X3_oneIf z37.1).bind fun z42 => (f_X3_with z32 z42).bind fun z47 => some (z47, z37.2) else (f_X0_read (cap 3) (t.1.1 3) t.2.2).bind fun z52 => (f_X3_with t.2.1 z52).bind fun z57 => nm (t.2.2 + 1 : Int32) fun y62 => k133 (t.1, z57, y62))
def f_X3_digest_108   (k108 : CS × Int64 × Int32 → Option (Int64 × CS)) (t : CS × Int64 × Int32) : Option (Int64 × CS) := (if t.2.2 < 0 then lpn (f_X3_digest_133 ) 64 (t.1, t.2.1, 0) else (f_X0_read (cap 2) (t.1.1 2) t.2.2).bind fun z64 => (f_X3_with t.2.1 z64).bind fun z69 => nm (t.2.2 + (-1) : Int32) fun y74 => k108 (t.1, z69, y74))
def f_X3_digest_76   (k76 : CS × Int64 × Int32 → Option (Int64 × CS)) (t : CS × Int64 × Int32) : Option (Int64 × CS) := (if 7 < t.2.2 then (f_X0_size (cap 2) (t.1.1 2)).bind fun z76 => nm (z76 - 1 : Int32) fun y81 => lpn (f_X3_digest_108 ) 64 (t.1, t.2.1, y81) else (f_X3_factOfYard t.1 t.2.2).bind fun z82 => (f_X3_with t.2.1 z82).bind fun z87 => nm (t.2.2 + 1 : Int32) fun y92 => k76 (t.1, z87, y92))
def f_X3_digest_20   (k20 : CS × Int64 × Int32 → Option (Int64 × CS)) (t : CS × Int64 × Int32) : Option (Int64 × CS) := (if 9 < t.2.2 then (f_X3_withWalker t.1 t.2.1 0).bind fun z94 => (f_X3_withWalker t.1 z94 1).bind fun z99 => lpn (f_X3_digest_76 ) 64 (t.1, z99, 0) else (f_X0_placeOfKind (cap 1) (t.1.1 1) t.2.2 0).bind fun z104 => (f_X3_with t.2.1 z104).bind fun z109 => (f_X0_placeOfKind (cap 1) (t.1.1 1) t.2.2 1).bind fun z114 => (f_X3_with z109 z114).bind fun z119 => nm (t.2.2 + 1 : Int32) fun y124 => k20 (t.1, z119, y124))
def f_X3_digest (σ : CS) : Option (Int64 × CS) := (f_X3_withTrack σ 8317 0).bind fun z125 => (f_X3_withTrack z125.2 z125.1 1).bind fun z130 => lpn (f_X3_digest_20 ) 64 (z130.2, z130.1, 0)
theorem mc_X3_digest : MCode yX3_digest cX3_digest 4 (some .long) := ⟨wd_263, wd_1, by decide, by decide⟩
theorem np_X3_digest : (parseMethodDescriptor yX3_digest.desc).map (fun d => d.parameters.length) = some 0 := by decide +kernel
set_option maxHeartbeats 4000000 in
set_option maxRecDepth 100000 in
theorem c_X3_digest {l : Launch} {D : va_G} {κ : Nat → ClassId} {ζ : Nat → Nat} {L : List Nat} {F : Nat → va_E} {σ : CS} {A : Nat → Nat} (hI : CI κ A σ L F)  {res : (Int64 × CS)} (hf : f_X3_digest σ = some res) : MtJ l D cls (ty5 κ) ζ yX3_digest cX3_digest 4 (some .long) 7 0 0 ([.ref (A 0)] : List Value) L F (fun r L' F' => L = L' ∧ res.1 = r ∧ CI κ A res.2 L F' ∧ FrA A F F') := by
  refine MtJ.of (by decide) (Nat.le_of_ble_eq_true rfl) ?_
  intro p e s m below meth c S hr hlk _ hK hW hST ls hl
  have hl : lv_has ls 4 [(0, .ref (A 0))] := hl
  have hFr : FrA A F F := FrA.rf
  have B133 : ∀ (N : Nat), (∀ (w133 : CS) (v1 : Int64) (v3 : Int32), (lpn (f_X3_digest_133 ) N) (w133, v1, v3) = some res → ∀ (G133 : Nat → va_E), CI κ A w133 L G133 → FrA A F G133 → ∀ (H133 : Heap) (l133 : List Loc) (ls : Array Slot), HW D cls L s H133 l133 L G133 → lv_has ls 4 [(0, .ref (A 0)), (1, .long v1), (3, .int v3)] → W p l e (Rm 7 0 0) s m ([.ref (A 0)] : List Value).toArray below meth c H133 l133 0 0 (EnJ D cls s below ([.ref (A 0)] : List Value).toArray 0 0 L (fun r L' F' => L = L' ∧ res.1 = r ∧ CI κ A res.2 L F' ∧ FrA A F F')) (F0 m 133 ls [])) := by
    intro  N
    induction N with
    | zero => intro w133 v1 v3 hf G133 hI hFr H133 l133 ls hW hl; cases hf
    | succ N ih =>
      intro w133 v1 v3 hf G133 hI hFr H133 l133 ls hW hl
      have hf : f_X3_digest_133 (lpn (f_X3_digest_133 ) N) (w133, v1, v3) = some res := hf
      generalize lpn (f_X3_digest_133 ) N = k133 at hf ih
      have hk133 := ih
      unfold f_X3_digest_133 at hf
      try dsimp only at hf
      refine lv_iload_n S.1 S.2.1 dX3_digest_133 rfl (lv_at hl 2 rfl) ?_
      refine lv_aload_n S.1 S.2.1 dX3_digest_134 rfl (lv_at hl 0 rfl) ?_
      refine pk_get S hK hW 3 (hI.mem 0 (by decide)) hI.this rfl hinX3 (by decide) wd_83 rfl dX3_digest_135 ?_
      obtain ⟨z1, hz, hf⟩ := ob hf
      refine pk_cVI (As := []) (rest := [.int v3]) S hK hST hW (c_X0_size (hI.row (by decide : 3 < 7))  hz) mc_X0_size wd_140 wd_141 wd_142 rfl np_X0_size (hI.mem _ (by have := (by decide : 3 < 7); omega)) (hI.rowH (by decide : 3 < 7)) rfl rfl hl.1 rfl (Nat.le_of_ble_eq_true rfl) dX3_digest_138 ⟨by decide, by decide⟩ ⟨by decide, by decide⟩ (fun r L2 F3 H4 l5 hp hW => ?_)
      obtain ⟨rfl, rfl, rfl⟩ := hp
      refine lv_icmp_ge (tgt := 163) S.1 S.2.1 dX3_digest_141 (by decide) (fun c6 => ?_) (fun c6 => ?_)
      · have hf := (if_pos c6).symm.trans hf
        refine lv_lload_n S.1 S.2.1 dX3_digest_163 rfl (lv_at hl 1 rfl) ?_
        refine lv_aload_n S.1 S.2.1 dX3_digest_164 rfl (lv_at hl 0 rfl) ?_
        refine lv_iconst (v := 0) S.1 S.2.1 dX3_digest_165 (by decide) ?_
        obtain ⟨z7, hz, hf⟩ := ob hf
        refine pk_cVI (As := [.int 0]) (rest := [.long v1]) S hK hST hW (c_X3_compare hI 0 hz) mc_X3_compare wd_336 wd_203 wd_204 rfl np_X3_compare (hI.mem 0 (by decide)) hI.this rfl rfl hl.1 rfl (Nat.le_of_ble_eq_true rfl) dX3_digest_166 ⟨by decide, by decide⟩ ⟨by decide, by decide⟩ (fun r L8 F9 H10 l11 hp hW => ?_)
        obtain ⟨rfl, rfl, rfl⟩ := hp
        obtain ⟨z12, hz, hf⟩ := ob hf
        refine pk_cSI (As := [.int z7]) (rest := [.long v1]) S hK hST hW (c_X3_oneIf  z7 hz) mc_X3_oneIf wd_273 wd_274 np_X3_oneIf rfl hl.1 rfl (Nat.le_of_ble_eq_true rfl) dX3_digest_169 ⟨by decide, by decide⟩ ⟨by decide, by decide⟩ (fun r L13 F14 H15 l16 hp hW => ?_)
        obtain ⟨rfl, rfl, rfl⟩ := hp
        obtain ⟨z17, hz, hf⟩ := ob hf
        refine pk_cSJ (As := [.long v1, .int z12]) (rest := []) S hK hST hW (c_X3_with  v1 z12 hz) mc_X3_with wd_285 wd_286 np_X3_with rfl hl.1 rfl (Nat.le_of_ble_eq_true rfl) dX3_digest_172 ⟨by decide, by decide⟩ ⟨by decide, by decide⟩ (fun r L18 F19 H20 l21 hp hW => ?_)
        obtain ⟨rfl, rfl, rfl⟩ := hp
        refine lv_lstore_n (lv' := [(1, .long z17), (0, .ref (A 0)), (3, .int v3)]) S.1 S.2.1 dX3_digest_175 rfl hl (by decide) rfl (fun ls hl => ?_)
        refine lv_lload_n S.1 S.2.1 dX3_digest_176 rfl (lv_at hl 0 rfl) ?_
        refine lv_aload_n S.1 S.2.1 dX3_digest_177 rfl (lv_at hl 1 rfl) ?_
        refine lv_iconst (v := 1) S.1 S.2.1 dX3_digest_178 (by decide) ?_
        obtain ⟨z22, hz, hf⟩ := ob hf
        refine pk_cVI (As := [.int 1]) (rest := [.long z17]) S hK hST hW (c_X3_compare hI 1 hz) mc_X3_compare wd_336 wd_203 wd_204 rfl np_X3_compare (hI.mem 0 (by decide)) hI.this rfl rfl hl.1 rfl (Nat.le_of_ble_eq_true rfl) dX3_digest_179 ⟨by decide, by decide⟩ ⟨by decide, by decide⟩ (fun r L23 F24 H25 l26 hp hW => ?_)
        obtain ⟨rfl, rfl, rfl⟩ := hp
        obtain ⟨z27, hz, hf⟩ := ob hf
        refine pk_cSI (As := [.int z22]) (rest := [.long z17]) S hK hST hW (c_X3_oneIf  z22 hz) mc_X3_oneIf wd_273 wd_274 np_X3_oneIf rfl hl.1 rfl (Nat.le_of_ble_eq_true rfl) dX3_digest_182 ⟨by decide, by decide⟩ ⟨by decide, by decide⟩ (fun r L28 F29 H30 l31 hp hW => ?_)
        obtain ⟨rfl, rfl, rfl⟩ := hp
        obtain ⟨z32, hz, hf⟩ := ob hf
        refine pk_cSJ (As := [.long z17, .int z27]) (rest := []) S hK hST hW (c_X3_with  z17 z27 hz) mc_X3_with wd_285 wd_286 np_X3_with rfl hl.1 rfl (Nat.le_of_ble_eq_true rfl) dX3_digest_185 ⟨by decide, by decide⟩ ⟨by decide, by decide⟩ (fun r L33 F34 H35 l36 hp hW => ?_)
        obtain ⟨rfl, rfl, rfl⟩ := hp
        refine lv_lstore_n (lv' := [(1, .long z32), (0, .ref (A 0)), (3, .int v3)]) S.1 S.2.1 dX3_digest_188 rfl hl (by decide) rfl (fun ls hl => ?_)
        refine lv_lload_n S.1 S.2.1 dX3_digest_189 rfl (lv_at hl 0 rfl) ?_
        refine lv_aload_n S.1 S.2.1 dX3_digest_190 rfl (lv_at hl 1 rfl) ?_
        obtain ⟨z37, hz, hf⟩ := ob hf
        refine pk_cVI (As := []) (rest := [.long z32]) S hK hST hW (c_X3_isSound hI  hz) mc_X3_isSound wd_337 wd_219 wd_220 rfl np_X3_isSound (hI.mem 0 (by decide)) hI.this rfl rfl hl.1 rfl (Nat.le_of_ble_eq_true rfl) dX3_digest_191 ⟨by decide, by decide⟩ ⟨by decide, by decide⟩ (fun r L38 F39 H40 l41 hp hW => ?_)
        obtain ⟨rfl, rfl, hI1, hFr1⟩ := hp
        have hI := hI1
        have hFr := hFr.tr hFr1
        obtain ⟨z42, hz, hf⟩ := ob hf
        refine pk_cSI (As := [.int z37.1]) (rest := [.long z32]) S hK hST hW (c_X3_oneIf  z37.1 hz) mc_X3_oneIf wd_273 wd_274 np_X3_oneIf rfl hl.1 rfl (Nat.le_of_ble_eq_true rfl) dX3_digest_194 ⟨by decide, by decide⟩ ⟨by decide, by decide⟩ (fun r L43 F44 H45 l46 hp hW => ?_)
        obtain ⟨rfl, rfl, rfl⟩ := hp
        obtain ⟨z47, hz, hf⟩ := ob hf
        refine pk_cSJ (As := [.long z32, .int z42]) (rest := []) S hK hST hW (c_X3_with  z32 z42 hz) mc_X3_with wd_285 wd_286 np_X3_with rfl hl.1 rfl (Nat.le_of_ble_eq_true rfl) dX3_digest_197 ⟨by decide, by decide⟩ ⟨by decide, by decide⟩ (fun r L48 F49 H50 l51 hp hW => ?_)
        obtain ⟨rfl, rfl, rfl⟩ := hp
        exact pk_lret S hr hlk hW ⟨rfl, eqm (P := fun z => z.1 = z47 ∧ CI κ A z.2 L F39 ∧ FrA A F F39) ⟨rfl, hI, hFr⟩ (Option.some.inj hf)⟩ (by decide) (by decide) dX3_digest_200
      · have hf := (if_neg c6).symm.trans hf
        refine lv_lload_n S.1 S.2.1 dX3_digest_144 rfl (lv_at hl 1 rfl) ?_
        refine lv_aload_n S.1 S.2.1 dX3_digest_145 rfl (lv_at hl 0 rfl) ?_
        refine pk_get S hK hW 3 (hI.mem 0 (by decide)) hI.this rfl hinX3 (by decide) wd_83 rfl dX3_digest_146 ?_
        refine lv_iload_n S.1 S.2.1 dX3_digest_149 rfl (lv_at hl 2 rfl) ?_
        obtain ⟨z52, hz, hf⟩ := ob hf
        refine pk_cVI (As := [.int v3]) (rest := [.long v1]) S hK hST hW (c_X0_read (hI.row (by decide : 3 < 7)) v3 hz) mc_X0_read wd_171 wd_120 wd_121 rfl np_X0_read (hI.mem _ (by have := (by decide : 3 < 7); omega)) (hI.rowH (by decide : 3 < 7)) rfl rfl hl.1 rfl (Nat.le_of_ble_eq_true rfl) dX3_digest_150 ⟨by decide, by decide⟩ ⟨by decide, by decide⟩ (fun r L53 F54 H55 l56 hp hW => ?_)
        obtain ⟨rfl, rfl, rfl⟩ := hp
        obtain ⟨z57, hz, hf⟩ := ob hf
        refine pk_cSJ (As := [.long v1, .int z52]) (rest := []) S hK hST hW (c_X3_with  v1 z52 hz) mc_X3_with wd_285 wd_286 np_X3_with rfl hl.1 rfl (Nat.le_of_ble_eq_true rfl) dX3_digest_153 ⟨by decide, by decide⟩ ⟨by decide, by decide⟩ (fun r L58 F59 H60 l61 hp hW => ?_)
        obtain ⟨rfl, rfl, rfl⟩ := hp
        refine lv_lstore_n (lv' := [(1, .long z57), (0, .ref (A 0)), (3, .int v3)]) S.1 S.2.1 dX3_digest_156 rfl hl (by decide) rfl (fun ls hl => ?_)
        obtain ⟨y62, ey62⟩ : ∃ y : Int32, y = v3 + 1 := ⟨_, rfl⟩
        have hf := nm_at hf ey62
        refine lv_iinc (v := y62) (lv' := [(3, .int y62), (1, .long z57), (0, .ref (A 0))]) S.1 S.2.1 dX3_digest_157 hl (k := 2) rfl (by rw [ey62]; rfl) (by decide) rfl (fun ls hl => ?_)
        refine lv_goto (tgt := 133) S.1 S.2.1 dX3_digest_160 (by decide) ?_
        exact hk133 w133 z57 y62 hf G133 hI hFr _ _ _ hW (lv_sub hl [2, 1, 0] rfl)
  have B108 : ∀ (N : Nat), (∀ (w108 : CS) (v1 : Int64) (v3 : Int32), (lpn (f_X3_digest_108 ) N) (w108, v1, v3) = some res → ∀ (G108 : Nat → va_E), CI κ A w108 L G108 → FrA A F G108 → ∀ (H108 : Heap) (l108 : List Loc) (ls : Array Slot), HW D cls L s H108 l108 L G108 → lv_has ls 4 [(0, .ref (A 0)), (1, .long v1), (3, .int v3)] → W p l e (Rm 7 0 0) s m ([.ref (A 0)] : List Value).toArray below meth c H108 l108 0 0 (EnJ D cls s below ([.ref (A 0)] : List Value).toArray 0 0 L (fun r L' F' => L = L' ∧ res.1 = r ∧ CI κ A res.2 L F' ∧ FrA A F F')) (F0 m 108 ls [])) := by
    intro  N
    induction N with
    | zero => intro w108 v1 v3 hf G108 hI hFr H108 l108 ls hW hl; cases hf
    | succ N ih =>
      intro w108 v1 v3 hf G108 hI hFr H108 l108 ls hW hl
      have hf : f_X3_digest_108 (lpn (f_X3_digest_108 ) N) (w108, v1, v3) = some res := hf
      generalize lpn (f_X3_digest_108 ) N = k108 at hf ih
      have hk108 := ih
      unfold f_X3_digest_108 at hf
      try dsimp only at hf
      refine lv_iload_n S.1 S.2.1 dX3_digest_108 rfl (lv_at hl 2 rfl) ?_
      refine lv_if_lt (tgt := 131) S.1 S.2.1 dX3_digest_109 (by decide) (fun c63 => ?_) (fun c63 => ?_)
      · have hf := (if_pos c63).symm.trans hf
        refine lv_iconst (v := 0) S.1 S.2.1 dX3_digest_131 (by decide) ?_
        refine lv_istore_n (lv' := [(3, .int 0), (0, .ref (A 0)), (1, .long v1)]) S.1 S.2.1 dX3_digest_132 rfl hl (by decide) rfl (fun ls hl => ?_)
        exact B133  64 w108 v1 0 hf G108 hI hFr _ _ _ hW (lv_sub hl [1, 2, 0] rfl)
      · have hf := (if_neg c63).symm.trans hf
        refine lv_lload_n S.1 S.2.1 dX3_digest_112 rfl (lv_at hl 1 rfl) ?_
        refine lv_aload_n S.1 S.2.1 dX3_digest_113 rfl (lv_at hl 0 rfl) ?_
        refine pk_get S hK hW 2 (hI.mem 0 (by decide)) hI.this rfl hinX3 (by decide) wd_82 rfl dX3_digest_114 ?_
        refine lv_iload_n S.1 S.2.1 dX3_digest_117 rfl (lv_at hl 2 rfl) ?_
        obtain ⟨z64, hz, hf⟩ := ob hf
        refine pk_cVI (As := [.int v3]) (rest := [.long v1]) S hK hST hW (c_X0_read (hI.row (by decide : 2 < 7)) v3 hz) mc_X0_read wd_171 wd_120 wd_121 rfl np_X0_read (hI.mem _ (by have := (by decide : 2 < 7); omega)) (hI.rowH (by decide : 2 < 7)) rfl rfl hl.1 rfl (Nat.le_of_ble_eq_true rfl) dX3_digest_118 ⟨by decide, by decide⟩ ⟨by decide, by decide⟩ (fun r L65 F66 H67 l68 hp hW => ?_)
        obtain ⟨rfl, rfl, rfl⟩ := hp
        obtain ⟨z69, hz, hf⟩ := ob hf
        refine pk_cSJ (As := [.long v1, .int z64]) (rest := []) S hK hST hW (c_X3_with  v1 z64 hz) mc_X3_with wd_285 wd_286 np_X3_with rfl hl.1 rfl (Nat.le_of_ble_eq_true rfl) dX3_digest_121 ⟨by decide, by decide⟩ ⟨by decide, by decide⟩ (fun r L70 F71 H72 l73 hp hW => ?_)
        obtain ⟨rfl, rfl, rfl⟩ := hp
        refine lv_lstore_n (lv' := [(1, .long z69), (0, .ref (A 0)), (3, .int v3)]) S.1 S.2.1 dX3_digest_124 rfl hl (by decide) rfl (fun ls hl => ?_)
        obtain ⟨y74, ey74⟩ : ∃ y : Int32, y = v3 + (-1) := ⟨_, rfl⟩
        have hf := nm_at hf ey74
        refine lv_iinc (v := y74) (lv' := [(3, .int y74), (1, .long z69), (0, .ref (A 0))]) S.1 S.2.1 dX3_digest_125 hl (k := 2) rfl (by rw [ey74]; rfl) (by decide) rfl (fun ls hl => ?_)
        refine lv_goto (tgt := 108) S.1 S.2.1 dX3_digest_128 (by decide) ?_
        exact hk108 w108 z69 y74 hf G108 hI hFr _ _ _ hW (lv_sub hl [2, 1, 0] rfl)
  have B76 : ∀ (N : Nat), (∀ (w76 : CS) (v1 : Int64) (v3 : Int32), (lpn (f_X3_digest_76 ) N) (w76, v1, v3) = some res → ∀ (G76 : Nat → va_E), CI κ A w76 L G76 → FrA A F G76 → ∀ (H76 : Heap) (l76 : List Loc) (ls : Array Slot), HW D cls L s H76 l76 L G76 → lv_has ls 4 [(0, .ref (A 0)), (1, .long v1), (3, .int v3)] → W p l e (Rm 7 0 0) s m ([.ref (A 0)] : List Value).toArray below meth c H76 l76 0 0 (EnJ D cls s below ([.ref (A 0)] : List Value).toArray 0 0 L (fun r L' F' => L = L' ∧ res.1 = r ∧ CI κ A res.2 L F' ∧ FrA A F F')) (F0 m 76 ls [])) := by
    intro  N
    induction N with
    | zero => intro w76 v1 v3 hf G76 hI hFr H76 l76 ls hW hl; cases hf
    | succ N ih =>
      intro w76 v1 v3 hf G76 hI hFr H76 l76 ls hW hl
      have hf : f_X3_digest_76 (lpn (f_X3_digest_76 ) N) (w76, v1, v3) = some res := hf
      generalize lpn (f_X3_digest_76 ) N = k76 at hf ih
      have hk76 := ih
      unfold f_X3_digest_76 at hf
      try dsimp only at hf
      refine lv_iload_n S.1 S.2.1 dX3_digest_76 rfl (lv_at hl 2 rfl) ?_
      refine lv_bipush (v := 7) S.1 S.2.1 dX3_digest_77 (by decide) ?_
      refine lv_icmp_gt (tgt := 98) S.1 S.2.1 dX3_digest_79 (by decide) (fun c75 => ?_) (fun c75 => ?_)
      · have hf := (if_pos c75).symm.trans hf
        refine lv_aload_n S.1 S.2.1 dX3_digest_98 rfl (lv_at hl 0 rfl) ?_
        refine pk_get S hK hW 2 (hI.mem 0 (by decide)) hI.this rfl hinX3 (by decide) wd_82 rfl dX3_digest_99 ?_
        obtain ⟨z76, hz, hf⟩ := ob hf
        refine pk_cVI (As := []) (rest := []) S hK hST hW (c_X0_size (hI.row (by decide : 2 < 7))  hz) mc_X0_size wd_140 wd_141 wd_142 rfl np_X0_size (hI.mem _ (by have := (by decide : 2 < 7); omega)) (hI.rowH (by decide : 2 < 7)) rfl rfl hl.1 rfl (Nat.le_of_ble_eq_true rfl) dX3_digest_102 ⟨by decide, by decide⟩ ⟨by decide, by decide⟩ (fun r L77 F78 H79 l80 hp hW => ?_)
        obtain ⟨rfl, rfl, rfl⟩ := hp
        refine lv_iconst (v := 1) S.1 S.2.1 dX3_digest_105 (by decide) ?_
        refine lv_isub S.1 S.2.1 dX3_digest_106 ?_
        refine lv_topi (fun y81 ey81 => ?_)
        have hf := nm_at hf ey81
        refine lv_istore_n (lv' := [(3, .int y81), (0, .ref (A 0)), (1, .long v1)]) S.1 S.2.1 dX3_digest_107 rfl hl (by decide) rfl (fun ls hl => ?_)
        exact B108  64 w76 v1 y81 hf G76 hI hFr _ _ _ hW (lv_sub hl [1, 2, 0] rfl)
      · have hf := (if_neg c75).symm.trans hf
        refine lv_lload_n S.1 S.2.1 dX3_digest_82 rfl (lv_at hl 1 rfl) ?_
        refine lv_aload_n S.1 S.2.1 dX3_digest_83 rfl (lv_at hl 0 rfl) ?_
        refine lv_iload_n S.1 S.2.1 dX3_digest_84 rfl (lv_at hl 2 rfl) ?_
        obtain ⟨z82, hz, hf⟩ := ob hf
        refine pk_cVI (As := [.int v3]) (rest := [.long v1]) S hK hST hW (c_X3_factOfYard hI v3 hz) mc_X3_factOfYard wd_324 wd_326 wd_1682 rfl np_X3_factOfYard (hI.mem 0 (by decide)) hI.this rfl rfl hl.1 rfl (Nat.le_of_ble_eq_true rfl) dX3_digest_85 ⟨by decide, by decide⟩ ⟨by decide, by decide⟩ (fun r L83 F84 H85 l86 hp hW => ?_)
        obtain ⟨rfl, rfl, rfl⟩ := hp
        obtain ⟨z87, hz, hf⟩ := ob hf
        refine pk_cSJ (As := [.long v1, .int z82]) (rest := []) S hK hST hW (c_X3_with  v1 z82 hz) mc_X3_with wd_285 wd_286 np_X3_with rfl hl.1 rfl (Nat.le_of_ble_eq_true rfl) dX3_digest_88 ⟨by decide, by decide⟩ ⟨by decide, by decide⟩ (fun r L88 F89 H90 l91 hp hW => ?_)
        obtain ⟨rfl, rfl, rfl⟩ := hp
        refine lv_lstore_n (lv' := [(1, .long z87), (0, .ref (A 0)), (3, .int v3)]) S.1 S.2.1 dX3_digest_91 rfl hl (by decide) rfl (fun ls hl => ?_)
        obtain ⟨y92, ey92⟩ : ∃ y : Int32, y = v3 + 1 := ⟨_, rfl⟩
        have hf := nm_at hf ey92
        refine lv_iinc (v := y92) (lv' := [(3, .int y92), (1, .long z87), (0, .ref (A 0))]) S.1 S.2.1 dX3_digest_92 hl (k := 2) rfl (by rw [ey92]; rfl) (by decide) rfl (fun ls hl => ?_)
        refine lv_goto (tgt := 76) S.1 S.2.1 dX3_digest_95 (by decide) ?_
        exact hk76 w76 z87 y92 hf G76 hI hFr _ _ _ hW (lv_sub hl [2, 1, 0] rfl)
  have B20 : ∀ (N : Nat), (∀ (w20 : CS) (v1 : Int64) (v3 : Int32), (lpn (f_X3_digest_20 ) N) (w20, v1, v3) = some res → ∀ (G20 : Nat → va_E), CI κ A w20 L G20 → FrA A F G20 → ∀ (H20 : Heap) (l20 : List Loc) (ls : Array Slot), HW D cls L s H20 l20 L G20 → lv_has ls 4 [(0, .ref (A 0)), (1, .long v1), (3, .int v3)] → W p l e (Rm 7 0 0) s m ([.ref (A 0)] : List Value).toArray below meth c H20 l20 0 0 (EnJ D cls s below ([.ref (A 0)] : List Value).toArray 0 0 L (fun r L' F' => L = L' ∧ res.1 = r ∧ CI κ A res.2 L F' ∧ FrA A F F')) (F0 m 20 ls [])) := by
    intro  N
    induction N with
    | zero => intro w20 v1 v3 hf G20 hI hFr H20 l20 ls hW hl; cases hf
    | succ N ih =>
      intro w20 v1 v3 hf G20 hI hFr H20 l20 ls hW hl
      have hf : f_X3_digest_20 (lpn (f_X3_digest_20 ) N) (w20, v1, v3) = some res := hf
      generalize lpn (f_X3_digest_20 ) N = k20 at hf ih
      have hk20 := ih
      unfold f_X3_digest_20 at hf
      try dsimp only at hf
      refine lv_iload_n S.1 S.2.1 dX3_digest_20 rfl (lv_at hl 2 rfl) ?_
      refine lv_bipush (v := 9) S.1 S.2.1 dX3_digest_21 (by decide) ?_
      refine lv_icmp_gt (tgt := 60) S.1 S.2.1 dX3_digest_23 (by decide) (fun c93 => ?_) (fun c93 => ?_)
      · have hf := (if_pos c93).symm.trans hf
        refine lv_aload_n S.1 S.2.1 dX3_digest_60 rfl (lv_at hl 0 rfl) ?_
        refine lv_lload_n S.1 S.2.1 dX3_digest_61 rfl (lv_at hl 1 rfl) ?_
        refine lv_iconst (v := 0) S.1 S.2.1 dX3_digest_62 (by decide) ?_
        obtain ⟨z94, hz, hf⟩ := ob hf
        refine pk_cVJ (As := [.long v1, .int 0]) (rest := []) S hK hST hW (c_X3_withWalker hI v1 0 hz) mc_X3_withWalker wd_312 wd_314 wd_1679 rfl np_X3_withWalker (hI.mem 0 (by decide)) hI.this rfl rfl hl.1 rfl (Nat.le_of_ble_eq_true rfl) dX3_digest_63 ⟨by decide, by decide⟩ ⟨by decide, by decide⟩ (fun r L95 F96 H97 l98 hp hW => ?_)
        obtain ⟨rfl, rfl, rfl⟩ := hp
        refine lv_lstore_n (lv' := [(1, .long z94), (0, .ref (A 0)), (3, .int v3)]) S.1 S.2.1 dX3_digest_66 rfl hl (by decide) rfl (fun ls hl => ?_)
        refine lv_aload_n S.1 S.2.1 dX3_digest_67 rfl (lv_at hl 1 rfl) ?_
        refine lv_lload_n S.1 S.2.1 dX3_digest_68 rfl (lv_at hl 0 rfl) ?_
        refine lv_iconst (v := 1) S.1 S.2.1 dX3_digest_69 (by decide) ?_
        obtain ⟨z99, hz, hf⟩ := ob hf
        refine pk_cVJ (As := [.long z94, .int 1]) (rest := []) S hK hST hW (c_X3_withWalker hI z94 1 hz) mc_X3_withWalker wd_312 wd_314 wd_1679 rfl np_X3_withWalker (hI.mem 0 (by decide)) hI.this rfl rfl hl.1 rfl (Nat.le_of_ble_eq_true rfl) dX3_digest_70 ⟨by decide, by decide⟩ ⟨by decide, by decide⟩ (fun r L100 F101 H102 l103 hp hW => ?_)
        obtain ⟨rfl, rfl, rfl⟩ := hp
        refine lv_lstore_n (lv' := [(1, .long z99), (0, .ref (A 0)), (3, .int v3)]) S.1 S.2.1 dX3_digest_73 rfl hl (by decide) rfl (fun ls hl => ?_)
        refine lv_iconst (v := 0) S.1 S.2.1 dX3_digest_74 (by decide) ?_
        refine lv_istore_n (lv' := [(3, .int 0), (1, .long z99), (0, .ref (A 0))]) S.1 S.2.1 dX3_digest_75 rfl hl (by decide) rfl (fun ls hl => ?_)
        exact B76  64 w20 z99 0 hf G20 hI hFr _ _ _ hW (lv_sub hl [2, 1, 0] rfl)
      · have hf := (if_neg c93).symm.trans hf
        refine lv_lload_n S.1 S.2.1 dX3_digest_26 rfl (lv_at hl 1 rfl) ?_
        refine lv_aload_n S.1 S.2.1 dX3_digest_27 rfl (lv_at hl 0 rfl) ?_
        refine pk_get S hK hW 1 (hI.mem 0 (by decide)) hI.this rfl hinX3 (by decide) wd_81 rfl dX3_digest_28 ?_
        refine lv_iload_n S.1 S.2.1 dX3_digest_31 rfl (lv_at hl 2 rfl) ?_
        refine lv_iconst (v := 0) S.1 S.2.1 dX3_digest_32 (by decide) ?_
        obtain ⟨z104, hz, hf⟩ := ob hf
        refine pk_cVI (As := [.int v3, .int 0]) (rest := [.long v1]) S hK hST hW (c_X0_placeOfKind (hI.row (by decide : 1 < 7)) v3 0 hz) mc_X0_placeOfKind wd_178 wd_179 wd_180 rfl np_X0_placeOfKind (hI.mem _ (by have := (by decide : 1 < 7); omega)) (hI.rowH (by decide : 1 < 7)) rfl rfl hl.1 rfl (Nat.le_of_ble_eq_true rfl) dX3_digest_33 ⟨by decide, by decide⟩ ⟨by decide, by decide⟩ (fun r L105 F106 H107 l108 hp hW => ?_)
        obtain ⟨rfl, rfl, rfl⟩ := hp
        obtain ⟨z109, hz, hf⟩ := ob hf
        refine pk_cSJ (As := [.long v1, .int z104]) (rest := []) S hK hST hW (c_X3_with  v1 z104 hz) mc_X3_with wd_285 wd_286 np_X3_with rfl hl.1 rfl (Nat.le_of_ble_eq_true rfl) dX3_digest_36 ⟨by decide, by decide⟩ ⟨by decide, by decide⟩ (fun r L110 F111 H112 l113 hp hW => ?_)
        obtain ⟨rfl, rfl, rfl⟩ := hp
        refine lv_lstore_n (lv' := [(1, .long z109), (0, .ref (A 0)), (3, .int v3)]) S.1 S.2.1 dX3_digest_39 rfl hl (by decide) rfl (fun ls hl => ?_)
        refine lv_lload_n S.1 S.2.1 dX3_digest_40 rfl (lv_at hl 0 rfl) ?_
        refine lv_aload_n S.1 S.2.1 dX3_digest_41 rfl (lv_at hl 1 rfl) ?_
        refine pk_get S hK hW 1 (hI.mem 0 (by decide)) hI.this rfl hinX3 (by decide) wd_81 rfl dX3_digest_42 ?_
        refine lv_iload_n S.1 S.2.1 dX3_digest_45 rfl (lv_at hl 2 rfl) ?_
        refine lv_iconst (v := 1) S.1 S.2.1 dX3_digest_46 (by decide) ?_
        obtain ⟨z114, hz, hf⟩ := ob hf
        refine pk_cVI (As := [.int v3, .int 1]) (rest := [.long z109]) S hK hST hW (c_X0_placeOfKind (hI.row (by decide : 1 < 7)) v3 1 hz) mc_X0_placeOfKind wd_178 wd_179 wd_180 rfl np_X0_placeOfKind (hI.mem _ (by have := (by decide : 1 < 7); omega)) (hI.rowH (by decide : 1 < 7)) rfl rfl hl.1 rfl (Nat.le_of_ble_eq_true rfl) dX3_digest_47 ⟨by decide, by decide⟩ ⟨by decide, by decide⟩ (fun r L115 F116 H117 l118 hp hW => ?_)
        obtain ⟨rfl, rfl, rfl⟩ := hp
        obtain ⟨z119, hz, hf⟩ := ob hf
        refine pk_cSJ (As := [.long z109, .int z114]) (rest := []) S hK hST hW (c_X3_with  z109 z114 hz) mc_X3_with wd_285 wd_286 np_X3_with rfl hl.1 rfl (Nat.le_of_ble_eq_true rfl) dX3_digest_50 ⟨by decide, by decide⟩ ⟨by decide, by decide⟩ (fun r L120 F121 H122 l123 hp hW => ?_)
        obtain ⟨rfl, rfl, rfl⟩ := hp
        refine lv_lstore_n (lv' := [(1, .long z119), (0, .ref (A 0)), (3, .int v3)]) S.1 S.2.1 dX3_digest_53 rfl hl (by decide) rfl (fun ls hl => ?_)
        obtain ⟨y124, ey124⟩ : ∃ y : Int32, y = v3 + 1 := ⟨_, rfl⟩
        have hf := nm_at hf ey124
        refine lv_iinc (v := y124) (lv' := [(3, .int y124), (1, .long z119), (0, .ref (A 0))]) S.1 S.2.1 dX3_digest_54 hl (k := 2) rfl (by rw [ey124]; rfl) (by decide) rfl (fun ls hl => ?_)
        refine lv_goto (tgt := 20) S.1 S.2.1 dX3_digest_57 (by decide) ?_
        exact hk20 w20 z119 y124 hf G20 hI hFr _ _ _ hW (lv_sub hl [2, 1, 0] rfl)
  unfold f_X3_digest at hf
  refine lv_ldc2 (v := 8317) S.1 S.2.1 S.2.2.2.1 (S.2.2.2.2 _ wd_264) dX3_digest_0 ?_
  refine lv_lstore_n (lv' := [(1, .long 8317), (0, .ref (A 0))]) S.1 S.2.1 dX3_digest_3 rfl hl (by decide) rfl (fun ls hl => ?_)
  refine lv_aload_n S.1 S.2.1 dX3_digest_4 rfl (lv_at hl 1 rfl) ?_
  refine lv_lload_n S.1 S.2.1 dX3_digest_5 rfl (lv_at hl 0 rfl) ?_
  refine lv_iconst (v := 0) S.1 S.2.1 dX3_digest_6 (by decide) ?_
  obtain ⟨z125, hz, hf⟩ := ob hf
  refine pk_cVJ (As := [.long 8317, .int 0]) (rest := []) S hK hST hW (c_X3_withTrack hI 8317 0 hz) mc_X3_withTrack wd_265 wd_267 wd_1673 rfl np_X3_withTrack (hI.mem 0 (by decide)) hI.this rfl rfl hl.1 rfl (Nat.le_of_ble_eq_true rfl) dX3_digest_7 ⟨by decide, by decide⟩ ⟨by decide, by decide⟩ (fun r L126 F127 H128 l129 hp hW => ?_)
  obtain ⟨rfl, rfl, hI1, hFr1⟩ := hp
  have hI := hI1
  have hFr := hFr.tr hFr1
  refine lv_lstore_n (lv' := [(1, .long z125.1), (0, .ref (A 0))]) S.1 S.2.1 dX3_digest_10 rfl hl (by decide) rfl (fun ls hl => ?_)
  refine lv_aload_n S.1 S.2.1 dX3_digest_11 rfl (lv_at hl 1 rfl) ?_
  refine lv_lload_n S.1 S.2.1 dX3_digest_12 rfl (lv_at hl 0 rfl) ?_
  refine lv_iconst (v := 1) S.1 S.2.1 dX3_digest_13 (by decide) ?_
  obtain ⟨z130, hz, hf⟩ := ob hf
  refine pk_cVJ (As := [.long z125.1, .int 1]) (rest := []) S hK hST hW (c_X3_withTrack hI z125.1 1 hz) mc_X3_withTrack wd_265 wd_267 wd_1673 rfl np_X3_withTrack (hI.mem 0 (by decide)) hI.this rfl rfl hl.1 rfl (Nat.le_of_ble_eq_true rfl) dX3_digest_14 ⟨by decide, by decide⟩ ⟨by decide, by decide⟩ (fun r L131 F132 H133 l134 hp hW => ?_)
  obtain ⟨rfl, rfl, hI1, hFr1⟩ := hp
  have hI := hI1
  have hFr := hFr.tr hFr1
  refine lv_lstore_n (lv' := [(1, .long z130.1), (0, .ref (A 0))]) S.1 S.2.1 dX3_digest_17 rfl hl (by decide) rfl (fun ls hl => ?_)
  refine lv_iconst (v := 0) S.1 S.2.1 dX3_digest_18 (by decide) ?_
  refine lv_istore_n (lv' := [(3, .int 0), (1, .long z130.1), (0, .ref (A 0))]) S.1 S.2.1 dX3_digest_19 rfl hl (by decide) rfl (fun ls hl => ?_)
  exact B20  64 z130.2 z130.1 0 hf F132 hI hFr _ _ _ hW (lv_sub hl [2, 1, 0] rfl)
