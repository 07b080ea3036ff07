section
def f_X6_order_41   (w41 : MS) (v1 : Int32) (u1 : Int32) : Option (Int32 × MS) := (f_X6_refuse w41 u1 2).bind fun z5 => (if z5.1 = 0 then (ladd (z5.2.1 3) v1).bind fun z16 => nm ((va_up z5.2.1 3 z16, z5.2.2) : MS) fun t18 => some (nI (t18.1 3).length, t18) else some (0, z5.2))
def f_X6_order_16 (τ : MS)  (v1 : Int32) (u1 : Int32) : Option (Int32 × MS) := (f_X6_start τ u1 1).bind fun z27 => (if z27.1 = 0 then (if (nI (z27.2.1 3).length) = 10 then f_X6_order_41 z27.2 v1 1 else f_X6_order_41 z27.2 v1 0) else some (0, z27.2))
def f_X6_order (τ : MS) (x1 : Int32) : Option (Int32 × MS) := (f_X6_isIn x1 0 7).bind fun z38 => (if z38 = 0 then f_X6_order_16 τ x1 1 else f_X6_order_16 τ x1 0)
theorem mc_X6_order : MCode yX6_order cX6_order 2 (some .int) := ⟨wd_1508, wd_5, by decide, by decide⟩
theorem np_X6_order : (parseMethodDescriptor yX6_order.desc).map (fun d => d.parameters.length) = some 1 := by decide +kernel
set_option maxHeartbeats 4000000 in
set_option maxRecDepth 100000 in
theorem c_X6_order {l : Launch} {D : va_G} {κ : Nat → ClassId} {ζ : Nat → Nat} {L : List Nat} {F : Nat → va_E} {τ : MS} {B : Nat → Nat} (hI : MI κ ζ B τ L F) (x1 : Int32) {res : (Int32 × MS)} (hf : f_X6_order τ x1 = some res) : MtI l D cls (ty5 κ) ζ yX6_order cX6_order 2 (some .int) 8 2 66 ([.ref (B 0), .int x1] : List Value) L F (fun r L' F' => res.1 = r ∧ MI κ ζ B res.2 L' F' ∧ FrM L F L' F') := by
  refine MtI.of (by decide) (Nat.le_of_ble_eq_true rfl) ?_
  intro p e s m below meth c S hr hlk _ hK hW hST ls hl
  have hl : lv_has ls 2 [(0, .ref (B 0)), (1, .int x1)] := hl
  have hFr : FrM L F L F := FrM.rf
  have B41 : ∀  (w41 : MS) (v1 : Int32) (u1 : Int32), f_X6_order_41 w41 v1 u1 = some res → ∀ (K41 : List Nat) (G41 : Nat → va_E), MI κ ζ B w41 K41 G41 → FrM L F K41 G41 → ∀ (H41 : Heap) (l41 : List Loc) (ls : Array Slot) (cc ss : Nat), HW D cls L s H41 l41 K41 G41 → cc + (2) ≤ 2 → ss ≤ 33 * cc → lv_has ls 2 [(0, .ref (B 0)), (1, .int v1)] → W p l e (Rm 8 2 66) s m ([.ref (B 0), .int x1] : List Value).toArray below meth c H41 l41 cc ss (EnI D cls s below ([.ref (B 0), .int x1] : List Value).toArray 2 66 L (fun r L' F' => res.1 = r ∧ MI κ ζ B res.2 L' F' ∧ FrM L F L' F')) (F0 m 41 ls [.int u1, .ref (B 0)]) := by
    intro  w41 v1 u1 hf K41 G41 hI hFr H41 l41 ls cc ss hW hcc hss hl
    unfold f_X6_order_41 at hf
    refine lv_iconst (v := 2) S.1 S.2.1 dX6_order_41 (by decide) ?_
    obtain ⟨z5, hz, hf⟩ := ob hf
    refine pk_cVI (As := [.int u1, .int 2]) (rest := []) S hK hST hW (c_X6_refuse hI u1 2 hz) mc_X6_refuse wd_1192 wd_1194 wd_1702 rfl np_X6_refuse (hI.mem (by decide)) hI.this rfl rfl hl.1 rfl (Nat.le_of_ble_eq_true rfl) dX6_order_42 ⟨by decide, by decide⟩ ⟨rmc (by omega), rms (by omega)⟩ (fun r L1 F2 H3 l4 hp hW => ?_)
    obtain ⟨rfl, hI, hF9⟩ := hp
    have hFr := hFr.tr hF9
    refine lv_if_eq (tgt := 50) S.1 S.2.1 dX6_order_45 (by decide) (fun c6 => ?_) (fun c6 => ?_)
    · have hf := (if_pos c6).symm.trans hf
      refine lv_aload_n S.1 S.2.1 dX6_order_50 rfl (lv_at hl 0 rfl) ?_
      refine pk_get S hK hW 3 (hI.mem (by decide)) hI.this rfl hinX6 (by decide) wd_1158 rfl dX6_order_51 ?_
      refine lv_iload_n S.1 S.2.1 dX6_order_54 rfl (lv_at hl 1 rfl) ?_
      refine pk_cSR (As := [.int v1]) (rest := [.ref (B (3 + 3))]) S hK hST hW (c_J6_valueOf_2dffe (v := v1)) mc_J6_valueOf_2dffe wd_1233 wd_1234 np_J6_valueOf_2dffe rfl hl.1 rfl (Nat.le_of_ble_eq_true rfl) dX6_order_55 ⟨by decide, by decide⟩ ⟨rmc (by omega), rms (by omega)⟩ (fun y11 L7 F8 H9 l10 hp hW => ?_)
      obtain ⟨hs9, hby11, hf9⟩ := hp
      have hI := hI.keep0 hs9 hf9 (noE hW hST)
      have hF9 : FrM L1 F2 L7 F8 := ⟨hs9, fun x hx _ => hf9 x hx⟩
      have hFr := hFr.tr hF9
      obtain ⟨ar9, hL9, hup9⟩ := hI.list (by decide : 3 < 4)
      obtain ⟨m_h9, md9, e_h9⟩ := hL9.obj
      obtain ⟨z16, hz, hf⟩ := ob hf
      refine pk_cVI (As := [.ref y11]) (rest := []) S hK hST hW (c_madd hL9 hz hby11) mc_Jx4a65c_add_9ea2d wd_1108 wd_1109 wd_1110 rfl np_Jx4a65c_add_9ea2d m_h9 e_h9 rfl rfl hl.1 rfl (Nat.le_of_ble_eq_true rfl) dX6_order_58 ⟨by decide, by decide⟩ ⟨rmc (by omega), rms (by omega)⟩ (fun y17 L12 F13 H14 l15 hp hW => ?_)
      obtain ⟨ar8, hL8, hN8⟩ := hp
      obtain ⟨hI, hF9⟩ := hup9 _ _ _ _ hL8 hN8 (noE hW hST)
      have hFr := hFr.tr hF9
      obtain ⟨t18, et18, hf⟩ := nm_ok hf
      have hI := eqm (P := fun w => MI κ ζ B w L12 F13) hI et18.symm
      refine lv_pop S.1 S.2.1 dX6_order_61 rfl ?_
      refine lv_aload_n S.1 S.2.1 dX6_order_62 rfl (lv_at hl 0 rfl) ?_
      refine pk_get S hK hW 3 (hI.mem (by decide)) hI.this rfl hinX6 (by decide) wd_1158 rfl dX6_order_63 ?_
      obtain ⟨ar9, hL9, hup9⟩ := hI.list (by decide : 3 < 4)
      obtain ⟨m_h9, md9, e_h9⟩ := hL9.obj
      refine pk_cVI (As := []) (rest := []) S hK hST hW (c_lsize hL9) mc_Jx4a65c_size_8abf5 wd_1215 wd_1216 wd_1217 rfl np_Jx4a65c_size_8abf5 m_h9 e_h9 rfl rfl hl.1 rfl (Nat.le_of_ble_eq_true rfl) dX6_order_66 ⟨by decide, by decide⟩ ⟨rmc (by omega), rms (by omega)⟩ (fun r L19 F20 H21 l22 hp hW => ?_)
      obtain ⟨rfl, rfl, rfl⟩ := hp
      exact pk_iret S hr hlk hW (eqm (P := fun z => z.1 = nI (t18.1 3).length ∧ MI κ ζ B z.2 L12 F13 ∧ FrM L F L12 F13) ⟨rfl, hI, hFr⟩ (Option.some.inj hf)) (by omega) (by omega) dX6_order_69
    · have hf := (if_neg c6).symm.trans hf
      refine lv_iconst (v := 0) S.1 S.2.1 dX6_order_48 (by decide) ?_
      exact pk_iret S hr hlk hW (eqm (P := fun z => z.1 = 0 ∧ MI κ ζ B z.2 L1 F2 ∧ FrM L F L1 F2) ⟨rfl, hI, hFr⟩ (Option.some.inj hf)) (by omega) (by omega) dX6_order_49
  have B16 : ∀  (v1 : Int32) (u1 : Int32), f_X6_order_16 τ v1 u1 = some res → ∀ (H16 : Heap) (l16 : List Loc) (ls : Array Slot) (cc ss : Nat), HW D cls L s H16 l16 L F → cc + (2) ≤ 2 → ss ≤ 33 * cc → lv_has ls 2 [(0, .ref (B 0)), (1, .int v1)] → W p l e (Rm 8 2 66) s m ([.ref (B 0), .int x1] : List Value).toArray below meth c H16 l16 cc ss (EnI D cls s below ([.ref (B 0), .int x1] : List Value).toArray 2 66 L (fun r L' F' => res.1 = r ∧ MI κ ζ B res.2 L' F' ∧ FrM L F L' F')) (F0 m 16 ls [.int u1, .ref (B 0)]) := by
    intro  v1 u1 hf H16 l16 ls cc ss hW hcc hss hl
    unfold f_X6_order_16 at hf
    refine lv_iconst (v := 1) S.1 S.2.1 dX6_order_16 (by decide) ?_
    obtain ⟨z27, hz, hf⟩ := ob hf
    refine pk_cVI (As := [.int u1, .int 1]) (rest := []) S hK hST hW (c_X6_start hI u1 1 hz) mc_X6_start wd_1188 wd_1190 wd_1701 rfl np_X6_start (hI.mem (by decide)) hI.this rfl rfl hl.1 rfl (Nat.le_of_ble_eq_true rfl) dX6_order_17 ⟨by decide, by decide⟩ ⟨rmc (by omega), rms (by omega)⟩ (fun r L23 F24 H25 l26 hp hW => ?_)
    obtain ⟨rfl, hI, hF9⟩ := hp
    have hFr := hFr.tr hF9
    refine lv_if_ne (tgt := 48) S.1 S.2.1 dX6_order_20 (by decide) (fun c28 => ?_) (fun c28 => ?_)
    · have hf := (if_neg c28).symm.trans hf
      refine lv_iconst (v := 0) S.1 S.2.1 dX6_order_48 (by decide) ?_
      exact pk_iret S hr hlk hW (eqm (P := fun z => z.1 = 0 ∧ MI κ ζ B z.2 L23 F24 ∧ FrM L F L23 F24) ⟨rfl, hI, hFr⟩ (Option.some.inj hf)) (by omega) (by omega) dX6_order_49
    · have hf := (if_pos c28).symm.trans hf
      refine lv_aload_n S.1 S.2.1 dX6_order_23 rfl (lv_at hl 0 rfl) ?_
      refine lv_aload_n S.1 S.2.1 dX6_order_24 rfl (lv_at hl 0 rfl) ?_
      refine pk_get S hK hW 3 (hI.mem (by decide)) hI.this rfl hinX6 (by decide) wd_1158 rfl dX6_order_25 ?_
      obtain ⟨ar9, hL9, hup9⟩ := hI.list (by decide : 3 < 4)
      obtain ⟨m_h9, md9, e_h9⟩ := hL9.obj
      refine pk_cVI (As := []) (rest := [.ref (B 0)]) S hK hST hW (c_lsize hL9) mc_Jx4a65c_size_8abf5 wd_1215 wd_1216 wd_1217 rfl np_Jx4a65c_size_8abf5 m_h9 e_h9 rfl rfl hl.1 rfl (Nat.le_of_ble_eq_true rfl) dX6_order_28 ⟨by decide, by decide⟩ ⟨rmc (by omega), rms (by omega)⟩ (fun r L29 F30 H31 l32 hp hW => ?_)
      obtain ⟨rfl, rfl, rfl⟩ := hp
      refine lv_bipush (v := 10) S.1 S.2.1 dX6_order_31 (by decide) ?_
      refine lv_icmp_ne (tgt := 40) S.1 S.2.1 dX6_order_33 (by decide) (fun c33 => ?_) (fun c33 => ?_)
      · have hf := (if_neg c33).symm.trans hf
        refine lv_iconst (v := 0) S.1 S.2.1 dX6_order_40 (by decide) ?_
        exact B41  z27.2 v1 0 hf L23 F24 hI hFr _ _ _ _ _ hW (by omega) (by omega) (lv_sub hl [0, 1] rfl)
      · have hf := (if_pos c33).symm.trans hf
        refine lv_iconst (v := 1) S.1 S.2.1 dX6_order_36 (by decide) ?_
        refine lv_goto (tgt := 41) S.1 S.2.1 dX6_order_37 (by decide) ?_
        exact B41  z27.2 v1 1 hf L23 F24 hI hFr _ _ _ _ _ hW (by omega) (by omega) (lv_sub hl [0, 1] rfl)
  unfold f_X6_order at hf
  refine lv_aload_n S.1 S.2.1 dX6_order_0 rfl (lv_at hl 0 rfl) ?_
  refine lv_iload_n S.1 S.2.1 dX6_order_1 rfl (lv_at hl 1 rfl) ?_
  refine lv_iconst (v := 0) S.1 S.2.1 dX6_order_2 (by decide) ?_
  refine lv_bipush (v := 7) S.1 S.2.1 dX6_order_3 (by decide) ?_
  obtain ⟨z38, hz, hf⟩ := ob hf
  refine pk_cSI (As := [.int x1, .int 0, .int 7]) (rest := [.ref (B 0)]) S hK hST hW (c_X6_isIn  x1 0 7 hz) mc_X6_isIn wd_1185 wd_1186 np_X6_isIn rfl hl.1 rfl (Nat.le_of_ble_eq_true rfl) dX6_order_5 ⟨by decide, by decide⟩ ⟨rmc (by omega), rms (by omega)⟩ (fun r L34 F35 H36 l37 hp hW => ?_)
  obtain ⟨rfl, rfl, rfl⟩ := hp
  refine lv_if_ne (tgt := 15) S.1 S.2.1 dX6_order_8 (by decide) (fun c39 => ?_) (fun c39 => ?_)
  · have hf := (if_neg c39).symm.trans hf
    refine lv_iconst (v := 0) S.1 S.2.1 dX6_order_15 (by decide) ?_
    exact B16  x1 0 hf  _ _ _ _ _ hW (by omega) (by omega) (lv_sub hl [0, 1] rfl)
  · have hf := (if_pos c39).symm.trans hf
    refine lv_iconst (v := 1) S.1 S.2.1 dX6_order_11 (by decide) ?_
    refine lv_goto (tgt := 16) S.1 S.2.1 dX6_order_12 (by decide) ?_
    exact B16  x1 1 hf  _ _ _ _ _ hW (by omega) (by omega) (lv_sub hl [0, 1] rfl)
def f_X6_move_86 (τ : MS)  (v2 : Int32) (v3 : Int32) (u1 : Int32) (u2 : Int32) : Option (Int32 × MS) := (f_X6_stepOut τ v2 v3).bind fun z5 => (f_X6_stepIn z5.2 u1 u2 z5.1).bind fun z10 => some (1, z10)
def f_X6_move_59 (τ : MS)  (v1 : Int32) (v2 : Int32) (v3 : Int32) (u0 : Int32) (u2 : Int32) (u3 : Int32) : Option (Int32 × MS) := (f_X6_get τ u2 u3).bind fun z15 => (f_X6_isBarred u0 z15).bind fun z20 => (if z20 = 0 then (if (jrem v1 2) = 1 then f_X6_move_86 τ v2 v3 (1 - v2) 1 else f_X6_move_86 τ v2 v3 (1 - v2) 0) else some (0, τ))
def f_X6_move_18 (τ : MS)  (v1 : Int32) (v2 : Int32) (u0 : Int32) : Option (Int32 × MS) := (f_X6_size τ v2).bind fun z27 => (if z27 = 0 then some (0, τ) else (f_X6_size τ (1 - v2)).bind fun z33 => (if z33 = 20 then some (0, τ) else (if u0 = 0 then f_X6_move_59 τ v1 v2 u0 (1 - v2) v2 0 else (f_X6_size τ v2).bind fun z40 => f_X6_move_59 τ v1 v2 u0 (1 - v2) v2 (z40 - 1))))
def f_X6_move (τ : MS) (x1 : Int32) : Option (Int32 × MS) := nm (x1 / 4 : Int32) fun y41 => (if (jrem (x1 / 2) 2) = 1 then f_X6_move_18 τ x1 y41 1 else f_X6_move_18 τ x1 y41 0)
theorem mc_X6_move : MCode yX6_move cX6_move 4 (some .boolean) := ⟨wd_1516, wd_5, by decide, by decide⟩
theorem np_X6_move : (parseMethodDescriptor yX6_move.desc).map (fun d => d.parameters.length) = some 1 := by decide +kernel
set_option maxHeartbeats 4000000 in
set_option maxRecDepth 100000 in
theorem c_X6_move {l : Launch} {D : va_G} {κ : Nat → ClassId} {ζ : Nat → Nat} {L : List Nat} {F : Nat → va_E} {τ : MS} {B : Nat → Nat} (hI : MI κ ζ B τ L F) (x1 : Int32) {res : (Int32 × MS)} (hf : f_X6_move τ x1 = some res) : MtI l D cls (ty5 κ) ζ yX6_move cX6_move 4 (some .boolean) 10 6 198 ([.ref (B 0), .int x1] : List Value) L F (fun r L' F' => res.1 = r ∧ MI κ ζ B res.2 L' F' ∧ FrM L F L' F') := by
  refine MtI.of (by decide) (Nat.le_of_ble_eq_true rfl) ?_
  intro p e s m below meth c S hr hlk _ hK hW hST ls hl
  have hl : lv_has ls 4 [(0, .ref (B 0)), (1, .int x1)] := hl
  have hFr : FrM L F L F := FrM.rf
  have B86 : ∀  (v2 : Int32) (v3 : Int32) (u1 : Int32) (u2 : Int32), f_X6_move_86 τ v2 v3 u1 u2 = some res → ∀ (H86 : Heap) (l86 : List Loc) (ls : Array Slot) (cc ss : Nat), HW D cls L s H86 l86 L F → cc + (6) ≤ 6 → ss ≤ 33 * cc → lv_has ls 4 [(0, .ref (B 0)), (2, .int v2), (3, .int v3)] → W p l e (Rm 10 6 198) s m ([.ref (B 0), .int x1] : List Value).toArray below meth c H86 l86 cc ss (EnI D cls s below ([.ref (B 0), .int x1] : List Value).toArray 6 198 L (fun r L' F' => res.1 = r ∧ MI κ ζ B res.2 L' F' ∧ FrM L F L' F')) (F0 m 86 ls [.int u2, .int u1, .ref (B 0)]) := by
    intro  v2 v3 u1 u2 hf H86 l86 ls cc ss hW hcc hss hl
    unfold f_X6_move_86 at hf
    refine lv_aload_n S.1 S.2.1 dX6_move_86 rfl (lv_at hl 0 rfl) ?_
    refine lv_iload_n S.1 S.2.1 dX6_move_87 rfl (lv_at hl 1 rfl) ?_
    refine lv_iload_n S.1 S.2.1 dX6_move_88 rfl (lv_at hl 2 rfl) ?_
    obtain ⟨z5, hz, hf⟩ := ob hf
    refine pk_cVI (As := [.int v2, .int v3]) (rest := [.int u2, .int u1, .ref (B 0)]) S hK hST hW (c_X6_stepOut hI v2 v3 hz) mc_X6_stepOut wd_1325 wd_1327 wd_1713 rfl np_X6_stepOut (hI.mem (by decide)) hI.this rfl rfl hl.1 rfl (Nat.le_of_ble_eq_true rfl) dX6_move_89 ⟨by decide, by decide⟩ ⟨rmc (by omega), rms (by omega)⟩ (fun r L1 F2 H3 l4 hp hW => ?_)
    obtain ⟨rfl, hI, hF9⟩ := hp
    have hFr := hFr.tr hF9
    obtain ⟨z10, hz, hf⟩ := ob hf
    refine pk_cVV (As := [.int u1, .int u2, .int z5.1]) (rest := []) S hK hST hW (c_X6_stepIn hI u1 u2 z5.1 hz) mc_X6_stepIn wd_1225 wd_1227 wd_1704 rfl np_X6_stepIn (hI.mem (by decide)) hI.this rfl rfl hl.1 rfl (Nat.le_of_ble_eq_true rfl) dX6_move_92 ⟨by decide, by decide⟩ ⟨rmc (by omega), rms (by omega)⟩ (fun L6 F7 H8 l9 hp hW => ?_)
    obtain ⟨hI, hF9⟩ := hp
    have hFr := hFr.tr hF9
    refine lv_iconst (v := 1) S.1 S.2.1 dX6_move_95 (by decide) ?_
    exact pk_zret S hr hlk hW (by decide) (eqm (P := fun z => z.1 = 1 ∧ MI κ ζ B z.2 L6 F7 ∧ FrM L F L6 F7) ⟨rfl, hI, hFr⟩ (Option.some.inj hf)) (by omega) (by omega) dX6_move_96
  have B59 : ∀  (v1 : Int32) (v2 : Int32) (v3 : Int32) (u0 : Int32) (u2 : Int32) (u3 : Int32), f_X6_move_59 τ v1 v2 v3 u0 u2 u3 = some res → ∀ (H59 : Heap) (l59 : List Loc) (ls : Array Slot) (cc ss : Nat), HW D cls L s H59 l59 L F → cc + (6) ≤ 6 → ss ≤ 33 * cc → lv_has ls 4 [(0, .ref (B 0)), (1, .int v1), (2, .int v2), (3, .int v3)] → W p l e (Rm 10 6 198) s m ([.ref (B 0), .int x1] : List Value).toArray below meth c H59 l59 cc ss (EnI D cls s below ([.ref (B 0), .int x1] : List Value).toArray 6 198 L (fun r L' F' => res.1 = r ∧ MI κ ζ B res.2 L' F' ∧ FrM L F L' F')) (F0 m 59 ls [.int u3, .int u2, .ref (B 0), .int u0]) := by
    intro  v1 v2 v3 u0 u2 u3 hf H59 l59 ls cc ss hW hcc hss hl
    unfold f_X6_move_59 at hf
    obtain ⟨z15, hz, hf⟩ := ob hf
    refine pk_cVI (As := [.int u2, .int u3]) (rest := [.int u0]) S hK hST hW (c_X6_get hI u2 u3 hz) mc_X6_get wd_1299 wd_1301 wd_1711 rfl np_X6_get (hI.mem (by decide)) hI.this rfl rfl hl.1 rfl (Nat.le_of_ble_eq_true rfl) dX6_move_59 ⟨by decide, by decide⟩ ⟨rmc (by omega), rms (by omega)⟩ (fun r L11 F12 H13 l14 hp hW => ?_)
    obtain ⟨rfl, rfl, rfl⟩ := hp
    obtain ⟨z20, hz, hf⟩ := ob hf
    refine pk_cSI (As := [.int u0, .int z15]) (rest := []) S hK hST hW (c_X6_isBarred  u0 z15 hz) mc_X6_isBarred wd_1222 wd_1223 np_X6_isBarred rfl hl.1 rfl (Nat.le_of_ble_eq_true rfl) dX6_move_62 ⟨by decide, by decide⟩ ⟨rmc (by omega), rms (by omega)⟩ (fun r L16 F17 H18 l19 hp hW => ?_)
    obtain ⟨rfl, rfl, rfl⟩ := hp
    refine lv_if_eq (tgt := 70) S.1 S.2.1 dX6_move_65 (by decide) (fun c21 => ?_) (fun c21 => ?_)
    · have hf := (if_pos c21).symm.trans hf
      refine lv_aload_n S.1 S.2.1 dX6_move_70 rfl (lv_at hl 0 rfl) ?_
      refine lv_iconst (v := 1) S.1 S.2.1 dX6_move_71 (by decide) ?_
      refine lv_iload_n S.1 S.2.1 dX6_move_72 rfl (lv_at hl 2 rfl) ?_
      refine lv_isub S.1 S.2.1 dX6_move_73 ?_
      refine lv_iload_n S.1 S.2.1 dX6_move_74 rfl (lv_at hl 1 rfl) ?_
      refine lv_iconst (v := 2) S.1 S.2.1 dX6_move_75 (by decide) ?_
      refine pk_irem S dX6_move_76 (by decide) ?_
      refine lv_iconst (v := 1) S.1 S.2.1 dX6_move_77 (by decide) ?_
      refine lv_icmp_ne (tgt := 85) S.1 S.2.1 dX6_move_78 (by decide) (fun c22 => ?_) (fun c22 => ?_)
      · have hf := (if_neg c22).symm.trans hf
        refine lv_iconst (v := 0) S.1 S.2.1 dX6_move_85 (by decide) ?_
        exact B86  v2 v3 (1 - v2) 0 hf  _ _ _ _ _ hW (by omega) (by omega) (lv_sub hl [0, 2, 3] rfl)
      · have hf := (if_pos c22).symm.trans hf
        refine lv_iconst (v := 1) S.1 S.2.1 dX6_move_81 (by decide) ?_
        refine lv_goto (tgt := 86) S.1 S.2.1 dX6_move_82 (by decide) ?_
        exact B86  v2 v3 (1 - v2) 1 hf  _ _ _ _ _ hW (by omega) (by omega) (lv_sub hl [0, 2, 3] rfl)
    · have hf := (if_neg c21).symm.trans hf
      refine lv_iconst (v := 0) S.1 S.2.1 dX6_move_68 (by decide) ?_
      exact pk_zret S hr hlk hW (by decide) (eqm (P := fun z => z.1 = 0 ∧ MI κ ζ B z.2 L F ∧ FrM L F L F) ⟨rfl, hI, hFr⟩ (Option.some.inj hf)) (by omega) (by omega) dX6_move_69
  have B18 : ∀  (v1 : Int32) (v2 : Int32) (u0 : Int32), f_X6_move_18 τ v1 v2 u0 = some res → ∀ (H18 : Heap) (l18 : List Loc) (ls : Array Slot) (cc ss : Nat), HW D cls L s H18 l18 L F → cc + (6) ≤ 6 → ss ≤ 33 * cc → lv_has ls 4 [(0, .ref (B 0)), (1, .int v1), (2, .int v2)] → W p l e (Rm 10 6 198) s m ([.ref (B 0), .int x1] : List Value).toArray below meth c H18 l18 cc ss (EnI D cls s below ([.ref (B 0), .int x1] : List Value).toArray 6 198 L (fun r L' F' => res.1 = r ∧ MI κ ζ B res.2 L' F' ∧ FrM L F L' F')) (F0 m 18 ls [.int u0]) := by
    intro  v1 v2 u0 hf H18 l18 ls cc ss hW hcc hss hl
    unfold f_X6_move_18 at hf
    refine lv_istore_n (lv' := [(3, .int u0), (0, .ref (B 0)), (1, .int v1), (2, .int v2)]) S.1 S.2.1 dX6_move_18 rfl hl (by decide) rfl (fun ls hl => ?_)
    refine lv_aload_n S.1 S.2.1 dX6_move_19 rfl (lv_at hl 1 rfl) ?_
    refine lv_iload_n S.1 S.2.1 dX6_move_20 rfl (lv_at hl 3 rfl) ?_
    obtain ⟨z27, hz, hf⟩ := ob hf
    refine pk_cVI (As := [.int v2]) (rest := []) S hK hST hW (c_X6_size hI v2 hz) mc_X6_size wd_1199 wd_1201 wd_1703 rfl np_X6_size (hI.mem (by decide)) hI.this rfl rfl hl.1 rfl (Nat.le_of_ble_eq_true rfl) dX6_move_21 ⟨by decide, by decide⟩ ⟨rmc (by omega), rms (by omega)⟩ (fun r L23 F24 H25 l26 hp hW => ?_)
    obtain ⟨rfl, rfl, rfl⟩ := hp
    refine lv_if_eq (tgt := 68) S.1 S.2.1 dX6_move_24 (by decide) (fun c28 => ?_) (fun c28 => ?_)
    · have hf := (if_pos c28).symm.trans hf
      refine lv_iconst (v := 0) S.1 S.2.1 dX6_move_68 (by decide) ?_
      exact pk_zret S hr hlk hW (by decide) (eqm (P := fun z => z.1 = 0 ∧ MI κ ζ B z.2 L F ∧ FrM L F L F) ⟨rfl, hI, hFr⟩ (Option.some.inj hf)) (by omega) (by omega) dX6_move_69
    · have hf := (if_neg c28).symm.trans hf
      refine lv_aload_n S.1 S.2.1 dX6_move_27 rfl (lv_at hl 1 rfl) ?_
      refine lv_iconst (v := 1) S.1 S.2.1 dX6_move_28 (by decide) ?_
      refine lv_iload_n S.1 S.2.1 dX6_move_29 rfl (lv_at hl 3 rfl) ?_
      refine lv_isub S.1 S.2.1 dX6_move_30 ?_
      obtain ⟨z33, hz, hf⟩ := ob hf
      refine pk_cVI (As := [.int (1 - v2)]) (rest := []) S hK hST hW (c_X6_size hI (1 - v2) hz) mc_X6_size wd_1199 wd_1201 wd_1703 rfl np_X6_size (hI.mem (by decide)) hI.this rfl rfl hl.1 rfl (Nat.le_of_ble_eq_true rfl) dX6_move_31 ⟨by decide, by decide⟩ ⟨rmc (by omega), rms (by omega)⟩ (fun r L29 F30 H31 l32 hp hW => ?_)
      obtain ⟨rfl, rfl, rfl⟩ := hp
      refine lv_bipush (v := 20) S.1 S.2.1 dX6_move_34 (by decide) ?_
      refine lv_icmp_eq (tgt := 68) S.1 S.2.1 dX6_move_36 (by decide) (fun c34 => ?_) (fun c34 => ?_)
      · have hf := (if_pos c34).symm.trans hf
        refine lv_iconst (v := 0) S.1 S.2.1 dX6_move_68 (by decide) ?_
        exact pk_zret S hr hlk hW (by decide) (eqm (P := fun z => z.1 = 0 ∧ MI κ ζ B z.2 L F ∧ FrM L F L F) ⟨rfl, hI, hFr⟩ (Option.some.inj hf)) (by omega) (by omega) dX6_move_69
      · have hf := (if_neg c34).symm.trans hf
        refine lv_iconst (v := 1) S.1 S.2.1 dX6_move_39 (by decide) ?_
        refine lv_iload_n S.1 S.2.1 dX6_move_40 rfl (lv_at hl 3 rfl) ?_
        refine lv_isub S.1 S.2.1 dX6_move_41 ?_
        refine lv_aload_n S.1 S.2.1 dX6_move_42 rfl (lv_at hl 1 rfl) ?_
        refine lv_iload_n S.1 S.2.1 dX6_move_43 rfl (lv_at hl 3 rfl) ?_
        refine lv_iload_n S.1 S.2.1 dX6_move_44 rfl (lv_at hl 0 rfl) ?_
        refine lv_if_eq (tgt := 58) S.1 S.2.1 dX6_move_45 (by decide) (fun c35 => ?_) (fun c35 => ?_)
        · have hf := (if_pos c35).symm.trans hf
          refine lv_iconst (v := 0) S.1 S.2.1 dX6_move_58 (by decide) ?_
          exact B59  v1 v2 u0 (1 - v2) v2 0 hf  _ _ _ _ _ hW (by omega) (by omega) (lv_sub hl [1, 2, 3, 0] rfl)
        · have hf := (if_neg c35).symm.trans hf
          refine lv_aload_n S.1 S.2.1 dX6_move_48 rfl (lv_at hl 1 rfl) ?_
          refine lv_iload_n S.1 S.2.1 dX6_move_49 rfl (lv_at hl 3 rfl) ?_
          obtain ⟨z40, hz, hf⟩ := ob hf
          refine pk_cVI (As := [.int v2]) (rest := [.int v2, .ref (B 0), .int (1 - v2)]) S hK hST hW (c_X6_size hI v2 hz) mc_X6_size wd_1199 wd_1201 wd_1703 rfl np_X6_size (hI.mem (by decide)) hI.this rfl rfl hl.1 rfl (Nat.le_of_ble_eq_true rfl) dX6_move_50 ⟨by decide, by decide⟩ ⟨rmc (by omega), rms (by omega)⟩ (fun r L36 F37 H38 l39 hp hW => ?_)
          obtain ⟨rfl, rfl, rfl⟩ := hp
          refine lv_iconst (v := 1) S.1 S.2.1 dX6_move_53 (by decide) ?_
          refine lv_isub S.1 S.2.1 dX6_move_54 ?_
          refine lv_goto (tgt := 59) S.1 S.2.1 dX6_move_55 (by decide) ?_
          exact B59  v1 v2 u0 (1 - v2) v2 (z40 - 1) hf  _ _ _ _ _ hW (by omega) (by omega) (lv_sub hl [1, 2, 3, 0] rfl)
  unfold f_X6_move at hf
  refine lv_iload_n S.1 S.2.1 dX6_move_0 rfl (lv_at hl 1 rfl) ?_
  refine lv_iconst (v := 4) S.1 S.2.1 dX6_move_1 (by decide) ?_
  refine lv_idiv S.1 S.2.1 dX6_move_2 (by decide) ?_
  refine lv_topi (fun y41 ey41 => ?_)
  have hf := nm_at hf ey41
  refine lv_istore_n (lv' := [(2, .int y41), (0, .ref (B 0)), (1, .int x1)]) S.1 S.2.1 dX6_move_3 rfl hl (by decide) rfl (fun ls hl => ?_)
  refine lv_iload_n S.1 S.2.1 dX6_move_4 rfl (lv_at hl 2 rfl) ?_
  refine lv_iconst (v := 2) S.1 S.2.1 dX6_move_5 (by decide) ?_
  refine lv_idiv S.1 S.2.1 dX6_move_6 (by decide) ?_
  refine lv_iconst (v := 2) S.1 S.2.1 dX6_move_7 (by decide) ?_
  refine pk_irem S dX6_move_8 (by decide) ?_
  refine lv_iconst (v := 1) S.1 S.2.1 dX6_move_9 (by decide) ?_
  refine lv_icmp_ne (tgt := 17) S.1 S.2.1 dX6_move_10 (by decide) (fun c42 => ?_) (fun c42 => ?_)
  · have hf := (if_neg c42).symm.trans hf
    refine lv_iconst (v := 0) S.1 S.2.1 dX6_move_17 (by decide) ?_
    exact B18  x1 y41 0 hf  _ _ _ _ _ hW (by omega) (by omega) (lv_sub hl [1, 2, 0] rfl)
  · have hf := (if_pos c42).symm.trans hf
    refine lv_iconst (v := 1) S.1 S.2.1 dX6_move_13 (by decide) ?_
    refine lv_goto (tgt := 18) S.1 S.2.1 dX6_move_14 (by decide) ?_
    exact B18  x1 y41 1 hf  _ _ _ _ _ hW (by omega) (by omega) (lv_sub hl [1, 2, 0] rfl)
def f_X6_work_94   (w94 : MS) (v2 : Int32) : Option (Int32 × MS) := some (v2, w94)
def f_X6_work_88  (k29 : (MS × Int32 × Int32 × Int32) → Option (Int32 × MS)) (w88 : MS) (v1 : Int32) (v2 : Int32) (v3 : Int32) : Option (Int32 × MS) := nm (v3 + 1 : Int32) fun y1 => k29 (w88, v1, v2, y1)
def f_X6_work_29   (k29 : (MS × Int32 × Int32 × Int32) → Option (Int32 × MS)) (t : (MS × Int32 × Int32 × Int32)) : Option (Int32 × MS) := (if t.2.1 ≤ t.2.2.2 then f_X6_work_94 t.1 t.2.2.1 else nm (if (t.1.1 3).length = 0 then 1 else 0 : Int32) fun y7 => (if y7 = 0 then (ldel (t.1.1 3) 0).bind fun z13 => nm ((va_up t.1.1 3 z13, t.1.2) : MS) fun t15 => nm (((t.1.1 3).getD (0 : Int32).toNatClampNeg 0) : Int32) fun y20 => (f_X6_move t15 y20).bind fun z25 => (if z25.1 = 0 then (ladd (z25.2.1 3) y20).bind fun z36 => nm ((va_up z25.2.1 3 z36, z25.2.2) : MS) fun t38 => f_X6_work_88 k29 t38 t.2.1 t.2.2.1 t.2.2.2 else nm (t.2.2.1 + 1 : Int32) fun y39 => f_X6_work_88 k29 z25.2 t.2.1 y39 t.2.2.2) else f_X6_work_94 t.1 t.2.2.1))
def f_X6_work_16 (τ : MS)  (v1 : Int32) (u1 : Int32) : Option (Int32 × MS) := (f_X6_start τ u1 1).bind fun z44 => (if z44.1 = 0 then lpn (f_X6_work_29 ) 24 (z44.2, v1, 0, 0) else some (0, z44.2))
def f_X6_work (τ : MS) (x1 : Int32) : Option (Int32 × MS) := (f_X6_isIn x1 1 10).bind fun z50 => (if z50 = 0 then f_X6_work_16 τ x1 1 else f_X6_work_16 τ x1 0)
theorem mc_X6_work : MCode yX6_work cX6_work 5 (some .int) := ⟨wd_1512, wd_5, by decide, by decide⟩
theorem np_X6_work : (parseMethodDescriptor yX6_work.desc).map (fun d => d.parameters.length) = some 1 := by decide +kernel
set_option maxHeartbeats 4000000 in
set_option maxRecDepth 100000 in
theorem c_X6_work {l : Launch} {D : va_G} {κ : Nat → ClassId} {ζ : Nat → Nat} {L : List Nat} {F : Nat → va_E} {τ : MS} {B : Nat → Nat} (hI : MI κ ζ B τ L F) (x1 : Int32) {res : (Int32 × MS)} (hf : f_X6_work τ x1 = some res) : MtI l D cls (ty5 κ) ζ yX6_work cX6_work 5 (some .int) 11 192 6336 ([.ref (B 0), .int x1] : List Value) L F (fun r L' F' => res.1 = r ∧ MI κ ζ B res.2 L' F' ∧ FrM L F L' F') := by
  refine MtI.of (by decide) (Nat.le_of_ble_eq_true rfl) ?_
  intro p e s m below meth c S hr hlk _ hK hW hST ls hl
  have hl : lv_has ls 5 [(0, .ref (B 0)), (1, .int x1)] := hl
  have hFr : FrM L F L F := FrM.rf
  have B94 : ∀  (w94 : MS) (v2 : Int32), f_X6_work_94 w94 v2 = some res → ∀ (K94 : List Nat) (G94 : Nat → va_E), MI κ ζ B w94 K94 G94 → FrM L F K94 G94 → ∀ (H94 : Heap) (l94 : List Loc) (ls : Array Slot) (cc ss : Nat), HW D cls L s H94 l94 K94 G94 → cc + (0) ≤ 192 → ss ≤ 33 * cc → lv_has ls 5 [(2, .int v2)] → W p l e (Rm 11 192 6336) s m ([.ref (B 0), .int x1] : List Value).toArray below meth c H94 l94 cc ss (EnI D cls s below ([.ref (B 0), .int x1] : List Value).toArray 192 6336 L (fun r L' F' => res.1 = r ∧ MI κ ζ B res.2 L' F' ∧ FrM L F L' F')) (F0 m 94 ls []) := by
    intro  w94 v2 hf K94 G94 hI hFr H94 l94 ls cc ss hW hcc hss hl
    unfold f_X6_work_94 at hf
    refine lv_iload_n S.1 S.2.1 dX6_work_94 rfl (lv_at hl 0 rfl) ?_
    exact pk_iret S hr hlk hW (eqm (P := fun z => z.1 = v2 ∧ MI κ ζ B z.2 K94 G94 ∧ FrM L F K94 G94) ⟨rfl, hI, hFr⟩ (Option.some.inj hf)) (by omega) (by omega) dX6_work_95
  have B88 : ∀ (k29 : (MS × Int32 × Int32 × Int32) → Option (Int32 × MS)) (nd29 : Nat) (hk29 : (∀ (w29 : MS) (v1 : Int32) (v2 : Int32) (v3 : Int32), k29 (w29, v1, v2, v3) = some res → ∀ (K29 : List Nat) (G29 : Nat → va_E), MI κ ζ B w29 K29 G29 → FrM L F K29 G29 → ∀ (H29 : Heap) (l29 : List Loc) (ls : Array Slot) (cc ss : Nat), HW D cls L s H29 l29 K29 G29 → cc + (nd29) ≤ 192 → ss ≤ 33 * cc → lv_has ls 5 [(0, .ref (B 0)), (1, .int v1), (2, .int v2), (3, .int v3)] → W p l e (Rm 11 192 6336) s m ([.ref (B 0), .int x1] : List Value).toArray below meth c H29 l29 cc ss (EnI D cls s below ([.ref (B 0), .int x1] : List Value).toArray 192 6336 L (fun r L' F' => res.1 = r ∧ MI κ ζ B res.2 L' F' ∧ FrM L F L' F')) (F0 m 29 ls []))) (hnd29 : 0 ≤ nd29) (w88 : MS) (v1 : Int32) (v2 : Int32) (v3 : Int32), f_X6_work_88 k29 w88 v1 v2 v3 = some res → ∀ (K88 : List Nat) (G88 : Nat → va_E), MI κ ζ B w88 K88 G88 → FrM L F K88 G88 → ∀ (H88 : Heap) (l88 : List Loc) (ls : Array Slot) (cc ss : Nat), HW D cls L s H88 l88 K88 G88 → cc + (0 + nd29) ≤ 192 → ss ≤ 33 * cc → lv_has ls 5 [(0, .ref (B 0)), (1, .int v1), (2, .int v2), (3, .int v3)] → W p l e (Rm 11 192 6336) s m ([.ref (B 0), .int x1] : List Value).toArray below meth c H88 l88 cc ss (EnI D cls s below ([.ref (B 0), .int x1] : List Value).toArray 192 6336 L (fun r L' F' => res.1 = r ∧ MI κ ζ B res.2 L' F' ∧ FrM L F L' F')) (F0 m 88 ls []) := by
    intro k29 nd29 hk29 hnd29 w88 v1 v2 v3 hf K88 G88 hI hFr H88 l88 ls cc ss hW hcc hss hl
    unfold f_X6_work_88 at hf
    obtain ⟨y1, ey1⟩ : ∃ y : Int32, y = v3 + 1 := ⟨_, rfl⟩
    have hf := nm_at hf ey1
    refine lv_iinc (v := y1) (lv' := [(3, .int y1), (0, .ref (B 0)), (1, .int v1), (2, .int v2)]) S.1 S.2.1 dX6_work_88 hl (k := 3) rfl (by rw [ey1]; rfl) (by decide) rfl (fun ls hl => ?_)
    refine lv_goto (tgt := 29) S.1 S.2.1 dX6_work_91 (by decide) ?_
    exact hk29 w88 v1 v2 y1 hf K88 G88 hI hFr _ _ _ _ _ hW (by omega) (by omega) (lv_sub hl [1, 2, 3, 0] rfl)
  have B29 : ∀  (N : Nat), (∀ (w29 : MS) (v1 : Int32) (v2 : Int32) (v3 : Int32), (lpn (f_X6_work_29 ) N) (w29, v1, v2, v3) = some res → ∀ (K29 : List Nat) (G29 : Nat → va_E), MI κ ζ B w29 K29 G29 → FrM L F K29 G29 → ∀ (H29 : Heap) (l29 : List Loc) (ls : Array Slot) (cc ss : Nat), HW D cls L s H29 l29 K29 G29 → cc + (N * 8 + 0) ≤ 192 → ss ≤ 33 * cc → lv_has ls 5 [(0, .ref (B 0)), (1, .int v1), (2, .int v2), (3, .int v3)] → W p l e (Rm 11 192 6336) s m ([.ref (B 0), .int x1] : List Value).toArray below meth c H29 l29 cc ss (EnI D cls s below ([.ref (B 0), .int x1] : List Value).toArray 192 6336 L (fun r L' F' => res.1 = r ∧ MI κ ζ B res.2 L' F' ∧ FrM L F L' F')) (F0 m 29 ls [])) := by
    intro  N
    induction N with
    | zero => intro w29 v1 v2 v3 hf K29 G29 hI hFr H29 l29 ls cc ss hW hcc hss hl; cases hf
    | succ N ih =>
      intro w29 v1 v2 v3 hf K29 G29 hI hFr H29 l29 ls cc ss hW hcc hss hl
      have hf : f_X6_work_29  (lpn (f_X6_work_29 ) N) (w29, v1, v2, v3) = some res := hf
      generalize lpn (f_X6_work_29 ) N = k29 at hf ih
      have hnd29 : 0 ≤ N * 8 + 0 := by omega
      have hcc : cc + (8 + (N * 8 + 0)) ≤ 192 := by omega
      have hk29 := ih
      generalize N * 8 + 0 = nd29 at hnd29 hcc hk29
      unfold f_X6_work_29 at hf
      try dsimp only at hf
      refine lv_iload_n S.1 S.2.1 dX6_work_29 rfl (lv_at hl 3 rfl) ?_
      refine lv_iload_n S.1 S.2.1 dX6_work_30 rfl (lv_at hl 1 rfl) ?_
      refine lv_icmp_ge (tgt := 94) S.1 S.2.1 dX6_work_31 (by decide) (fun c2 => ?_) (fun c2 => ?_)
      · have hf := (if_pos c2).symm.trans hf
        exact B94  w29 v2 hf K29 G29 hI hFr _ _ _ _ _ hW (by omega) (by omega) (lv_sub hl [2] rfl)
      · have hf := (if_neg c2).symm.trans hf
        refine lv_aload_n S.1 S.2.1 dX6_work_34 rfl (lv_at hl 0 rfl) ?_
        refine pk_get S hK hW 3 (hI.mem (by decide)) hI.this rfl hinX6 (by decide) wd_1158 rfl dX6_work_35 ?_
        obtain ⟨ar9, hL9, hup9⟩ := hI.list (by decide : 3 < 4)
        obtain ⟨m_h9, md9, e_h9⟩ := hL9.obj
        refine pk_cVI (As := []) (rest := []) S hK hST hW (c_lempty hL9) mc_Jx4a65c_isEmpty_aae02 wd_1354 wd_1355 wd_1356 rfl np_Jx4a65c_isEmpty_aae02 m_h9 e_h9 rfl rfl hl.1 rfl (Nat.le_of_ble_eq_true rfl) dX6_work_38 ⟨by decide, by decide⟩ ⟨rmc (by omega), rms (by omega)⟩ (fun y7 L3 F4 H5 l6 hp hW => ?_)
        obtain ⟨rfl, rfl, ey7⟩ := hp
        have hf := nm_at hf ey7.symm
        refine lv_if_ne (tgt := 94) S.1 S.2.1 dX6_work_41 (by decide) (fun c8 => ?_) (fun c8 => ?_)
        · have hf := (if_neg c8).symm.trans hf
          exact B94  w29 v2 hf K29 G29 hI hFr _ _ _ _ _ hW (by omega) (by omega) (lv_sub hl [2] rfl)
        · have hf := (if_pos c8).symm.trans hf
          refine lv_aload_n S.1 S.2.1 dX6_work_44 rfl (lv_at hl 0 rfl) ?_
          refine pk_get S hK hW 3 (hI.mem (by decide)) hI.this rfl hinX6 (by decide) wd_1158 rfl dX6_work_45 ?_
          refine lv_iconst (v := 0) S.1 S.2.1 dX6_work_48 (by decide) ?_
          obtain ⟨ar9, hL9, hup9⟩ := hI.list (by decide : 3 < 4)
          obtain ⟨m_h9, md9, e_h9⟩ := hL9.obj
          obtain ⟨z13, hz, hf⟩ := ob hf
          refine pk_cVR (As := [.int 0]) (rest := []) S hK hST hW (c_mdel hL9 hz) mc_Jx4a65c_remove_915e3 wd_1280 wd_1281 wd_1282 rfl np_Jx4a65c_remove_915e3 m_h9 e_h9 rfl rfl hl.1 rfl (Nat.le_of_ble_eq_true rfl) dX6_work_49 ⟨by decide, by decide⟩ ⟨rmc (by omega), rms (by omega)⟩ (fun y14 L9 F10 H11 l12 hp hW => ?_)
          obtain ⟨hby14, hL8, hN8⟩ := hp
          obtain ⟨hI, hF9⟩ := hup9 _ _ _ _ hL8 hN8 (noE hW hST)
          have hFr := hFr.tr hF9
          obtain ⟨t15, et15, hf⟩ := nm_ok hf
          have hI := eqm (P := fun w => MI κ ζ B w L9 F10) hI et15.symm
          refine va_castS S.1 S.2.1 S.2.2.2.1 (S.2.2.2.2 _ wd_1303) (hK.1 2 _ rfl).2 (bx_cell hK hW hST hby14) dX6_work_52 ?_
          refine pk_cVIr (As := []) (rest := []) S hK hST hW (c_J6_intValue_8abf5 hby14) mc_J6_intValue_8abf5 wd_1304 wd_1305 wd_1306 rfl np_J6_intValue_8abf5 (bx_cell hK hW hST hby14) rfl hl.1 rfl (Nat.le_of_ble_eq_true rfl) dX6_work_55 ⟨by decide, by decide⟩ ⟨rmc (by omega), rms (by omega)⟩ (fun r L16 F17 H18 l19 hp hW => ?_)
          obtain ⟨rfl, rfl, rfl⟩ := hp
          refine lv_topi (fun y20 ey20 => ?_)
          have hf := nm_at hf ey20
          refine lv_istore (lv' := [(4, .int y20), (0, .ref (B 0)), (1, .int v1), (2, .int v2), (3, .int v3)]) S.1 S.2.1 dX6_work_58 hl (by decide) rfl (fun ls hl => ?_)
          refine lv_aload_n S.1 S.2.1 dX6_work_60 rfl (lv_at hl 1 rfl) ?_
          refine lv_iload S.1 S.2.1 dX6_work_61 (lv_at hl 0 rfl) ?_
          obtain ⟨z25, hz, hf⟩ := ob hf
          refine pk_cVI (As := [.int y20]) (rest := []) S hK hST hW (c_X6_move hI y20 hz) mc_X6_move wd_1513 wd_1515 wd_1723 rfl np_X6_move (hI.mem (by decide)) hI.this rfl rfl hl.1 rfl (Nat.le_of_ble_eq_true rfl) dX6_work_63 ⟨by decide, by decide⟩ ⟨rmc (by omega), rms (by omega)⟩ (fun r L21 F22 H23 l24 hp hW => ?_)
          obtain ⟨rfl, hI, hF9⟩ := hp
          have hFr := hFr.tr hF9
          refine lv_if_eq (tgt := 75) S.1 S.2.1 dX6_work_66 (by decide) (fun c26 => ?_) (fun c26 => ?_)
          · have hf := (if_pos c26).symm.trans hf
            refine lv_aload_n S.1 S.2.1 dX6_work_75 rfl (lv_at hl 1 rfl) ?_
            refine pk_get S hK hW 3 (hI.mem (by decide)) hI.this rfl hinX6 (by decide) wd_1158 rfl dX6_work_76 ?_
            refine lv_iload S.1 S.2.1 dX6_work_79 (lv_at hl 0 rfl) ?_
            refine pk_cSR (As := [.int y20]) (rest := [.ref (B (3 + 3))]) S hK hST hW (c_J6_valueOf_2dffe (v := y20)) mc_J6_valueOf_2dffe wd_1233 wd_1234 np_J6_valueOf_2dffe rfl hl.1 rfl (Nat.le_of_ble_eq_true rfl) dX6_work_81 ⟨by decide, by decide⟩ ⟨rmc (by omega), rms (by omega)⟩ (fun y31 L27 F28 H29 l30 hp hW => ?_)
            obtain ⟨hs9, hby31, hf9⟩ := hp
            have hI := hI.keep0 hs9 hf9 (noE hW hST)
            have hF9 : FrM L21 F22 L27 F28 := ⟨hs9, fun x hx _ => hf9 x hx⟩
            have hFr := hFr.tr hF9
            obtain ⟨ar9, hL9, hup9⟩ := hI.list (by decide : 3 < 4)
            obtain ⟨m_h9, md9, e_h9⟩ := hL9.obj
            obtain ⟨z36, hz, hf⟩ := ob hf
            refine pk_cVI (As := [.ref y31]) (rest := []) S hK hST hW (c_madd hL9 hz hby31) mc_Jx4a65c_add_9ea2d wd_1108 wd_1109 wd_1110 rfl np_Jx4a65c_add_9ea2d m_h9 e_h9 rfl rfl hl.1 rfl (Nat.le_of_ble_eq_true rfl) dX6_work_84 ⟨by decide, by decide⟩ ⟨rmc (by omega), rms (by omega)⟩ (fun y37 L32 F33 H34 l35 hp hW => ?_)
            obtain ⟨ar8, hL8, hN8⟩ := hp
            obtain ⟨hI, hF9⟩ := hup9 _ _ _ _ hL8 hN8 (noE hW hST)
            have hFr := hFr.tr hF9
            obtain ⟨t38, et38, hf⟩ := nm_ok hf
            have hI := eqm (P := fun w => MI κ ζ B w L32 F33) hI et38.symm
            refine lv_pop S.1 S.2.1 dX6_work_87 rfl ?_
            exact B88 k29 nd29 hk29 hnd29 t38 v1 v2 v3 hf L32 F33 hI hFr _ _ _ _ _ hW (by omega) (by omega) (lv_sub hl [1, 2, 3, 4] rfl)
          · have hf := (if_neg c26).symm.trans hf
            obtain ⟨y39, ey39⟩ : ∃ y : Int32, y = v2 + 1 := ⟨_, rfl⟩
            have hf := nm_at hf ey39
            refine lv_iinc (v := y39) (lv' := [(2, .int y39), (4, .int y20), (0, .ref (B 0)), (1, .int v1), (3, .int v3)]) S.1 S.2.1 dX6_work_69 hl (k := 3) rfl (by rw [ey39]; rfl) (by decide) rfl (fun ls hl => ?_)
            refine lv_goto (tgt := 88) S.1 S.2.1 dX6_work_72 (by decide) ?_
            exact B88 k29 nd29 hk29 hnd29 z25.2 v1 y39 v3 hf L21 F22 hI hFr _ _ _ _ _ hW (by omega) (by omega) (lv_sub hl [2, 3, 0, 4] rfl)
  have B16 : ∀  (v1 : Int32) (u1 : Int32), f_X6_work_16 τ v1 u1 = some res → ∀ (H16 : Heap) (l16 : List Loc) (ls : Array Slot) (cc ss : Nat), HW D cls L s H16 l16 L F → cc + (192) ≤ 192 → ss ≤ 33 * cc → lv_has ls 5 [(0, .ref (B 0)), (1, .int v1)] → W p l e (Rm 11 192 6336) s m ([.ref (B 0), .int x1] : List Value).toArray below meth c H16 l16 cc ss (EnI D cls s below ([.ref (B 0), .int x1] : List Value).toArray 192 6336 L (fun r L' F' => res.1 = r ∧ MI κ ζ B res.2 L' F' ∧ FrM L F L' F')) (F0 m 16 ls [.int u1, .ref (B 0)]) := by
    intro  v1 u1 hf H16 l16 ls cc ss hW hcc hss hl
    unfold f_X6_work_16 at hf
    refine lv_iconst (v := 1) S.1 S.2.1 dX6_work_16 (by decide) ?_
    obtain ⟨z44, hz, hf⟩ := ob hf
    refine pk_cVI (As := [.int u1, .int 1]) (rest := []) S hK hST hW (c_X6_start hI u1 1 hz) mc_X6_start wd_1188 wd_1190 wd_1701 rfl np_X6_start (hI.mem (by decide)) hI.this rfl rfl hl.1 rfl (Nat.le_of_ble_eq_true rfl) dX6_work_17 ⟨by decide, by decide⟩ ⟨rmc (by omega), rms (by omega)⟩ (fun r L40 F41 H42 l43 hp hW => ?_)
    obtain ⟨rfl, hI, hF9⟩ := hp
    have hFr := hFr.tr hF9
    refine lv_if_eq (tgt := 25) S.1 S.2.1 dX6_work_20 (by decide) (fun c45 => ?_) (fun c45 => ?_)
    · have hf := (if_pos c45).symm.trans hf
      refine lv_iconst (v := 0) S.1 S.2.1 dX6_work_25 (by decide) ?_
      refine lv_istore_n (lv' := [(2, .int 0), (0, .ref (B 0)), (1, .int v1)]) S.1 S.2.1 dX6_work_26 rfl hl (by decide) rfl (fun ls hl => ?_)
      refine lv_iconst (v := 0) S.1 S.2.1 dX6_work_27 (by decide) ?_
      refine lv_istore_n (lv' := [(3, .int 0), (2, .int 0), (0, .ref (B 0)), (1, .int v1)]) S.1 S.2.1 dX6_work_28 rfl hl (by decide) rfl (fun ls hl => ?_)
      exact B29  24 z44.2 v1 0 0 hf L40 F41 hI hFr _ _ _ _ _ hW (by omega) (by omega) (lv_sub hl [2, 3, 1, 0] rfl)
    · have hf := (if_neg c45).symm.trans hf
      refine lv_iconst (v := 0) S.1 S.2.1 dX6_work_23 (by decide) ?_
      exact pk_iret S hr hlk hW (eqm (P := fun z => z.1 = 0 ∧ MI κ ζ B z.2 L40 F41 ∧ FrM L F L40 F41) ⟨rfl, hI, hFr⟩ (Option.some.inj hf)) (by omega) (by omega) dX6_work_24
  unfold f_X6_work at hf
  refine lv_aload_n S.1 S.2.1 dX6_work_0 rfl (lv_at hl 0 rfl) ?_
  refine lv_iload_n S.1 S.2.1 dX6_work_1 rfl (lv_at hl 1 rfl) ?_
  refine lv_iconst (v := 1) S.1 S.2.1 dX6_work_2 (by decide) ?_
  refine lv_bipush (v := 10) S.1 S.2.1 dX6_work_3 (by decide) ?_
  obtain ⟨z50, hz, hf⟩ := ob hf
  refine pk_cSI (As := [.int x1, .int 1, .int 10]) (rest := [.ref (B 0)]) S hK hST hW (c_X6_isIn  x1 1 10 hz) mc_X6_isIn wd_1185 wd_1186 np_X6_isIn rfl hl.1 rfl (Nat.le_of_ble_eq_true rfl) dX6_work_5 ⟨by decide, by decide⟩ ⟨rmc (by omega), rms (by omega)⟩ (fun r L46 F47 H48 l49 hp hW => ?_)
  obtain ⟨rfl, rfl, rfl⟩ := hp
  refine lv_if_ne (tgt := 15) S.1 S.2.1 dX6_work_8 (by decide) (fun c51 => ?_) (fun c51 => ?_)
  · have hf := (if_neg c51).symm.trans hf
    refine lv_iconst (v := 0) S.1 S.2.1 dX6_work_15 (by decide) ?_
    exact B16  x1 0 hf  _ _ _ _ _ hW (by omega) (by omega) (lv_sub hl [0, 1] rfl)
  · have hf := (if_pos c51).symm.trans hf
    refine lv_iconst (v := 1) S.1 S.2.1 dX6_work_11 (by decide) ?_
    refine lv_goto (tgt := 16) S.1 S.2.1 dX6_work_12 (by decide) ?_
    exact B16  x1 1 hf  _ _ _ _ _ hW (by omega) (by omega) (lv_sub hl [0, 1] rfl)
def f_X6_cancel_73  (k30 : (MS × Int32 × Int32 × Int32 × Int32) → Option (Int32 × MS)) (w73 : MS) (v1 : Int32) (v2 : Int32) (v3 : Int32) (v4 : Int32) : Option (Int32 × MS) := nm (v4 + 1 : Int32) fun y1 => k30 (w73, v1, v2, v3, y1)
def f_X6_cancel_70  (k30 : (MS × Int32 × Int32 × Int32 × Int32) → Option (Int32 × MS)) (w70 : MS) (v1 : Int32) (v2 : Int32) (v4 : Int32) : Option (Int32 × MS) := f_X6_cancel_73 k30 w70 v1 v2 v4 v4
def f_X6_cancel_30   (k30 : (MS × Int32 × Int32 × Int32 × Int32) → Option (Int32 × MS)) (t : (MS × Int32 × Int32 × Int32 × Int32)) : Option (Int32 × MS) := (if (nI (t.1.1 3).length) ≤ t.2.2.2.2 then (if t.2.2.2.1 = ((-1)) then some (0, t.1) else (ldel (t.1.1 3) t.2.2.2.1).bind fun z12 => nm ((va_up t.1.1 3 z12, t.1.2) : MS) fun t14 => some (1, t14)) else (lget (t.1.1 3) t.2.2.2.2).bind fun z19 => (if z19 = t.2.1 then (if t.2.2.1 = 0 then (if t.2.2.2.1 = ((-1)) then f_X6_cancel_70 k30 t.1 t.2.1 t.2.2.1 t.2.2.2.2 else f_X6_cancel_73 k30 t.1 t.2.1 t.2.2.1 t.2.2.2.1 t.2.2.2.2) else f_X6_cancel_70 k30 t.1 t.2.1 t.2.2.1 t.2.2.2.2) else f_X6_cancel_73 k30 t.1 t.2.1 t.2.2.1 t.2.2.2.1 t.2.2.2.2))
def f_X6_cancel_16 (τ : MS)  (v1 : Int32) (v2 : Int32) (u1 : Int32) : Option (Int32 × MS) := (f_X6_start τ u1 1).bind fun z32 => (if z32.1 = 0 then lpn (f_X6_cancel_30 ) 24 (z32.2, v1, v2, (-1), 0) else some (0, z32.2))
def f_X6_cancel (τ : MS) (x1 : Int32) (x2 : Int32) : Option (Int32 × MS) := (f_X6_isIn x1 0 7).bind fun z38 => (if z38 = 0 then f_X6_cancel_16 τ x1 x2 1 else f_X6_cancel_16 τ x1 x2 0)
theorem mc_X6_cancel : MCode yX6_cancel cX6_cancel 5 (some .boolean) := ⟨wd_1520, wd_5, by decide, by decide⟩
theorem np_X6_cancel : (parseMethodDescriptor yX6_cancel.desc).map (fun d => d.parameters.length) = some 2 := by decide +kernel
set_option maxHeartbeats 4000000 in
set_option maxRecDepth 100000 in
theorem c_X6_cancel {l : Launch} {D : va_G} {κ : Nat → ClassId} {ζ : Nat → Nat} {L : List Nat} {F : Nat → va_E} {τ : MS} {B : Nat → Nat} (hI : MI κ ζ B τ L F) (x1 : Int32) (x2 : Int32) {res : (Int32 × MS)} (hf : f_X6_cancel τ x1 x2 = some res) : MtI l D cls (ty5 κ) ζ yX6_cancel cX6_cancel 5 (some .boolean) 5 0 0 ([.ref (B 0), .int x1, .int x2] : List Value) L F (fun r L' F' => res.1 = r ∧ MI κ ζ B res.2 L' F' ∧ FrM L F L' F') := by
  refine MtI.of (by decide) (Nat.le_of_ble_eq_true rfl) ?_
  intro p e s m below meth c S hr hlk _ hK hW hST ls hl
  have hl : lv_has ls 5 [(0, .ref (B 0)), (1, .int x1), (2, .int x2)] := hl
  have hFr : FrM L F L F := FrM.rf
  have B73 : ∀ (k30 : (MS × Int32 × Int32 × Int32 × Int32) → Option (Int32 × MS)) (nd30 : Nat) (hk30 : (∀ (w30 : MS) (v1 : Int32) (v2 : Int32) (v3 : Int32) (v4 : Int32), k30 (w30, v1, v2, v3, v4) = some res → ∀ (K30 : List Nat) (G30 : Nat → va_E), MI κ ζ B w30 K30 G30 → FrM L F K30 G30 → ∀ (H30 : Heap) (l30 : List Loc) (ls : Array Slot) (cc ss : Nat), HW D cls L s H30 l30 K30 G30 → cc + (nd30) ≤ 0 → ss ≤ 33 * cc → lv_has ls 5 [(0, .ref (B 0)), (1, .int v1), (2, .int v2), (3, .int v3), (4, .int v4)] → W p l e (Rm 5 0 0) s m ([.ref (B 0), .int x1, .int x2] : List Value).toArray below meth c H30 l30 cc ss (EnI D cls s below ([.ref (B 0), .int x1, .int x2] : List Value).toArray 0 0 L (fun r L' F' => res.1 = r ∧ MI κ ζ B res.2 L' F' ∧ FrM L F L' F')) (F0 m 30 ls []))) (hnd30 : 0 ≤ nd30) (w73 : MS) (v1 : Int32) (v2 : Int32) (v3 : Int32) (v4 : Int32), f_X6_cancel_73 k30 w73 v1 v2 v3 v4 = some res → ∀ (K73 : List Nat) (G73 : Nat → va_E), MI κ ζ B w73 K73 G73 → FrM L F K73 G73 → ∀ (H73 : Heap) (l73 : List Loc) (ls : Array Slot) (cc ss : Nat), HW D cls L s H73 l73 K73 G73 → cc + (0 + nd30) ≤ 0 → ss ≤ 33 * cc → lv_has ls 5 [(0, .ref (B 0)), (1, .int v1), (2, .int v2), (3, .int v3), (4, .int v4)] → W p l e (Rm 5 0 0) s m ([.ref (B 0), .int x1, .int x2] : List Value).toArray below meth c H73 l73 cc ss (EnI D cls s below ([.ref (B 0), .int x1, .int x2] : List Value).toArray 0 0 L (fun r L' F' => res.1 = r ∧ MI κ ζ B res.2 L' F' ∧ FrM L F L' F')) (F0 m 73 ls []) := by
    intro k30 nd30 hk30 hnd30 w73 v1 v2 v3 v4 hf K73 G73 hI hFr H73 l73 ls cc ss hW hcc hss hl
    unfold f_X6_cancel_73 at hf
    obtain ⟨y1, ey1⟩ : ∃ y : Int32, y = v4 + 1 := ⟨_, rfl⟩
    have hf := nm_at hf ey1
    refine lv_iinc (v := y1) (lv' := [(4, .int y1), (0, .ref (B 0)), (1, .int v1), (2, .int v2), (3, .int v3)]) S.1 S.2.1 dX6_cancel_73 hl (k := 4) rfl (by rw [ey1]; rfl) (by decide) rfl (fun ls hl => ?_)
    refine lv_goto (tgt := 30) S.1 S.2.1 dX6_cancel_76 (by decide) ?_
    exact hk30 w73 v1 v2 v3 y1 hf K73 G73 hI hFr _ _ _ _ _ hW (by omega) (by omega) (lv_sub hl [1, 2, 3, 4, 0] rfl)
  have B70 : ∀ (k30 : (MS × Int32 × Int32 × Int32 × Int32) → Option (Int32 × MS)) (nd30 : Nat) (hk30 : (∀ (w30 : MS) (v1 : Int32) (v2 : Int32) (v3 : Int32) (v4 : Int32), k30 (w30, v1, v2, v3, v4) = some res → ∀ (K30 : List Nat) (G30 : Nat → va_E), MI κ ζ B w30 K30 G30 → FrM L F K30 G30 → ∀ (H30 : Heap) (l30 : List Loc) (ls : Array Slot) (cc ss : Nat), HW D cls L s H30 l30 K30 G30 → cc + (nd30) ≤ 0 → ss ≤ 33 * cc → lv_has ls 5 [(0, .ref (B 0)), (1, .int v1), (2, .int v2), (3, .int v3), (4, .int v4)] → W p l e (Rm 5 0 0) s m ([.ref (B 0), .int x1, .int x2] : List Value).toArray below meth c H30 l30 cc ss (EnI D cls s below ([.ref (B 0), .int x1, .int x2] : List Value).toArray 0 0 L (fun r L' F' => res.1 = r ∧ MI κ ζ B res.2 L' F' ∧ FrM L F L' F')) (F0 m 30 ls []))) (hnd30 : 0 ≤ nd30) (w70 : MS) (v1 : Int32) (v2 : Int32) (v4 : Int32), f_X6_cancel_70 k30 w70 v1 v2 v4 = some res → ∀ (K70 : List Nat) (G70 : Nat → va_E), MI κ ζ B w70 K70 G70 → FrM L F K70 G70 → ∀ (H70 : Heap) (l70 : List Loc) (ls : Array Slot) (cc ss : Nat), HW D cls L s H70 l70 K70 G70 → cc + (0 + nd30) ≤ 0 → ss ≤ 33 * cc → lv_has ls 5 [(0, .ref (B 0)), (1, .int v1), (2, .int v2), (4, .int v4)] → W p l e (Rm 5 0 0) s m ([.ref (B 0), .int x1, .int x2] : List Value).toArray below meth c H70 l70 cc ss (EnI D cls s below ([.ref (B 0), .int x1, .int x2] : List Value).toArray 0 0 L (fun r L' F' => res.1 = r ∧ MI κ ζ B res.2 L' F' ∧ FrM L F L' F')) (F0 m 70 ls []) := by
    intro k30 nd30 hk30 hnd30 w70 v1 v2 v4 hf K70 G70 hI hFr H70 l70 ls cc ss hW hcc hss hl
    unfold f_X6_cancel_70 at hf
    refine lv_iload S.1 S.2.1 dX6_cancel_70 (lv_at hl 3 rfl) ?_
    refine lv_istore_n (lv' := [(3, .int v4), (0, .ref (B 0)), (1, .int v1), (2, .int v2), (4, .int v4)]) S.1 S.2.1 dX6_cancel_72 rfl hl (by decide) rfl (fun ls hl => ?_)
    exact B73 k30 nd30 hk30 hnd30 w70 v1 v2 v4 v4 hf K70 G70 hI hFr _ _ _ _ _ hW (by omega) (by omega) (lv_sub hl [1, 2, 3, 0, 4] rfl)
  have B30 : ∀  (N : Nat), (∀ (w30 : MS) (v1 : Int32) (v2 : Int32) (v3 : Int32) (v4 : Int32), (lpn (f_X6_cancel_30 ) N) (w30, v1, v2, v3, v4) = some res → ∀ (K30 : List Nat) (G30 : Nat → va_E), MI κ ζ B w30 K30 G30 → FrM L F K30 G30 → ∀ (H30 : Heap) (l30 : List Loc) (ls : Array Slot) (cc ss : Nat), HW D cls L s H30 l30 K30 G30 → cc + (N * 0 + 0) ≤ 0 → ss ≤ 33 * cc → lv_has ls 5 [(0, .ref (B 0)), (1, .int v1), (2, .int v2), (3, .int v3), (4, .int v4)] → W p l e (Rm 5 0 0) s m ([.ref (B 0), .int x1, .int x2] : List Value).toArray below meth c H30 l30 cc ss (EnI D cls s below ([.ref (B 0), .int x1, .int x2] : List Value).toArray 0 0 L (fun r L' F' => res.1 = r ∧ MI κ ζ B res.2 L' F' ∧ FrM L F L' F')) (F0 m 30 ls [])) := by
    intro  N
    induction N with
    | zero => intro w30 v1 v2 v3 v4 hf K30 G30 hI hFr H30 l30 ls cc ss hW hcc hss hl; cases hf
    | succ N ih =>
      intro w30 v1 v2 v3 v4 hf K30 G30 hI hFr H30 l30 ls cc ss hW hcc hss hl
      have hf : f_X6_cancel_30  (lpn (f_X6_cancel_30 ) N) (w30, v1, v2, v3, v4) = some res := hf
      generalize lpn (f_X6_cancel_30 ) N = k30 at hf ih
      have hnd30 : 0 ≤ N * 0 + 0 := by omega
      have hcc : cc + (0 + (N * 0 + 0)) ≤ 0 := by omega
      have hk30 := ih
      generalize N * 0 + 0 = nd30 at hnd30 hcc hk30
      unfold f_X6_cancel_30 at hf
      try dsimp only at hf
      refine lv_iload S.1 S.2.1 dX6_cancel_30 (lv_at hl 4 rfl) ?_
      refine lv_aload_n S.1 S.2.1 dX6_cancel_32 rfl (lv_at hl 0 rfl) ?_
      refine pk_get S hK hW 3 (hI.mem (by decide)) hI.this rfl hinX6 (by decide) wd_1158 rfl dX6_cancel_33 ?_
      obtain ⟨ar9, hL9, hup9⟩ := hI.list (by decide : 3 < 4)
      obtain ⟨m_h9, md9, e_h9⟩ := hL9.obj
      refine pk_cVI (As := []) (rest := [.int v4]) S hK hST hW (c_lsize hL9) mc_Jx4a65c_size_8abf5 wd_1215 wd_1216 wd_1217 rfl np_Jx4a65c_size_8abf5 m_h9 e_h9 rfl rfl hl.1 rfl (Nat.le_of_ble_eq_true rfl) dX6_cancel_36 ⟨by decide, by decide⟩ ⟨rmc (by omega), rms (by omega)⟩ (fun r L2 F3 H4 l5 hp hW => ?_)
      obtain ⟨rfl, rfl, rfl⟩ := hp
      refine lv_icmp_ge (tgt := 79) S.1 S.2.1 dX6_cancel_39 (by decide) (fun c6 => ?_) (fun c6 => ?_)
      · have hf := (if_pos c6).symm.trans hf
        refine lv_iload_n S.1 S.2.1 dX6_cancel_79 rfl (lv_at hl 3 rfl) ?_
        refine lv_iconst (v := (-1)) S.1 S.2.1 dX6_cancel_80 (by decide) ?_
        refine lv_icmp_ne (tgt := 86) S.1 S.2.1 dX6_cancel_81 (by decide) (fun c7 => ?_) (fun c7 => ?_)
        · have hf := (if_neg c7).symm.trans hf
          refine lv_aload_n S.1 S.2.1 dX6_cancel_86 rfl (lv_at hl 0 rfl) ?_
          refine pk_get S hK hW 3 (hI.mem (by decide)) hI.this rfl hinX6 (by decide) wd_1158 rfl dX6_cancel_87 ?_
          refine lv_iload_n S.1 S.2.1 dX6_cancel_90 rfl (lv_at hl 3 rfl) ?_
          obtain ⟨ar9, hL9, hup9⟩ := hI.list (by decide : 3 < 4)
          obtain ⟨m_h9, md9, e_h9⟩ := hL9.obj
          obtain ⟨z12, hz, hf⟩ := ob hf
          refine pk_cVR (As := [.int v3]) (rest := []) S hK hST hW (c_mdel hL9 hz) mc_Jx4a65c_remove_915e3 wd_1280 wd_1281 wd_1282 rfl np_Jx4a65c_remove_915e3 m_h9 e_h9 rfl rfl hl.1 rfl (Nat.le_of_ble_eq_true rfl) dX6_cancel_91 ⟨by decide, by decide⟩ ⟨rmc (by omega), rms (by omega)⟩ (fun y13 L8 F9 H10 l11 hp hW => ?_)
          obtain ⟨hby13, hL8, hN8⟩ := hp
          obtain ⟨hI, hF9⟩ := hup9 _ _ _ _ hL8 hN8 (noE hW hST)
          have hFr := hFr.tr hF9
          obtain ⟨t14, et14, hf⟩ := nm_ok hf
          have hI := eqm (P := fun w => MI κ ζ B w L8 F9) hI et14.symm
          refine lv_pop S.1 S.2.1 dX6_cancel_94 rfl ?_
          refine lv_iconst (v := 1) S.1 S.2.1 dX6_cancel_95 (by decide) ?_
          exact pk_zret S hr hlk hW (by decide) (eqm (P := fun z => z.1 = 1 ∧ MI κ ζ B z.2 L8 F9 ∧ FrM L F L8 F9) ⟨rfl, hI, hFr⟩ (Option.some.inj hf)) (by omega) (by omega) dX6_cancel_96
        · have hf := (if_pos c7).symm.trans hf
          refine lv_iconst (v := 0) S.1 S.2.1 dX6_cancel_84 (by decide) ?_
          exact pk_zret S hr hlk hW (by decide) (eqm (P := fun z => z.1 = 0 ∧ MI κ ζ B z.2 K30 G30 ∧ FrM L F K30 G30) ⟨rfl, hI, hFr⟩ (Option.some.inj hf)) (by omega) (by omega) dX6_cancel_85
      · have hf := (if_neg c6).symm.trans hf
        refine lv_aload_n S.1 S.2.1 dX6_cancel_42 rfl (lv_at hl 0 rfl) ?_
        refine pk_get S hK hW 3 (hI.mem (by decide)) hI.this rfl hinX6 (by decide) wd_1158 rfl dX6_cancel_43 ?_
        refine lv_iload S.1 S.2.1 dX6_cancel_46 (lv_at hl 4 rfl) ?_
        obtain ⟨ar9, hL9, hup9⟩ := hI.list (by decide : 3 < 4)
        obtain ⟨m_h9, md9, e_h9⟩ := hL9.obj
        obtain ⟨z19, hz, hf⟩ := ob hf
        refine pk_cVR (As := [.int v4]) (rest := []) S hK hST hW (c_mget hL9 hz) mc_Jx4a65c_get_915e3 wd_1203 wd_1204 wd_1205 rfl np_Jx4a65c_get_915e3 m_h9 e_h9 rfl rfl hl.1 rfl (Nat.le_of_ble_eq_true rfl) dX6_cancel_48 ⟨by decide, by decide⟩ ⟨rmc (by omega), rms (by omega)⟩ (fun y20 L15 F16 H17 l18 hp hW => ?_)
        obtain ⟨rfl, rfl, hby20⟩ := hp
        refine va_castS S.1 S.2.1 S.2.2.2.1 (S.2.2.2.2 _ wd_1303) (hK.1 2 _ rfl).2 (bx_cell hK hW hST hby20) dX6_cancel_51 ?_
        refine pk_cVIr (As := []) (rest := []) S hK hST hW (c_J6_intValue_8abf5 hby20) mc_J6_intValue_8abf5 wd_1304 wd_1305 wd_1306 rfl np_J6_intValue_8abf5 (bx_cell hK hW hST hby20) rfl hl.1 rfl (Nat.le_of_ble_eq_true rfl) dX6_cancel_54 ⟨by decide, by decide⟩ ⟨rmc (by omega), rms (by omega)⟩ (fun r L21 F22 H23 l24 hp hW => ?_)
        obtain ⟨rfl, rfl, rfl⟩ := hp
        refine lv_iload_n S.1 S.2.1 dX6_cancel_57 rfl (lv_at hl 1 rfl) ?_
        refine lv_icmp_ne (tgt := 73) S.1 S.2.1 dX6_cancel_58 (by decide) (fun c25 => ?_) (fun c25 => ?_)
        · have hf := (if_neg c25).symm.trans hf
          exact B73 k30 nd30 hk30 hnd30 w30 v1 v2 v3 v4 hf K30 G30 hI hFr _ _ _ _ _ hW (by omega) (by omega) (lv_sub hl [0, 1, 2, 3, 4] rfl)
        · have hf := (if_pos c25).symm.trans hf
          refine lv_iload_n S.1 S.2.1 dX6_cancel_61 rfl (lv_at hl 2 rfl) ?_
          refine lv_if_ne (tgt := 70) S.1 S.2.1 dX6_cancel_62 (by decide) (fun c26 => ?_) (fun c26 => ?_)
          · have hf := (if_neg c26).symm.trans hf
            exact B70 k30 nd30 hk30 hnd30 w30 v1 v2 v4 hf K30 G30 hI hFr _ _ _ _ _ hW (by omega) (by omega) (lv_sub hl [0, 1, 2, 4] rfl)
          · have hf := (if_pos c26).symm.trans hf
            refine lv_iload_n S.1 S.2.1 dX6_cancel_65 rfl (lv_at hl 3 rfl) ?_
            refine lv_iconst (v := (-1)) S.1 S.2.1 dX6_cancel_66 (by decide) ?_
            refine lv_icmp_ne (tgt := 73) S.1 S.2.1 dX6_cancel_67 (by decide) (fun c27 => ?_) (fun c27 => ?_)
            · have hf := (if_neg c27).symm.trans hf
              exact B73 k30 nd30 hk30 hnd30 w30 v1 v2 v3 v4 hf K30 G30 hI hFr _ _ _ _ _ hW (by omega) (by omega) (lv_sub hl [0, 1, 2, 3, 4] rfl)
            · have hf := (if_pos c27).symm.trans hf
              exact B70 k30 nd30 hk30 hnd30 w30 v1 v2 v4 hf K30 G30 hI hFr _ _ _ _ _ hW (by omega) (by omega) (lv_sub hl [0, 1, 2, 4] rfl)
  have B16 : ∀  (v1 : Int32) (v2 : Int32) (u1 : Int32), f_X6_cancel_16 τ v1 v2 u1 = some res → ∀ (H16 : Heap) (l16 : List Loc) (ls : Array Slot) (cc ss : Nat), HW D cls L s H16 l16 L F → cc + (0) ≤ 0 → ss ≤ 33 * cc → lv_has ls 5 [(0, .ref (B 0)), (1, .int v1), (2, .int v2)] → W p l e (Rm 5 0 0) s m ([.ref (B 0), .int x1, .int x2] : List Value).toArray below meth c H16 l16 cc ss (EnI D cls s below ([.ref (B 0), .int x1, .int x2] : List Value).toArray 0 0 L (fun r L' F' => res.1 = r ∧ MI κ ζ B res.2 L' F' ∧ FrM L F L' F')) (F0 m 16 ls [.int u1, .ref (B 0)]) := by
    intro  v1 v2 u1 hf H16 l16 ls cc ss hW hcc hss hl
    unfold f_X6_cancel_16 at hf
    refine lv_iconst (v := 1) S.1 S.2.1 dX6_cancel_16 (by decide) ?_
    obtain ⟨z32, hz, hf⟩ := ob hf
    refine pk_cVI (As := [.int u1, .int 1]) (rest := []) S hK hST hW (c_X6_start hI u1 1 hz) mc_X6_start wd_1188 wd_1190 wd_1701 rfl np_X6_start (hI.mem (by decide)) hI.this rfl rfl hl.1 rfl (Nat.le_of_ble_eq_true rfl) dX6_cancel_17 ⟨by decide, by decide⟩ ⟨rmc (by omega), rms (by omega)⟩ (fun r L28 F29 H30 l31 hp hW => ?_)
    obtain ⟨rfl, hI, hF9⟩ := hp
    have hFr := hFr.tr hF9
    refine lv_if_eq (tgt := 25) S.1 S.2.1 dX6_cancel_20 (by decide) (fun c33 => ?_) (fun c33 => ?_)
    · have hf := (if_pos c33).symm.trans hf
      refine lv_iconst (v := (-1)) S.1 S.2.1 dX6_cancel_25 (by decide) ?_
      refine lv_istore_n (lv' := [(3, .int ((-1))), (0, .ref (B 0)), (1, .int v1), (2, .int v2)]) S.1 S.2.1 dX6_cancel_26 rfl hl (by decide) rfl (fun ls hl => ?_)
      refine lv_iconst (v := 0) S.1 S.2.1 dX6_cancel_27 (by decide) ?_
      refine lv_istore (lv' := [(4, .int 0), (3, .int ((-1))), (0, .ref (B 0)), (1, .int v1), (2, .int v2)]) S.1 S.2.1 dX6_cancel_28 hl (by decide) rfl (fun ls hl => ?_)
      exact B30  24 z32.2 v1 v2 ((-1)) 0 hf L28 F29 hI hFr _ _ _ _ _ hW (by omega) (by omega) (lv_sub hl [2, 3, 4, 1, 0] rfl)
    · have hf := (if_neg c33).symm.trans hf
      refine lv_iconst (v := 0) S.1 S.2.1 dX6_cancel_23 (by decide) ?_
      exact pk_zret S hr hlk hW (by decide) (eqm (P := fun z => z.1 = 0 ∧ MI κ ζ B z.2 L28 F29 ∧ FrM L F L28 F29) ⟨rfl, hI, hFr⟩ (Option.some.inj hf)) (by omega) (by omega) dX6_cancel_24
  unfold f_X6_cancel at hf
  refine lv_aload_n S.1 S.2.1 dX6_cancel_0 rfl (lv_at hl 0 rfl) ?_
  refine lv_iload_n S.1 S.2.1 dX6_cancel_1 rfl (lv_at hl 1 rfl) ?_
  refine lv_iconst (v := 0) S.1 S.2.1 dX6_cancel_2 (by decide) ?_
  refine lv_bipush (v := 7) S.1 S.2.1 dX6_cancel_3 (by decide) ?_
  obtain ⟨z38, hz, hf⟩ := ob hf
  refine pk_cSI (As := [.int x1, .int 0, .int 7]) (rest := [.ref (B 0)]) S hK hST hW (c_X6_isIn  x1 0 7 hz) mc_X6_isIn wd_1185 wd_1186 np_X6_isIn rfl hl.1 rfl (Nat.le_of_ble_eq_true rfl) dX6_cancel_5 ⟨by decide, by decide⟩ ⟨rmc (by omega), rms (by omega)⟩ (fun r L34 F35 H36 l37 hp hW => ?_)
  obtain ⟨rfl, rfl, rfl⟩ := hp
  refine lv_if_ne (tgt := 15) S.1 S.2.1 dX6_cancel_8 (by decide) (fun c39 => ?_) (fun c39 => ?_)
  · have hf := (if_neg c39).symm.trans hf
    refine lv_iconst (v := 0) S.1 S.2.1 dX6_cancel_15 (by decide) ?_
    exact B16  x1 x2 0 hf  _ _ _ _ _ hW (by omega) (by omega) (lv_sub hl [0, 1, 2] rfl)
  · have hf := (if_pos c39).symm.trans hf
    refine lv_iconst (v := 1) S.1 S.2.1 dX6_cancel_11 (by decide) ?_
    refine lv_goto (tgt := 16) S.1 S.2.1 dX6_cancel_12 (by decide) ?_
    exact B16  x1 x2 1 hf  _ _ _ _ _ hW (by omega) (by omega) (lv_sub hl [0, 1, 2] rfl)
def f_X6_asked_58 (τ : MS)  (u1 : Int32) (u2 : Int32) : Option Int32 := (f_X6_get τ u1 u2).bind fun z5 => some (z5)
def f_X6_asked_34 (τ : MS)   : Option Int32 := some ((-9))
def f_X6_asked_15 (τ : MS)  (v1 : Int32) (v2 : Int32) (u0 : Int32) : Option Int32 := (f_X6_size τ v1).bind fun z10 => (if z10 = 0 then (if v2 < 2 then f_X6_asked_34 τ else (if v2 = 4 then f_X6_asked_34 τ else some (0))) else (if u0 = 0 then f_X6_asked_58 τ v1 0 else (f_X6_size τ v1).bind fun z17 => f_X6_asked_58 τ v1 (z17 - 1)))
def f_X6_asked_10 (τ : MS)  (v1 : Int32) (v2 : Int32) : Option Int32 := f_X6_asked_15 τ v1 v2 1
def f_X6_asked (τ : MS) (x1 : Int32) (x2 : Int32) : Option Int32 := (if x2 = 1 then f_X6_asked_10 τ x1 x2 else (if x2 = 3 then f_X6_asked_10 τ x1 x2 else f_X6_asked_15 τ x1 x2 0))
theorem mc_X6_asked : MCode yX6_asked cX6_asked 4 (some .int) := ⟨wd_1528, wd_5, by decide, by decide⟩
theorem np_X6_asked : (parseMethodDescriptor yX6_asked.desc).map (fun d => d.parameters.length) = some 2 := by decide +kernel
set_option maxHeartbeats 4000000 in
set_option maxRecDepth 100000 in
theorem c_X6_asked {l : Launch} {D : va_G} {κ : Nat → ClassId} {ζ : Nat → Nat} {L : List Nat} {F : Nat → va_E} {τ : MS} {B : Nat → Nat} (hI : MI κ ζ B τ L F) (x1 : Int32) (x2 : Int32) {res : Int32} (hf : f_X6_asked τ x1 x2 = some res) : MtI l D cls (ty5 κ) ζ yX6_asked cX6_asked 4 (some .int) 6 0 0 ([.ref (B 0), .int x1, .int x2] : List Value) L F (fun r L' F' => L = L' ∧ F = F' ∧ res = r) := by
  refine MtI.of (by decide) (Nat.le_of_ble_eq_true rfl) ?_
  intro p e s m below meth c S hr hlk _ hK hW hST ls hl
  have hl : lv_has ls 4 [(0, .ref (B 0)), (1, .int x1), (2, .int x2)] := hl
  have B58 : ∀  (u1 : Int32) (u2 : Int32), f_X6_asked_58 τ u1 u2 = some res → ∀ (H58 : Heap) (l58 : List Loc) (ls : Array Slot) (cc ss : Nat), HW D cls L s H58 l58 L F → cc + (0) ≤ 0 → ss ≤ 33 * cc → lv_has ls 4 [] → W p l e (Rm 6 0 0) s m ([.ref (B 0), .int x1, .int x2] : List Value).toArray below meth c H58 l58 cc ss (EnI D cls s below ([.ref (B 0), .int x1, .int x2] : List Value).toArray 0 0 L (fun r L' F' => L = L' ∧ F = F' ∧ res = r)) (F0 m 58 ls [.int u2, .int u1, .ref (B 0)]) := by
    intro  u1 u2 hf H58 l58 ls cc ss hW hcc hss hl
    unfold f_X6_asked_58 at hf
    obtain ⟨z5, hz, hf⟩ := ob hf
    refine pk_cVI (As := [.int u1, .int u2]) (rest := []) S hK hST hW (c_X6_get hI u1 u2 hz) mc_X6_get wd_1299 wd_1301 wd_1711 rfl np_X6_get (hI.mem (by decide)) hI.this rfl rfl hl.1 rfl (Nat.le_of_ble_eq_true rfl) dX6_asked_58 ⟨by decide, by decide⟩ ⟨rmc (by omega), rms (by omega)⟩ (fun r L1 F2 H3 l4 hp hW => ?_)
    obtain ⟨rfl, rfl, rfl⟩ := hp
    exact pk_iret S hr hlk hW ⟨rfl, rfl, eqm (P := fun z => z = z5) rfl (Option.some.inj hf)⟩ (by omega) (by omega) dX6_asked_61
  have B34 :  f_X6_asked_34 τ = some res → ∀ (H34 : Heap) (l34 : List Loc) (ls : Array Slot) (cc ss : Nat), HW D cls L s H34 l34 L F → cc + (0) ≤ 0 → ss ≤ 33 * cc → lv_has ls 4 [] → W p l e (Rm 6 0 0) s m ([.ref (B 0), .int x1, .int x2] : List Value).toArray below meth c H34 l34 cc ss (EnI D cls s below ([.ref (B 0), .int x1, .int x2] : List Value).toArray 0 0 L (fun r L' F' => L = L' ∧ F = F' ∧ res = r)) (F0 m 34 ls []) := by
    intro   hf H34 l34 ls cc ss hW hcc hss hl
    unfold f_X6_asked_34 at hf
    refine lv_bipush (v := (-9)) S.1 S.2.1 dX6_asked_34 (by decide) ?_
    refine lv_goto (tgt := 40) S.1 S.2.1 dX6_asked_36 (by decide) ?_
    exact pk_iret S hr hlk hW ⟨rfl, rfl, eqm (P := fun z => z = (-9)) rfl (Option.some.inj hf)⟩ (by omega) (by omega) dX6_asked_40
  have B15 : ∀  (v1 : Int32) (v2 : Int32) (u0 : Int32), f_X6_asked_15 τ v1 v2 u0 = some res → ∀ (H15 : Heap) (l15 : List Loc) (ls : Array Slot) (cc ss : Nat), HW D cls L s H15 l15 L F → cc + (0) ≤ 0 → ss ≤ 33 * cc → lv_has ls 4 [(0, .ref (B 0)), (1, .int v1), (2, .int v2)] → W p l e (Rm 6 0 0) s m ([.ref (B 0), .int x1, .int x2] : List Value).toArray below meth c H15 l15 cc ss (EnI D cls s below ([.ref (B 0), .int x1, .int x2] : List Value).toArray 0 0 L (fun r L' F' => L = L' ∧ F = F' ∧ res = r)) (F0 m 15 ls [.int u0]) := by
    intro  v1 v2 u0 hf H15 l15 ls cc ss hW hcc hss hl
    unfold f_X6_asked_15 at hf
    refine lv_istore_n (lv' := [(3, .int u0), (0, .ref (B 0)), (1, .int v1), (2, .int v2)]) S.1 S.2.1 dX6_asked_15 rfl hl (by decide) rfl (fun ls hl => ?_)
    refine lv_aload_n S.1 S.2.1 dX6_asked_16 rfl (lv_at hl 1 rfl) ?_
    refine lv_iload_n S.1 S.2.1 dX6_asked_17 rfl (lv_at hl 2 rfl) ?_
    obtain ⟨z10, hz, hf⟩ := ob hf
    refine pk_cVI (As := [.int v1]) (rest := []) S hK hST hW (c_X6_size hI v1 hz) mc_X6_size wd_1199 wd_1201 wd_1703 rfl np_X6_size (hI.mem (by decide)) hI.this rfl rfl hl.1 rfl (Nat.le_of_ble_eq_true rfl) dX6_asked_18 ⟨by decide, by decide⟩ ⟨rmc (by omega), rms (by omega)⟩ (fun r L6 F7 H8 l9 hp hW => ?_)
    obtain ⟨rfl, rfl, rfl⟩ := hp
    refine lv_if_ne (tgt := 41) S.1 S.2.1 dX6_asked_21 (by decide) (fun c11 => ?_) (fun c11 => ?_)
    · have hf := (if_neg c11).symm.trans hf
      refine lv_aload_n S.1 S.2.1 dX6_asked_41 rfl (lv_at hl 1 rfl) ?_
      refine lv_iload_n S.1 S.2.1 dX6_asked_42 rfl (lv_at hl 2 rfl) ?_
      refine lv_iload_n S.1 S.2.1 dX6_asked_43 rfl (lv_at hl 0 rfl) ?_
      refine lv_if_eq (tgt := 57) S.1 S.2.1 dX6_asked_44 (by decide) (fun c12 => ?_) (fun c12 => ?_)
      · have hf := (if_pos c12).symm.trans hf
        refine lv_iconst (v := 0) S.1 S.2.1 dX6_asked_57 (by decide) ?_
        exact B58  v1 0 hf  _ _ _ _ _ hW (by omega) (by omega) (lv_sub hl [] rfl)
      · have hf := (if_neg c12).symm.trans hf
        refine lv_aload_n S.1 S.2.1 dX6_asked_47 rfl (lv_at hl 1 rfl) ?_
        refine lv_iload_n S.1 S.2.1 dX6_asked_48 rfl (lv_at hl 2 rfl) ?_
        obtain ⟨z17, hz, hf⟩ := ob hf
        refine pk_cVI (As := [.int v1]) (rest := [.int v1, .ref (B 0)]) S hK hST hW (c_X6_size hI v1 hz) mc_X6_size wd_1199 wd_1201 wd_1703 rfl np_X6_size (hI.mem (by decide)) hI.this rfl rfl hl.1 rfl (Nat.le_of_ble_eq_true rfl) dX6_asked_49 ⟨by decide, by decide⟩ ⟨rmc (by omega), rms (by omega)⟩ (fun r L13 F14 H15 l16 hp hW => ?_)
        obtain ⟨rfl, rfl, rfl⟩ := hp
        refine lv_iconst (v := 1) S.1 S.2.1 dX6_asked_52 (by decide) ?_
        refine lv_isub S.1 S.2.1 dX6_asked_53 ?_
        refine lv_goto (tgt := 58) S.1 S.2.1 dX6_asked_54 (by decide) ?_
        exact B58  v1 (z17 - 1) hf  _ _ _ _ _ hW (by omega) (by omega) (lv_sub hl [] rfl)
    · have hf := (if_pos c11).symm.trans hf
      refine lv_iload_n S.1 S.2.1 dX6_asked_24 rfl (lv_at hl 3 rfl) ?_
      refine lv_iconst (v := 2) S.1 S.2.1 dX6_asked_25 (by decide) ?_
      refine lv_icmp_lt (tgt := 34) S.1 S.2.1 dX6_asked_26 (by decide) (fun c18 => ?_) (fun c18 => ?_)
      · have hf := (if_pos c18).symm.trans hf
        exact B34   hf  _ _ _ _ _ hW (by omega) (by omega) (lv_sub hl [] rfl)
      · have hf := (if_neg c18).symm.trans hf
        refine lv_iload_n S.1 S.2.1 dX6_asked_29 rfl (lv_at hl 3 rfl) ?_
        refine lv_iconst (v := 4) S.1 S.2.1 dX6_asked_30 (by decide) ?_
        refine lv_icmp_ne (tgt := 39) S.1 S.2.1 dX6_asked_31 (by decide) (fun c19 => ?_) (fun c19 => ?_)
        · have hf := (if_neg c19).symm.trans hf
          refine lv_iconst (v := 0) S.1 S.2.1 dX6_asked_39 (by decide) ?_
          exact pk_iret S hr hlk hW ⟨rfl, rfl, eqm (P := fun z => z = 0) rfl (Option.some.inj hf)⟩ (by omega) (by omega) dX6_asked_40
        · have hf := (if_pos c19).symm.trans hf
          exact B34   hf  _ _ _ _ _ hW (by omega) (by omega) (lv_sub hl [] rfl)
  have B10 : ∀  (v1 : Int32) (v2 : Int32), f_X6_asked_10 τ v1 v2 = some res → ∀ (H10 : Heap) (l10 : List Loc) (ls : Array Slot) (cc ss : Nat), HW D cls L s H10 l10 L F → cc + (0) ≤ 0 → ss ≤ 33 * cc → lv_has ls 4 [(0, .ref (B 0)), (1, .int v1), (2, .int v2)] → W p l e (Rm 6 0 0) s m ([.ref (B 0), .int x1, .int x2] : List Value).toArray below meth c H10 l10 cc ss (EnI D cls s below ([.ref (B 0), .int x1, .int x2] : List Value).toArray 0 0 L (fun r L' F' => L = L' ∧ F = F' ∧ res = r)) (F0 m 10 ls []) := by
    intro  v1 v2 hf H10 l10 ls cc ss hW hcc hss hl
    unfold f_X6_asked_10 at hf
    refine lv_iconst (v := 1) S.1 S.2.1 dX6_asked_10 (by decide) ?_
    refine lv_goto (tgt := 15) S.1 S.2.1 dX6_asked_11 (by decide) ?_
    exact B15  v1 v2 1 hf  _ _ _ _ _ hW (by omega) (by omega) (lv_sub hl [0, 1, 2] rfl)
  unfold f_X6_asked at hf
  refine lv_iload_n S.1 S.2.1 dX6_asked_0 rfl (lv_at hl 2 rfl) ?_
  refine lv_iconst (v := 1) S.1 S.2.1 dX6_asked_1 (by decide) ?_
  refine lv_icmp_eq (tgt := 10) S.1 S.2.1 dX6_asked_2 (by decide) (fun c20 => ?_) (fun c20 => ?_)
  · have hf := (if_pos c20).symm.trans hf
    exact B10  x1 x2 hf  _ _ _ _ _ hW (by omega) (by omega) (lv_sub hl [0, 1, 2] rfl)
  · have hf := (if_neg c20).symm.trans hf
    refine lv_iload_n S.1 S.2.1 dX6_asked_5 rfl (lv_at hl 2 rfl) ?_
    refine lv_iconst (v := 3) S.1 S.2.1 dX6_asked_6 (by decide) ?_
    refine lv_icmp_ne (tgt := 14) S.1 S.2.1 dX6_asked_7 (by decide) (fun c21 => ?_) (fun c21 => ?_)
    · have hf := (if_neg c21).symm.trans hf
      refine lv_iconst (v := 0) S.1 S.2.1 dX6_asked_14 (by decide) ?_
      exact B15  x1 x2 0 hf  _ _ _ _ _ hW (by omega) (by omega) (lv_sub hl [0, 1, 2] rfl)
    · have hf := (if_pos c21).symm.trans hf
      exact B10  x1 x2 hf  _ _ _ _ _ hW (by omega) (by omega) (lv_sub hl [0, 1, 2] rfl)
def f_X6_ask_34   (w34 : MS) : Option (Int32 × MS) := some (0, w34)
def f_X6_ask_27   (w27 : MS) (v1 : Int32) (v2 : Int32) (u1 : Int32) : Option (Int32 × MS) := (f_X6_refuse w27 u1 2).bind fun z5 => (if z5.1 = 0 then (f_X6_asked z5.2 v1 v2).bind fun z11 => some (z11, z5.2) else f_X6_ask_34 z5.2)
def f_X6_ask (τ : MS) (x1 : Int32) (x2 : Int32) : Option (Int32 × MS) := (f_X6_isNoTrack x1).bind fun z16 => (f_X6_start τ z16 1).bind fun z21 => (if z21.1 = 0 then (f_X6_isIn x2 0 5).bind fun z27 => (if z27 = 0 then f_X6_ask_27 z21.2 x1 x2 1 else f_X6_ask_27 z21.2 x1 x2 0) else f_X6_ask_34 z21.2)
theorem mc_X6_ask : MCode yX6_ask cX6_ask 3 (some .int) := ⟨wd_1524, wd_5, by decide, by decide⟩
theorem np_X6_ask : (parseMethodDescriptor yX6_ask.desc).map (fun d => d.parameters.length) = some 2 := by decide +kernel
set_option maxHeartbeats 4000000 in
set_option maxRecDepth 100000 in
theorem c_X6_ask {l : Launch} {D : va_G} {κ : Nat → ClassId} {ζ : Nat → Nat} {L : List Nat} {F : Nat → va_E} {τ : MS} {B : Nat → Nat} (hI : MI κ ζ B τ L F) (x1 : Int32) (x2 : Int32) {res : (Int32 × MS)} (hf : f_X6_ask τ x1 x2 = some res) : MtI l D cls (ty5 κ) ζ yX6_ask cX6_ask 3 (some .int) 7 0 0 ([.ref (B 0), .int x1, .int x2] : List Value) L F (fun r L' F' => res.1 = r ∧ MI κ ζ B res.2 L' F' ∧ FrM L F L' F') := by
  refine MtI.of (by decide) (Nat.le_of_ble_eq_true rfl) ?_
  intro p e s m below meth c S hr hlk _ hK hW hST ls hl
  have hl : lv_has ls 3 [(0, .ref (B 0)), (1, .int x1), (2, .int x2)] := hl
  have hFr : FrM L F L F := FrM.rf
  have B34 : ∀  (w34 : MS), f_X6_ask_34 w34 = some res → ∀ (K34 : List Nat) (G34 : Nat → va_E), MI κ ζ B w34 K34 G34 → FrM L F K34 G34 → ∀ (H34 : Heap) (l34 : List Loc) (ls : Array Slot) (cc ss : Nat), HW D cls L s H34 l34 K34 G34 → cc + (0) ≤ 0 → ss ≤ 33 * cc → lv_has ls 3 [] → W p l e (Rm 7 0 0) s m ([.ref (B 0), .int x1, .int x2] : List Value).toArray below meth c H34 l34 cc ss (EnI D cls s below ([.ref (B 0), .int x1, .int x2] : List Value).toArray 0 0 L (fun r L' F' => res.1 = r ∧ MI κ ζ B res.2 L' F' ∧ FrM L F L' F')) (F0 m 34 ls []) := by
    intro  w34 hf K34 G34 hI hFr H34 l34 ls cc ss hW hcc hss hl
    unfold f_X6_ask_34 at hf
    refine lv_iconst (v := 0) S.1 S.2.1 dX6_ask_34 (by decide) ?_
    refine lv_goto (tgt := 44) S.1 S.2.1 dX6_ask_35 (by decide) ?_
    exact pk_iret S hr hlk hW (eqm (P := fun z => z.1 = 0 ∧ MI κ ζ B z.2 K34 G34 ∧ FrM L F K34 G34) ⟨rfl, hI, hFr⟩ (Option.some.inj hf)) (by omega) (by omega) dX6_ask_44
  have B27 : ∀  (w27 : MS) (v1 : Int32) (v2 : Int32) (u1 : Int32), f_X6_ask_27 w27 v1 v2 u1 = some res → ∀ (K27 : List Nat) (G27 : Nat → va_E), MI κ ζ B w27 K27 G27 → FrM L F K27 G27 → ∀ (H27 : Heap) (l27 : List Loc) (ls : Array Slot) (cc ss : Nat), HW D cls L s H27 l27 K27 G27 → cc + (0) ≤ 0 → ss ≤ 33 * cc → lv_has ls 3 [(0, .ref (B 0)), (1, .int v1), (2, .int v2)] → W p l e (Rm 7 0 0) s m ([.ref (B 0), .int x1, .int x2] : List Value).toArray below meth c H27 l27 cc ss (EnI D cls s below ([.ref (B 0), .int x1, .int x2] : List Value).toArray 0 0 L (fun r L' F' => res.1 = r ∧ MI κ ζ B res.2 L' F' ∧ FrM L F L' F')) (F0 m 27 ls [.int u1, .ref (B 0)]) := by
    intro  w27 v1 v2 u1 hf K27 G27 hI hFr H27 l27 ls cc ss hW hcc hss hl
    unfold f_X6_ask_27 at hf
    refine lv_iconst (v := 2) S.1 S.2.1 dX6_ask_27 (by decide) ?_
    obtain ⟨z5, hz, hf⟩ := ob hf
    refine pk_cVI (As := [.int u1, .int 2]) (rest := []) S hK hST hW (c_X6_refuse hI u1 2 hz) mc_X6_refuse wd_1192 wd_1194 wd_1702 rfl np_X6_refuse (hI.mem (by decide)) hI.this rfl rfl hl.1 rfl (Nat.le_of_ble_eq_true rfl) dX6_ask_28 ⟨by decide, by decide⟩ ⟨rmc (by omega), rms (by omega)⟩ (fun r L1 F2 H3 l4 hp hW => ?_)
    obtain ⟨rfl, hI, hF9⟩ := hp
    have hFr := hFr.tr hF9
    refine lv_if_eq (tgt := 38) S.1 S.2.1 dX6_ask_31 (by decide) (fun c6 => ?_) (fun c6 => ?_)
    · have hf := (if_pos c6).symm.trans hf
      refine lv_aload_n S.1 S.2.1 dX6_ask_38 rfl (lv_at hl 0 rfl) ?_
      refine lv_iload_n S.1 S.2.1 dX6_ask_39 rfl (lv_at hl 1 rfl) ?_
      refine lv_iload_n S.1 S.2.1 dX6_ask_40 rfl (lv_at hl 2 rfl) ?_
      obtain ⟨z11, hz, hf⟩ := ob hf
      refine pk_cVI (As := [.int v1, .int v2]) (rest := []) S hK hST hW (c_X6_asked hI v1 v2 hz) mc_X6_asked wd_1525 wd_1527 wd_1724 rfl np_X6_asked (hI.mem (by decide)) hI.this rfl rfl hl.1 rfl (Nat.le_of_ble_eq_true rfl) dX6_ask_41 ⟨by decide, by decide⟩ ⟨rmc (by omega), rms (by omega)⟩ (fun r L7 F8 H9 l10 hp hW => ?_)
      obtain ⟨rfl, rfl, rfl⟩ := hp
      exact pk_iret S hr hlk hW (eqm (P := fun z => z.1 = z11 ∧ MI κ ζ B z.2 L1 F2 ∧ FrM L F L1 F2) ⟨rfl, hI, hFr⟩ (Option.some.inj hf)) (by omega) (by omega) dX6_ask_44
    · have hf := (if_neg c6).symm.trans hf
      exact B34  z5.2 hf L1 F2 hI hFr _ _ _ _ _ hW (by omega) (by omega) (lv_sub hl [] rfl)
  unfold f_X6_ask at hf
  refine lv_aload_n S.1 S.2.1 dX6_ask_0 rfl (lv_at hl 0 rfl) ?_
  refine lv_iload_n S.1 S.2.1 dX6_ask_1 rfl (lv_at hl 1 rfl) ?_
  obtain ⟨z16, hz, hf⟩ := ob hf
  refine pk_cSI (As := [.int x1]) (rest := [.ref (B 0)]) S hK hST hW (c_X6_isNoTrack  x1 hz) mc_X6_isNoTrack wd_1182 wd_1183 np_X6_isNoTrack rfl hl.1 rfl (Nat.le_of_ble_eq_true rfl) dX6_ask_2 ⟨by decide, by decide⟩ ⟨rmc (by omega), rms (by omega)⟩ (fun r L12 F13 H14 l15 hp hW => ?_)
  obtain ⟨rfl, rfl, rfl⟩ := hp
  refine lv_iconst (v := 1) S.1 S.2.1 dX6_ask_5 (by decide) ?_
  obtain ⟨z21, hz, hf⟩ := ob hf
  refine pk_cVI (As := [.int z16, .int 1]) (rest := []) S hK hST hW (c_X6_start hI z16 1 hz) mc_X6_start wd_1188 wd_1190 wd_1701 rfl np_X6_start (hI.mem (by decide)) hI.this rfl rfl hl.1 rfl (Nat.le_of_ble_eq_true rfl) dX6_ask_6 ⟨by decide, by decide⟩ ⟨rmc (by omega), rms (by omega)⟩ (fun r L17 F18 H19 l20 hp hW => ?_)
  obtain ⟨rfl, hI, hF9⟩ := hp
  have hFr := hFr.tr hF9
  refine lv_if_ne (tgt := 34) S.1 S.2.1 dX6_ask_9 (by decide) (fun c22 => ?_) (fun c22 => ?_)
  · have hf := (if_neg c22).symm.trans hf
    exact B34  z21.2 hf L17 F18 hI hFr _ _ _ _ _ hW (by omega) (by omega) (lv_sub hl [] rfl)
  · have hf := (if_pos c22).symm.trans hf
    refine lv_aload_n S.1 S.2.1 dX6_ask_12 rfl (lv_at hl 0 rfl) ?_
    refine lv_iload_n S.1 S.2.1 dX6_ask_13 rfl (lv_at hl 2 rfl) ?_
    refine lv_iconst (v := 0) S.1 S.2.1 dX6_ask_14 (by decide) ?_
    refine lv_iconst (v := 5) S.1 S.2.1 dX6_ask_15 (by decide) ?_
    obtain ⟨z27, hz, hf⟩ := ob hf
    refine pk_cSI (As := [.int x2, .int 0, .int 5]) (rest := [.ref (B 0)]) S hK hST hW (c_X6_isIn  x2 0 5 hz) mc_X6_isIn wd_1185 wd_1186 np_X6_isIn rfl hl.1 rfl (Nat.le_of_ble_eq_true rfl) dX6_ask_16 ⟨by decide, by decide⟩ ⟨rmc (by omega), rms (by omega)⟩ (fun r L23 F24 H25 l26 hp hW => ?_)
    obtain ⟨rfl, rfl, rfl⟩ := hp
    refine lv_if_ne (tgt := 26) S.1 S.2.1 dX6_ask_19 (by decide) (fun c28 => ?_) (fun c28 => ?_)
    · have hf := (if_neg c28).symm.trans hf
      refine lv_iconst (v := 0) S.1 S.2.1 dX6_ask_26 (by decide) ?_
      exact B27  z21.2 x1 x2 0 hf L17 F18 hI hFr _ _ _ _ _ hW (by omega) (by omega) (lv_sub hl [0, 1, 2] rfl)
    · have hf := (if_pos c28).symm.trans hf
      refine lv_iconst (v := 1) S.1 S.2.1 dX6_ask_22 (by decide) ?_
      refine lv_goto (tgt := 27) S.1 S.2.1 dX6_ask_23 (by decide) ?_
      exact B27  z21.2 x1 x2 1 hf L17 F18 hI hFr _ _ _ _ _ hW (by omega) (by omega) (lv_sub hl [0, 1, 2] rfl)
def f_X6_trackTold_81   (w81 : MS) (v2 : Int32) (v3 : Int32) (v4 : Int32) (nu0 : Nat) (gu0 : (Nat → Int32)) (u2 : Int32) (u3 : Int32) : Option (Int32 × MS) := (f_X6_one u3).bind fun z5 => (if u2 < 0 ∨ nu0 ≤ u2.toNatClampNeg then none else nm ((upd gu0 u2.toNatClampNeg z5) : Nat → Int32) fun g6 => (if (2 : Int32) < 0 ∨ nu0 ≤ (2 : Int32).toNatClampNeg then none else nm ((upd g6 (2 : Int32).toNatClampNeg v3) : Nat → Int32) fun g10 => (if (3 : Int32) < 0 ∨ nu0 ≤ (3 : Int32).toNatClampNeg then none else nm ((upd g10 (3 : Int32).toNatClampNeg v4) : Nat → Int32) fun g14 => (if v2 < 0 ∨ nu0 ≤ v2.toNatClampNeg then none else some (g14 v2.toNatClampNeg, w81)))))
def f_X6_trackTold_8 (τ : MS)  (k8 : (Int32 × Int32 × Int32 × Int32 × Int32) → Option (Int32 × MS)) (t : (Int32 × Int32 × Int32 × Int32 × Int32)) : Option (Int32 × MS) := (f_X6_size τ t.1).bind fun z22 => (if z22 ≤ t.2.2.2.2 then (if (4 : Int32) < 0 ∨ 32 < (4 : Int32).toNatClampNeg then none else nm ((4 : Int32).toNatClampNeg : Nat) fun n24 => nm (fun _ => 0 : Nat → Int32) fun g25 => (f_X6_size τ t.1).bind fun z34 => (if (0 : Int32) < 0 ∨ n24 ≤ (0 : Int32).toNatClampNeg then none else nm ((upd g25 (0 : Int32).toNatClampNeg z34) : Nat → Int32) fun g35 => (f_X6_size τ t.1).bind fun z43 => (if z43 = 0 then f_X6_trackTold_81 (τ) t.2.1 t.2.2.1 t.2.2.2.1 n24 g35 1 1 else f_X6_trackTold_81 (τ) t.2.1 t.2.2.1 t.2.2.2.1 n24 g35 1 0))) else (f_X6_get τ t.1 t.2.2.2.2).bind fun z49 => (f_X6_load z49).bind fun z54 => nm (t.2.2.1 + z54 : Int32) fun y55 => (f_X6_get τ t.1 t.2.2.2.2).bind fun z60 => (f_X6_kind z60).bind fun z65 => nm ((31 * t.2.2.2.1) + z65 : Int32) fun y66 => nm (t.2.2.2.2 + 1 : Int32) fun y67 => k8 (t.1, t.2.1, y55, y66, y67))
def f_X6_trackTold (τ : MS) (x1 : Int32) (x2 : Int32) : Option (Int32 × MS) := lpn (f_X6_trackTold_8 τ) 24 (x1, x2, 0, 1, 0)
theorem mc_X6_trackTold : MCode yX6_trackTold cX6_trackTold 6 (some .int) := ⟨wd_1536, wd_5, by decide, by decide⟩
theorem np_X6_trackTold : (parseMethodDescriptor yX6_trackTold.desc).map (fun d => d.parameters.length) = some 2 := by decide +kernel
set_option maxHeartbeats 4000000 in
set_option maxRecDepth 100000 in
theorem c_X6_trackTold {l : Launch} {D : va_G} {κ : Nat → ClassId} {ζ : Nat → Nat} {L : List Nat} {F : Nat → va_E} {τ : MS} {B : Nat → Nat} (hI : MI κ ζ B τ L F) (x1 : Int32) (x2 : Int32) {res : (Int32 × MS)} (hf : f_X6_trackTold τ x1 x2 = some res) : MtI l D cls (ty5 κ) ζ yX6_trackTold cX6_trackTold 6 (some .int) 6 1 33 ([.ref (B 0), .int x1, .int x2] : List Value) L F (fun r L' F' => res.1 = r ∧ MI κ ζ B res.2 L' F' ∧ FrM L F L' F') := by
  refine MtI.of (by decide) (Nat.le_of_ble_eq_true rfl) ?_
  intro p e s m below meth c S hr hlk _ hK hW hST ls hl
  have hl : lv_has ls 6 [(0, .ref (B 0)), (1, .int x1), (2, .int x2)] := hl
  have hFr : FrM L F L F := FrM.rf
  have B81 : ∀  (w81 : MS) (v2 : Int32) (v3 : Int32) (v4 : Int32) (nu0 : Nat) (gu0 : Nat → Int32) (u2 : Int32) (u3 : Int32), f_X6_trackTold_81 w81 v2 v3 v4 nu0 gu0 u2 u3 = some res → ∀ (K81 : List Nat) (G81 : Nat → va_E), ∀ (qu0 : Nat), qu0 ∈ K81 → G81 qu0 = .inl (κ 0, nu0, .inl gu0) → (qu0 ∉ L) → MI κ ζ B w81 K81 G81 → FrM L F K81 G81 → ∀ (H81 : Heap) (l81 : List Loc) (ls : Array Slot) (cc ss : Nat), HW D cls L s H81 l81 K81 G81 → cc + (0) ≤ 1 → ss ≤ 33 * cc → lv_has ls 6 [(2, .int v2), (3, .int v3), (4, .int v4)] → W p l e (Rm 6 1 33) s m ([.ref (B 0), .int x1, .int x2] : List Value).toArray below meth c H81 l81 cc ss (EnI D cls s below ([.ref (B 0), .int x1, .int x2] : List Value).toArray 1 33 L (fun r L' F' => res.1 = r ∧ MI κ ζ B res.2 L' F' ∧ FrM L F L' F')) (F0 m 81 ls [.int u3, .int u2, .ref qu0, .ref qu0]) := by
    intro  w81 v2 v3 v4 nu0 gu0 u2 u3 hf K81 G81 qu0 m_qu0 e_qu0 hnw_qu0 hI hFr H81 l81 ls cc ss hW hcc hss hl
    unfold f_X6_trackTold_81 at hf
    obtain ⟨z5, hz, hf⟩ := ob hf
    refine pk_cSI (As := [.int u3]) (rest := [.int u2, .ref qu0, .ref qu0]) S hK hST hW (c_X6_one  u3 hz) mc_X6_one wd_1288 wd_1289 np_X6_one rfl hl.1 rfl (Nat.le_of_ble_eq_true rfl) dX6_trackTold_81 ⟨by decide, by decide⟩ ⟨rmc (by omega), rms (by omega)⟩ (fun r L1 F2 H3 l4 hp hW => ?_)
    obtain ⟨rfl, rfl, rfl⟩ := hp
    obtain ⟨hg, hf⟩ := gd hf
    obtain ⟨g6, eg6, hf⟩ := nm_ok hf
    refine pk_iast S hK hW 0 m_qu0 e_qu0 rfl hg dX6_trackTold_84 (fun H8 l9 hW => ?_)
    rw [← eg6] at hW
    have hI := hI.loc (g' := g6) e_qu0
    have hFr := hFr.loc (e := .inl (κ 0, nu0, .inl g6)) hnw_qu0
    have e_qu0 : (va_up G81 qu0 (.inl (κ 0, nu0, .inl g6))) qu0 = .inl (κ 0, nu0, .inl g6) := up_eq
    generalize va_up G81 qu0 (.inl (κ 0, nu0, .inl g6)) = F7 at hW hI hFr e_qu0
    refine lv_dup S.1 S.2.1 dX6_trackTold_85 rfl ?_
    refine lv_iconst (v := 2) S.1 S.2.1 dX6_trackTold_86 (by decide) ?_
    refine lv_iload_n S.1 S.2.1 dX6_trackTold_87 rfl (lv_at hl 1 rfl) ?_
    obtain ⟨hg, hf⟩ := gd hf
    obtain ⟨g10, eg10, hf⟩ := nm_ok hf
    refine pk_iast S hK hW 0 m_qu0 e_qu0 rfl hg dX6_trackTold_88 (fun H12 l13 hW => ?_)
    rw [← eg10] at hW
    have hI := hI.loc (g' := g10) e_qu0
    have hFr := hFr.loc (e := .inl (κ 0, nu0, .inl g10)) hnw_qu0
    have e_qu0 : (va_up F7 qu0 (.inl (κ 0, nu0, .inl g10))) qu0 = .inl (κ 0, nu0, .inl g10) := up_eq
    generalize va_up F7 qu0 (.inl (κ 0, nu0, .inl g10)) = F11 at hW hI hFr e_qu0
    refine lv_dup S.1 S.2.1 dX6_trackTold_89 rfl ?_
    refine lv_iconst (v := 3) S.1 S.2.1 dX6_trackTold_90 (by decide) ?_
    refine lv_iload S.1 S.2.1 dX6_trackTold_91 (lv_at hl 2 rfl) ?_
    obtain ⟨hg, hf⟩ := gd hf
    obtain ⟨g14, eg14, hf⟩ := nm_ok hf
    refine pk_iast S hK hW 0 m_qu0 e_qu0 rfl hg dX6_trackTold_93 (fun H16 l17 hW => ?_)
    rw [← eg14] at hW
    have hI := hI.loc (g' := g14) e_qu0
    have hFr := hFr.loc (e := .inl (κ 0, nu0, .inl g14)) hnw_qu0
    have e_qu0 : (va_up F11 qu0 (.inl (κ 0, nu0, .inl g14))) qu0 = .inl (κ 0, nu0, .inl g14) := up_eq
    generalize va_up F11 qu0 (.inl (κ 0, nu0, .inl g14)) = F15 at hW hI hFr e_qu0
    refine lv_astore (lv' := [(5, .ref qu0), (2, .int v2), (3, .int v3), (4, .int v4)]) S.1 S.2.1 dX6_trackTold_94 hl (by decide) rfl (fun ls hl => ?_)
    refine lv_aload S.1 S.2.1 dX6_trackTold_96 (lv_at hl 0 rfl) ?_
    refine lv_iload_n S.1 S.2.1 dX6_trackTold_98 rfl (lv_at hl 1 rfl) ?_
    obtain ⟨hg, hf⟩ := gd hf
    refine pk_iald S hK hW 0 m_qu0 e_qu0 rfl hg dX6_trackTold_99 ?_
    exact pk_iret S hr hlk hW (eqm (P := fun z => z.1 = g14 v2.toNatClampNeg ∧ MI κ ζ B z.2 K81 F15 ∧ FrM L F K81 F15) ⟨rfl, hI, hFr⟩ (Option.some.inj hf)) (by omega) (by omega) dX6_trackTold_100
  have B8 : ∀  (N : Nat), (∀ (v1 : Int32) (v2 : Int32) (v3 : Int32) (v4 : Int32) (v5 : Int32), (lpn (f_X6_trackTold_8 τ) N) (v1, v2, v3, v4, v5) = some res → ∀ (H8 : Heap) (l8 : List Loc) (ls : Array Slot) (cc ss : Nat), HW D cls L s H8 l8 L F → cc + (N * 0 + 1) ≤ 1 → ss ≤ 33 * cc → lv_has ls 6 [(0, .ref (B 0)), (1, .int v1), (2, .int v2), (3, .int v3), (4, .int v4), (5, .int v5)] → W p l e (Rm 6 1 33) s m ([.ref (B 0), .int x1, .int x2] : List Value).toArray below meth c H8 l8 cc ss (EnI D cls s below ([.ref (B 0), .int x1, .int x2] : List Value).toArray 1 33 L (fun r L' F' => res.1 = r ∧ MI κ ζ B res.2 L' F' ∧ FrM L F L' F')) (F0 m 8 ls [])) := by
    intro  N
    induction N with
    | zero => intro v1 v2 v3 v4 v5 hf H8 l8 ls cc ss hW hcc hss hl; cases hf
    | succ N ih =>
      intro v1 v2 v3 v4 v5 hf H8 l8 ls cc ss hW hcc hss hl
      have hf : f_X6_trackTold_8 τ (lpn (f_X6_trackTold_8 τ) N) (v1, v2, v3, v4, v5) = some res := hf
      generalize lpn (f_X6_trackTold_8 τ) N = k8 at hf ih
      have hnd8 : 1 ≤ N * 0 + 1 := by omega
      have hcc : cc + (0 + (N * 0 + 1)) ≤ 1 := by omega
      have hk8 := ih
      generalize N * 0 + 1 = nd8 at hnd8 hcc hk8
      unfold f_X6_trackTold_8 at hf
      try dsimp only at hf
      refine lv_iload S.1 S.2.1 dX6_trackTold_8 (lv_at hl 5 rfl) ?_
      refine lv_aload_n S.1 S.2.1 dX6_trackTold_10 rfl (lv_at hl 0 rfl) ?_
      refine lv_iload_n S.1 S.2.1 dX6_trackTold_11 rfl (lv_at hl 1 rfl) ?_
      obtain ⟨z22, hz, hf⟩ := ob hf
      refine pk_cVI (As := [.int v1]) (rest := [.int v5]) S hK hST hW (c_X6_size hI v1 hz) mc_X6_size wd_1199 wd_1201 wd_1703 rfl np_X6_size (hI.mem (by decide)) hI.this rfl rfl hl.1 rfl (Nat.le_of_ble_eq_true rfl) dX6_trackTold_12 ⟨by decide, by decide⟩ ⟨rmc (by omega), rms (by omega)⟩ (fun r L18 F19 H20 l21 hp hW => ?_)
      obtain ⟨rfl, rfl, rfl⟩ := hp
      refine lv_icmp_ge (tgt := 55) S.1 S.2.1 dX6_trackTold_15 (by decide) (fun c23 => ?_) (fun c23 => ?_)
      · have hf := (if_pos c23).symm.trans hf
        refine lv_iconst (v := 4) S.1 S.2.1 dX6_trackTold_55 (by decide) ?_
        obtain ⟨hg9, hf⟩ := gd hf
        obtain ⟨n24, en24, hf⟩ := nm_ok hf
        obtain ⟨g25, eg25, hf⟩ := nm_ok hf
        have hn9 : n24 ≤ 32 := by have := fun q => hg9 (Or.inr q); omega
        refine pk_newI (N' := n24) S hK hW 0 rfl wd_51 (fun q => hg9 (Or.inl q)) en24.symm (by omega) (rmc (by omega)) (rms (by omega)) dX6_trackTold_56 (fun q26 H27 hq_q26 hW => ?_)
        rw [← eg25] at hW
        have hI := hI.push (e := .inl (κ 0, n24, .inl g25)) hq_q26 (noE hW hST)
        have hF9 := FrM.push (F := F) (e := .inl (κ 0, n24, .inl g25)) hq_q26
        have hnw_q26 : q26 ∉ L := fun ee => hq_q26 (hFr.1 _ ee)
        have hFr := hFr.tr hF9
        have e_q26 : (va_up F q26 (.inl (κ 0, n24, .inl g25))) q26 = .inl (κ 0, n24, .inl g25) := up_eq
        have m_q26 : q26 ∈ L ++ [q26] := List.mem_append_right _ (List.mem_singleton.mpr rfl)
        generalize va_up F q26 (.inl (κ 0, n24, .inl g25)) = F28 at hW hI hF9 hFr e_q26
        generalize L ++ [q26] = L29 at hW hI hF9 hFr m_q26
        refine lv_dup S.1 S.2.1 dX6_trackTold_58 rfl ?_
        refine lv_iconst (v := 0) S.1 S.2.1 dX6_trackTold_59 (by decide) ?_
        refine lv_aload_n S.1 S.2.1 dX6_trackTold_60 rfl (lv_at hl 0 rfl) ?_
        refine lv_iload_n S.1 S.2.1 dX6_trackTold_61 rfl (lv_at hl 1 rfl) ?_
        obtain ⟨z34, hz, hf⟩ := ob hf
        refine pk_cVI (As := [.int v1]) (rest := [.int 0, .ref q26, .ref q26]) S hK hST hW (c_X6_size hI v1 hz) mc_X6_size wd_1199 wd_1201 wd_1703 rfl np_X6_size (hI.mem (by decide)) hI.this rfl rfl hl.1 rfl (Nat.le_of_ble_eq_true rfl) dX6_trackTold_62 ⟨by decide, by decide⟩ ⟨rmc (by omega), rms (by omega)⟩ (fun r L30 F31 H32 l33 hp hW => ?_)
        obtain ⟨rfl, rfl, rfl⟩ := hp
        obtain ⟨hg, hf⟩ := gd hf
        obtain ⟨g35, eg35, hf⟩ := nm_ok hf
        refine pk_iast S hK hW 0 m_q26 e_q26 rfl hg dX6_trackTold_65 (fun H37 l38 hW => ?_)
        rw [← eg35] at hW
        have hI := hI.loc (g' := g35) e_q26
        have hFr := hFr.loc (e := .inl (κ 0, n24, .inl g35)) hnw_q26
        have e_q26 : (va_up F28 q26 (.inl (κ 0, n24, .inl g35))) q26 = .inl (κ 0, n24, .inl g35) := up_eq
        generalize va_up F28 q26 (.inl (κ 0, n24, .inl g35)) = F36 at hW hI hFr e_q26
        refine lv_dup S.1 S.2.1 dX6_trackTold_66 rfl ?_
        refine lv_iconst (v := 1) S.1 S.2.1 dX6_trackTold_67 (by decide) ?_
        refine lv_aload_n S.1 S.2.1 dX6_trackTold_68 rfl (lv_at hl 0 rfl) ?_
        refine lv_iload_n S.1 S.2.1 dX6_trackTold_69 rfl (lv_at hl 1 rfl) ?_
        obtain ⟨z43, hz, hf⟩ := ob hf
        refine pk_cVI (As := [.int v1]) (rest := [.int 1, .ref q26, .ref q26]) S hK hST hW (c_X6_size hI v1 hz) mc_X6_size wd_1199 wd_1201 wd_1703 rfl np_X6_size (hI.mem (by decide)) hI.this rfl rfl hl.1 rfl (Nat.le_of_ble_eq_true rfl) dX6_trackTold_70 ⟨by decide, by decide⟩ ⟨rmc (by omega), rms (by omega)⟩ (fun r L39 F40 H41 l42 hp hW => ?_)
        obtain ⟨rfl, rfl, rfl⟩ := hp
        refine lv_if_ne (tgt := 80) S.1 S.2.1 dX6_trackTold_73 (by decide) (fun c44 => ?_) (fun c44 => ?_)
        · have hf := (if_neg c44).symm.trans hf
          refine lv_iconst (v := 0) S.1 S.2.1 dX6_trackTold_80 (by decide) ?_
          exact B81  (τ) v2 v3 v4 n24 g35 1 0 hf L29 F36 q26 m_q26 e_q26 hnw_q26 hI hFr _ _ _ _ _ hW (by omega) (by omega) (lv_sub hl [2, 3, 4] rfl)
        · have hf := (if_pos c44).symm.trans hf
          refine lv_iconst (v := 1) S.1 S.2.1 dX6_trackTold_76 (by decide) ?_
          refine lv_goto (tgt := 81) S.1 S.2.1 dX6_trackTold_77 (by decide) ?_
          exact B81  (τ) v2 v3 v4 n24 g35 1 1 hf L29 F36 q26 m_q26 e_q26 hnw_q26 hI hFr _ _ _ _ _ hW (by omega) (by omega) (lv_sub hl [2, 3, 4] rfl)
      · have hf := (if_neg c23).symm.trans hf
        refine lv_iload_n S.1 S.2.1 dX6_trackTold_18 rfl (lv_at hl 3 rfl) ?_
        refine lv_aload_n S.1 S.2.1 dX6_trackTold_19 rfl (lv_at hl 0 rfl) ?_
        refine lv_iload_n S.1 S.2.1 dX6_trackTold_20 rfl (lv_at hl 1 rfl) ?_
        refine lv_iload S.1 S.2.1 dX6_trackTold_21 (lv_at hl 5 rfl) ?_
        obtain ⟨z49, hz, hf⟩ := ob hf
        refine pk_cVI (As := [.int v1, .int v5]) (rest := [.int v3]) S hK hST hW (c_X6_get hI v1 v5 hz) mc_X6_get wd_1299 wd_1301 wd_1711 rfl np_X6_get (hI.mem (by decide)) hI.this rfl rfl hl.1 rfl (Nat.le_of_ble_eq_true rfl) dX6_trackTold_23 ⟨by decide, by decide⟩ ⟨rmc (by omega), rms (by omega)⟩ (fun r L45 F46 H47 l48 hp hW => ?_)
        obtain ⟨rfl, rfl, rfl⟩ := hp
        obtain ⟨z54, hz, hf⟩ := ob hf
        refine pk_cSI (As := [.int z49]) (rest := [.int v3]) S hK hST hW (c_X6_load  z49 hz) mc_X6_load wd_1394 wd_1395 np_X6_load rfl hl.1 rfl (Nat.le_of_ble_eq_true rfl) dX6_trackTold_26 ⟨by decide, by decide⟩ ⟨rmc (by omega), rms (by omega)⟩ (fun r L50 F51 H52 l53 hp hW => ?_)
        obtain ⟨rfl, rfl, rfl⟩ := hp
        refine lv_iadd S.1 S.2.1 dX6_trackTold_29 ?_
        refine lv_topi (fun y55 ey55 => ?_)
        have hf := nm_at hf ey55
        refine lv_istore_n (lv' := [(3, .int y55), (0, .ref (B 0)), (1, .int v1), (2, .int v2), (4, .int v4), (5, .int v5)]) S.1 S.2.1 dX6_trackTold_30 rfl hl (by decide) rfl (fun ls hl => ?_)
        refine lv_bipush (v := 31) S.1 S.2.1 dX6_trackTold_31 (by decide) ?_
        refine lv_iload S.1 S.2.1 dX6_trackTold_33 (lv_at hl 4 rfl) ?_
        refine lv_imul S.1 S.2.1 dX6_trackTold_35 ?_
        refine lv_aload_n S.1 S.2.1 dX6_trackTold_36 rfl (lv_at hl 1 rfl) ?_
        refine lv_iload_n S.1 S.2.1 dX6_trackTold_37 rfl (lv_at hl 2 rfl) ?_
        refine lv_iload S.1 S.2.1 dX6_trackTold_38 (lv_at hl 5 rfl) ?_
        obtain ⟨z60, hz, hf⟩ := ob hf
        refine pk_cVI (As := [.int v1, .int v5]) (rest := [.int (31 * v4)]) S hK hST hW (c_X6_get hI v1 v5 hz) mc_X6_get wd_1299 wd_1301 wd_1711 rfl np_X6_get (hI.mem (by decide)) hI.this rfl rfl hl.1 rfl (Nat.le_of_ble_eq_true rfl) dX6_trackTold_40 ⟨by decide, by decide⟩ ⟨rmc (by omega), rms (by omega)⟩ (fun r L56 F57 H58 l59 hp hW => ?_)
        obtain ⟨rfl, rfl, rfl⟩ := hp
        obtain ⟨z65, hz, hf⟩ := ob hf
        refine pk_cSI (As := [.int z60]) (rest := [.int (31 * v4)]) S hK hST hW (c_X6_kind  z60 hz) mc_X6_kind wd_1370 wd_1371 np_X6_kind rfl hl.1 rfl (Nat.le_of_ble_eq_true rfl) dX6_trackTold_43 ⟨by decide, by decide⟩ ⟨rmc (by omega), rms (by omega)⟩ (fun r L61 F62 H63 l64 hp hW => ?_)
        obtain ⟨rfl, rfl, rfl⟩ := hp
        refine lv_iadd S.1 S.2.1 dX6_trackTold_46 ?_
        refine lv_topi (fun y66 ey66 => ?_)
        have hf := nm_at hf ey66
        refine lv_istore (lv' := [(4, .int y66), (3, .int y55), (0, .ref (B 0)), (1, .int v1), (2, .int v2), (5, .int v5)]) S.1 S.2.1 dX6_trackTold_47 hl (by decide) rfl (fun ls hl => ?_)
        obtain ⟨y67, ey67⟩ : ∃ y : Int32, y = v5 + 1 := ⟨_, rfl⟩
        have hf := nm_at hf ey67
        refine lv_iinc (v := y67) (lv' := [(5, .int y67), (4, .int y66), (3, .int y55), (0, .ref (B 0)), (1, .int v1), (2, .int v2)]) S.1 S.2.1 dX6_trackTold_49 hl (k := 5) rfl (by rw [ey67]; rfl) (by decide) rfl (fun ls hl => ?_)
        refine lv_goto (tgt := 8) S.1 S.2.1 dX6_trackTold_52 (by decide) ?_
        exact hk8 v1 v2 y55 y66 y67 hf  _ _ _ _ _ hW (by omega) (by omega) (lv_sub hl [3, 4, 5, 2, 1, 0] rfl)
  unfold f_X6_trackTold at hf
  refine lv_iconst (v := 0) S.1 S.2.1 dX6_trackTold_0 (by decide) ?_
  refine lv_istore_n (lv' := [(3, .int 0), (0, .ref (B 0)), (1, .int x1), (2, .int x2)]) S.1 S.2.1 dX6_trackTold_1 rfl hl (by decide) rfl (fun ls hl => ?_)
  refine lv_iconst (v := 1) S.1 S.2.1 dX6_trackTold_2 (by decide) ?_
  refine lv_istore (lv' := [(4, .int 1), (3, .int 0), (0, .ref (B 0)), (1, .int x1), (2, .int x2)]) S.1 S.2.1 dX6_trackTold_3 hl (by decide) rfl (fun ls hl => ?_)
  refine lv_iconst (v := 0) S.1 S.2.1 dX6_trackTold_5 (by decide) ?_
  refine lv_istore (lv' := [(5, .int 0), (4, .int 1), (3, .int 0), (0, .ref (B 0)), (1, .int x1), (2, .int x2)]) S.1 S.2.1 dX6_trackTold_6 hl (by decide) rfl (fun ls hl => ?_)
  exact B8  24 x1 x2 0 1 0 hf  _ _ _ _ _ hW (by omega) (by omega) (lv_sub hl [3, 4, 5, 2, 1, 0] rfl)
def f_X6_ofTrack_34   (w34 : MS) : Option (Int32 × MS) := some (0, w34)
def f_X6_ofTrack_27   (w27 : MS) (v1 : Int32) (v2 : Int32) (u1 : Int32) : Option (Int32 × MS) := (f_X6_refuse w27 u1 2).bind fun z5 => (if z5.1 = 0 then (f_X6_trackTold z5.2 v1 v2).bind fun z11 => some (z11.1, z11.2) else f_X6_ofTrack_34 z5.2)
def f_X6_ofTrack (τ : MS) (x1 : Int32) (x2 : Int32) : Option (Int32 × MS) := (f_X6_isNoTrack x1).bind fun z16 => (f_X6_start τ z16 1).bind fun z21 => (if z21.1 = 0 then (f_X6_isIn x2 0 3).bind fun z27 => (if z27 = 0 then f_X6_ofTrack_27 z21.2 x1 x2 1 else f_X6_ofTrack_27 z21.2 x1 x2 0) else f_X6_ofTrack_34 z21.2)
theorem mc_X6_ofTrack : MCode yX6_ofTrack cX6_ofTrack 3 (some .int) := ⟨wd_1532, wd_5, by decide, by decide⟩
theorem np_X6_ofTrack : (parseMethodDescriptor yX6_ofTrack.desc).map (fun d => d.parameters.length) = some 2 := by decide +kernel
set_option maxHeartbeats 4000000 in
set_option maxRecDepth 100000 in
theorem c_X6_ofTrack {l : Launch} {D : va_G} {κ : Nat → ClassId} {ζ : Nat → Nat} {L : List Nat} {F : Nat → va_E} {τ : MS} {B : Nat → Nat} (hI : MI κ ζ B τ L F) (x1 : Int32) (x2 : Int32) {res : (Int32 × MS)} (hf : f_X6_ofTrack τ x1 x2 = some res) : MtI l D cls (ty5 κ) ζ yX6_ofTrack cX6_ofTrack 3 (some .int) 7 1 33 ([.ref (B 0), .int x1, .int x2] : List Value) L F (fun r L' F' => res.1 = r ∧ MI κ ζ B res.2 L' F' ∧ FrM L F L' F') := by
  refine MtI.of (by decide) (Nat.le_of_ble_eq_true rfl) ?_
  intro p e s m below meth c S hr hlk _ hK hW hST ls hl
  have hl : lv_has ls 3 [(0, .ref (B 0)), (1, .int x1), (2, .int x2)] := hl
  have hFr : FrM L F L F := FrM.rf
  have B34 : ∀  (w34 : MS), f_X6_ofTrack_34 w34 = some res → ∀ (K34 : List Nat) (G34 : Nat → va_E), MI κ ζ B w34 K34 G34 → FrM L F K34 G34 → ∀ (H34 : Heap) (l34 : List Loc) (ls : Array Slot) (cc ss : Nat), HW D cls L s H34 l34 K34 G34 → cc + (0) ≤ 1 → ss ≤ 33 * cc → lv_has ls 3 [] → W p l e (Rm 7 1 33) s m ([.ref (B 0), .int x1, .int x2] : List Value).toArray below meth c H34 l34 cc ss (EnI D cls s below ([.ref (B 0), .int x1, .int x2] : List Value).toArray 1 33 L (fun r L' F' => res.1 = r ∧ MI κ ζ B res.2 L' F' ∧ FrM L F L' F')) (F0 m 34 ls []) := by
    intro  w34 hf K34 G34 hI hFr H34 l34 ls cc ss hW hcc hss hl
    unfold f_X6_ofTrack_34 at hf
    refine lv_iconst (v := 0) S.1 S.2.1 dX6_ofTrack_34 (by decide) ?_
    refine lv_goto (tgt := 44) S.1 S.2.1 dX6_ofTrack_35 (by decide) ?_
    exact pk_iret S hr hlk hW (eqm (P := fun z => z.1 = 0 ∧ MI κ ζ B z.2 K34 G34 ∧ FrM L F K34 G34) ⟨rfl, hI, hFr⟩ (Option.some.inj hf)) (by omega) (by omega) dX6_ofTrack_44
  have B27 : ∀  (w27 : MS) (v1 : Int32) (v2 : Int32) (u1 : Int32), f_X6_ofTrack_27 w27 v1 v2 u1 = some res → ∀ (K27 : List Nat) (G27 : Nat → va_E), MI κ ζ B w27 K27 G27 → FrM L F K27 G27 → ∀ (H27 : Heap) (l27 : List Loc) (ls : Array Slot) (cc ss : Nat), HW D cls L s H27 l27 K27 G27 → cc + (1) ≤ 1 → ss ≤ 33 * cc → lv_has ls 3 [(0, .ref (B 0)), (1, .int v1), (2, .int v2)] → W p l e (Rm 7 1 33) s m ([.ref (B 0), .int x1, .int x2] : List Value).toArray below meth c H27 l27 cc ss (EnI D cls s below ([.ref (B 0), .int x1, .int x2] : List Value).toArray 1 33 L (fun r L' F' => res.1 = r ∧ MI κ ζ B res.2 L' F' ∧ FrM L F L' F')) (F0 m 27 ls [.int u1, .ref (B 0)]) := by
    intro  w27 v1 v2 u1 hf K27 G27 hI hFr H27 l27 ls cc ss hW hcc hss hl
    unfold f_X6_ofTrack_27 at hf
    refine lv_iconst (v := 2) S.1 S.2.1 dX6_ofTrack_27 (by decide) ?_
    obtain ⟨z5, hz, hf⟩ := ob hf
    refine pk_cVI (As := [.int u1, .int 2]) (rest := []) S hK hST hW (c_X6_refuse hI u1 2 hz) mc_X6_refuse wd_1192 wd_1194 wd_1702 rfl np_X6_refuse (hI.mem (by decide)) hI.this rfl rfl hl.1 rfl (Nat.le_of_ble_eq_true rfl) dX6_ofTrack_28 ⟨by decide, by decide⟩ ⟨rmc (by omega), rms (by omega)⟩ (fun r L1 F2 H3 l4 hp hW => ?_)
    obtain ⟨rfl, hI, hF9⟩ := hp
    have hFr := hFr.tr hF9
    refine lv_if_eq (tgt := 38) S.1 S.2.1 dX6_ofTrack_31 (by decide) (fun c6 => ?_) (fun c6 => ?_)
    · have hf := (if_pos c6).symm.trans hf
      refine lv_aload_n S.1 S.2.1 dX6_ofTrack_38 rfl (lv_at hl 0 rfl) ?_
      refine lv_iload_n S.1 S.2.1 dX6_ofTrack_39 rfl (lv_at hl 1 rfl) ?_
      refine lv_iload_n S.1 S.2.1 dX6_ofTrack_40 rfl (lv_at hl 2 rfl) ?_
      obtain ⟨z11, hz, hf⟩ := ob hf
      refine pk_cVI (As := [.int v1, .int v2]) (rest := []) S hK hST hW (c_X6_trackTold hI v1 v2 hz) mc_X6_trackTold wd_1533 wd_1535 wd_1725 rfl np_X6_trackTold (hI.mem (by decide)) hI.this rfl rfl hl.1 rfl (Nat.le_of_ble_eq_true rfl) dX6_ofTrack_41 ⟨by decide, by decide⟩ ⟨rmc (by omega), rms (by omega)⟩ (fun r L7 F8 H9 l10 hp hW => ?_)
      obtain ⟨rfl, hI, hF9⟩ := hp
      have hFr := hFr.tr hF9
      exact pk_iret S hr hlk hW (eqm (P := fun z => z.1 = z11.1 ∧ MI κ ζ B z.2 L7 F8 ∧ FrM L F L7 F8) ⟨rfl, hI, hFr⟩ (Option.some.inj hf)) (by omega) (by omega) dX6_ofTrack_44
    · have hf := (if_neg c6).symm.trans hf
      exact B34  z5.2 hf L1 F2 hI hFr _ _ _ _ _ hW (by omega) (by omega) (lv_sub hl [] rfl)
  unfold f_X6_ofTrack at hf
  refine lv_aload_n S.1 S.2.1 dX6_ofTrack_0 rfl (lv_at hl 0 rfl) ?_
  refine lv_iload_n S.1 S.2.1 dX6_ofTrack_1 rfl (lv_at hl 1 rfl) ?_
  obtain ⟨z16, hz, hf⟩ := ob hf
  refine pk_cSI (As := [.int x1]) (rest := [.ref (B 0)]) S hK hST hW (c_X6_isNoTrack  x1 hz) mc_X6_isNoTrack wd_1182 wd_1183 np_X6_isNoTrack rfl hl.1 rfl (Nat.le_of_ble_eq_true rfl) dX6_ofTrack_2 ⟨by decide, by decide⟩ ⟨rmc (by omega), rms (by omega)⟩ (fun r L12 F13 H14 l15 hp hW => ?_)
  obtain ⟨rfl, rfl, rfl⟩ := hp
  refine lv_iconst (v := 1) S.1 S.2.1 dX6_ofTrack_5 (by decide) ?_
  obtain ⟨z21, hz, hf⟩ := ob hf
  refine pk_cVI (As := [.int z16, .int 1]) (rest := []) S hK hST hW (c_X6_start hI z16 1 hz) mc_X6_start wd_1188 wd_1190 wd_1701 rfl np_X6_start (hI.mem (by decide)) hI.this rfl rfl hl.1 rfl (Nat.le_of_ble_eq_true rfl) dX6_ofTrack_6 ⟨by decide, by decide⟩ ⟨rmc (by omega), rms (by omega)⟩ (fun r L17 F18 H19 l20 hp hW => ?_)
  obtain ⟨rfl, hI, hF9⟩ := hp
  have hFr := hFr.tr hF9
  refine lv_if_ne (tgt := 34) S.1 S.2.1 dX6_ofTrack_9 (by decide) (fun c22 => ?_) (fun c22 => ?_)
  · have hf := (if_neg c22).symm.trans hf
    exact B34  z21.2 hf L17 F18 hI hFr _ _ _ _ _ hW (by omega) (by omega) (lv_sub hl [] rfl)
  · have hf := (if_pos c22).symm.trans hf
    refine lv_aload_n S.1 S.2.1 dX6_ofTrack_12 rfl (lv_at hl 0 rfl) ?_
    refine lv_iload_n S.1 S.2.1 dX6_ofTrack_13 rfl (lv_at hl 2 rfl) ?_
    refine lv_iconst (v := 0) S.1 S.2.1 dX6_ofTrack_14 (by decide) ?_
    refine lv_iconst (v := 3) S.1 S.2.1 dX6_ofTrack_15 (by decide) ?_
    obtain ⟨z27, hz, hf⟩ := ob hf
    refine pk_cSI (As := [.int x2, .int 0, .int 3]) (rest := [.ref (B 0)]) S hK hST hW (c_X6_isIn  x2 0 3 hz) mc_X6_isIn wd_1185 wd_1186 np_X6_isIn rfl hl.1 rfl (Nat.le_of_ble_eq_true rfl) dX6_ofTrack_16 ⟨by decide, by decide⟩ ⟨rmc (by omega), rms (by omega)⟩ (fun r L23 F24 H25 l26 hp hW => ?_)
    obtain ⟨rfl, rfl, rfl⟩ := hp
    refine lv_if_ne (tgt := 26) S.1 S.2.1 dX6_ofTrack_19 (by decide) (fun c28 => ?_) (fun c28 => ?_)
    · have hf := (if_neg c28).symm.trans hf
      refine lv_iconst (v := 0) S.1 S.2.1 dX6_ofTrack_26 (by decide) ?_
      exact B27  z21.2 x1 x2 0 hf L17 F18 hI hFr _ _ _ _ _ hW (by omega) (by omega) (lv_sub hl [0, 1, 2] rfl)
    · have hf := (if_pos c28).symm.trans hf
      refine lv_iconst (v := 1) S.1 S.2.1 dX6_ofTrack_22 (by decide) ?_
      refine lv_goto (tgt := 27) S.1 S.2.1 dX6_ofTrack_23 (by decide) ?_
      exact B27  z21.2 x1 x2 1 hf L17 F18 hI hFr _ _ _ _ _ hW (by omega) (by omega) (lv_sub hl [0, 1, 2] rfl)
def f_X6_has (τ : MS) (x1 : Int32) (x2 : Int32) : Option (Int32 × MS) := (f_X6_isNoKind τ x1 x2).bind fun z5 => (if z5.1 = 0 then (f_X6_found z5.2 x1 x2 0).bind fun z11 => (if z11 = ((-1)) then some (0, z5.2) else some (1, z5.2)) else some (0, z5.2))
theorem mc_X6_has : MCode yX6_has cX6_has 3 (some .boolean) := ⟨wd_1540, wd_5, by decide, by decide⟩
theorem np_X6_has : (parseMethodDescriptor yX6_has.desc).map (fun d => d.parameters.length) = some 2 := by decide +kernel
set_option maxHeartbeats 4000000 in
set_option maxRecDepth 100000 in
theorem c_X6_has {l : Launch} {D : va_G} {κ : Nat → ClassId} {ζ : Nat → Nat} {L : List Nat} {F : Nat → va_E} {τ : MS} {B : Nat → Nat} (hI : MI κ ζ B τ L F) (x1 : Int32) (x2 : Int32) {res : (Int32 × MS)} (hf : f_X6_has τ x1 x2 = some res) : MtI l D cls (ty5 κ) ζ yX6_has cX6_has 3 (some .boolean) 7 0 0 ([.ref (B 0), .int x1, .int x2] : List Value) L F (fun r L' F' => res.1 = r ∧ MI κ ζ B res.2 L' F' ∧ FrM L F L' F') := by
  refine MtI.of (by decide) (Nat.le_of_ble_eq_true rfl) ?_
  intro p e s m below meth c S hr hlk _ hK hW hST ls hl
  have hl : lv_has ls 3 [(0, .ref (B 0)), (1, .int x1), (2, .int x2)] := hl
  have hFr : FrM L F L F := FrM.rf
  unfold f_X6_has at hf
  refine lv_aload_n S.1 S.2.1 dX6_has_0 rfl (lv_at hl 0 rfl) ?_
  refine lv_iload_n S.1 S.2.1 dX6_has_1 rfl (lv_at hl 1 rfl) ?_
  refine lv_iload_n S.1 S.2.1 dX6_has_2 rfl (lv_at hl 2 rfl) ?_
  obtain ⟨z5, hz, hf⟩ := ob hf
  refine pk_cVI (As := [.int x1, .int x2]) (rest := []) S hK hST hW (c_X6_isNoKind hI x1 x2 hz) mc_X6_isNoKind wd_1362 wd_1364 wd_1715 rfl np_X6_isNoKind (hI.mem (by decide)) hI.this rfl rfl hl.1 rfl (Nat.le_of_ble_eq_true rfl) dX6_has_3 ⟨by decide, by decide⟩ ⟨rmc (by omega), rms (by omega)⟩ (fun r L1 F2 H3 l4 hp hW => ?_)
  obtain ⟨rfl, hI, hF9⟩ := hp
  have hFr := hFr.tr hF9
  refine lv_if_ne (tgt := 24) S.1 S.2.1 dX6_has_6 (by decide) (fun c6 => ?_) (fun c6 => ?_)
  · have hf := (if_neg c6).symm.trans hf
    refine lv_iconst (v := 0) S.1 S.2.1 dX6_has_24 (by decide) ?_
    exact pk_zret S hr hlk hW (by decide) (eqm (P := fun z => z.1 = 0 ∧ MI κ ζ B z.2 L1 F2 ∧ FrM L F L1 F2) ⟨rfl, hI, hFr⟩ (Option.some.inj hf)) (by omega) (by omega) dX6_has_25
  · have hf := (if_pos c6).symm.trans hf
    refine lv_aload_n S.1 S.2.1 dX6_has_9 rfl (lv_at hl 0 rfl) ?_
    refine lv_iload_n S.1 S.2.1 dX6_has_10 rfl (lv_at hl 1 rfl) ?_
    refine lv_iload_n S.1 S.2.1 dX6_has_11 rfl (lv_at hl 2 rfl) ?_
    refine lv_iconst (v := 0) S.1 S.2.1 dX6_has_12 (by decide) ?_
    obtain ⟨z11, hz, hf⟩ := ob hf
    refine pk_cVI (As := [.int x1, .int x2, .int 0]) (rest := []) S hK hST hW (c_X6_found hI x1 x2 0 hz) mc_X6_found wd_1366 wd_1368 wd_1716 rfl np_X6_found (hI.mem (by decide)) hI.this rfl rfl hl.1 rfl (Nat.le_of_ble_eq_true rfl) dX6_has_13 ⟨by decide, by decide⟩ ⟨rmc (by omega), rms (by omega)⟩ (fun r L7 F8 H9 l10 hp hW => ?_)
    obtain ⟨rfl, rfl, rfl⟩ := hp
    refine lv_iconst (v := (-1)) S.1 S.2.1 dX6_has_16 (by decide) ?_
    refine lv_icmp_eq (tgt := 24) S.1 S.2.1 dX6_has_17 (by decide) (fun c12 => ?_) (fun c12 => ?_)
    · have hf := (if_pos c12).symm.trans hf
      refine lv_iconst (v := 0) S.1 S.2.1 dX6_has_24 (by decide) ?_
      exact pk_zret S hr hlk hW (by decide) (eqm (P := fun z => z.1 = 0 ∧ MI κ ζ B z.2 L1 F2 ∧ FrM L F L1 F2) ⟨rfl, hI, hFr⟩ (Option.some.inj hf)) (by omega) (by omega) dX6_has_25
    · have hf := (if_neg c12).symm.trans hf
      refine lv_iconst (v := 1) S.1 S.2.1 dX6_has_20 (by decide) ?_
      refine lv_goto (tgt := 25) S.1 S.2.1 dX6_has_21 (by decide) ?_
      exact pk_zret S hr hlk hW (by decide) (eqm (P := fun z => z.1 = 1 ∧ MI κ ζ B z.2 L1 F2 ∧ FrM L F L1 F2) ⟨rfl, hI, hFr⟩ (Option.some.inj hf)) (by omega) (by omega) dX6_has_25
def f_X6_compared_73 (τ : MS) (k21 : (Int32 × Int32) → Option Int32) (v1 : Int32) (v2 : Int32) : Option Int32 := nm (v2 + 1 : Int32) fun y1 => k21 (v1, y1)
def f_X6_compared_21 (τ : MS)  (k21 : (Int32 × Int32) → Option Int32) (t : (Int32 × Int32)) : Option Int32 := (f_X6_size τ 0).bind fun z6 => (if z6 ≤ t.2 then some (1) else (f_X6_get τ 0 t.2).bind fun z12 => (f_X6_kind z12).bind fun z17 => (if t.1 = 0 then (f_X6_found τ 1 z17 0).bind fun z23 => (if z23 = ((-1)) then some (0) else f_X6_compared_73 τ k21 t.1 t.2) else (f_X6_get τ 1 t.2).bind fun z29 => (f_X6_kind z29).bind fun z34 => (if z34 = z17 then f_X6_compared_73 τ k21 t.1 t.2 else some (0))))
def f_X6_compared_19 (τ : MS)  (v1 : Int32) : Option Int32 := lpn (f_X6_compared_21 τ) 24 (v1, 0)
def f_X6_compared (τ : MS) (x1 : Int32) : Option Int32 := (if x1 = 0 then f_X6_compared_19 τ x1 else (f_X6_size τ 0).bind fun z41 => (f_X6_size τ 1).bind fun z46 => (if z41 = z46 then f_X6_compared_19 τ x1 else some (0)))
theorem mc_X6_compared : MCode yX6_compared cX6_compared 4 (some .boolean) := ⟨wd_1548, wd_5, by decide, by decide⟩
theorem np_X6_compared : (parseMethodDescriptor yX6_compared.desc).map (fun d => d.parameters.length) = some 1 := by decide +kernel
set_option maxHeartbeats 4000000 in
set_option maxRecDepth 100000 in
theorem c_X6_compared {l : Launch} {D : va_G} {κ : Nat → ClassId} {ζ : Nat → Nat} {L : List Nat} {F : Nat → va_E} {τ : MS} {B : Nat → Nat} (hI : MI κ ζ B τ L F) (x1 : Int32) {res : Int32} (hf : f_X6_compared τ x1 = some res) : MtI l D cls (ty5 κ) ζ yX6_compared cX6_compared 4 (some .boolean) 7 0 0 ([.ref (B 0), .int x1] : List Value) L F (fun r L' F' => L = L' ∧ F = F' ∧ res = r) := by
  refine MtI.of (by decide) (Nat.le_of_ble_eq_true rfl) ?_
  intro p e s m below meth c S hr hlk _ hK hW hST ls hl
  have hl : lv_has ls 4 [(0, .ref (B 0)), (1, .int x1)] := hl
  have B73 : ∀ (k21 : (Int32 × Int32) → Option Int32) (nd21 : Nat) (hk21 : (∀ (v1 : Int32) (v2 : Int32), k21 (v1, v2) = some res → ∀ (H21 : Heap) (l21 : List Loc) (ls : Array Slot) (cc ss : Nat), HW D cls L s H21 l21 L F → cc + (nd21) ≤ 0 → ss ≤ 33 * cc → lv_has ls 4 [(0, .ref (B 0)), (1, .int v1), (2, .int v2)] → W p l e (Rm 7 0 0) s m ([.ref (B 0), .int x1] : List Value).toArray below meth c H21 l21 cc ss (EnI D cls s below ([.ref (B 0), .int x1] : List Value).toArray 0 0 L (fun r L' F' => L = L' ∧ F = F' ∧ res = r)) (F0 m 21 ls []))) (hnd21 : 0 ≤ nd21) (v1 : Int32) (v2 : Int32), f_X6_compared_73 τ k21 v1 v2 = some res → ∀ (H73 : Heap) (l73 : List Loc) (ls : Array Slot) (cc ss : Nat), HW D cls L s H73 l73 L F → cc + (0 + nd21) ≤ 0 → ss ≤ 33 * cc → lv_has ls 4 [(0, .ref (B 0)), (1, .int v1), (2, .int v2)] → W p l e (Rm 7 0 0) s m ([.ref (B 0), .int x1] : List Value).toArray below meth c H73 l73 cc ss (EnI D cls s below ([.ref (B 0), .int x1] : List Value).toArray 0 0 L (fun r L' F' => L = L' ∧ F = F' ∧ res = r)) (F0 m 73 ls []) := by
    intro k21 nd21 hk21 hnd21 v1 v2 hf H73 l73 ls cc ss hW hcc hss hl
    unfold f_X6_compared_73 at hf
    obtain ⟨y1, ey1⟩ : ∃ y : Int32, y = v2 + 1 := ⟨_, rfl⟩
    have hf := nm_at hf ey1
    refine lv_iinc (v := y1) (lv' := [(2, .int y1), (0, .ref (B 0)), (1, .int v1)]) S.1 S.2.1 dX6_compared_73 hl (k := 2) rfl (by rw [ey1]; rfl) (by decide) rfl (fun ls hl => ?_)
    refine lv_goto (tgt := 21) S.1 S.2.1 dX6_compared_76 (by decide) ?_
    exact hk21 v1 y1 hf  _ _ _ _ _ hW (by omega) (by omega) (lv_sub hl [1, 2, 0] rfl)
  have B21 : ∀  (N : Nat), (∀ (v1 : Int32) (v2 : Int32), (lpn (f_X6_compared_21 τ) N) (v1, v2) = some res → ∀ (H21 : Heap) (l21 : List Loc) (ls : Array Slot) (cc ss : Nat), HW D cls L s H21 l21 L F → cc + (N * 0 + 0) ≤ 0 → ss ≤ 33 * cc → lv_has ls 4 [(0, .ref (B 0)), (1, .int v1), (2, .int v2)] → W p l e (Rm 7 0 0) s m ([.ref (B 0), .int x1] : List Value).toArray below meth c H21 l21 cc ss (EnI D cls s below ([.ref (B 0), .int x1] : List Value).toArray 0 0 L (fun r L' F' => L = L' ∧ F = F' ∧ res = r)) (F0 m 21 ls [])) := by
    intro  N
    induction N with
    | zero => intro v1 v2 hf H21 l21 ls cc ss hW hcc hss hl; cases hf
    | succ N ih =>
      intro v1 v2 hf H21 l21 ls cc ss hW hcc hss hl
      have hf : f_X6_compared_21 τ (lpn (f_X6_compared_21 τ) N) (v1, v2) = some res := hf
      generalize lpn (f_X6_compared_21 τ) N = k21 at hf ih
      have hnd21 : 0 ≤ N * 0 + 0 := by omega
      have hcc : cc + (0 + (N * 0 + 0)) ≤ 0 := by omega
      have hk21 := ih
      generalize N * 0 + 0 = nd21 at hnd21 hcc hk21
      unfold f_X6_compared_21 at hf
      try dsimp only at hf
      refine lv_iload_n S.1 S.2.1 dX6_compared_21 rfl (lv_at hl 2 rfl) ?_
      refine lv_aload_n S.1 S.2.1 dX6_compared_22 rfl (lv_at hl 0 rfl) ?_
      refine lv_iconst (v := 0) S.1 S.2.1 dX6_compared_23 (by decide) ?_
      obtain ⟨z6, hz, hf⟩ := ob hf
      refine pk_cVI (As := [.int 0]) (rest := [.int v2]) S hK hST hW (c_X6_size hI 0 hz) mc_X6_size wd_1199 wd_1201 wd_1703 rfl np_X6_size (hI.mem (by decide)) hI.this rfl rfl hl.1 rfl (Nat.le_of_ble_eq_true rfl) dX6_compared_24 ⟨by decide, by decide⟩ ⟨rmc (by omega), rms (by omega)⟩ (fun r L2 F3 H4 l5 hp hW => ?_)
      obtain ⟨rfl, rfl, rfl⟩ := hp
      refine lv_icmp_ge (tgt := 79) S.1 S.2.1 dX6_compared_27 (by decide) (fun c7 => ?_) (fun c7 => ?_)
      · have hf := (if_pos c7).symm.trans hf
        refine lv_iconst (v := 1) S.1 S.2.1 dX6_compared_79 (by decide) ?_
        exact pk_zret S hr hlk hW (by decide) ⟨rfl, rfl, eqm (P := fun z => z = 1) rfl (Option.some.inj hf)⟩ (by omega) (by omega) dX6_compared_80
      · have hf := (if_neg c7).symm.trans hf
        refine lv_aload_n S.1 S.2.1 dX6_compared_30 rfl (lv_at hl 0 rfl) ?_
        refine lv_iconst (v := 0) S.1 S.2.1 dX6_compared_31 (by decide) ?_
        refine lv_iload_n S.1 S.2.1 dX6_compared_32 rfl (lv_at hl 2 rfl) ?_
        obtain ⟨z12, hz, hf⟩ := ob hf
        refine pk_cVI (As := [.int 0, .int v2]) (rest := []) S hK hST hW (c_X6_get hI 0 v2 hz) mc_X6_get wd_1299 wd_1301 wd_1711 rfl np_X6_get (hI.mem (by decide)) hI.this rfl rfl hl.1 rfl (Nat.le_of_ble_eq_true rfl) dX6_compared_33 ⟨by decide, by decide⟩ ⟨rmc (by omega), rms (by omega)⟩ (fun r L8 F9 H10 l11 hp hW => ?_)
        obtain ⟨rfl, rfl, rfl⟩ := hp
        obtain ⟨z17, hz, hf⟩ := ob hf
        refine pk_cSI (As := [.int z12]) (rest := []) S hK hST hW (c_X6_kind  z12 hz) mc_X6_kind wd_1370 wd_1371 np_X6_kind rfl hl.1 rfl (Nat.le_of_ble_eq_true rfl) dX6_compared_36 ⟨by decide, by decide⟩ ⟨rmc (by omega), rms (by omega)⟩ (fun r L13 F14 H15 l16 hp hW => ?_)
        obtain ⟨rfl, rfl, rfl⟩ := hp
        refine lv_istore_n (lv' := [(3, .int z17), (0, .ref (B 0)), (1, .int v1), (2, .int v2)]) S.1 S.2.1 dX6_compared_39 rfl hl (by decide) rfl (fun ls hl => ?_)
        refine lv_iload_n S.1 S.2.1 dX6_compared_40 rfl (lv_at hl 2 rfl) ?_
        refine lv_if_eq (tgt := 60) S.1 S.2.1 dX6_compared_41 (by decide) (fun c18 => ?_) (fun c18 => ?_)
        · have hf := (if_pos c18).symm.trans hf
          refine lv_aload_n S.1 S.2.1 dX6_compared_60 rfl (lv_at hl 1 rfl) ?_
          refine lv_iconst (v := 1) S.1 S.2.1 dX6_compared_61 (by decide) ?_
          refine lv_iload_n S.1 S.2.1 dX6_compared_62 rfl (lv_at hl 0 rfl) ?_
          refine lv_iconst (v := 0) S.1 S.2.1 dX6_compared_63 (by decide) ?_
          obtain ⟨z23, hz, hf⟩ := ob hf
          refine pk_cVI (As := [.int 1, .int z17, .int 0]) (rest := []) S hK hST hW (c_X6_found hI 1 z17 0 hz) mc_X6_found wd_1366 wd_1368 wd_1716 rfl np_X6_found (hI.mem (by decide)) hI.this rfl rfl hl.1 rfl (Nat.le_of_ble_eq_true rfl) dX6_compared_64 ⟨by decide, by decide⟩ ⟨rmc (by omega), rms (by omega)⟩ (fun r L19 F20 H21 l22 hp hW => ?_)
          obtain ⟨rfl, rfl, rfl⟩ := hp
          refine lv_iconst (v := (-1)) S.1 S.2.1 dX6_compared_67 (by decide) ?_
          refine lv_icmp_ne (tgt := 73) S.1 S.2.1 dX6_compared_68 (by decide) (fun c24 => ?_) (fun c24 => ?_)
          · have hf := (if_neg c24).symm.trans hf
            exact B73 k21 nd21 hk21 hnd21 v1 v2 hf  _ _ _ _ _ hW (by omega) (by omega) (lv_sub hl [1, 2, 3] rfl)
          · have hf := (if_pos c24).symm.trans hf
            refine lv_iconst (v := 0) S.1 S.2.1 dX6_compared_71 (by decide) ?_
            exact pk_zret S hr hlk hW (by decide) ⟨rfl, rfl, eqm (P := fun z => z = 0) rfl (Option.some.inj hf)⟩ (by omega) (by omega) dX6_compared_72
        · have hf := (if_neg c18).symm.trans hf
          refine lv_aload_n S.1 S.2.1 dX6_compared_44 rfl (lv_at hl 1 rfl) ?_
          refine lv_iconst (v := 1) S.1 S.2.1 dX6_compared_45 (by decide) ?_
          refine lv_iload_n S.1 S.2.1 dX6_compared_46 rfl (lv_at hl 3 rfl) ?_
          obtain ⟨z29, hz, hf⟩ := ob hf
          refine pk_cVI (As := [.int 1, .int v2]) (rest := []) S hK hST hW (c_X6_get hI 1 v2 hz) mc_X6_get wd_1299 wd_1301 wd_1711 rfl np_X6_get (hI.mem (by decide)) hI.this rfl rfl hl.1 rfl (Nat.le_of_ble_eq_true rfl) dX6_compared_47 ⟨by decide, by decide⟩ ⟨rmc (by omega), rms (by omega)⟩ (fun r L25 F26 H27 l28 hp hW => ?_)
          obtain ⟨rfl, rfl, rfl⟩ := hp
          obtain ⟨z34, hz, hf⟩ := ob hf
          refine pk_cSI (As := [.int z29]) (rest := []) S hK hST hW (c_X6_kind  z29 hz) mc_X6_kind wd_1370 wd_1371 np_X6_kind rfl hl.1 rfl (Nat.le_of_ble_eq_true rfl) dX6_compared_50 ⟨by decide, by decide⟩ ⟨rmc (by omega), rms (by omega)⟩ (fun r L30 F31 H32 l33 hp hW => ?_)
          obtain ⟨rfl, rfl, rfl⟩ := hp
          refine lv_iload_n S.1 S.2.1 dX6_compared_53 rfl (lv_at hl 0 rfl) ?_
          refine lv_icmp_eq (tgt := 73) S.1 S.2.1 dX6_compared_54 (by decide) (fun c35 => ?_) (fun c35 => ?_)
          · have hf := (if_pos c35).symm.trans hf
            exact B73 k21 nd21 hk21 hnd21 v1 v2 hf  _ _ _ _ _ hW (by omega) (by omega) (lv_sub hl [1, 2, 3] rfl)
          · have hf := (if_neg c35).symm.trans hf
            refine lv_goto (tgt := 71) S.1 S.2.1 dX6_compared_57 (by decide) ?_
            refine lv_iconst (v := 0) S.1 S.2.1 dX6_compared_71 (by decide) ?_
            exact pk_zret S hr hlk hW (by decide) ⟨rfl, rfl, eqm (P := fun z => z = 0) rfl (Option.some.inj hf)⟩ (by omega) (by omega) dX6_compared_72
  have B19 : ∀  (v1 : Int32), f_X6_compared_19 τ v1 = some res → ∀ (H19 : Heap) (l19 : List Loc) (ls : Array Slot) (cc ss : Nat), HW D cls L s H19 l19 L F → cc + (0) ≤ 0 → ss ≤ 33 * cc → lv_has ls 4 [(0, .ref (B 0)), (1, .int v1)] → W p l e (Rm 7 0 0) s m ([.ref (B 0), .int x1] : List Value).toArray below meth c H19 l19 cc ss (EnI D cls s below ([.ref (B 0), .int x1] : List Value).toArray 0 0 L (fun r L' F' => L = L' ∧ F = F' ∧ res = r)) (F0 m 19 ls []) := by
    intro  v1 hf H19 l19 ls cc ss hW hcc hss hl
    unfold f_X6_compared_19 at hf
    refine lv_iconst (v := 0) S.1 S.2.1 dX6_compared_19 (by decide) ?_
    refine lv_istore_n (lv' := [(2, .int 0), (0, .ref (B 0)), (1, .int v1)]) S.1 S.2.1 dX6_compared_20 rfl hl (by decide) rfl (fun ls hl => ?_)
    exact B21  24 v1 0 hf  _ _ _ _ _ hW (by omega) (by omega) (lv_sub hl [1, 2, 0] rfl)
  unfold f_X6_compared at hf
  refine lv_iload_n S.1 S.2.1 dX6_compared_0 rfl (lv_at hl 1 rfl) ?_
  refine lv_if_eq (tgt := 19) S.1 S.2.1 dX6_compared_1 (by decide) (fun c36 => ?_) (fun c36 => ?_)
  · have hf := (if_pos c36).symm.trans hf
    exact B19  x1 hf  _ _ _ _ _ hW (by omega) (by omega) (lv_sub hl [0, 1] rfl)
  · have hf := (if_neg c36).symm.trans hf
    refine lv_aload_n S.1 S.2.1 dX6_compared_4 rfl (lv_at hl 0 rfl) ?_
    refine lv_iconst (v := 0) S.1 S.2.1 dX6_compared_5 (by decide) ?_
    obtain ⟨z41, hz, hf⟩ := ob hf
    refine pk_cVI (As := [.int 0]) (rest := []) S hK hST hW (c_X6_size hI 0 hz) mc_X6_size wd_1199 wd_1201 wd_1703 rfl np_X6_size (hI.mem (by decide)) hI.this rfl rfl hl.1 rfl (Nat.le_of_ble_eq_true rfl) dX6_compared_6 ⟨by decide, by decide⟩ ⟨rmc (by omega), rms (by omega)⟩ (fun r L37 F38 H39 l40 hp hW => ?_)
    obtain ⟨rfl, rfl, rfl⟩ := hp
    refine lv_aload_n S.1 S.2.1 dX6_compared_9 rfl (lv_at hl 0 rfl) ?_
    refine lv_iconst (v := 1) S.1 S.2.1 dX6_compared_10 (by decide) ?_
    obtain ⟨z46, hz, hf⟩ := ob hf
    refine pk_cVI (As := [.int 1]) (rest := [.int z41]) S hK hST hW (c_X6_size hI 1 hz) mc_X6_size wd_1199 wd_1201 wd_1703 rfl np_X6_size (hI.mem (by decide)) hI.this rfl rfl hl.1 rfl (Nat.le_of_ble_eq_true rfl) dX6_compared_11 ⟨by decide, by decide⟩ ⟨rmc (by omega), rms (by omega)⟩ (fun r L42 F43 H44 l45 hp hW => ?_)
    obtain ⟨rfl, rfl, rfl⟩ := hp
    refine lv_icmp_eq (tgt := 19) S.1 S.2.1 dX6_compared_14 (by decide) (fun c47 => ?_) (fun c47 => ?_)
    · have hf := (if_pos c47).symm.trans hf
      exact B19  x1 hf  _ _ _ _ _ hW (by omega) (by omega) (lv_sub hl [0, 1] rfl)
    · have hf := (if_neg c47).symm.trans hf
      refine lv_iconst (v := 0) S.1 S.2.1 dX6_compared_17 (by decide) ?_
      exact pk_zret S hr hlk hW (by decide) ⟨rfl, rfl, eqm (P := fun z => z = 0) rfl (Option.some.inj hf)⟩ (by omega) (by omega) dX6_compared_18
def f_X6_compare (τ : MS) (x1 : Int32) : Option (Int32 × MS) := nm ((τ.1, va_up τ.2 0 0) : MS) fun t4 => (f_X6_compared t4 x1).bind fun z9 => (if z9 = 0 ∨ z9 = 1 then some (z9, t4) else none)
theorem mc_X6_compare : MCode yX6_compare cX6_compare 2 (some .boolean) := ⟨wd_1544, wd_5, by decide, by decide⟩
theorem np_X6_compare : (parseMethodDescriptor yX6_compare.desc).map (fun d => d.parameters.length) = some 1 := by decide +kernel
set_option maxHeartbeats 4000000 in
set_option maxRecDepth 100000 in
theorem c_X6_compare {l : Launch} {D : va_G} {κ : Nat → ClassId} {ζ : Nat → Nat} {L : List Nat} {F : Nat → va_E} {τ : MS} {B : Nat → Nat} (hI : MI κ ζ B τ L F) (x1 : Int32) {res : (Int32 × MS)} (hf : f_X6_compare τ x1 = some res) : MtI l D cls (ty5 κ) ζ yX6_compare cX6_compare 2 (some .boolean) 8 0 0 ([.ref (B 0), .int x1] : List Value) L F (fun r L' F' => res.1 = r ∧ MI κ ζ B res.2 L' F' ∧ FrM L F L' F') := by
  refine MtI.of (by decide) (Nat.le_of_ble_eq_true rfl) ?_
  intro p e s m below meth c S hr hlk _ hK hW hST ls hl
  have hl : lv_has ls 2 [(0, .ref (B 0)), (1, .int x1)] := hl
  have hFr : FrM L F L F := FrM.rf
  unfold f_X6_compare at hf
  refine lv_aload_n S.1 S.2.1 dX6_compare_0 rfl (lv_at hl 0 rfl) ?_
  refine lv_iconst (v := 0) S.1 S.2.1 dX6_compare_1 (by decide) ?_
  refine pk_put (v := .int 0) S hK hW 0 (hI.mem (by decide)) hI.this rfl hinX6 tyX6_ok nmX6 (by decide) wd_1155 rfl rfl rfl rfl (Nat.le_of_ble_eq_true rfl) dX6_compare_2 (fun H1 l2 hW => ?_)
  have hF9 := FrM.cell (L := L) (w := (([.int (τ.2 0), .ref (B 1), .ref (B 5), .ref (B 6), .ref (B 7), .int (τ.2 1), .int (τ.2 2), .int (τ.2 3), .int (τ.2 4)] : List Value).set 0 (.int 0))) hI.this (Or.inr rfl)
  have hI := hI.setSc 0 0 (by decide) 0 rfl
  generalize va_up F (B 0) (.inr (11, (([.int (τ.2 0), .ref (B 1), .ref (B 5), .ref (B 6), .ref (B 7), .int (τ.2 1), .int (τ.2 2), .int (τ.2 3), .int (τ.2 4)] : List Value).set 0 (.int 0)))) = F3 at hW hI hF9
  have hFr := hFr.tr hF9
  obtain ⟨t4, et4, hf⟩ := nm_ok hf
  have hI := eqm (P := fun w => MI κ ζ B w L F3) hI et4.symm
  refine lv_aload_n S.1 S.2.1 dX6_compare_5 rfl (lv_at hl 0 rfl) ?_
  refine lv_iload_n S.1 S.2.1 dX6_compare_6 rfl (lv_at hl 1 rfl) ?_
  obtain ⟨z9, hz, hf⟩ := ob hf
  refine pk_cVI (As := [.int x1]) (rest := []) S hK hST hW (c_X6_compared hI x1 hz) mc_X6_compared wd_1545 wd_1547 wd_1726 rfl np_X6_compared (hI.mem (by decide)) hI.this rfl rfl hl.1 rfl (Nat.le_of_ble_eq_true rfl) dX6_compare_7 ⟨by decide, by decide⟩ ⟨rmc (by omega), rms (by omega)⟩ (fun r L5 F6 H7 l8 hp hW => ?_)
  obtain ⟨rfl, rfl, rfl⟩ := hp
  obtain ⟨hg, hf⟩ := gdp hf
  exact pk_zret S hr hlk hW hg (eqm (P := fun z => z.1 = z9 ∧ MI κ ζ B z.2 L F3 ∧ FrM L F L F3) ⟨rfl, hI, hFr⟩ (Option.some.inj hf)) (by omega) (by omega) dX6_compare_10
def f_X6_nestedNow_98  (k13 : (MS × Int32 × Nat × (Nat → Int32) × Int32 × Int32 × Int32) → Option (Int32 × MS)) (w98 : MS) (v1 : Int32) (nv2 : Nat) (gv2 : (Nat → Int32)) (v3 : Int32) (v4 : Int32) (v5 : Int32) : Option (Int32 × MS) := nm (v5 + 1 : Int32) fun y1 => k13 (w98, v1, nv2, gv2, v3, v4, y1)
def f_X6_nestedNow_13   (k13 : (MS × Int32 × Nat × (Nat → Int32) × Int32 × Int32 × Int32) → Option (Int32 × MS)) (t : (MS × Int32 × Nat × (Nat → Int32) × Int32 × Int32 × Int32)) : Option (Int32 × MS) := (f_X6_size t.1 t.2.1).bind fun z6 => (if z6 ≤ t.2.2.2.2.2.2 then (if t.2.2.2.2.1 = 0 then some (t.2.2.2.2.2.1, t.1) else some ((-1), t.1)) else (f_X6_get t.1 t.2.1 t.2.2.2.2.2.2).bind fun z13 => (f_X6_kind z13).bind fun z18 => (if z18 = 0 then f_X6_nestedNow_98 k13 t.1 t.2.1 t.2.2.1 t.2.2.2.1 t.2.2.2.2.1 t.2.2.2.2.2.1 t.2.2.2.2.2.2 else (if z18 = 9 then f_X6_nestedNow_98 k13 t.1 t.2.1 t.2.2.1 t.2.2.2.1 t.2.2.2.2.1 t.2.2.2.2.2.1 t.2.2.2.2.2.2 else (if (jrem z18 2) = 1 then (if t.2.2.2.2.1 < 0 ∨ t.2.2.1 ≤ t.2.2.2.2.1.toNatClampNeg then none else nm ((upd t.2.2.2.1 t.2.2.2.2.1.toNatClampNeg z18) : Nat → Int32) fun g25 => nm (t.2.2.2.2.1 + 1 : Int32) fun y29 => nm (if t.2.2.2.2.2.1 < y29 then y29 else t.2.2.2.2.2.1 : Int32) fun y30 => f_X6_nestedNow_98 k13 t.1 t.2.1 t.2.2.1 g25 y29 y30 t.2.2.2.2.2.2) else (if t.2.2.2.2.1 = 0 then some ((-1), t.1) else (if (t.2.2.2.2.1 - 1) < 0 ∨ t.2.2.1 ≤ (t.2.2.2.2.1 - 1).toNatClampNeg then none else (if (t.2.2.2.1 (t.2.2.2.2.1 - 1).toNatClampNeg) = (z18 - 1) then nm (t.2.2.2.2.1 + (-1) : Int32) fun y24 => f_X6_nestedNow_98 k13 t.1 t.2.1 t.2.2.1 t.2.2.2.1 y24 t.2.2.2.2.2.1 t.2.2.2.2.2.2 else some ((-1), t.1))))))))
def f_X6_nestedNow (τ : MS) (x1 : Int32) : Option (Int32 × MS) := (if (21 : Int32) < 0 ∨ 32 < (21 : Int32).toNatClampNeg then none else nm ((21 : Int32).toNatClampNeg : Nat) fun n31 => nm (fun _ => 0 : Nat → Int32) fun g32 => lpn (f_X6_nestedNow_13 ) 24 (τ, x1, n31, g32, 0, 0, 0))
theorem mc_X6_nestedNow : MCode yX6_nestedNow cX6_nestedNow 7 (some .int) := ⟨wd_1571, wd_5, by decide, by decide⟩
theorem np_X6_nestedNow : (parseMethodDescriptor yX6_nestedNow.desc).map (fun d => d.parameters.length) = some 1 := by decide +kernel
set_option maxHeartbeats 4000000 in
set_option maxRecDepth 100000 in
theorem c_X6_nestedNow {l : Launch} {D : va_G} {κ : Nat → ClassId} {ζ : Nat → Nat} {L : List Nat} {F : Nat → va_E} {τ : MS} {B : Nat → Nat} (hI : MI κ ζ B τ L F) (x1 : Int32) {res : (Int32 × MS)} (hf : f_X6_nestedNow τ x1 = some res) : MtI l D cls (ty5 κ) ζ yX6_nestedNow cX6_nestedNow 7 (some .int) 6 1 33 ([.ref (B 0), .int x1] : List Value) L F (fun r L' F' => res.1 = r ∧ MI κ ζ B res.2 L' F' ∧ FrM L F L' F') := by
  refine MtI.of (by decide) (Nat.le_of_ble_eq_true rfl) ?_
  intro p e s m below meth c S hr hlk _ hK hW hST ls hl
  have hl : lv_has ls 7 [(0, .ref (B 0)), (1, .int x1)] := hl
  have hFr : FrM L F L F := FrM.rf
  have B98 : ∀ (k13 : (MS × Int32 × Nat × (Nat → Int32) × Int32 × Int32 × Int32) → Option (Int32 × MS)) (nd13 : Nat) (hk13 : (∀ (w13 : MS) (v1 : Int32) (nv2 : Nat) (gv2 : Nat → Int32) (v3 : Int32) (v4 : Int32) (v5 : Int32), k13 (w13, v1, nv2, gv2, v3, v4, v5) = some res → ∀ (K13 : List Nat) (G13 : Nat → va_E), ∀ (qv2 : Nat), qv2 ∈ K13 → G13 qv2 = .inl (κ 0, nv2, .inl gv2) → (qv2 ∉ L) → MI κ ζ B w13 K13 G13 → FrM L F K13 G13 → ∀ (H13 : Heap) (l13 : List Loc) (ls : Array Slot) (cc ss : Nat), HW D cls L s H13 l13 K13 G13 → cc + (nd13) ≤ 1 → ss ≤ 33 * cc → lv_has ls 7 [(0, .ref (B 0)), (1, .int v1), (2, .ref qv2), (3, .int v3), (4, .int v4), (5, .int v5)] → W p l e (Rm 6 1 33) s m ([.ref (B 0), .int x1] : List Value).toArray below meth c H13 l13 cc ss (EnI D cls s below ([.ref (B 0), .int x1] : List Value).toArray 1 33 L (fun r L' F' => res.1 = r ∧ MI κ ζ B res.2 L' F' ∧ FrM L F L' F')) (F0 m 13 ls []))) (hnd13 : 0 ≤ nd13) (w98 : MS) (v1 : Int32) (nv2 : Nat) (gv2 : Nat → Int32) (v3 : Int32) (v4 : Int32) (v5 : Int32), f_X6_nestedNow_98 k13 w98 v1 nv2 gv2 v3 v4 v5 = some res → ∀ (K98 : List Nat) (G98 : Nat → va_E), ∀ (qv2 : Nat), qv2 ∈ K98 → G98 qv2 = .inl (κ 0, nv2, .inl gv2) → (qv2 ∉ L) → MI κ ζ B w98 K98 G98 → FrM L F K98 G98 → ∀ (H98 : Heap) (l98 : List Loc) (ls : Array Slot) (cc ss : Nat), HW D cls L s H98 l98 K98 G98 → cc + (0 + nd13) ≤ 1 → ss ≤ 33 * cc → lv_has ls 7 [(0, .ref (B 0)), (1, .int v1), (2, .ref qv2), (3, .int v3), (4, .int v4), (5, .int v5)] → W p l e (Rm 6 1 33) s m ([.ref (B 0), .int x1] : List Value).toArray below meth c H98 l98 cc ss (EnI D cls s below ([.ref (B 0), .int x1] : List Value).toArray 1 33 L (fun r L' F' => res.1 = r ∧ MI κ ζ B res.2 L' F' ∧ FrM L F L' F')) (F0 m 98 ls []) := by
    intro k13 nd13 hk13 hnd13 w98 v1 nv2 gv2 v3 v4 v5 hf K98 G98 qv2 m_qv2 e_qv2 hnw_qv2 hI hFr H98 l98 ls cc ss hW hcc hss hl
    unfold f_X6_nestedNow_98 at hf
    obtain ⟨y1, ey1⟩ : ∃ y : Int32, y = v5 + 1 := ⟨_, rfl⟩
    have hf := nm_at hf ey1
    refine lv_iinc (v := y1) (lv' := [(5, .int y1), (0, .ref (B 0)), (1, .int v1), (2, .ref qv2), (3, .int v3), (4, .int v4)]) S.1 S.2.1 dX6_nestedNow_98 hl (k := 5) rfl (by rw [ey1]; rfl) (by decide) rfl (fun ls hl => ?_)
    refine lv_goto (tgt := 13) S.1 S.2.1 dX6_nestedNow_101 (by decide) ?_
    exact hk13 w98 v1 nv2 gv2 v3 v4 y1 hf K98 G98 qv2 m_qv2 e_qv2 hnw_qv2 hI hFr _ _ _ _ _ hW (by omega) (by omega) (lv_sub hl [1, 2, 3, 4, 5, 0] rfl)
  have B13 : ∀  (N : Nat), (∀ (w13 : MS) (v1 : Int32) (nv2 : Nat) (gv2 : Nat → Int32) (v3 : Int32) (v4 : Int32) (v5 : Int32), (lpn (f_X6_nestedNow_13 ) N) (w13, v1, nv2, gv2, v3, v4, v5) = some res → ∀ (K13 : List Nat) (G13 : Nat → va_E), ∀ (qv2 : Nat), qv2 ∈ K13 → G13 qv2 = .inl (κ 0, nv2, .inl gv2) → (qv2 ∉ L) → MI κ ζ B w13 K13 G13 → FrM L F K13 G13 → ∀ (H13 : Heap) (l13 : List Loc) (ls : Array Slot) (cc ss : Nat), HW D cls L s H13 l13 K13 G13 → cc + (N * 0 + 0) ≤ 1 → ss ≤ 33 * cc → lv_has ls 7 [(0, .ref (B 0)), (1, .int v1), (2, .ref qv2), (3, .int v3), (4, .int v4), (5, .int v5)] → W p l e (Rm 6 1 33) s m ([.ref (B 0), .int x1] : List Value).toArray below meth c H13 l13 cc ss (EnI D cls s below ([.ref (B 0), .int x1] : List Value).toArray 1 33 L (fun r L' F' => res.1 = r ∧ MI κ ζ B res.2 L' F' ∧ FrM L F L' F')) (F0 m 13 ls [])) := by
    intro  N
    induction N with
    | zero => intro w13 v1 nv2 gv2 v3 v4 v5 hf K13 G13 qv2 m_qv2 e_qv2 hnw_qv2 hI hFr H13 l13 ls cc ss hW hcc hss hl; cases hf
    | succ N ih =>
      intro w13 v1 nv2 gv2 v3 v4 v5 hf K13 G13 qv2 m_qv2 e_qv2 hnw_qv2 hI hFr H13 l13 ls cc ss hW hcc hss hl
      have hf : f_X6_nestedNow_13  (lpn (f_X6_nestedNow_13 ) N) (w13, v1, nv2, gv2, v3, v4, v5) = some res := hf
      generalize lpn (f_X6_nestedNow_13 ) N = k13 at hf ih
      have hnd13 : 0 ≤ N * 0 + 0 := by omega
      have hcc : cc + (0 + (N * 0 + 0)) ≤ 1 := by omega
      have hk13 := ih
      generalize N * 0 + 0 = nd13 at hnd13 hcc hk13
      unfold f_X6_nestedNow_13 at hf
      try dsimp only at hf
      refine lv_iload S.1 S.2.1 dX6_nestedNow_13 (lv_at hl 5 rfl) ?_
      refine lv_aload_n S.1 S.2.1 dX6_nestedNow_15 rfl (lv_at hl 0 rfl) ?_
      refine lv_iload_n S.1 S.2.1 dX6_nestedNow_16 rfl (lv_at hl 1 rfl) ?_
      obtain ⟨z6, hz, hf⟩ := ob hf
      refine pk_cVI (As := [.int v1]) (rest := [.int v5]) S hK hST hW (c_X6_size hI v1 hz) mc_X6_size wd_1199 wd_1201 wd_1703 rfl np_X6_size (hI.mem (by decide)) hI.this rfl rfl hl.1 rfl (Nat.le_of_ble_eq_true rfl) dX6_nestedNow_17 ⟨by decide, by decide⟩ ⟨rmc (by omega), rms (by omega)⟩ (fun r L2 F3 H4 l5 hp hW => ?_)
      obtain ⟨rfl, rfl, rfl⟩ := hp
      refine lv_icmp_ge (tgt := 104) S.1 S.2.1 dX6_nestedNow_20 (by decide) (fun c7 => ?_) (fun c7 => ?_)
      · have hf := (if_pos c7).symm.trans hf
        refine lv_iload_n S.1 S.2.1 dX6_nestedNow_104 rfl (lv_at hl 3 rfl) ?_
        refine lv_if_ne (tgt := 113) S.1 S.2.1 dX6_nestedNow_105 (by decide) (fun c8 => ?_) (fun c8 => ?_)
        · have hf := (if_neg c8).symm.trans hf
          refine lv_iconst (v := (-1)) S.1 S.2.1 dX6_nestedNow_113 (by decide) ?_
          exact pk_iret S hr hlk hW (eqm (P := fun z => z.1 = (-1) ∧ MI κ ζ B z.2 K13 G13 ∧ FrM L F K13 G13) ⟨rfl, hI, hFr⟩ (Option.some.inj hf)) (by omega) (by omega) dX6_nestedNow_114
        · have hf := (if_pos c8).symm.trans hf
          refine lv_iload S.1 S.2.1 dX6_nestedNow_108 (lv_at hl 4 rfl) ?_
          refine lv_goto (tgt := 114) S.1 S.2.1 dX6_nestedNow_110 (by decide) ?_
          exact pk_iret S hr hlk hW (eqm (P := fun z => z.1 = v4 ∧ MI κ ζ B z.2 K13 G13 ∧ FrM L F K13 G13) ⟨rfl, hI, hFr⟩ (Option.some.inj hf)) (by omega) (by omega) dX6_nestedNow_114
      · have hf := (if_neg c7).symm.trans hf
        refine lv_aload_n S.1 S.2.1 dX6_nestedNow_23 rfl (lv_at hl 0 rfl) ?_
        refine lv_iload_n S.1 S.2.1 dX6_nestedNow_24 rfl (lv_at hl 1 rfl) ?_
        refine lv_iload S.1 S.2.1 dX6_nestedNow_25 (lv_at hl 5 rfl) ?_
        obtain ⟨z13, hz, hf⟩ := ob hf
        refine pk_cVI (As := [.int v1, .int v5]) (rest := []) S hK hST hW (c_X6_get hI v1 v5 hz) mc_X6_get wd_1299 wd_1301 wd_1711 rfl np_X6_get (hI.mem (by decide)) hI.this rfl rfl hl.1 rfl (Nat.le_of_ble_eq_true rfl) dX6_nestedNow_27 ⟨by decide, by decide⟩ ⟨rmc (by omega), rms (by omega)⟩ (fun r L9 F10 H11 l12 hp hW => ?_)
        obtain ⟨rfl, rfl, rfl⟩ := hp
        obtain ⟨z18, hz, hf⟩ := ob hf
        refine pk_cSI (As := [.int z13]) (rest := []) S hK hST hW (c_X6_kind  z13 hz) mc_X6_kind wd_1370 wd_1371 np_X6_kind rfl hl.1 rfl (Nat.le_of_ble_eq_true rfl) dX6_nestedNow_30 ⟨by decide, by decide⟩ ⟨rmc (by omega), rms (by omega)⟩ (fun r L14 F15 H16 l17 hp hW => ?_)
        obtain ⟨rfl, rfl, rfl⟩ := hp
        refine lv_istore (lv' := [(6, .int z18), (0, .ref (B 0)), (1, .int v1), (2, .ref qv2), (3, .int v3), (4, .int v4), (5, .int v5)]) S.1 S.2.1 dX6_nestedNow_33 hl (by decide) rfl (fun ls hl => ?_)
        refine lv_iload S.1 S.2.1 dX6_nestedNow_35 (lv_at hl 0 rfl) ?_
        refine lv_if_eq (tgt := 98) S.1 S.2.1 dX6_nestedNow_37 (by decide) (fun c19 => ?_) (fun c19 => ?_)
        · have hf := (if_pos c19).symm.trans hf
          exact B98 k13 nd13 hk13 hnd13 w13 v1 nv2 gv2 v3 v4 v5 hf K13 G13 qv2 m_qv2 e_qv2 hnw_qv2 hI hFr _ _ _ _ _ hW (by omega) (by omega) (lv_sub hl [1, 2, 3, 4, 5, 6] rfl)
        · have hf := (if_neg c19).symm.trans hf
          refine lv_iload S.1 S.2.1 dX6_nestedNow_40 (lv_at hl 0 rfl) ?_
          refine lv_bipush (v := 9) S.1 S.2.1 dX6_nestedNow_42 (by decide) ?_
          refine lv_icmp_ne (tgt := 50) S.1 S.2.1 dX6_nestedNow_44 (by decide) (fun c20 => ?_) (fun c20 => ?_)
          · have hf := (if_neg c20).symm.trans hf
            refine lv_iload S.1 S.2.1 dX6_nestedNow_50 (lv_at hl 0 rfl) ?_
            refine lv_iconst (v := 2) S.1 S.2.1 dX6_nestedNow_52 (by decide) ?_
            refine pk_irem S dX6_nestedNow_53 (by decide) ?_
            refine lv_iconst (v := 1) S.1 S.2.1 dX6_nestedNow_54 (by decide) ?_
            refine lv_icmp_ne (tgt := 77) S.1 S.2.1 dX6_nestedNow_55 (by decide) (fun c21 => ?_) (fun c21 => ?_)
            · have hf := (if_neg c21).symm.trans hf
              refine lv_iload_n S.1 S.2.1 dX6_nestedNow_77 rfl (lv_at hl 4 rfl) ?_
              refine lv_if_eq (tgt := 93) S.1 S.2.1 dX6_nestedNow_78 (by decide) (fun c22 => ?_) (fun c22 => ?_)
              · have hf := (if_pos c22).symm.trans hf
                refine lv_iconst (v := (-1)) S.1 S.2.1 dX6_nestedNow_93 (by decide) ?_
                exact pk_iret S hr hlk hW (eqm (P := fun z => z.1 = (-1) ∧ MI κ ζ B z.2 K13 G13 ∧ FrM L F K13 G13) ⟨rfl, hI, hFr⟩ (Option.some.inj hf)) (by omega) (by omega) dX6_nestedNow_94
              · have hf := (if_neg c22).symm.trans hf
                refine lv_aload_n S.1 S.2.1 dX6_nestedNow_81 rfl (lv_at hl 3 rfl) ?_
                refine lv_iload_n S.1 S.2.1 dX6_nestedNow_82 rfl (lv_at hl 4 rfl) ?_
                refine lv_iconst (v := 1) S.1 S.2.1 dX6_nestedNow_83 (by decide) ?_
                refine lv_isub S.1 S.2.1 dX6_nestedNow_84 ?_
                obtain ⟨hg, hf⟩ := gd hf
                refine pk_iald S hK hW 0 m_qv2 e_qv2 rfl hg dX6_nestedNow_85 ?_
                refine lv_iload S.1 S.2.1 dX6_nestedNow_86 (lv_at hl 0 rfl) ?_
                refine lv_iconst (v := 1) S.1 S.2.1 dX6_nestedNow_88 (by decide) ?_
                refine lv_isub S.1 S.2.1 dX6_nestedNow_89 ?_
                refine lv_icmp_eq (tgt := 95) S.1 S.2.1 dX6_nestedNow_90 (by decide) (fun c23 => ?_) (fun c23 => ?_)
                · have hf := (if_pos c23).symm.trans hf
                  obtain ⟨y24, ey24⟩ : ∃ y : Int32, y = v3 + (-1) := ⟨_, rfl⟩
                  have hf := nm_at hf ey24
                  refine lv_iinc (v := y24) (lv' := [(3, .int y24), (6, .int z18), (0, .ref (B 0)), (1, .int v1), (2, .ref qv2), (4, .int v4), (5, .int v5)]) S.1 S.2.1 dX6_nestedNow_95 hl (k := 4) rfl (by rw [ey24]; rfl) (by decide) rfl (fun ls hl => ?_)
                  exact B98 k13 nd13 hk13 hnd13 w13 v1 nv2 gv2 y24 v4 v5 hf K13 G13 qv2 m_qv2 e_qv2 hnw_qv2 hI hFr _ _ _ _ _ hW (by omega) (by omega) (lv_sub hl [2, 3, 4, 0, 5, 6] rfl)
                · have hf := (if_neg c23).symm.trans hf
                  refine lv_iconst (v := (-1)) S.1 S.2.1 dX6_nestedNow_93 (by decide) ?_
                  exact pk_iret S hr hlk hW (eqm (P := fun z => z.1 = (-1) ∧ MI κ ζ B z.2 K13 G13 ∧ FrM L F K13 G13) ⟨rfl, hI, hFr⟩ (Option.some.inj hf)) (by omega) (by omega) dX6_nestedNow_94
            · have hf := (if_pos c21).symm.trans hf
              refine lv_aload_n S.1 S.2.1 dX6_nestedNow_58 rfl (lv_at hl 3 rfl) ?_
              refine lv_iload_n S.1 S.2.1 dX6_nestedNow_59 rfl (lv_at hl 4 rfl) ?_
              refine lv_iload S.1 S.2.1 dX6_nestedNow_60 (lv_at hl 0 rfl) ?_
              obtain ⟨hg, hf⟩ := gd hf
              obtain ⟨g25, eg25, hf⟩ := nm_ok hf
              refine pk_iast S hK hW 0 m_qv2 e_qv2 rfl hg dX6_nestedNow_62 (fun H27 l28 hW => ?_)
              rw [← eg25] at hW
              have hI := hI.loc (g' := g25) e_qv2
              have hFr := hFr.loc (e := .inl (κ 0, nv2, .inl g25)) hnw_qv2
              have e_qv2 : (va_up G13 qv2 (.inl (κ 0, nv2, .inl g25))) qv2 = .inl (κ 0, nv2, .inl g25) := up_eq
              generalize va_up G13 qv2 (.inl (κ 0, nv2, .inl g25)) = F26 at hW hI hFr e_qv2
              obtain ⟨y29, ey29⟩ : ∃ y : Int32, y = v3 + 1 := ⟨_, rfl⟩
              have hf := nm_at hf ey29
              refine lv_iinc (v := y29) (lv' := [(3, .int y29), (6, .int z18), (0, .ref (B 0)), (1, .int v1), (2, .ref qv2), (4, .int v4), (5, .int v5)]) S.1 S.2.1 dX6_nestedNow_63 hl (k := 4) rfl (by rw [ey29]; rfl) (by decide) rfl (fun ls hl => ?_)
              refine lv_iload S.1 S.2.1 dX6_nestedNow_66 (lv_at hl 5 rfl) ?_
              refine lv_iload_n S.1 S.2.1 dX6_nestedNow_68 rfl (lv_at hl 0 rfl) ?_
              refine va_mmax S.1 S.2.1 (S.2.2.1.trans hl.1.symm) S.2.2.2.1 (S.2.2.2.2 _ wd_1572) (S.2.2.2.2 _ wd_301) (S.2.2.2.2 _ wd_11) (S.2.2.2.2 _ wd_302) (by decide) (Nat.le_of_ble_eq_true rfl) (rmc (by omega)) (rms (by omega)) dX6_nestedNow_69 ?_
              refine lv_topi (fun y30 ey30 => ?_)
              have hf := nm_at hf ey30
              refine lv_istore (lv' := [(4, .int y30), (3, .int y29), (6, .int z18), (0, .ref (B 0)), (1, .int v1), (2, .ref qv2), (5, .int v5)]) S.1 S.2.1 dX6_nestedNow_72 hl (by decide) rfl (fun ls hl => ?_)
              refine lv_goto (tgt := 98) S.1 S.2.1 dX6_nestedNow_74 (by decide) ?_
              exact B98 k13 nd13 hk13 hnd13 w13 v1 nv2 g25 y29 y30 v5 hf K13 F26 qv2 m_qv2 e_qv2 hnw_qv2 hI hFr _ _ _ _ _ hW (by omega) (by omega) (lv_sub hl [3, 4, 5, 1, 0, 6] rfl)
          · have hf := (if_pos c20).symm.trans hf
            refine lv_goto (tgt := 98) S.1 S.2.1 dX6_nestedNow_47 (by decide) ?_
            exact B98 k13 nd13 hk13 hnd13 w13 v1 nv2 gv2 v3 v4 v5 hf K13 G13 qv2 m_qv2 e_qv2 hnw_qv2 hI hFr _ _ _ _ _ hW (by omega) (by omega) (lv_sub hl [1, 2, 3, 4, 5, 6] rfl)
  unfold f_X6_nestedNow at hf
  refine lv_bipush (v := 21) S.1 S.2.1 dX6_nestedNow_0 (by decide) ?_
  obtain ⟨hg9, hf⟩ := gd hf
  obtain ⟨n31, en31, hf⟩ := nm_ok hf
  obtain ⟨g32, eg32, hf⟩ := nm_ok hf
  have hn9 : n31 ≤ 32 := by have := fun q => hg9 (Or.inr q); omega
  refine pk_newI (N' := n31) S hK hW 0 rfl wd_51 (fun q => hg9 (Or.inl q)) en31.symm (by omega) (rmc (by omega)) (rms (by omega)) dX6_nestedNow_2 (fun q33 H34 hq_q33 hW => ?_)
  rw [← eg32] at hW
  have hI := hI.push (e := .inl (κ 0, n31, .inl g32)) hq_q33 (noE hW hST)
  have hF9 := FrM.push (F := F) (e := .inl (κ 0, n31, .inl g32)) hq_q33
  have hnw_q33 : q33 ∉ L := fun ee => hq_q33 (hFr.1 _ ee)
  have hFr := hFr.tr hF9
  have e_q33 : (va_up F q33 (.inl (κ 0, n31, .inl g32))) q33 = .inl (κ 0, n31, .inl g32) := up_eq
  have m_q33 : q33 ∈ L ++ [q33] := List.mem_append_right _ (List.mem_singleton.mpr rfl)
  generalize va_up F q33 (.inl (κ 0, n31, .inl g32)) = F35 at hW hI hF9 hFr e_q33
  generalize L ++ [q33] = L36 at hW hI hF9 hFr m_q33
  refine lv_astore_n (lv' := [(2, .ref q33), (0, .ref (B 0)), (1, .int x1)]) S.1 S.2.1 dX6_nestedNow_4 rfl hl (by decide) rfl (fun ls hl => ?_)
  refine lv_iconst (v := 0) S.1 S.2.1 dX6_nestedNow_5 (by decide) ?_
  refine lv_istore_n (lv' := [(3, .int 0), (2, .ref q33), (0, .ref (B 0)), (1, .int x1)]) S.1 S.2.1 dX6_nestedNow_6 rfl hl (by decide) rfl (fun ls hl => ?_)
  refine lv_iconst (v := 0) S.1 S.2.1 dX6_nestedNow_7 (by decide) ?_
  refine lv_istore (lv' := [(4, .int 0), (3, .int 0), (2, .ref q33), (0, .ref (B 0)), (1, .int x1)]) S.1 S.2.1 dX6_nestedNow_8 hl (by decide) rfl (fun ls hl => ?_)
  refine lv_iconst (v := 0) S.1 S.2.1 dX6_nestedNow_10 (by decide) ?_
  refine lv_istore (lv' := [(5, .int 0), (4, .int 0), (3, .int 0), (2, .ref q33), (0, .ref (B 0)), (1, .int x1)]) S.1 S.2.1 dX6_nestedNow_11 hl (by decide) rfl (fun ls hl => ?_)
  exact B13  24 (τ) x1 n31 g32 0 0 0 hf L36 F35 q33 m_q33 e_q33 hnw_q33 hI hFr _ _ _ _ _ hW (by omega) (by omega) (lv_sub hl [4, 5, 3, 2, 1, 0] rfl)
def f_X6_nested (τ : MS) (x1 : Int32) : Option (Int32 × MS) := (f_X6_isNoTrack x1).bind fun z5 => (f_X6_start τ z5 1).bind fun z10 => (if z10.1 = 0 then (f_X6_nestedNow z10.2 x1).bind fun z16 => some (z16.1, z16.2) else some (0, z10.2))
theorem mc_X6_nested : MCode yX6_nested cX6_nested 2 (some .int) := ⟨wd_1567, wd_5, by decide, by decide⟩
theorem np_X6_nested : (parseMethodDescriptor yX6_nested.desc).map (fun d => d.parameters.length) = some 1 := by decide +kernel
set_option maxHeartbeats 4000000 in
set_option maxRecDepth 100000 in
theorem c_X6_nested {l : Launch} {D : va_G} {κ : Nat → ClassId} {ζ : Nat → Nat} {L : List Nat} {F : Nat → va_E} {τ : MS} {B : Nat → Nat} (hI : MI κ ζ B τ L F) (x1 : Int32) {res : (Int32 × MS)} (hf : f_X6_nested τ x1 = some res) : MtI l D cls (ty5 κ) ζ yX6_nested cX6_nested 2 (some .int) 7 1 33 ([.ref (B 0), .int x1] : List Value) L F (fun r L' F' => res.1 = r ∧ MI κ ζ B res.2 L' F' ∧ FrM L F L' F') := by
  refine MtI.of (by decide) (Nat.le_of_ble_eq_true rfl) ?_
  intro p e s m below meth c S hr hlk _ hK hW hST ls hl
  have hl : lv_has ls 2 [(0, .ref (B 0)), (1, .int x1)] := hl
  have hFr : FrM L F L F := FrM.rf
  unfold f_X6_nested at hf
  refine lv_aload_n S.1 S.2.1 dX6_nested_0 rfl (lv_at hl 0 rfl) ?_
  refine lv_iload_n S.1 S.2.1 dX6_nested_1 rfl (lv_at hl 1 rfl) ?_
  obtain ⟨z5, hz, hf⟩ := ob hf
  refine pk_cSI (As := [.int x1]) (rest := [.ref (B 0)]) S hK hST hW (c_X6_isNoTrack  x1 hz) mc_X6_isNoTrack wd_1182 wd_1183 np_X6_isNoTrack rfl hl.1 rfl (Nat.le_of_ble_eq_true rfl) dX6_nested_2 ⟨by decide, by decide⟩ ⟨rmc (by omega), rms (by omega)⟩ (fun r L1 F2 H3 l4 hp hW => ?_)
  obtain ⟨rfl, rfl, rfl⟩ := hp
  refine lv_iconst (v := 1) S.1 S.2.1 dX6_nested_5 (by decide) ?_
  obtain ⟨z10, hz, hf⟩ := ob hf
  refine pk_cVI (As := [.int z5, .int 1]) (rest := []) S hK hST hW (c_X6_start hI z5 1 hz) mc_X6_start wd_1188 wd_1190 wd_1701 rfl np_X6_start (hI.mem (by decide)) hI.this rfl rfl hl.1 rfl (Nat.le_of_ble_eq_true rfl) dX6_nested_6 ⟨by decide, by decide⟩ ⟨rmc (by omega), rms (by omega)⟩ (fun r L6 F7 H8 l9 hp hW => ?_)
  obtain ⟨rfl, hI, hF9⟩ := hp
  have hFr := hFr.tr hF9
  refine lv_if_eq (tgt := 16) S.1 S.2.1 dX6_nested_9 (by decide) (fun c11 => ?_) (fun c11 => ?_)
  · have hf := (if_pos c11).symm.trans hf
    refine lv_aload_n S.1 S.2.1 dX6_nested_16 rfl (lv_at hl 0 rfl) ?_
    refine lv_iload_n S.1 S.2.1 dX6_nested_17 rfl (lv_at hl 1 rfl) ?_
    obtain ⟨z16, hz, hf⟩ := ob hf
    refine pk_cVI (As := [.int x1]) (rest := []) S hK hST hW (c_X6_nestedNow hI x1 hz) mc_X6_nestedNow wd_1568 wd_1570 wd_1728 rfl np_X6_nestedNow (hI.mem (by decide)) hI.this rfl rfl hl.1 rfl (Nat.le_of_ble_eq_true rfl) dX6_nested_18 ⟨by decide, by decide⟩ ⟨rmc (by omega), rms (by omega)⟩ (fun r L12 F13 H14 l15 hp hW => ?_)
    obtain ⟨rfl, hI, hF9⟩ := hp
    have hFr := hFr.tr hF9
    exact pk_iret S hr hlk hW (eqm (P := fun z => z.1 = z16.1 ∧ MI κ ζ B z.2 L12 F13 ∧ FrM L F L12 F13) ⟨rfl, hI, hFr⟩ (Option.some.inj hf)) (by omega) (by omega) dX6_nested_21
  · have hf := (if_neg c11).symm.trans hf
    refine lv_iconst (v := 0) S.1 S.2.1 dX6_nested_12 (by decide) ?_
    refine lv_goto (tgt := 21) S.1 S.2.1 dX6_nested_13 (by decide) ?_
    exact pk_iret S hr hlk hW (eqm (P := fun z => z.1 = 0 ∧ MI κ ζ B z.2 L6 F7 ∧ FrM L F L6 F7) ⟨rfl, hI, hFr⟩ (Option.some.inj hf)) (by omega) (by omega) dX6_nested_21
def f_X6_heaviest_72   (k72 : (MS × Int32 × Int32 × Int32 × Int32 × Int32) → Option (Int32 × MS)) (t : (MS × Int32 × Int32 × Int32 × Int32 × Int32)) : Option (Int32 × MS) := (if t.2.2.1 ≤ t.2.2.2.2.2 then some (t.2.2.2.2.1, t.1) else (f_X6_get t.1 t.2.1 (t.2.2.2.1 + t.2.2.2.2.2)).bind fun z6 => (f_X6_load z6).bind fun z11 => nm (if t.2.2.2.2.1 < z11 then z11 else t.2.2.2.2.1 : Int32) fun y12 => nm (t.2.2.2.2.2 + 1 : Int32) fun y13 => k72 (t.1, t.2.1, t.2.2.1, t.2.2.2.1, y12, y13))
def f_X6_heaviest_44   (w44 : MS) (v1 : Int32) (v2 : Int32) (v3 : Int32) (u1 : Int32) : Option (Int32 × MS) := (f_X6_refuse w44 u1 2).bind fun z18 => (if z18.1 = 0 then (f_X6_size z18.2 v1).bind fun z24 => (if (v3 + v2) ≤ z24 then lpn (f_X6_heaviest_72 ) 24 (z18.2, v1, v2, v3, 0, 0) else some ((-1), z18.2)) else some (0, z18.2))
def f_X6_heaviest_21 (τ : MS)  (v1 : Int32) (v2 : Int32) (v3 : Int32) (u1 : Int32) : Option (Int32 × MS) := (f_X6_start τ u1 1).bind fun z30 => (if z30.1 = 0 then (f_X6_isIn v2 1 20).bind fun z36 => (if z36 = 0 then f_X6_heaviest_44 z30.2 v1 v2 v3 1 else f_X6_heaviest_44 z30.2 v1 v2 v3 0) else some (0, z30.2))
def f_X6_heaviest_16 (τ : MS)  (v1 : Int32) (v2 : Int32) (v3 : Int32) : Option (Int32 × MS) := f_X6_heaviest_21 τ v1 v2 v3 1
def f_X6_heaviest (τ : MS) (x1 : Int32) (x2 : Int32) (x3 : Int32) : Option (Int32 × MS) := (f_X6_isNoTrack x1).bind fun z42 => (if z42 = 0 then (f_X6_isNoPlace τ x3).bind fun z48 => (if z48 = 0 then f_X6_heaviest_21 τ x1 x2 x3 0 else f_X6_heaviest_16 τ x1 x2 x3) else f_X6_heaviest_16 τ x1 x2 x3)
theorem mc_X6_heaviest : MCode yX6_heaviest cX6_heaviest 6 (some .int) := ⟨wd_1576, wd_5, by decide, by decide⟩
theorem np_X6_heaviest : (parseMethodDescriptor yX6_heaviest.desc).map (fun d => d.parameters.length) = some 3 := by decide +kernel
set_option maxHeartbeats 4000000 in
set_option maxRecDepth 100000 in
theorem c_X6_heaviest {l : Launch} {D : va_G} {κ : Nat → ClassId} {ζ : Nat → Nat} {L : List Nat} {F : Nat → va_E} {τ : MS} {B : Nat → Nat} (hI : MI κ ζ B τ L F) (x1 : Int32) (x2 : Int32) (x3 : Int32) {res : (Int32 × MS)} (hf : f_X6_heaviest τ x1 x2 x3 = some res) : MtI l D cls (ty5 κ) ζ yX6_heaviest cX6_heaviest 6 (some .int) 6 0 0 ([.ref (B 0), .int x1, .int x2, .int x3] : List Value) L F (fun r L' F' => res.1 = r ∧ MI κ ζ B res.2 L' F' ∧ FrM L F L' F') := by
  refine MtI.of (by decide) (Nat.le_of_ble_eq_true rfl) ?_
  intro p e s m below meth c S hr hlk _ hK hW hST ls hl
  have hl : lv_has ls 6 [(0, .ref (B 0)), (1, .int x1), (2, .int x2), (3, .int x3)] := hl
  have hFr : FrM L F L F := FrM.rf
  have B72 : ∀  (N : Nat), (∀ (w72 : MS) (v1 : Int32) (v2 : Int32) (v3 : Int32) (v4 : Int32) (v5 : Int32), (lpn (f_X6_heaviest_72 ) N) (w72, v1, v2, v3, v4, v5) = some res → ∀ (K72 : List Nat) (G72 : Nat → va_E), MI κ ζ B w72 K72 G72 → FrM L F K72 G72 → ∀ (H72 : Heap) (l72 : List Loc) (ls : Array Slot) (cc ss : Nat), HW D cls L s H72 l72 K72 G72 → cc + (N * 0 + 0) ≤ 0 → ss ≤ 33 * cc → lv_has ls 6 [(0, .ref (B 0)), (1, .int v1), (2, .int v2), (3, .int v3), (4, .int v4), (5, .int v5)] → W p l e (Rm 6 0 0) s m ([.ref (B 0), .int x1, .int x2, .int x3] : List Value).toArray below meth c H72 l72 cc ss (EnI D cls s below ([.ref (B 0), .int x1, .int x2, .int x3] : List Value).toArray 0 0 L (fun r L' F' => res.1 = r ∧ MI κ ζ B res.2 L' F' ∧ FrM L F L' F')) (F0 m 72 ls [])) := by
    intro  N
    induction N with
    | zero => intro w72 v1 v2 v3 v4 v5 hf K72 G72 hI hFr H72 l72 ls cc ss hW hcc hss hl; cases hf
    | succ N ih =>
      intro w72 v1 v2 v3 v4 v5 hf K72 G72 hI hFr H72 l72 ls cc ss hW hcc hss hl
      have hf : f_X6_heaviest_72  (lpn (f_X6_heaviest_72 ) N) (w72, v1, v2, v3, v4, v5) = some res := hf
      generalize lpn (f_X6_heaviest_72 ) N = k72 at hf ih
      have hnd72 : 0 ≤ N * 0 + 0 := by omega
      have hcc : cc + (0 + (N * 0 + 0)) ≤ 0 := by omega
      have hk72 := ih
      generalize N * 0 + 0 = nd72 at hnd72 hcc hk72
      unfold f_X6_heaviest_72 at hf
      try dsimp only at hf
      refine lv_iload S.1 S.2.1 dX6_heaviest_72 (lv_at hl 5 rfl) ?_
      refine lv_iload_n S.1 S.2.1 dX6_heaviest_74 rfl (lv_at hl 2 rfl) ?_
      refine lv_icmp_ge (tgt := 103) S.1 S.2.1 dX6_heaviest_75 (by decide) (fun c1 => ?_) (fun c1 => ?_)
      · have hf := (if_pos c1).symm.trans hf
        refine lv_iload S.1 S.2.1 dX6_heaviest_103 (lv_at hl 4 rfl) ?_
        exact pk_iret S hr hlk hW (eqm (P := fun z => z.1 = v4 ∧ MI κ ζ B z.2 K72 G72 ∧ FrM L F K72 G72) ⟨rfl, hI, hFr⟩ (Option.some.inj hf)) (by omega) (by omega) dX6_heaviest_105
      · have hf := (if_neg c1).symm.trans hf
        refine lv_iload S.1 S.2.1 dX6_heaviest_78 (lv_at hl 4 rfl) ?_
        refine lv_aload_n S.1 S.2.1 dX6_heaviest_80 rfl (lv_at hl 0 rfl) ?_
        refine lv_iload_n S.1 S.2.1 dX6_heaviest_81 rfl (lv_at hl 1 rfl) ?_
        refine lv_iload_n S.1 S.2.1 dX6_heaviest_82 rfl (lv_at hl 3 rfl) ?_
        refine lv_iload S.1 S.2.1 dX6_heaviest_83 (lv_at hl 5 rfl) ?_
        refine lv_iadd S.1 S.2.1 dX6_heaviest_85 ?_
        obtain ⟨z6, hz, hf⟩ := ob hf
        refine pk_cVI (As := [.int v1, .int (v3 + v5)]) (rest := [.int v4]) S hK hST hW (c_X6_get hI v1 (v3 + v5) hz) mc_X6_get wd_1299 wd_1301 wd_1711 rfl np_X6_get (hI.mem (by decide)) hI.this rfl rfl hl.1 rfl (Nat.le_of_ble_eq_true rfl) dX6_heaviest_86 ⟨by decide, by decide⟩ ⟨rmc (by omega), rms (by omega)⟩ (fun r L2 F3 H4 l5 hp hW => ?_)
        obtain ⟨rfl, rfl, rfl⟩ := hp
        obtain ⟨z11, hz, hf⟩ := ob hf
        refine pk_cSI (As := [.int z6]) (rest := [.int v4]) S hK hST hW (c_X6_load  z6 hz) mc_X6_load wd_1394 wd_1395 np_X6_load rfl hl.1 rfl (Nat.le_of_ble_eq_true rfl) dX6_heaviest_89 ⟨by decide, by decide⟩ ⟨rmc (by omega), rms (by omega)⟩ (fun r L7 F8 H9 l10 hp hW => ?_)
        obtain ⟨rfl, rfl, rfl⟩ := hp
        refine va_mmax S.1 S.2.1 (S.2.2.1.trans hl.1.symm) S.2.2.2.1 (S.2.2.2.2 _ wd_1572) (S.2.2.2.2 _ wd_301) (S.2.2.2.2 _ wd_11) (S.2.2.2.2 _ wd_302) (by decide) (Nat.le_of_ble_eq_true rfl) (rmc (by omega)) (rms (by omega)) dX6_heaviest_92 ?_
        refine lv_topi (fun y12 ey12 => ?_)
        have hf := nm_at hf ey12
        refine lv_istore (lv' := [(4, .int y12), (0, .ref (B 0)), (1, .int v1), (2, .int v2), (3, .int v3), (5, .int v5)]) S.1 S.2.1 dX6_heaviest_95 hl (by decide) rfl (fun ls hl => ?_)
        obtain ⟨y13, ey13⟩ : ∃ y : Int32, y = v5 + 1 := ⟨_, rfl⟩
        have hf := nm_at hf ey13
        refine lv_iinc (v := y13) (lv' := [(5, .int y13), (4, .int y12), (0, .ref (B 0)), (1, .int v1), (2, .int v2), (3, .int v3)]) S.1 S.2.1 dX6_heaviest_97 hl (k := 5) rfl (by rw [ey13]; rfl) (by decide) rfl (fun ls hl => ?_)
        refine lv_goto (tgt := 72) S.1 S.2.1 dX6_heaviest_100 (by decide) ?_
        exact hk72 w72 v1 v2 v3 y12 y13 hf K72 G72 hI hFr _ _ _ _ _ hW (by omega) (by omega) (lv_sub hl [2, 3, 4, 5, 1, 0] rfl)
  have B44 : ∀  (w44 : MS) (v1 : Int32) (v2 : Int32) (v3 : Int32) (u1 : Int32), f_X6_heaviest_44 w44 v1 v2 v3 u1 = some res → ∀ (K44 : List Nat) (G44 : Nat → va_E), MI κ ζ B w44 K44 G44 → FrM L F K44 G44 → ∀ (H44 : Heap) (l44 : List Loc) (ls : Array Slot) (cc ss : Nat), HW D cls L s H44 l44 K44 G44 → cc + (0) ≤ 0 → ss ≤ 33 * cc → lv_has ls 6 [(0, .ref (B 0)), (1, .int v1), (2, .int v2), (3, .int v3)] → W p l e (Rm 6 0 0) s m ([.ref (B 0), .int x1, .int x2, .int x3] : List Value).toArray below meth c H44 l44 cc ss (EnI D cls s below ([.ref (B 0), .int x1, .int x2, .int x3] : List Value).toArray 0 0 L (fun r L' F' => res.1 = r ∧ MI κ ζ B res.2 L' F' ∧ FrM L F L' F')) (F0 m 44 ls [.int u1, .ref (B 0)]) := by
    intro  w44 v1 v2 v3 u1 hf K44 G44 hI hFr H44 l44 ls cc ss hW hcc hss hl
    unfold f_X6_heaviest_44 at hf
    refine lv_iconst (v := 2) S.1 S.2.1 dX6_heaviest_44 (by decide) ?_
    obtain ⟨z18, hz, hf⟩ := ob hf
    refine pk_cVI (As := [.int u1, .int 2]) (rest := []) S hK hST hW (c_X6_refuse hI u1 2 hz) mc_X6_refuse wd_1192 wd_1194 wd_1702 rfl np_X6_refuse (hI.mem (by decide)) hI.this rfl rfl hl.1 rfl (Nat.le_of_ble_eq_true rfl) dX6_heaviest_45 ⟨by decide, by decide⟩ ⟨rmc (by omega), rms (by omega)⟩ (fun r L14 F15 H16 l17 hp hW => ?_)
    obtain ⟨rfl, hI, hF9⟩ := hp
    have hFr := hFr.tr hF9
    refine lv_if_eq (tgt := 53) S.1 S.2.1 dX6_heaviest_48 (by decide) (fun c19 => ?_) (fun c19 => ?_)
    · have hf := (if_pos c19).symm.trans hf
      refine lv_iload_n S.1 S.2.1 dX6_heaviest_53 rfl (lv_at hl 3 rfl) ?_
      refine lv_iload_n S.1 S.2.1 dX6_heaviest_54 rfl (lv_at hl 2 rfl) ?_
      refine lv_iadd S.1 S.2.1 dX6_heaviest_55 ?_
      refine lv_aload_n S.1 S.2.1 dX6_heaviest_56 rfl (lv_at hl 0 rfl) ?_
      refine lv_iload_n S.1 S.2.1 dX6_heaviest_57 rfl (lv_at hl 1 rfl) ?_
      obtain ⟨z24, hz, hf⟩ := ob hf
      refine pk_cVI (As := [.int v1]) (rest := [.int (v3 + v2)]) S hK hST hW (c_X6_size hI v1 hz) mc_X6_size wd_1199 wd_1201 wd_1703 rfl np_X6_size (hI.mem (by decide)) hI.this rfl rfl hl.1 rfl (Nat.le_of_ble_eq_true rfl) dX6_heaviest_58 ⟨by decide, by decide⟩ ⟨rmc (by omega), rms (by omega)⟩ (fun r L20 F21 H22 l23 hp hW => ?_)
      obtain ⟨rfl, rfl, rfl⟩ := hp
      refine lv_icmp_le (tgt := 66) S.1 S.2.1 dX6_heaviest_61 (by decide) (fun c25 => ?_) (fun c25 => ?_)
      · have hf := (if_pos c25).symm.trans hf
        refine lv_iconst (v := 0) S.1 S.2.1 dX6_heaviest_66 (by decide) ?_
        refine lv_istore (lv' := [(4, .int 0), (0, .ref (B 0)), (1, .int v1), (2, .int v2), (3, .int v3)]) S.1 S.2.1 dX6_heaviest_67 hl (by decide) rfl (fun ls hl => ?_)
        refine lv_iconst (v := 0) S.1 S.2.1 dX6_heaviest_69 (by decide) ?_
        refine lv_istore (lv' := [(5, .int 0), (4, .int 0), (0, .ref (B 0)), (1, .int v1), (2, .int v2), (3, .int v3)]) S.1 S.2.1 dX6_heaviest_70 hl (by decide) rfl (fun ls hl => ?_)
        exact B72  24 z18.2 v1 v2 v3 0 0 hf L14 F15 hI hFr _ _ _ _ _ hW (by omega) (by omega) (lv_sub hl [2, 3, 4, 5, 1, 0] rfl)
      · have hf := (if_neg c25).symm.trans hf
        refine lv_iconst (v := (-1)) S.1 S.2.1 dX6_heaviest_64 (by decide) ?_
        exact pk_iret S hr hlk hW (eqm (P := fun z => z.1 = (-1) ∧ MI κ ζ B z.2 L14 F15 ∧ FrM L F L14 F15) ⟨rfl, hI, hFr⟩ (Option.some.inj hf)) (by omega) (by omega) dX6_heaviest_65
    · have hf := (if_neg c19).symm.trans hf
      refine lv_iconst (v := 0) S.1 S.2.1 dX6_heaviest_51 (by decide) ?_
      exact pk_iret S hr hlk hW (eqm (P := fun z => z.1 = 0 ∧ MI κ ζ B z.2 L14 F15 ∧ FrM L F L14 F15) ⟨rfl, hI, hFr⟩ (Option.some.inj hf)) (by omega) (by omega) dX6_heaviest_52
  have B21 : ∀  (v1 : Int32) (v2 : Int32) (v3 : Int32) (u1 : Int32), f_X6_heaviest_21 τ v1 v2 v3 u1 = some res → ∀ (H21 : Heap) (l21 : List Loc) (ls : Array Slot) (cc ss : Nat), HW D cls L s H21 l21 L F → cc + (0) ≤ 0 → ss ≤ 33 * cc → lv_has ls 6 [(0, .ref (B 0)), (1, .int v1), (2, .int v2), (3, .int v3)] → W p l e (Rm 6 0 0) s m ([.ref (B 0), .int x1, .int x2, .int x3] : List Value).toArray below meth c H21 l21 cc ss (EnI D cls s below ([.ref (B 0), .int x1, .int x2, .int x3] : List Value).toArray 0 0 L (fun r L' F' => res.1 = r ∧ MI κ ζ B res.2 L' F' ∧ FrM L F L' F')) (F0 m 21 ls [.int u1, .ref (B 0)]) := by
    intro  v1 v2 v3 u1 hf H21 l21 ls cc ss hW hcc hss hl
    unfold f_X6_heaviest_21 at hf
    refine lv_iconst (v := 1) S.1 S.2.1 dX6_heaviest_21 (by decide) ?_
    obtain ⟨z30, hz, hf⟩ := ob hf
    refine pk_cVI (As := [.int u1, .int 1]) (rest := []) S hK hST hW (c_X6_start hI u1 1 hz) mc_X6_start wd_1188 wd_1190 wd_1701 rfl np_X6_start (hI.mem (by decide)) hI.this rfl rfl hl.1 rfl (Nat.le_of_ble_eq_true rfl) dX6_heaviest_22 ⟨by decide, by decide⟩ ⟨rmc (by omega), rms (by omega)⟩ (fun r L26 F27 H28 l29 hp hW => ?_)
    obtain ⟨rfl, hI, hF9⟩ := hp
    have hFr := hFr.tr hF9
    refine lv_if_ne (tgt := 51) S.1 S.2.1 dX6_heaviest_25 (by decide) (fun c31 => ?_) (fun c31 => ?_)
    · have hf := (if_neg c31).symm.trans hf
      refine lv_iconst (v := 0) S.1 S.2.1 dX6_heaviest_51 (by decide) ?_
      exact pk_iret S hr hlk hW (eqm (P := fun z => z.1 = 0 ∧ MI κ ζ B z.2 L26 F27 ∧ FrM L F L26 F27) ⟨rfl, hI, hFr⟩ (Option.some.inj hf)) (by omega) (by omega) dX6_heaviest_52
    · have hf := (if_pos c31).symm.trans hf
      refine lv_aload_n S.1 S.2.1 dX6_heaviest_28 rfl (lv_at hl 0 rfl) ?_
      refine lv_iload_n S.1 S.2.1 dX6_heaviest_29 rfl (lv_at hl 2 rfl) ?_
      refine lv_iconst (v := 1) S.1 S.2.1 dX6_heaviest_30 (by decide) ?_
      refine lv_bipush (v := 20) S.1 S.2.1 dX6_heaviest_31 (by decide) ?_
      obtain ⟨z36, hz, hf⟩ := ob hf
      refine pk_cSI (As := [.int v2, .int 1, .int 20]) (rest := [.ref (B 0)]) S hK hST hW (c_X6_isIn  v2 1 20 hz) mc_X6_isIn wd_1185 wd_1186 np_X6_isIn rfl hl.1 rfl (Nat.le_of_ble_eq_true rfl) dX6_heaviest_33 ⟨by decide, by decide⟩ ⟨rmc (by omega), rms (by omega)⟩ (fun r L32 F33 H34 l35 hp hW => ?_)
      obtain ⟨rfl, rfl, rfl⟩ := hp
      refine lv_if_ne (tgt := 43) S.1 S.2.1 dX6_heaviest_36 (by decide) (fun c37 => ?_) (fun c37 => ?_)
      · have hf := (if_neg c37).symm.trans hf
        refine lv_iconst (v := 0) S.1 S.2.1 dX6_heaviest_43 (by decide) ?_
        exact B44  z30.2 v1 v2 v3 0 hf L26 F27 hI hFr _ _ _ _ _ hW (by omega) (by omega) (lv_sub hl [0, 1, 2, 3] rfl)
      · have hf := (if_pos c37).symm.trans hf
        refine lv_iconst (v := 1) S.1 S.2.1 dX6_heaviest_39 (by decide) ?_
        refine lv_goto (tgt := 44) S.1 S.2.1 dX6_heaviest_40 (by decide) ?_
        exact B44  z30.2 v1 v2 v3 1 hf L26 F27 hI hFr _ _ _ _ _ hW (by omega) (by omega) (lv_sub hl [0, 1, 2, 3] rfl)
  have B16 : ∀  (v1 : Int32) (v2 : Int32) (v3 : Int32), f_X6_heaviest_16 τ v1 v2 v3 = some res → ∀ (H16 : Heap) (l16 : List Loc) (ls : Array Slot) (cc ss : Nat), HW D cls L s H16 l16 L F → cc + (0) ≤ 0 → ss ≤ 33 * cc → lv_has ls 6 [(0, .ref (B 0)), (1, .int v1), (2, .int v2), (3, .int v3)] → W p l e (Rm 6 0 0) s m ([.ref (B 0), .int x1, .int x2, .int x3] : List Value).toArray below meth c H16 l16 cc ss (EnI D cls s below ([.ref (B 0), .int x1, .int x2, .int x3] : List Value).toArray 0 0 L (fun r L' F' => res.1 = r ∧ MI κ ζ B res.2 L' F' ∧ FrM L F L' F')) (F0 m 16 ls [.ref (B 0)]) := by
    intro  v1 v2 v3 hf H16 l16 ls cc ss hW hcc hss hl
    unfold f_X6_heaviest_16 at hf
    refine lv_iconst (v := 1) S.1 S.2.1 dX6_heaviest_16 (by decide) ?_
    refine lv_goto (tgt := 21) S.1 S.2.1 dX6_heaviest_17 (by decide) ?_
    exact B21  v1 v2 v3 1 hf  _ _ _ _ _ hW (by omega) (by omega) (lv_sub hl [0, 1, 2, 3] rfl)
  unfold f_X6_heaviest at hf
  refine lv_aload_n S.1 S.2.1 dX6_heaviest_0 rfl (lv_at hl 0 rfl) ?_
  refine lv_iload_n S.1 S.2.1 dX6_heaviest_1 rfl (lv_at hl 1 rfl) ?_
  obtain ⟨z42, hz, hf⟩ := ob hf
  refine pk_cSI (As := [.int x1]) (rest := [.ref (B 0)]) S hK hST hW (c_X6_isNoTrack  x1 hz) mc_X6_isNoTrack wd_1182 wd_1183 np_X6_isNoTrack rfl hl.1 rfl (Nat.le_of_ble_eq_true rfl) dX6_heaviest_2 ⟨by decide, by decide⟩ ⟨rmc (by omega), rms (by omega)⟩ (fun r L38 F39 H40 l41 hp hW => ?_)
  obtain ⟨rfl, rfl, rfl⟩ := hp
  refine lv_if_ne (tgt := 16) S.1 S.2.1 dX6_heaviest_5 (by decide) (fun c43 => ?_) (fun c43 => ?_)
  · have hf := (if_neg c43).symm.trans hf
    exact B16  x1 x2 x3 hf  _ _ _ _ _ hW (by omega) (by omega) (lv_sub hl [0, 1, 2, 3] rfl)
  · have hf := (if_pos c43).symm.trans hf
    refine lv_aload_n S.1 S.2.1 dX6_heaviest_8 rfl (lv_at hl 0 rfl) ?_
    refine lv_iload_n S.1 S.2.1 dX6_heaviest_9 rfl (lv_at hl 3 rfl) ?_
    obtain ⟨z48, hz, hf⟩ := ob hf
    refine pk_cVI (As := [.int x3]) (rest := [.ref (B 0)]) S hK hST hW (c_X6_isNoPlace hI x3 hz) mc_X6_isNoPlace wd_1437 wd_1439 wd_1720 rfl np_X6_isNoPlace (hI.mem (by decide)) hI.this rfl rfl hl.1 rfl (Nat.le_of_ble_eq_true rfl) dX6_heaviest_10 ⟨by decide, by decide⟩ ⟨rmc (by omega), rms (by omega)⟩ (fun r L44 F45 H46 l47 hp hW => ?_)
    obtain ⟨rfl, rfl, rfl⟩ := hp
    refine lv_if_eq (tgt := 20) S.1 S.2.1 dX6_heaviest_13 (by decide) (fun c49 => ?_) (fun c49 => ?_)
    · have hf := (if_pos c49).symm.trans hf
      refine lv_iconst (v := 0) S.1 S.2.1 dX6_heaviest_20 (by decide) ?_
      exact B21  x1 x2 x3 0 hf  _ _ _ _ _ hW (by omega) (by omega) (lv_sub hl [0, 1, 2, 3] rfl)
    · have hf := (if_neg c49).symm.trans hf
      exact B16  x1 x2 x3 hf  _ _ _ _ _ hW (by omega) (by omega) (lv_sub hl [0, 1, 2, 3] rfl)
def f_X6_ahead_78  (k47 : (MS × Int32 × Int32 × Int32 × Int32) → Option (Int32 × MS)) (w78 : MS) (v1 : Int32) (v2 : Int32) (v3 : Int32) (v4 : Int32) : Option (Int32 × MS) := nm (v4 + 1 : Int32) fun y1 => k47 (w78, v1, v2, v3, y1)
def f_X6_ahead_47   (k47 : (MS × Int32 × Int32 × Int32 × Int32) → Option (Int32 × MS)) (t : (MS × Int32 × Int32 × Int32 × Int32)) : Option (Int32 × MS) := (if t.2.2.1 ≤ t.2.2.2.2 then some (t.2.2.2.1, t.1) else (f_X6_get t.1 t.2.1 t.2.2.2.2).bind fun z7 => (f_X6_load z7).bind fun z12 => (f_X6_get t.1 t.2.1 t.2.2.1).bind fun z17 => (f_X6_load z17).bind fun z22 => (if z12 ≤ z22 then f_X6_ahead_78 k47 t.1 t.2.1 t.2.2.1 t.2.2.2.1 t.2.2.2.2 else f_X6_ahead_78 k47 t.1 t.2.1 t.2.2.1 t.2.2.2.2 t.2.2.2.2))
def f_X6_ahead_21 (τ : MS)  (v1 : Int32) (v2 : Int32) (u1 : Int32) : Option (Int32 × MS) := (f_X6_start τ u1 1).bind fun z28 => (if z28.1 = 0 then (f_X6_size z28.2 v1).bind fun z34 => (if v2 < z34 then lpn (f_X6_ahead_47 ) 24 (z28.2, v1, v2, (-1), 0) else some ((-9), z28.2)) else some (0, z28.2))
def f_X6_ahead_16 (τ : MS)  (v1 : Int32) (v2 : Int32) : Option (Int32 × MS) := f_X6_ahead_21 τ v1 v2 1
def f_X6_ahead (τ : MS) (x1 : Int32) (x2 : Int32) : Option (Int32 × MS) := (f_X6_isNoTrack x1).bind fun z40 => (if z40 = 0 then (f_X6_isNoPlace τ x2).bind fun z46 => (if z46 = 0 then f_X6_ahead_21 τ x1 x2 0 else f_X6_ahead_16 τ x1 x2) else f_X6_ahead_16 τ x1 x2)
theorem mc_X6_ahead : MCode yX6_ahead cX6_ahead 5 (some .int) := ⟨wd_1580, wd_5, by decide, by decide⟩
theorem np_X6_ahead : (parseMethodDescriptor yX6_ahead.desc).map (fun d => d.parameters.length) = some 2 := by decide +kernel
set_option maxHeartbeats 4000000 in
set_option maxRecDepth 100000 in
theorem c_X6_ahead {l : Launch} {D : va_G} {κ : Nat → ClassId} {ζ : Nat → Nat} {L : List Nat} {F : Nat → va_E} {τ : MS} {B : Nat → Nat} (hI : MI κ ζ B τ L F) (x1 : Int32) (x2 : Int32) {res : (Int32 × MS)} (hf : f_X6_ahead τ x1 x2 = some res) : MtI l D cls (ty5 κ) ζ yX6_ahead cX6_ahead 5 (some .int) 6 0 0 ([.ref (B 0), .int x1, .int x2] : List Value) L F (fun r L' F' => res.1 = r ∧ MI κ ζ B res.2 L' F' ∧ FrM L F L' F') := by
  refine MtI.of (by decide) (Nat.le_of_ble_eq_true rfl) ?_
  intro p e s m below meth c S hr hlk _ hK hW hST ls hl
  have hl : lv_has ls 5 [(0, .ref (B 0)), (1, .int x1), (2, .int x2)] := hl
  have hFr : FrM L F L F := FrM.rf
  have B78 : ∀ (k47 : (MS × Int32 × Int32 × Int32 × Int32) → Option (Int32 × MS)) (nd47 : Nat) (hk47 : (∀ (w47 : MS) (v1 : Int32) (v2 : Int32) (v3 : Int32) (v4 : Int32), k47 (w47, v1, v2, v3, v4) = some res → ∀ (K47 : List Nat) (G47 : Nat → va_E), MI κ ζ B w47 K47 G47 → FrM L F K47 G47 → ∀ (H47 : Heap) (l47 : List Loc) (ls : Array Slot) (cc ss : Nat), HW D cls L s H47 l47 K47 G47 → cc + (nd47) ≤ 0 → ss ≤ 33 * cc → lv_has ls 5 [(0, .ref (B 0)), (1, .int v1), (2, .int v2), (3, .int v3), (4, .int v4)] → W p l e (Rm 6 0 0) s m ([.ref (B 0), .int x1, .int x2] : List Value).toArray below meth c H47 l47 cc ss (EnI D cls s below ([.ref (B 0), .int x1, .int x2] : List Value).toArray 0 0 L (fun r L' F' => res.1 = r ∧ MI κ ζ B res.2 L' F' ∧ FrM L F L' F')) (F0 m 47 ls []))) (hnd47 : 0 ≤ nd47) (w78 : MS) (v1 : Int32) (v2 : Int32) (v3 : Int32) (v4 : Int32), f_X6_ahead_78 k47 w78 v1 v2 v3 v4 = some res → ∀ (K78 : List Nat) (G78 : Nat → va_E), MI κ ζ B w78 K78 G78 → FrM L F K78 G78 → ∀ (H78 : Heap) (l78 : List Loc) (ls : Array Slot) (cc ss : Nat), HW D cls L s H78 l78 K78 G78 → cc + (0 + nd47) ≤ 0 → ss ≤ 33 * cc → lv_has ls 5 [(0, .ref (B 0)), (1, .int v1), (2, .int v2), (3, .int v3), (4, .int v4)] → W p l e (Rm 6 0 0) s m ([.ref (B 0), .int x1, .int x2] : List Value).toArray below meth c H78 l78 cc ss (EnI D cls s below ([.ref (B 0), .int x1, .int x2] : List Value).toArray 0 0 L (fun r L' F' => res.1 = r ∧ MI κ ζ B res.2 L' F' ∧ FrM L F L' F')) (F0 m 78 ls []) := by
    intro k47 nd47 hk47 hnd47 w78 v1 v2 v3 v4 hf K78 G78 hI hFr H78 l78 ls cc ss hW hcc hss hl
    unfold f_X6_ahead_78 at hf
    obtain ⟨y1, ey1⟩ : ∃ y : Int32, y = v4 + 1 := ⟨_, rfl⟩
    have hf := nm_at hf ey1
    refine lv_iinc (v := y1) (lv' := [(4, .int y1), (0, .ref (B 0)), (1, .int v1), (2, .int v2), (3, .int v3)]) S.1 S.2.1 dX6_ahead_78 hl (k := 4) rfl (by rw [ey1]; rfl) (by decide) rfl (fun ls hl => ?_)
    refine lv_goto (tgt := 47) S.1 S.2.1 dX6_ahead_81 (by decide) ?_
    exact hk47 w78 v1 v2 v3 y1 hf K78 G78 hI hFr _ _ _ _ _ hW (by omega) (by omega) (lv_sub hl [1, 2, 3, 4, 0] rfl)
  have B47 : ∀  (N : Nat), (∀ (w47 : MS) (v1 : Int32) (v2 : Int32) (v3 : Int32) (v4 : Int32), (lpn (f_X6_ahead_47 ) N) (w47, v1, v2, v3, v4) = some res → ∀ (K47 : List Nat) (G47 : Nat → va_E), MI κ ζ B w47 K47 G47 → FrM L F K47 G47 → ∀ (H47 : Heap) (l47 : List Loc) (ls : Array Slot) (cc ss : Nat), HW D cls L s H47 l47 K47 G47 → cc + (N * 0 + 0) ≤ 0 → ss ≤ 33 * cc → lv_has ls 5 [(0, .ref (B 0)), (1, .int v1), (2, .int v2), (3, .int v3), (4, .int v4)] → W p l e (Rm 6 0 0) s m ([.ref (B 0), .int x1, .int x2] : List Value).toArray below meth c H47 l47 cc ss (EnI D cls s below ([.ref (B 0), .int x1, .int x2] : List Value).toArray 0 0 L (fun r L' F' => res.1 = r ∧ MI κ ζ B res.2 L' F' ∧ FrM L F L' F')) (F0 m 47 ls [])) := by
    intro  N
    induction N with
    | zero => intro w47 v1 v2 v3 v4 hf K47 G47 hI hFr H47 l47 ls cc ss hW hcc hss hl; cases hf
    | succ N ih =>
      intro w47 v1 v2 v3 v4 hf K47 G47 hI hFr H47 l47 ls cc ss hW hcc hss hl
      have hf : f_X6_ahead_47  (lpn (f_X6_ahead_47 ) N) (w47, v1, v2, v3, v4) = some res := hf
      generalize lpn (f_X6_ahead_47 ) N = k47 at hf ih
      have hnd47 : 0 ≤ N * 0 + 0 := by omega
      have hcc : cc + (0 + (N * 0 + 0)) ≤ 0 := by omega
      have hk47 := ih
      generalize N * 0 + 0 = nd47 at hnd47 hcc hk47
      unfold f_X6_ahead_47 at hf
      try dsimp only at hf
      refine lv_iload S.1 S.2.1 dX6_ahead_47 (lv_at hl 4 rfl) ?_
      refine lv_iload_n S.1 S.2.1 dX6_ahead_49 rfl (lv_at hl 2 rfl) ?_
      refine lv_icmp_ge (tgt := 84) S.1 S.2.1 dX6_ahead_50 (by decide) (fun c2 => ?_) (fun c2 => ?_)
      · have hf := (if_pos c2).symm.trans hf
        refine lv_iload_n S.1 S.2.1 dX6_ahead_84 rfl (lv_at hl 3 rfl) ?_
        exact pk_iret S hr hlk hW (eqm (P := fun z => z.1 = v3 ∧ MI κ ζ B z.2 K47 G47 ∧ FrM L F K47 G47) ⟨rfl, hI, hFr⟩ (Option.some.inj hf)) (by omega) (by omega) dX6_ahead_85
      · have hf := (if_neg c2).symm.trans hf
        refine lv_aload_n S.1 S.2.1 dX6_ahead_53 rfl (lv_at hl 0 rfl) ?_
        refine lv_iload_n S.1 S.2.1 dX6_ahead_54 rfl (lv_at hl 1 rfl) ?_
        refine lv_iload S.1 S.2.1 dX6_ahead_55 (lv_at hl 4 rfl) ?_
        obtain ⟨z7, hz, hf⟩ := ob hf
        refine pk_cVI (As := [.int v1, .int v4]) (rest := []) S hK hST hW (c_X6_get hI v1 v4 hz) mc_X6_get wd_1299 wd_1301 wd_1711 rfl np_X6_get (hI.mem (by decide)) hI.this rfl rfl hl.1 rfl (Nat.le_of_ble_eq_true rfl) dX6_ahead_57 ⟨by decide, by decide⟩ ⟨rmc (by omega), rms (by omega)⟩ (fun r L3 F4 H5 l6 hp hW => ?_)
        obtain ⟨rfl, rfl, rfl⟩ := hp
        obtain ⟨z12, hz, hf⟩ := ob hf
        refine pk_cSI (As := [.int z7]) (rest := []) S hK hST hW (c_X6_load  z7 hz) mc_X6_load wd_1394 wd_1395 np_X6_load rfl hl.1 rfl (Nat.le_of_ble_eq_true rfl) dX6_ahead_60 ⟨by decide, by decide⟩ ⟨rmc (by omega), rms (by omega)⟩ (fun r L8 F9 H10 l11 hp hW => ?_)
        obtain ⟨rfl, rfl, rfl⟩ := hp
        refine lv_aload_n S.1 S.2.1 dX6_ahead_63 rfl (lv_at hl 0 rfl) ?_
        refine lv_iload_n S.1 S.2.1 dX6_ahead_64 rfl (lv_at hl 1 rfl) ?_
        refine lv_iload_n S.1 S.2.1 dX6_ahead_65 rfl (lv_at hl 2 rfl) ?_
        obtain ⟨z17, hz, hf⟩ := ob hf
        refine pk_cVI (As := [.int v1, .int v2]) (rest := [.int z12]) S hK hST hW (c_X6_get hI v1 v2 hz) mc_X6_get wd_1299 wd_1301 wd_1711 rfl np_X6_get (hI.mem (by decide)) hI.this rfl rfl hl.1 rfl (Nat.le_of_ble_eq_true rfl) dX6_ahead_66 ⟨by decide, by decide⟩ ⟨rmc (by omega), rms (by omega)⟩ (fun r L13 F14 H15 l16 hp hW => ?_)
        obtain ⟨rfl, rfl, rfl⟩ := hp
        obtain ⟨z22, hz, hf⟩ := ob hf
        refine pk_cSI (As := [.int z17]) (rest := [.int z12]) S hK hST hW (c_X6_load  z17 hz) mc_X6_load wd_1394 wd_1395 np_X6_load rfl hl.1 rfl (Nat.le_of_ble_eq_true rfl) dX6_ahead_69 ⟨by decide, by decide⟩ ⟨rmc (by omega), rms (by omega)⟩ (fun r L18 F19 H20 l21 hp hW => ?_)
        obtain ⟨rfl, rfl, rfl⟩ := hp
        refine lv_icmp_le (tgt := 78) S.1 S.2.1 dX6_ahead_72 (by decide) (fun c23 => ?_) (fun c23 => ?_)
        · have hf := (if_pos c23).symm.trans hf
          exact B78 k47 nd47 hk47 hnd47 w47 v1 v2 v3 v4 hf K47 G47 hI hFr _ _ _ _ _ hW (by omega) (by omega) (lv_sub hl [0, 1, 2, 3, 4] rfl)
        · have hf := (if_neg c23).symm.trans hf
          refine lv_iload S.1 S.2.1 dX6_ahead_75 (lv_at hl 4 rfl) ?_
          refine lv_istore_n (lv' := [(3, .int v4), (0, .ref (B 0)), (1, .int v1), (2, .int v2), (4, .int v4)]) S.1 S.2.1 dX6_ahead_77 rfl hl (by decide) rfl (fun ls hl => ?_)
          exact B78 k47 nd47 hk47 hnd47 w47 v1 v2 v4 v4 hf K47 G47 hI hFr _ _ _ _ _ hW (by omega) (by omega) (lv_sub hl [1, 2, 3, 0, 4] rfl)
  have B21 : ∀  (v1 : Int32) (v2 : Int32) (u1 : Int32), f_X6_ahead_21 τ v1 v2 u1 = some res → ∀ (H21 : Heap) (l21 : List Loc) (ls : Array Slot) (cc ss : Nat), HW D cls L s H21 l21 L F → cc + (0) ≤ 0 → ss ≤ 33 * cc → lv_has ls 5 [(0, .ref (B 0)), (1, .int v1), (2, .int v2)] → W p l e (Rm 6 0 0) s m ([.ref (B 0), .int x1, .int x2] : List Value).toArray below meth c H21 l21 cc ss (EnI D cls s below ([.ref (B 0), .int x1, .int x2] : List Value).toArray 0 0 L (fun r L' F' => res.1 = r ∧ MI κ ζ B res.2 L' F' ∧ FrM L F L' F')) (F0 m 21 ls [.int u1, .ref (B 0)]) := by
    intro  v1 v2 u1 hf H21 l21 ls cc ss hW hcc hss hl
    unfold f_X6_ahead_21 at hf
    refine lv_iconst (v := 1) S.1 S.2.1 dX6_ahead_21 (by decide) ?_
    obtain ⟨z28, hz, hf⟩ := ob hf
    refine pk_cVI (As := [.int u1, .int 1]) (rest := []) S hK hST hW (c_X6_start hI u1 1 hz) mc_X6_start wd_1188 wd_1190 wd_1701 rfl np_X6_start (hI.mem (by decide)) hI.this rfl rfl hl.1 rfl (Nat.le_of_ble_eq_true rfl) dX6_ahead_22 ⟨by decide, by decide⟩ ⟨rmc (by omega), rms (by omega)⟩ (fun r L24 F25 H26 l27 hp hW => ?_)
    obtain ⟨rfl, hI, hF9⟩ := hp
    have hFr := hFr.tr hF9
    refine lv_if_eq (tgt := 30) S.1 S.2.1 dX6_ahead_25 (by decide) (fun c29 => ?_) (fun c29 => ?_)
    · have hf := (if_pos c29).symm.trans hf
      refine lv_iload_n S.1 S.2.1 dX6_ahead_30 rfl (lv_at hl 2 rfl) ?_
      refine lv_aload_n S.1 S.2.1 dX6_ahead_31 rfl (lv_at hl 0 rfl) ?_
      refine lv_iload_n S.1 S.2.1 dX6_ahead_32 rfl (lv_at hl 1 rfl) ?_
      obtain ⟨z34, hz, hf⟩ := ob hf
      refine pk_cVI (As := [.int v1]) (rest := [.int v2]) S hK hST hW (c_X6_size hI v1 hz) mc_X6_size wd_1199 wd_1201 wd_1703 rfl np_X6_size (hI.mem (by decide)) hI.this rfl rfl hl.1 rfl (Nat.le_of_ble_eq_true rfl) dX6_ahead_33 ⟨by decide, by decide⟩ ⟨rmc (by omega), rms (by omega)⟩ (fun r L30 F31 H32 l33 hp hW => ?_)
      obtain ⟨rfl, rfl, rfl⟩ := hp
      refine lv_icmp_lt (tgt := 42) S.1 S.2.1 dX6_ahead_36 (by decide) (fun c35 => ?_) (fun c35 => ?_)
      · have hf := (if_pos c35).symm.trans hf
        refine lv_iconst (v := (-1)) S.1 S.2.1 dX6_ahead_42 (by decide) ?_
        refine lv_istore_n (lv' := [(3, .int ((-1))), (0, .ref (B 0)), (1, .int v1), (2, .int v2)]) S.1 S.2.1 dX6_ahead_43 rfl hl (by decide) rfl (fun ls hl => ?_)
        refine lv_iconst (v := 0) S.1 S.2.1 dX6_ahead_44 (by decide) ?_
        refine lv_istore (lv' := [(4, .int 0), (3, .int ((-1))), (0, .ref (B 0)), (1, .int v1), (2, .int v2)]) S.1 S.2.1 dX6_ahead_45 hl (by decide) rfl (fun ls hl => ?_)
        exact B47  24 z28.2 v1 v2 ((-1)) 0 hf L24 F25 hI hFr _ _ _ _ _ hW (by omega) (by omega) (lv_sub hl [2, 3, 4, 1, 0] rfl)
      · have hf := (if_neg c35).symm.trans hf
        refine lv_bipush (v := (-9)) S.1 S.2.1 dX6_ahead_39 (by decide) ?_
        exact pk_iret S hr hlk hW (eqm (P := fun z => z.1 = (-9) ∧ MI κ ζ B z.2 L24 F25 ∧ FrM L F L24 F25) ⟨rfl, hI, hFr⟩ (Option.some.inj hf)) (by omega) (by omega) dX6_ahead_41
    · have hf := (if_neg c29).symm.trans hf
      refine lv_iconst (v := 0) S.1 S.2.1 dX6_ahead_28 (by decide) ?_
      exact pk_iret S hr hlk hW (eqm (P := fun z => z.1 = 0 ∧ MI κ ζ B z.2 L24 F25 ∧ FrM L F L24 F25) ⟨rfl, hI, hFr⟩ (Option.some.inj hf)) (by omega) (by omega) dX6_ahead_29
  have B16 : ∀  (v1 : Int32) (v2 : Int32), f_X6_ahead_16 τ v1 v2 = some res → ∀ (H16 : Heap) (l16 : List Loc) (ls : Array Slot) (cc ss : Nat), HW D cls L s H16 l16 L F → cc + (0) ≤ 0 → ss ≤ 33 * cc → lv_has ls 5 [(0, .ref (B 0)), (1, .int v1), (2, .int v2)] → W p l e (Rm 6 0 0) s m ([.ref (B 0), .int x1, .int x2] : List Value).toArray below meth c H16 l16 cc ss (EnI D cls s below ([.ref (B 0), .int x1, .int x2] : List Value).toArray 0 0 L (fun r L' F' => res.1 = r ∧ MI κ ζ B res.2 L' F' ∧ FrM L F L' F')) (F0 m 16 ls [.ref (B 0)]) := by
    intro  v1 v2 hf H16 l16 ls cc ss hW hcc hss hl
    unfold f_X6_ahead_16 at hf
    refine lv_iconst (v := 1) S.1 S.2.1 dX6_ahead_16 (by decide) ?_
    refine lv_goto (tgt := 21) S.1 S.2.1 dX6_ahead_17 (by decide) ?_
    exact B21  v1 v2 1 hf  _ _ _ _ _ hW (by omega) (by omega) (lv_sub hl [0, 1, 2] rfl)
  unfold f_X6_ahead at hf
  refine lv_aload_n S.1 S.2.1 dX6_ahead_0 rfl (lv_at hl 0 rfl) ?_
  refine lv_iload_n S.1 S.2.1 dX6_ahead_1 rfl (lv_at hl 1 rfl) ?_
  obtain ⟨z40, hz, hf⟩ := ob hf
  refine pk_cSI (As := [.int x1]) (rest := [.ref (B 0)]) S hK hST hW (c_X6_isNoTrack  x1 hz) mc_X6_isNoTrack wd_1182 wd_1183 np_X6_isNoTrack rfl hl.1 rfl (Nat.le_of_ble_eq_true rfl) dX6_ahead_2 ⟨by decide, by decide⟩ ⟨rmc (by omega), rms (by omega)⟩ (fun r L36 F37 H38 l39 hp hW => ?_)
  obtain ⟨rfl, rfl, rfl⟩ := hp
  refine lv_if_ne (tgt := 16) S.1 S.2.1 dX6_ahead_5 (by decide) (fun c41 => ?_) (fun c41 => ?_)
  · have hf := (if_neg c41).symm.trans hf
    exact B16  x1 x2 hf  _ _ _ _ _ hW (by omega) (by omega) (lv_sub hl [0, 1, 2] rfl)
  · have hf := (if_pos c41).symm.trans hf
    refine lv_aload_n S.1 S.2.1 dX6_ahead_8 rfl (lv_at hl 0 rfl) ?_
    refine lv_iload_n S.1 S.2.1 dX6_ahead_9 rfl (lv_at hl 2 rfl) ?_
    obtain ⟨z46, hz, hf⟩ := ob hf
    refine pk_cVI (As := [.int x2]) (rest := [.ref (B 0)]) S hK hST hW (c_X6_isNoPlace hI x2 hz) mc_X6_isNoPlace wd_1437 wd_1439 wd_1720 rfl np_X6_isNoPlace (hI.mem (by decide)) hI.this rfl rfl hl.1 rfl (Nat.le_of_ble_eq_true rfl) dX6_ahead_10 ⟨by decide, by decide⟩ ⟨rmc (by omega), rms (by omega)⟩ (fun r L42 F43 H44 l45 hp hW => ?_)
    obtain ⟨rfl, rfl, rfl⟩ := hp
    refine lv_if_eq (tgt := 20) S.1 S.2.1 dX6_ahead_13 (by decide) (fun c47 => ?_) (fun c47 => ?_)
    · have hf := (if_pos c47).symm.trans hf
      refine lv_iconst (v := 0) S.1 S.2.1 dX6_ahead_20 (by decide) ?_
      exact B21  x1 x2 0 hf  _ _ _ _ _ hW (by omega) (by omega) (lv_sub hl [0, 1, 2] rfl)
    · have hf := (if_neg c47).symm.trans hf
      exact B16  x1 x2 hf  _ _ _ _ _ hW (by omega) (by omega) (lv_sub hl [0, 1, 2] rfl)
def f_X6_yardTold (τ : MS) (x1 : Int32) : Option Int32 := (if x1 = nI 0 then some (nI (τ.1 3).length) else if x1 = nI 1 then nm (if (τ.1 3).length = 0 then 1 else 0 : Int32) fun y11 => (if y11 = 0 then (lget (τ.1 3) 0).bind fun z17 => some (z17) else some ((-1))) else if x1 = nI 2 then nm (if (τ.1 3).length = 0 then 1 else 0 : Int32) fun y28 => (if y28 = 0 then (lget (τ.1 3) ((nI (τ.1 3).length) - 1)).bind fun z38 => some (z38) else some ((-1))) else if x1 = nI 3 then some (nI (τ.1 2).length) else if x1 = nI 4 then nm (if (τ.1 2).length = 0 then 1 else 0 : Int32) fun y54 => (if y54 = 0 then (lget (τ.1 2) ((nI (τ.1 2).length) - 1)).bind fun z64 => some (z64) else some ((-1))) else if x1 = nI 5 then some (τ.2 1) else if x1 = nI 6 then (f_X6_hasNext τ).bind fun z76 => (f_X6_one z76).bind fun z81 => some (z81) else some (τ.2 4))
theorem mc_X6_yardTold : MCode yX6_yardTold cX6_yardTold 2 (some .int) := ⟨wd_1588, wd_5, by decide, by decide⟩
theorem np_X6_yardTold : (parseMethodDescriptor yX6_yardTold.desc).map (fun d => d.parameters.length) = some 1 := by decide +kernel
set_option maxHeartbeats 4000000 in
set_option maxRecDepth 100000 in
theorem c_X6_yardTold {l : Launch} {D : va_G} {κ : Nat → ClassId} {ζ : Nat → Nat} {L : List Nat} {F : Nat → va_E} {τ : MS} {B : Nat → Nat} (hI : MI κ ζ B τ L F) (x1 : Int32) {res : Int32} (hf : f_X6_yardTold τ x1 = some res) : MtI l D cls (ty5 κ) ζ yX6_yardTold cX6_yardTold 2 (some .int) 6 0 0 ([.ref (B 0), .int x1] : List Value) L F (fun r L' F' => L = L' ∧ F = F' ∧ res = r) := by
  refine MtI.of (by decide) (Nat.le_of_ble_eq_true rfl) ?_
  intro p e s m below meth c S hr hlk _ hK hW hST ls hl
  have hl : lv_has ls 2 [(0, .ref (B 0)), (1, .int x1)] := hl
  unfold f_X6_yardTold at hf
  refine lv_iload_n S.1 S.2.1 dX6_yardTold_0 rfl (lv_at hl 1 rfl) ?_
  by_cases c1 : x1 = nI 0
  · have hf := (if_pos c1).symm.trans hf
    refine lv_tableIn (tgt := 44) S.1 S.2.1 dX6_yardTold_1 (by rw [tbl_in (by decide) c1]; decide) (by rw [tbl_in (by decide) c1]; decide) (by rw [tbl_in (by decide) c1]; rfl) (by decide) ?_
    refine lv_aload_n S.1 S.2.1 dX6_yardTold_44 rfl (lv_at hl 0 rfl) ?_
    refine pk_get S hK hW 3 (hI.mem (by decide)) hI.this rfl hinX6 (by decide) wd_1158 rfl dX6_yardTold_45 ?_
    obtain ⟨ar9, hL9, hup9⟩ := hI.list (by decide : 3 < 4)
    obtain ⟨m_h9, md9, e_h9⟩ := hL9.obj
    refine pk_cVI (As := []) (rest := []) S hK hST hW (c_lsize hL9) mc_Jx4a65c_size_8abf5 wd_1215 wd_1216 wd_1217 rfl np_Jx4a65c_size_8abf5 m_h9 e_h9 rfl rfl hl.1 rfl (Nat.le_of_ble_eq_true rfl) dX6_yardTold_48 ⟨by decide, by decide⟩ ⟨rmc (by omega), rms (by omega)⟩ (fun r L2 F3 H4 l5 hp hW => ?_)
    obtain ⟨rfl, rfl, rfl⟩ := hp
    exact pk_iret S hr hlk hW ⟨rfl, rfl, eqm (P := fun z => z = nI (τ.1 3).length) rfl (Option.some.inj hf)⟩ (by omega) (by omega) dX6_yardTold_51
  · have hf := (if_neg c1).symm.trans hf
    by_cases c6 : x1 = nI 1
    · have hf := (if_pos c6).symm.trans hf
      refine lv_tableIn (tgt := 52) S.1 S.2.1 dX6_yardTold_1 (by rw [tbl_in (by decide) c6]; decide) (by rw [tbl_in (by decide) c6]; decide) (by rw [tbl_in (by decide) c6]; rfl) (by decide) ?_
      refine lv_aload_n S.1 S.2.1 dX6_yardTold_52 rfl (lv_at hl 0 rfl) ?_
      refine pk_get S hK hW 3 (hI.mem (by decide)) hI.this rfl hinX6 (by decide) wd_1158 rfl dX6_yardTold_53 ?_
      obtain ⟨ar9, hL9, hup9⟩ := hI.list (by decide : 3 < 4)
      obtain ⟨m_h9, md9, e_h9⟩ := hL9.obj
      refine pk_cVI (As := []) (rest := []) S hK hST hW (c_lempty hL9) mc_Jx4a65c_isEmpty_aae02 wd_1354 wd_1355 wd_1356 rfl np_Jx4a65c_isEmpty_aae02 m_h9 e_h9 rfl rfl hl.1 rfl (Nat.le_of_ble_eq_true rfl) dX6_yardTold_56 ⟨by decide, by decide⟩ ⟨rmc (by omega), rms (by omega)⟩ (fun y11 L7 F8 H9 l10 hp hW => ?_)
      obtain ⟨rfl, rfl, ey11⟩ := hp
      have hf := nm_at hf ey11.symm
      refine lv_if_eq (tgt := 66) S.1 S.2.1 dX6_yardTold_59 (by decide) (fun c12 => ?_) (fun c12 => ?_)
      · have hf := (if_pos c12).symm.trans hf
        refine lv_aload_n S.1 S.2.1 dX6_yardTold_66 rfl (lv_at hl 0 rfl) ?_
        refine pk_get S hK hW 3 (hI.mem (by decide)) hI.this rfl hinX6 (by decide) wd_1158 rfl dX6_yardTold_67 ?_
        refine lv_iconst (v := 0) S.1 S.2.1 dX6_yardTold_70 (by decide) ?_
        obtain ⟨ar9, hL9, hup9⟩ := hI.list (by decide : 3 < 4)
        obtain ⟨m_h9, md9, e_h9⟩ := hL9.obj
        obtain ⟨z17, hz, hf⟩ := ob hf
        refine pk_cVR (As := [.int 0]) (rest := []) S hK hST hW (c_mget hL9 hz) mc_Jx4a65c_get_915e3 wd_1203 wd_1204 wd_1205 rfl np_Jx4a65c_get_915e3 m_h9 e_h9 rfl rfl hl.1 rfl (Nat.le_of_ble_eq_true rfl) dX6_yardTold_71 ⟨by decide, by decide⟩ ⟨rmc (by omega), rms (by omega)⟩ (fun y18 L13 F14 H15 l16 hp hW => ?_)
        obtain ⟨rfl, rfl, hby18⟩ := hp
        refine va_castS S.1 S.2.1 S.2.2.2.1 (S.2.2.2.2 _ wd_1303) (hK.1 2 _ rfl).2 (bx_cell hK hW hST hby18) dX6_yardTold_74 ?_
        refine pk_cVIr (As := []) (rest := []) S hK hST hW (c_J6_intValue_8abf5 hby18) mc_J6_intValue_8abf5 wd_1304 wd_1305 wd_1306 rfl np_J6_intValue_8abf5 (bx_cell hK hW hST hby18) rfl hl.1 rfl (Nat.le_of_ble_eq_true rfl) dX6_yardTold_77 ⟨by decide, by decide⟩ ⟨rmc (by omega), rms (by omega)⟩ (fun r L19 F20 H21 l22 hp hW => ?_)
        obtain ⟨rfl, rfl, rfl⟩ := hp
        exact pk_iret S hr hlk hW ⟨rfl, rfl, eqm (P := fun z => z = z17) rfl (Option.some.inj hf)⟩ (by omega) (by omega) dX6_yardTold_80
      · have hf := (if_neg c12).symm.trans hf
        refine lv_iconst (v := (-1)) S.1 S.2.1 dX6_yardTold_62 (by decide) ?_
        refine lv_goto (tgt := 80) S.1 S.2.1 dX6_yardTold_63 (by decide) ?_
        exact pk_iret S hr hlk hW ⟨rfl, rfl, eqm (P := fun z => z = (-1)) rfl (Option.some.inj hf)⟩ (by omega) (by omega) dX6_yardTold_80
    · have hf := (if_neg c6).symm.trans hf
      by_cases c23 : x1 = nI 2
      · have hf := (if_pos c23).symm.trans hf
        refine lv_tableIn (tgt := 81) S.1 S.2.1 dX6_yardTold_1 (by rw [tbl_in (by decide) c23]; decide) (by rw [tbl_in (by decide) c23]; decide) (by rw [tbl_in (by decide) c23]; rfl) (by decide) ?_
        refine lv_aload_n S.1 S.2.1 dX6_yardTold_81 rfl (lv_at hl 0 rfl) ?_
        refine pk_get S hK hW 3 (hI.mem (by decide)) hI.this rfl hinX6 (by decide) wd_1158 rfl dX6_yardTold_82 ?_
        obtain ⟨ar9, hL9, hup9⟩ := hI.list (by decide : 3 < 4)
        obtain ⟨m_h9, md9, e_h9⟩ := hL9.obj
        refine pk_cVI (As := []) (rest := []) S hK hST hW (c_lempty hL9) mc_Jx4a65c_isEmpty_aae02 wd_1354 wd_1355 wd_1356 rfl np_Jx4a65c_isEmpty_aae02 m_h9 e_h9 rfl rfl hl.1 rfl (Nat.le_of_ble_eq_true rfl) dX6_yardTold_85 ⟨by decide, by decide⟩ ⟨rmc (by omega), rms (by omega)⟩ (fun y28 L24 F25 H26 l27 hp hW => ?_)
        obtain ⟨rfl, rfl, ey28⟩ := hp
        have hf := nm_at hf ey28.symm
        refine lv_if_eq (tgt := 95) S.1 S.2.1 dX6_yardTold_88 (by decide) (fun c29 => ?_) (fun c29 => ?_)
        · have hf := (if_pos c29).symm.trans hf
          refine lv_aload_n S.1 S.2.1 dX6_yardTold_95 rfl (lv_at hl 0 rfl) ?_
          refine pk_get S hK hW 3 (hI.mem (by decide)) hI.this rfl hinX6 (by decide) wd_1158 rfl dX6_yardTold_96 ?_
          refine lv_aload_n S.1 S.2.1 dX6_yardTold_99 rfl (lv_at hl 0 rfl) ?_
          refine pk_get S hK hW 3 (hI.mem (by decide)) hI.this rfl hinX6 (by decide) wd_1158 rfl dX6_yardTold_100 ?_
          obtain ⟨ar9, hL9, hup9⟩ := hI.list (by decide : 3 < 4)
          obtain ⟨m_h9, md9, e_h9⟩ := hL9.obj
          refine pk_cVI (As := []) (rest := [.ref (B (3 + 3))]) S hK hST hW (c_lsize hL9) mc_Jx4a65c_size_8abf5 wd_1215 wd_1216 wd_1217 rfl np_Jx4a65c_size_8abf5 m_h9 e_h9 rfl rfl hl.1 rfl (Nat.le_of_ble_eq_true rfl) dX6_yardTold_103 ⟨by decide, by decide⟩ ⟨rmc (by omega), rms (by omega)⟩ (fun r L30 F31 H32 l33 hp hW => ?_)
          obtain ⟨rfl, rfl, rfl⟩ := hp
          refine lv_iconst (v := 1) S.1 S.2.1 dX6_yardTold_106 (by decide) ?_
          refine lv_isub S.1 S.2.1 dX6_yardTold_107 ?_
          obtain ⟨ar9, hL9, hup9⟩ := hI.list (by decide : 3 < 4)
          obtain ⟨m_h9, md9, e_h9⟩ := hL9.obj
          obtain ⟨z38, hz, hf⟩ := ob hf
          refine pk_cVR (As := [.int ((nI (τ.1 3).length) - 1)]) (rest := []) S hK hST hW (c_mget hL9 hz) mc_Jx4a65c_get_915e3 wd_1203 wd_1204 wd_1205 rfl np_Jx4a65c_get_915e3 m_h9 e_h9 rfl rfl hl.1 rfl (Nat.le_of_ble_eq_true rfl) dX6_yardTold_108 ⟨by decide, by decide⟩ ⟨rmc (by omega), rms (by omega)⟩ (fun y39 L34 F35 H36 l37 hp hW => ?_)
          obtain ⟨rfl, rfl, hby39⟩ := hp
          refine va_castS S.1 S.2.1 S.2.2.2.1 (S.2.2.2.2 _ wd_1303) (hK.1 2 _ rfl).2 (bx_cell hK hW hST hby39) dX6_yardTold_111 ?_
          refine pk_cVIr (As := []) (rest := []) S hK hST hW (c_J6_intValue_8abf5 hby39) mc_J6_intValue_8abf5 wd_1304 wd_1305 wd_1306 rfl np_J6_intValue_8abf5 (bx_cell hK hW hST hby39) rfl hl.1 rfl (Nat.le_of_ble_eq_true rfl) dX6_yardTold_114 ⟨by decide, by decide⟩ ⟨rmc (by omega), rms (by omega)⟩ (fun r L40 F41 H42 l43 hp hW => ?_)
          obtain ⟨rfl, rfl, rfl⟩ := hp
          exact pk_iret S hr hlk hW ⟨rfl, rfl, eqm (P := fun z => z = z38) rfl (Option.some.inj hf)⟩ (by omega) (by omega) dX6_yardTold_117
        · have hf := (if_neg c29).symm.trans hf
          refine lv_iconst (v := (-1)) S.1 S.2.1 dX6_yardTold_91 (by decide) ?_
          refine lv_goto (tgt := 117) S.1 S.2.1 dX6_yardTold_92 (by decide) ?_
          exact pk_iret S hr hlk hW ⟨rfl, rfl, eqm (P := fun z => z = (-1)) rfl (Option.some.inj hf)⟩ (by omega) (by omega) dX6_yardTold_117
      · have hf := (if_neg c23).symm.trans hf
        by_cases c44 : x1 = nI 3
        · have hf := (if_pos c44).symm.trans hf
          refine lv_tableIn (tgt := 118) S.1 S.2.1 dX6_yardTold_1 (by rw [tbl_in (by decide) c44]; decide) (by rw [tbl_in (by decide) c44]; decide) (by rw [tbl_in (by decide) c44]; rfl) (by decide) ?_
          refine lv_aload_n S.1 S.2.1 dX6_yardTold_118 rfl (lv_at hl 0 rfl) ?_
          refine pk_get S hK hW 2 (hI.mem (by decide)) hI.this rfl hinX6 (by decide) wd_1157 rfl dX6_yardTold_119 ?_
          obtain ⟨ar9, hL9, hup9⟩ := hI.list (by decide : 2 < 4)
          obtain ⟨m_h9, md9, e_h9⟩ := hL9.obj
          refine pk_cVI (As := []) (rest := []) S hK hST hW (c_lsize hL9) mc_Jx4a65c_size_8abf5 wd_1215 wd_1216 wd_1217 rfl np_Jx4a65c_size_8abf5 m_h9 e_h9 rfl rfl hl.1 rfl (Nat.le_of_ble_eq_true rfl) dX6_yardTold_122 ⟨by decide, by decide⟩ ⟨rmc (by omega), rms (by omega)⟩ (fun r L45 F46 H47 l48 hp hW => ?_)
          obtain ⟨rfl, rfl, rfl⟩ := hp
          exact pk_iret S hr hlk hW ⟨rfl, rfl, eqm (P := fun z => z = nI (τ.1 2).length) rfl (Option.some.inj hf)⟩ (by omega) (by omega) dX6_yardTold_125
        · have hf := (if_neg c44).symm.trans hf
          by_cases c49 : x1 = nI 4
          · have hf := (if_pos c49).symm.trans hf
            refine lv_tableIn (tgt := 126) S.1 S.2.1 dX6_yardTold_1 (by rw [tbl_in (by decide) c49]; decide) (by rw [tbl_in (by decide) c49]; decide) (by rw [tbl_in (by decide) c49]; rfl) (by decide) ?_
            refine lv_aload_n S.1 S.2.1 dX6_yardTold_126 rfl (lv_at hl 0 rfl) ?_
            refine pk_get S hK hW 2 (hI.mem (by decide)) hI.this rfl hinX6 (by decide) wd_1157 rfl dX6_yardTold_127 ?_
            obtain ⟨ar9, hL9, hup9⟩ := hI.list (by decide : 2 < 4)
            obtain ⟨m_h9, md9, e_h9⟩ := hL9.obj
            refine pk_cVI (As := []) (rest := []) S hK hST hW (c_lempty hL9) mc_Jx4a65c_isEmpty_aae02 wd_1354 wd_1355 wd_1356 rfl np_Jx4a65c_isEmpty_aae02 m_h9 e_h9 rfl rfl hl.1 rfl (Nat.le_of_ble_eq_true rfl) dX6_yardTold_130 ⟨by decide, by decide⟩ ⟨rmc (by omega), rms (by omega)⟩ (fun y54 L50 F51 H52 l53 hp hW => ?_)
            obtain ⟨rfl, rfl, ey54⟩ := hp
            have hf := nm_at hf ey54.symm
            refine lv_if_eq (tgt := 140) S.1 S.2.1 dX6_yardTold_133 (by decide) (fun c55 => ?_) (fun c55 => ?_)
            · have hf := (if_pos c55).symm.trans hf
              refine lv_aload_n S.1 S.2.1 dX6_yardTold_140 rfl (lv_at hl 0 rfl) ?_
              refine pk_get S hK hW 2 (hI.mem (by decide)) hI.this rfl hinX6 (by decide) wd_1157 rfl dX6_yardTold_141 ?_
              refine lv_aload_n S.1 S.2.1 dX6_yardTold_144 rfl (lv_at hl 0 rfl) ?_
              refine pk_get S hK hW 2 (hI.mem (by decide)) hI.this rfl hinX6 (by decide) wd_1157 rfl dX6_yardTold_145 ?_
              obtain ⟨ar9, hL9, hup9⟩ := hI.list (by decide : 2 < 4)
              obtain ⟨m_h9, md9, e_h9⟩ := hL9.obj
              refine pk_cVI (As := []) (rest := [.ref (B (3 + 2))]) S hK hST hW (c_lsize hL9) mc_Jx4a65c_size_8abf5 wd_1215 wd_1216 wd_1217 rfl np_Jx4a65c_size_8abf5 m_h9 e_h9 rfl rfl hl.1 rfl (Nat.le_of_ble_eq_true rfl) dX6_yardTold_148 ⟨by decide, by decide⟩ ⟨rmc (by omega), rms (by omega)⟩ (fun r L56 F57 H58 l59 hp hW => ?_)
              obtain ⟨rfl, rfl, rfl⟩ := hp
              refine lv_iconst (v := 1) S.1 S.2.1 dX6_yardTold_151 (by decide) ?_
              refine lv_isub S.1 S.2.1 dX6_yardTold_152 ?_
              obtain ⟨ar9, hL9, hup9⟩ := hI.list (by decide : 2 < 4)
              obtain ⟨m_h9, md9, e_h9⟩ := hL9.obj
              obtain ⟨z64, hz, hf⟩ := ob hf
              refine pk_cVR (As := [.int ((nI (τ.1 2).length) - 1)]) (rest := []) S hK hST hW (c_mget hL9 hz) mc_Jx4a65c_get_915e3 wd_1203 wd_1204 wd_1205 rfl np_Jx4a65c_get_915e3 m_h9 e_h9 rfl rfl hl.1 rfl (Nat.le_of_ble_eq_true rfl) dX6_yardTold_153 ⟨by decide, by decide⟩ ⟨rmc (by omega), rms (by omega)⟩ (fun y65 L60 F61 H62 l63 hp hW => ?_)
              obtain ⟨rfl, rfl, hby65⟩ := hp
              refine va_castS S.1 S.2.1 S.2.2.2.1 (S.2.2.2.2 _ wd_1303) (hK.1 2 _ rfl).2 (bx_cell hK hW hST hby65) dX6_yardTold_156 ?_
              refine pk_cVIr (As := []) (rest := []) S hK hST hW (c_J6_intValue_8abf5 hby65) mc_J6_intValue_8abf5 wd_1304 wd_1305 wd_1306 rfl np_J6_intValue_8abf5 (bx_cell hK hW hST hby65) rfl hl.1 rfl (Nat.le_of_ble_eq_true rfl) dX6_yardTold_159 ⟨by decide, by decide⟩ ⟨rmc (by omega), rms (by omega)⟩ (fun r L66 F67 H68 l69 hp hW => ?_)
              obtain ⟨rfl, rfl, rfl⟩ := hp
              exact pk_iret S hr hlk hW ⟨rfl, rfl, eqm (P := fun z => z = z64) rfl (Option.some.inj hf)⟩ (by omega) (by omega) dX6_yardTold_162
            · have hf := (if_neg c55).symm.trans hf
              refine lv_iconst (v := (-1)) S.1 S.2.1 dX6_yardTold_136 (by decide) ?_
              refine lv_goto (tgt := 162) S.1 S.2.1 dX6_yardTold_137 (by decide) ?_
              exact pk_iret S hr hlk hW ⟨rfl, rfl, eqm (P := fun z => z = (-1)) rfl (Option.some.inj hf)⟩ (by omega) (by omega) dX6_yardTold_162
          · have hf := (if_neg c49).symm.trans hf
            by_cases c70 : x1 = nI 5
            · have hf := (if_pos c70).symm.trans hf
              refine lv_tableIn (tgt := 163) S.1 S.2.1 dX6_yardTold_1 (by rw [tbl_in (by decide) c70]; decide) (by rw [tbl_in (by decide) c70]; decide) (by rw [tbl_in (by decide) c70]; rfl) (by decide) ?_
              refine lv_aload_n S.1 S.2.1 dX6_yardTold_163 rfl (lv_at hl 0 rfl) ?_
              refine pk_get S hK hW 5 (hI.mem (by decide)) hI.this rfl hinX6 (by decide) wd_1160 rfl dX6_yardTold_164 ?_
              exact pk_iret S hr hlk hW ⟨rfl, rfl, eqm (P := fun z => z = τ.2 1) rfl (Option.some.inj hf)⟩ (by omega) (by omega) dX6_yardTold_167
            · have hf := (if_neg c70).symm.trans hf
              by_cases c71 : x1 = nI 6
              · have hf := (if_pos c71).symm.trans hf
                refine lv_tableIn (tgt := 168) S.1 S.2.1 dX6_yardTold_1 (by rw [tbl_in (by decide) c71]; decide) (by rw [tbl_in (by decide) c71]; decide) (by rw [tbl_in (by decide) c71]; rfl) (by decide) ?_
                refine lv_aload_n S.1 S.2.1 dX6_yardTold_168 rfl (lv_at hl 0 rfl) ?_
                obtain ⟨z76, hz, hf⟩ := ob hf
                refine pk_cVI (As := []) (rest := []) S hK hST hW (c_X6_hasNext hI  hz) mc_X6_hasNext wd_1421 wd_1423 wd_1719 rfl np_X6_hasNext (hI.mem (by decide)) hI.this rfl rfl hl.1 rfl (Nat.le_of_ble_eq_true rfl) dX6_yardTold_169 ⟨by decide, by decide⟩ ⟨rmc (by omega), rms (by omega)⟩ (fun r L72 F73 H74 l75 hp hW => ?_)
                obtain ⟨rfl, rfl, rfl⟩ := hp
                obtain ⟨z81, hz, hf⟩ := ob hf
                refine pk_cSI (As := [.int z76]) (rest := []) S hK hST hW (c_X6_one  z76 hz) mc_X6_one wd_1288 wd_1289 np_X6_one rfl hl.1 rfl (Nat.le_of_ble_eq_true rfl) dX6_yardTold_172 ⟨by decide, by decide⟩ ⟨rmc (by omega), rms (by omega)⟩ (fun r L77 F78 H79 l80 hp hW => ?_)
                obtain ⟨rfl, rfl, rfl⟩ := hp
                exact pk_iret S hr hlk hW ⟨rfl, rfl, eqm (P := fun z => z = z81) rfl (Option.some.inj hf)⟩ (by omega) (by omega) dX6_yardTold_175
              · have hf := (if_neg c71).symm.trans hf
                refine lv_tableOut (tgt := 176) S.1 S.2.1 dX6_yardTold_1 (tbl_out 7 (by decide) (fun k hk => by match k, hk with | 0, _ => exact c1 | 1, _ => exact c6 | 2, _ => exact c23 | 3, _ => exact c44 | 4, _ => exact c49 | 5, _ => exact c70 | 6, _ => exact c71 | k + 7, hk => exact absurd hk (by omega))) (by decide) ?_
                refine lv_aload_n S.1 S.2.1 dX6_yardTold_176 rfl (lv_at hl 0 rfl) ?_
                refine pk_get S hK hW 8 (hI.mem (by decide)) hI.this rfl hinX6 (by decide) wd_1163 rfl dX6_yardTold_177 ?_
                exact pk_iret S hr hlk hW ⟨rfl, rfl, eqm (P := fun z => z = τ.2 4) rfl (Option.some.inj hf)⟩ (by omega) (by omega) dX6_yardTold_180
def f_X6_yard_16 (τ : MS)  (v1 : Int32) (u1 : Int32) : Option (Int32 × MS) := (f_X6_start τ u1 1).bind fun z5 => (if z5.1 = 0 then (f_X6_yardTold z5.2 v1).bind fun z11 => some (z11, z5.2) else some (0, z5.2))
def f_X6_yard (τ : MS) (x1 : Int32) : Option (Int32 × MS) := (f_X6_isIn x1 0 7).bind fun z16 => (if z16 = 0 then f_X6_yard_16 τ x1 1 else f_X6_yard_16 τ x1 0)
theorem mc_X6_yard : MCode yX6_yard cX6_yard 2 (some .int) := ⟨wd_1584, wd_5, by decide, by decide⟩
theorem np_X6_yard : (parseMethodDescriptor yX6_yard.desc).map (fun d => d.parameters.length) = some 1 := by decide +kernel
set_option maxHeartbeats 4000000 in
set_option maxRecDepth 100000 in
theorem c_X6_yard {l : Launch} {D : va_G} {κ : Nat → ClassId} {ζ : Nat → Nat} {L : List Nat} {F : Nat → va_E} {τ : MS} {B : Nat → Nat} (hI : MI κ ζ B τ L F) (x1 : Int32) {res : (Int32 × MS)} (hf : f_X6_yard τ x1 = some res) : MtI l D cls (ty5 κ) ζ yX6_yard cX6_yard 2 (some .int) 7 0 0 ([.ref (B 0), .int x1] : List Value) L F (fun r L' F' => res.1 = r ∧ MI κ ζ B res.2 L' F' ∧ FrM L F L' F') := by
  refine MtI.of (by decide) (Nat.le_of_ble_eq_true rfl) ?_
  intro p e s m below meth c S hr hlk _ hK hW hST ls hl
  have hl : lv_has ls 2 [(0, .ref (B 0)), (1, .int x1)] := hl
  have hFr : FrM L F L F := FrM.rf
  have B16 : ∀  (v1 : Int32) (u1 : Int32), f_X6_yard_16 τ v1 u1 = some res → ∀ (H16 : Heap) (l16 : List Loc) (ls : Array Slot) (cc ss : Nat), HW D cls L s H16 l16 L F → cc + (0) ≤ 0 → ss ≤ 33 * cc → lv_has ls 2 [(0, .ref (B 0)), (1, .int v1)] → W p l e (Rm 7 0 0) s m ([.ref (B 0), .int x1] : List Value).toArray below meth c H16 l16 cc ss (EnI D cls s below ([.ref (B 0), .int x1] : List Value).toArray 0 0 L (fun r L' F' => res.1 = r ∧ MI κ ζ B res.2 L' F' ∧ FrM L F L' F')) (F0 m 16 ls [.int u1, .ref (B 0)]) := by
    intro  v1 u1 hf H16 l16 ls cc ss hW hcc hss hl
    unfold f_X6_yard_16 at hf
    refine lv_iconst (v := 1) S.1 S.2.1 dX6_yard_16 (by decide) ?_
    obtain ⟨z5, hz, hf⟩ := ob hf
    refine pk_cVI (As := [.int u1, .int 1]) (rest := []) S hK hST hW (c_X6_start hI u1 1 hz) mc_X6_start wd_1188 wd_1190 wd_1701 rfl np_X6_start (hI.mem (by decide)) hI.this rfl rfl hl.1 rfl (Nat.le_of_ble_eq_true rfl) dX6_yard_17 ⟨by decide, by decide⟩ ⟨rmc (by omega), rms (by omega)⟩ (fun r L1 F2 H3 l4 hp hW => ?_)
    obtain ⟨rfl, hI, hF9⟩ := hp
    have hFr := hFr.tr hF9
    refine lv_if_eq (tgt := 27) S.1 S.2.1 dX6_yard_20 (by decide) (fun c6 => ?_) (fun c6 => ?_)
    · have hf := (if_pos c6).symm.trans hf
      refine lv_aload_n S.1 S.2.1 dX6_yard_27 rfl (lv_at hl 0 rfl) ?_
      refine lv_iload_n S.1 S.2.1 dX6_yard_28 rfl (lv_at hl 1 rfl) ?_
      obtain ⟨z11, hz, hf⟩ := ob hf
      refine pk_cVI (As := [.int v1]) (rest := []) S hK hST hW (c_X6_yardTold hI v1 hz) mc_X6_yardTold wd_1585 wd_1587 wd_1729 rfl np_X6_yardTold (hI.mem (by decide)) hI.this rfl rfl hl.1 rfl (Nat.le_of_ble_eq_true rfl) dX6_yard_29 ⟨by decide, by decide⟩ ⟨rmc (by omega), rms (by omega)⟩ (fun r L7 F8 H9 l10 hp hW => ?_)
      obtain ⟨rfl, rfl, rfl⟩ := hp
      exact pk_iret S hr hlk hW (eqm (P := fun z => z.1 = z11 ∧ MI κ ζ B z.2 L1 F2 ∧ FrM L F L1 F2) ⟨rfl, hI, hFr⟩ (Option.some.inj hf)) (by omega) (by omega) dX6_yard_32
    · have hf := (if_neg c6).symm.trans hf
      refine lv_iconst (v := 0) S.1 S.2.1 dX6_yard_23 (by decide) ?_
      refine lv_goto (tgt := 32) S.1 S.2.1 dX6_yard_24 (by decide) ?_
      exact pk_iret S hr hlk hW (eqm (P := fun z => z.1 = 0 ∧ MI κ ζ B z.2 L1 F2 ∧ FrM L F L1 F2) ⟨rfl, hI, hFr⟩ (Option.some.inj hf)) (by omega) (by omega) dX6_yard_32
  unfold f_X6_yard at hf
  refine lv_aload_n S.1 S.2.1 dX6_yard_0 rfl (lv_at hl 0 rfl) ?_
  refine lv_iload_n S.1 S.2.1 dX6_yard_1 rfl (lv_at hl 1 rfl) ?_
  refine lv_iconst (v := 0) S.1 S.2.1 dX6_yard_2 (by decide) ?_
  refine lv_bipush (v := 7) S.1 S.2.1 dX6_yard_3 (by decide) ?_
  obtain ⟨z16, hz, hf⟩ := ob hf
  refine pk_cSI (As := [.int x1, .int 0, .int 7]) (rest := [.ref (B 0)]) S hK hST hW (c_X6_isIn  x1 0 7 hz) mc_X6_isIn wd_1185 wd_1186 np_X6_isIn rfl hl.1 rfl (Nat.le_of_ble_eq_true rfl) dX6_yard_5 ⟨by decide, by decide⟩ ⟨rmc (by omega), rms (by omega)⟩ (fun r L12 F13 H14 l15 hp hW => ?_)
  obtain ⟨rfl, rfl, rfl⟩ := hp
  refine lv_if_ne (tgt := 15) S.1 S.2.1 dX6_yard_8 (by decide) (fun c17 => ?_) (fun c17 => ?_)
  · have hf := (if_neg c17).symm.trans hf
    refine lv_iconst (v := 0) S.1 S.2.1 dX6_yard_15 (by decide) ?_
    exact B16  x1 0 hf  _ _ _ _ _ hW (by omega) (by omega) (lv_sub hl [0, 1] rfl)
  · have hf := (if_pos c17).symm.trans hf
    refine lv_iconst (v := 1) S.1 S.2.1 dX6_yard_11 (by decide) ?_
    refine lv_goto (tgt := 16) S.1 S.2.1 dX6_yard_12 (by decide) ?_
    exact B16  x1 1 hf  _ _ _ _ _ hW (by omega) (by omega) (lv_sub hl [0, 1] rfl)
def f_X6_knock (τ : MS) : Option (Int32 × MS) := nm ((τ.1, va_up τ.2 0 0) : MS) fun t4 => nm ((t4.1, va_up t4.2 4 ((t4.2 4) + 1)) : MS) fun t8 => some (t8.2 4, t8)
theorem mc_X6_knock : MCode yX6_knock cX6_knock 1 (some .int) := ⟨wd_1592, wd_5, by decide, by decide⟩
theorem np_X6_knock : (parseMethodDescriptor yX6_knock.desc).map (fun d => d.parameters.length) = some 0 := by decide +kernel
set_option maxHeartbeats 4000000 in
set_option maxRecDepth 100000 in
theorem c_X6_knock {l : Launch} {D : va_G} {κ : Nat → ClassId} {ζ : Nat → Nat} {L : List Nat} {F : Nat → va_E} {τ : MS} {B : Nat → Nat} (hI : MI κ ζ B τ L F)  {res : (Int32 × MS)} (hf : f_X6_knock τ = some res) : MtI l D cls (ty5 κ) ζ yX6_knock cX6_knock 1 (some .int) 1 0 0 ([.ref (B 0)] : List Value) L F (fun r L' F' => res.1 = r ∧ MI κ ζ B res.2 L' F' ∧ FrM L F L' F') := by
  refine MtI.of (by decide) (Nat.le_of_ble_eq_true rfl) ?_
  intro p e s m below meth c S hr hlk _ hK hW hST ls hl
  have hl : lv_has ls 1 [(0, .ref (B 0))] := hl
  have hFr : FrM L F L F := FrM.rf
  unfold f_X6_knock at hf
  refine lv_aload_n S.1 S.2.1 dX6_knock_0 rfl (lv_at hl 0 rfl) ?_
  refine lv_iconst (v := 0) S.1 S.2.1 dX6_knock_1 (by decide) ?_
  refine pk_put (v := .int 0) S hK hW 0 (hI.mem (by decide)) hI.this rfl hinX6 tyX6_ok nmX6 (by decide) wd_1155 rfl rfl rfl rfl (Nat.le_of_ble_eq_true rfl) dX6_knock_2 (fun H1 l2 hW => ?_)
  have hF9 := FrM.cell (L := L) (w := (([.int (τ.2 0), .ref (B 1), .ref (B 5), .ref (B 6), .ref (B 7), .int (τ.2 1), .int (τ.2 2), .int (τ.2 3), .int (τ.2 4)] : List Value).set 0 (.int 0))) hI.this (Or.inr rfl)
  have hI := hI.setSc 0 0 (by decide) 0 rfl
  generalize va_up F (B 0) (.inr (11, (([.int (τ.2 0), .ref (B 1), .ref (B 5), .ref (B 6), .ref (B 7), .int (τ.2 1), .int (τ.2 2), .int (τ.2 3), .int (τ.2 4)] : List Value).set 0 (.int 0)))) = F3 at hW hI hF9
  have hFr := hFr.tr hF9
  obtain ⟨t4, et4, hf⟩ := nm_ok hf
  have hI := eqm (P := fun w => MI κ ζ B w L F3) hI et4.symm
  refine lv_aload_n S.1 S.2.1 dX6_knock_5 rfl (lv_at hl 0 rfl) ?_
  refine lv_dup S.1 S.2.1 dX6_knock_6 rfl ?_
  refine pk_get S hK hW 8 (hI.mem (by decide)) hI.this rfl hinX6 (by decide) wd_1163 rfl dX6_knock_7 ?_
  refine lv_iconst (v := 1) S.1 S.2.1 dX6_knock_10 (by decide) ?_
  refine lv_iadd S.1 S.2.1 dX6_knock_11 ?_
  refine pk_put (v := .int ((t4.2 4) + 1)) S hK hW 8 (hI.mem (by decide)) hI.this rfl hinX6 tyX6_ok nmX6 (by decide) wd_1163 rfl rfl rfl rfl (Nat.le_of_ble_eq_true rfl) dX6_knock_12 (fun H5 l6 hW => ?_)
  have hF9 := FrM.cell (L := L) (w := (([.int (t4.2 0), .ref (B 1), .ref (B 5), .ref (B 6), .ref (B 7), .int (t4.2 1), .int (t4.2 2), .int (t4.2 3), .int (t4.2 4)] : List Value).set 8 (.int ((t4.2 4) + 1)))) hI.this (Or.inr rfl)
  have hI := hI.setSc 4 8 (by decide) ((t4.2 4) + 1) rfl
  generalize va_up F3 (B 0) (.inr (11, (([.int (t4.2 0), .ref (B 1), .ref (B 5), .ref (B 6), .ref (B 7), .int (t4.2 1), .int (t4.2 2), .int (t4.2 3), .int (t4.2 4)] : List Value).set 8 (.int ((t4.2 4) + 1))))) = F7 at hW hI hF9
  have hFr := hFr.tr hF9
  obtain ⟨t8, et8, hf⟩ := nm_ok hf
  have hI := eqm (P := fun w => MI κ ζ B w L F7) hI et8.symm
  refine lv_aload_n S.1 S.2.1 dX6_knock_15 rfl (lv_at hl 0 rfl) ?_
  refine pk_get S hK hW 8 (hI.mem (by decide)) hI.this rfl hinX6 (by decide) wd_1163 rfl dX6_knock_16 ?_
  exact pk_iret S hr hlk hW (eqm (P := fun z => z.1 = t8.2 4 ∧ MI κ ζ B z.2 L F7 ∧ FrM L F L F7) ⟨rfl, hI, hFr⟩ (Option.some.inj hf)) (by omega) (by omega) dX6_knock_19
def f_X6_add (x1 : Int64) (x2 : Int64) : Option Int64 := some ((x1 * 31) + x2)
theorem mc_X6_add : MCode yX6_add cX6_add 4 (some .long) := ⟨wd_1649, wd_5, by decide, by decide⟩
theorem np_X6_add : (parseMethodDescriptor yX6_add.desc).map (fun d => d.parameters.length) = some 2 := by decide +kernel
set_option maxHeartbeats 4000000 in
set_option maxRecDepth 100000 in
theorem c_X6_add {l : Launch} {D : va_G} {κ : Nat → ClassId} {ζ : Nat → Nat} {L : List Nat} {F : Nat → va_E} (x1 : Int64) (x2 : Int64) {res : Int64} (hf : f_X6_add x1 x2 = some res) : MtJ l D cls (ty5 κ) ζ yX6_add cX6_add 4 (some .long) 1 0 0 ([.long x1, .long x2] : List Value) L F (fun r L' F' => L = L' ∧ F = F' ∧ res = r) := by
  refine MtJ.of (by decide) (Nat.le_of_ble_eq_true rfl) ?_
  intro p e s m below meth c S hr hlk _ hK hW hST ls hl
  have hl : lv_has ls 4 [(0, .long x1), (2, .long x2)] := hl
  unfold f_X6_add at hf
  refine lv_lload_n S.1 S.2.1 dX6_add_0 rfl (lv_at hl 0 rfl) ?_
  refine lv_ldc2 (v := 31) S.1 S.2.1 S.2.2.2.1 (S.2.2.2.2 _ wd_1650) dX6_add_1 ?_
  refine lv_lmul S.1 S.2.1 dX6_add_4 ?_
  refine lv_lload_n S.1 S.2.1 dX6_add_5 rfl (lv_at hl 1 rfl) ?_
  refine lv_ladd S.1 S.2.1 dX6_add_6 ?_
  exact pk_lret S hr hlk hW ⟨rfl, rfl, eqm (P := fun z => z = (x1 * 31) + x2) rfl (Option.some.inj hf)⟩ (by omega) (by omega) dX6_add_7
end
section
def f_X6_thrown (τ : MS) : Option Int32 := some (τ.2 0)
theorem mc_X6_thrown : MCode yX6_thrown cX6_thrown 1 (some .int) := ⟨wd_3007, wd_5, by decide, by decide⟩
theorem np_X6_thrown : (parseMethodDescriptor yX6_thrown.desc).map (fun d => d.parameters.length) = some 0 := by decide +kernel
set_option maxHeartbeats 4000000 in
set_option maxRecDepth 100000 in
theorem c_X6_thrown {l : Launch} {D : va_G} {κ : Nat → ClassId} {ζ : Nat → Nat} {L : List Nat} {F : Nat → va_E} {τ : MS} {B : Nat → Nat} (hI : MI κ ζ B τ L F)  {res : Int32} (hf : f_X6_thrown τ = some res) : MtI l D cls (ty5 κ) ζ yX6_thrown cX6_thrown 1 (some .int) 1 0 0 ([.ref (B 0)] : List Value) L F (fun r L' F' => L = L' ∧ F = F' ∧ res = r) := by
  refine MtI.of (by decide) (Nat.le_of_ble_eq_true rfl) ?_
  intro p e s m below meth c S hr hlk _ hK hW hST ls hl
  have hl : lv_has ls 1 [(0, .ref (B 0))] := hl
  unfold f_X6_thrown at hf
  refine lv_aload_n S.1 S.2.1 dX6_thrown_0 rfl (lv_at hl 0 rfl) ?_
  refine pk_get S hK hW 0 (hI.mem (by decide)) hI.this rfl hinX6 (by decide) wd_1155 rfl dX6_thrown_1 ?_
  exact pk_iret S hr hlk hW ⟨rfl, rfl, eqm (P := fun z => z = τ.2 0) rfl (Option.some.inj hf)⟩ (by omega) (by omega) dX6_thrown_4
end
section
/-! StringBuilder: what it is called by -/
theorem sel_priv {C : String} {y y0 : MethodName} {s : State} {args : Array Value} {n : Nat} (hy : y.cls ≠ "java/lang/invoke/MethodHandle" ∧ y.cls ≠ "java/lang/invoke/VarHandle") (hins : (Cond.instantiable C n).before args s = true) (hpriv : (Cond.privateMethod y).before args s = true) (hinst : (Cond.instanceMethod y).before args s = true) (h0 : (Cond.selects C y0 y0).before args s = true) (hc0 : y0.cls = y.cls) : (Cond.selects C y y).before args s = true := by
  obtain ⟨c, k, hc, hk, -, -, -, -⟩ := Cond.instantiable_spec hins
  obtain ⟨mk, methM, hnamed, hmethM, -, -⟩ := Cond.instanceMethod_spec hinst
  have hfound : s.methodFound? y.cls y.name y.desc = some mk := State.methodFound?_of_named hnamed hy
  obtain ⟨_, _, m2, -, -, q3, -, kP, hkP, hkPi⟩ := Cond.selects_spec h0
  have hcls : m2.cls = mk.cls := by
    have e1 := findClass_of_methodNamed q3
    have e2 := findClass_of_methodNamed hnamed
    rw [hc0] at e1
    exact Option.some.inj (e1.symm.trans e2)
  rw [hcls] at hkP
  have hsel : selectMethod {} s.vm c mk = .method mk := selectMethod_private hmethM (Cond.privateMethod_at hpriv mk methM hnamed hmethM)
  simp only [Cond.before, Cond.holds, Cond.value, hc, hfound, hnamed, hsel, hkP]
  simp; exact hkPi
theorem gw_cons2 {y : MethodName} {cc : ByteArray} {n : Nat} {rt : Option FieldType} {C : String} {x z : MethodName} (h : MCode y cc n rt) {pre : List Cond} (hp : ∀ w ∈ pre, w ∈ Cond.selects C x z :: Gw) : GoodIn (Cond.selects C x z :: Gw) (pre ++ (Cond.code y cc n rt :: Gw)) := by
  have key : ∀ w ∈ pre ++ (Cond.code y cc n rt :: Gw), w ∈ Cond.selects C x z :: Gw := by
    intro w hw
    rcases List.mem_append.mp hw with q | q
    · exact hp w q
    · rcases List.mem_cons.mp q with rfl | q
      · exact List.mem_cons_of_mem _ h.1
      · exact List.mem_cons_of_mem _ q
  intro w hw
  refine ⟨key w hw, ?_⟩
  rcases List.mem_cons.mp (key w hw) with rfl | q
  · exact Or.inl rfl
  · exact good_of_word (gw_good w q)
section CKu
variable {p : Program} {l : Launch} {e : Env} {R : Room} {s : State} {m : MethodId} {args : Array Value} {below : List Frame} {meth : Method} {c : Code} {cc : ByteArray} {nL : Nat} {own : String} {H : Heap} {locs : List Loc} {cells slots : Nat} {Q : State → Prop} {D : va_G} {cl : List vw_C} {tys : List (ClassId × FieldType)} {ζ : Nat → Nat} {pc : Nat} {ls : Array Slot} {rest st0 : List Value} {L0 L : List Nat} {F : Nat → va_E} {y : MethodName} {bytes : ByteArray} {n d mc ms index np : Nat} {rt : Option FieldType} {As : List Value}
theorem pk_cUI (S : CallFix p m c cc nL s args Gw own) (hK : va_K D cl tys s) (hST : ST ζ (AL L0 s.heap.size) s s.heap) (hW : HW D cl L0 s H locs L F) {post : Int32 → List Nat → (Nat → va_E) → Prop} {b ci : Nat} {fs : List Value} {r0 : vw_C} (hM : MtI l D cl tys ζ y bytes n rt d mc ms (.ref b :: As) L F post) (hcd : MCode y bytes n rt) (hlink : Cond.methodLink own index y ∈ Gw) (hin : Cond.instanceMethod y ∈ Gw) (hsel : Cond.selects r0.1 y y ∈ Gw) (hsame : Cond.sameMethod y.cls y.cls y.name y.desc ∈ Gw) (hnp : (parseMethodDescriptor y.desc).map (fun d => d.parameters.length) = some np) (hb : b ∈ L) (he : F b = .inr (ci, fs)) (hc : cl[ci]? = some r0) (hlen : As.length = np) (hsize : ls.size = nL) (hstk : st0 = As.reverse ++ .ref b :: rest) (hcat : (rest.map fun v => v.category).sum ≤ 8) (hdg : decode cc pc = .ok (.invokevirtual index, 3)) (hR : d + 1 ≤ R.frames ∧ 8 + (n + 11) + 40 * d ≤ R.locals) (hf : cells + mc ≤ R.cells ∧ slots + ms ≤ R.slots)
    (kk : ∀ (r : Int32) (L1 : List Nat) (F1 : Nat → va_E) (H1 : Heap) (locs1 : List Loc), post r L1 F1 → HW D cl L0 s H1 locs1 L1 F1 → W p l e R s m args below meth c H1 locs1 (cells + mc) (slots + ms) Q (F0 m (pc + 3) ls (.int r :: rest))) : W p l e R s m args below meth c H locs cells slots Q (F0 m pc ls st0) := by
  exact va_calli (va_runU (As := As) (rest := rest) S (hM H.size) (va_cwU (x := y) (C := r0.1) (owner := y.cls) np S.2.2.2.2 (gw_cons (pre := [.methodLink own index y, .sameMethod y.cls y.cls y.name y.desc, .selects r0.1 y y, .instanceMethod y, .initialized y.cls]) hcd (List.forall_mem_cons.mpr ⟨hlink, List.forall_mem_cons.mpr ⟨hsame, List.forall_mem_cons.mpr ⟨hsel, List.forall_mem_cons.mpr ⟨hin, List.forall_mem_cons.mpr ⟨hcd.2.1, fun _ h => absurd h List.not_mem_nil⟩⟩⟩⟩⟩)) rfl rfl rfl rfl ⟨hcd.2.2.1, hcd.2.2.2, hnp⟩ hR) ⟨PrC.blind, pk_recv hK hW hb he hc, fun U hU hWm => ⟨rfl, PrC.of hK hW hST hU hWm⟩⟩ rfl hlen hsize hstk (lv_room hcat) hdg hf) hW.2.2 (fun q _ h => hW.sub q h) hW.sub (fun r u t H1 locs1 ht hvm hp hB hz hk hS1 => kk r u.1 u.2 H1 locs1 hp (hW.after (sz := 0) ht hB hS1))
theorem pk_cPI (S : CallFix p m c cc nL s args Gw own) (hK : va_K D cl tys s) (hST : ST ζ (AL L0 s.heap.size) s s.heap) (hW : HW D cl L0 s H locs L F) {post : Int32 → List Nat → (Nat → va_E) → Prop} {b ci : Nat} {fs : List Value} {r0 : vw_C} (hM : MtI l D cl tys ζ y bytes n rt d mc ms (.ref b :: As) L F post) (hcd : MCode y bytes n rt) (hlink : Cond.methodLink own index y ∈ Gw) (hin : Cond.instanceMethod y ∈ Gw) (hsel : Cond.selects r0.1 y y ∈ NwL) (hsame : Cond.sameMethod y.cls y.cls y.name y.desc ∈ Gw) (hnp : (parseMethodDescriptor y.desc).map (fun d => d.parameters.length) = some np) (hb : b ∈ L) (he : F b = .inr (ci, fs)) (hc : cl[ci]? = some r0) (hlen : As.length = np) (hsize : ls.size = nL) (hstk : st0 = As.reverse ++ .ref b :: rest) (hcat : (rest.map fun v => v.category).sum ≤ 8) (hdg : decode cc pc = .ok (.invokevirtual index, 3)) (hR : d + 1 ≤ R.frames ∧ 8 + (n + 11) + 40 * d ≤ R.locals) (hf : cells + mc ≤ R.cells ∧ slots + ms ≤ R.slots)
    (kk : ∀ (r : Int32) (L1 : List Nat) (F1 : Nat → va_E) (H1 : Heap) (locs1 : List Loc), post r L1 F1 → HW D cl L0 s H1 locs1 L1 F1 → W p l e R s m args below meth c H1 locs1 (cells + mc) (slots + ms) Q (F0 m (pc + 3) ls (.int r :: rest))) : W p l e R s m args below meth c H locs cells slots Q (F0 m pc ls st0) := by
  have hsel1 : (Cond.selects r0.1 y y).before args s = true := va_Nw.use rfl (hST.1.1 _ hsel)
  have hts : ∀ w ∈ Cond.selects r0.1 y y :: Gw, w.before args s = true := List.forall_mem_cons.mpr ⟨hsel1, S.2.2.2.2⟩
  have S1 : CallFix p m c cc nL s args (Cond.selects r0.1 y y :: Gw) own := ⟨S.1, S.2.1, S.2.2.1, S.2.2.2.1, hts⟩
  exact va_calli (va_runU (As := As) (rest := rest) S1 (hM H.size) (va_cwU (Ts := Cond.selects r0.1 y y :: Gw) (x := y) (C := r0.1) (owner := y.cls) np hts (gw_cons2 (pre := [.methodLink own index y, .sameMethod y.cls y.cls y.name y.desc, .selects r0.1 y y, .instanceMethod y, .initialized y.cls]) hcd (List.forall_mem_cons.mpr ⟨List.mem_cons_of_mem _ hlink, List.forall_mem_cons.mpr ⟨List.mem_cons_of_mem _ hsame, List.forall_mem_cons.mpr ⟨List.mem_cons_self, List.forall_mem_cons.mpr ⟨List.mem_cons_of_mem _ hin, List.forall_mem_cons.mpr ⟨List.mem_cons_of_mem _ hcd.2.1, fun _ h => absurd h List.not_mem_nil⟩⟩⟩⟩⟩)) rfl rfl rfl rfl ⟨hcd.2.2.1, hcd.2.2.2, hnp⟩ hR) ⟨PrC.blind, pk_recv hK hW hb he hc, fun U hU hWm => ⟨rfl, PrC.of hK hW hST hU hWm⟩⟩ rfl hlen hsize hstk (lv_room hcat) hdg hf) hW.2.2 (fun q _ h => hW.sub q h) hW.sub (fun r u t H1 locs1 ht hvm hp hB hz hk hS1 => kk r u.1 u.2 H1 locs1 hp (hW.after (sz := 0) ht hB hS1))
theorem pk_cWI (S : CallFix p m c cc nL s args Gw own) (hK : va_K D cl tys s) (hST : ST ζ (AL L0 s.heap.size) s s.heap) (hW : HW D cl L0 s H locs L F) {post : Int32 → List Nat → (Nat → va_E) → Prop} {b ci : Nat} {fs : List Value} {r0 : vw_C} (hM : MtI l D cl tys ζ y bytes n rt d mc ms (.ref b :: As) L F post) (hcd : MCode y bytes n rt) (hlink : Cond.methodLink own index y ∈ Gw) (hin : Cond.instanceMethod y ∈ Gw) (hsame : Cond.sameMethod y.cls y.cls y.name y.desc ∈ Gw) (hsup : Cond.superclass own y.cls ∈ Gw) (hyn : y.name ≠ "<init>") (hnp : (parseMethodDescriptor y.desc).map (fun d => d.parameters.length) = some np) (hb : b ∈ L) (he : F b = .inr (ci, fs)) (hc : cl[ci]? = some r0) (hlen : As.length = np) (hsize : ls.size = nL) (hstk : st0 = As.reverse ++ .ref b :: rest) (hcat : (rest.map fun v => v.category).sum ≤ 8) (hdg : decode cc pc = .ok (.invokespecial index, 3)) (hR : d + 1 ≤ R.frames ∧ 8 + (n + 11) + 40 * d ≤ R.locals) (hf : cells + mc ≤ R.cells ∧ slots + ms ≤ R.slots)
    (kk : ∀ (r : Int32) (L1 : List Nat) (F1 : Nat → va_E) (H1 : Heap) (locs1 : List Loc), post r L1 F1 → HW D cl L0 s H1 locs1 L1 F1 → W p l e R s m args below meth c H1 locs1 (cells + mc) (slots + ms) Q (F0 m (pc + 3) ls (.int r :: rest))) : W p l e R s m args below meth c H locs cells slots Q (F0 m pc ls st0) := by
  exact va_calli (va_runSU (As := As) (rest := rest) (hK.1 _ _ hc).2 S (hM H.size) (va_cwSU np S.2.2.2.2 (gw_cons (pre := [.methodLink own index y, .sameMethod y.cls y.cls y.name y.desc, .superclass own y.cls, .instanceMethod y, .initialized y.cls]) hcd (List.forall_mem_cons.mpr ⟨hlink, List.forall_mem_cons.mpr ⟨hsame, List.forall_mem_cons.mpr ⟨hsup, List.forall_mem_cons.mpr ⟨hin, List.forall_mem_cons.mpr ⟨hcd.2.1, fun _ h => absurd h List.not_mem_nil⟩⟩⟩⟩⟩)) rfl rfl rfl ⟨hyn, hnp⟩ hR) ⟨PrC.blind, pk_recv hK hW hb he hc, fun U hU hWm => ⟨rfl, PrC.of hK hW hST hU hWm⟩⟩ rfl hlen hsize hstk (lv_room hcat) hdg hf) hW.2.2 (fun q _ h => hW.sub q h) hW.sub (fun r u t H1 locs1 ht hvm hp hB hz hk hS1 => kk r u.1 u.2 H1 locs1 hp (hW.after (sz := 0) ht hB hS1))
theorem pk_cUV (S : CallFix p m c cc nL s args Gw own) (hK : va_K D cl tys s) (hST : ST ζ (AL L0 s.heap.size) s s.heap) (hW : HW D cl L0 s H locs L F) {post : List Nat → (Nat → va_E) → Prop} {b ci : Nat} {fs : List Value} {r0 : vw_C} (hM : MtV l D cl tys ζ y bytes n rt d mc ms (.ref b :: As) L F post) (hcd : MCode y bytes n rt) (hlink : Cond.methodLink own index y ∈ Gw) (hin : Cond.instanceMethod y ∈ Gw) (hsel : Cond.selects r0.1 y y ∈ Gw) (hsame : Cond.sameMethod y.cls y.cls y.name y.desc ∈ Gw) (hnp : (parseMethodDescriptor y.desc).map (fun d => d.parameters.length) = some np) (hb : b ∈ L) (he : F b = .inr (ci, fs)) (hc : cl[ci]? = some r0) (hlen : As.length = np) (hsize : ls.size = nL) (hstk : st0 = As.reverse ++ .ref b :: rest) (hcat : (rest.map fun v => v.category).sum ≤ 8) (hdg : decode cc pc = .ok (.invokevirtual index, 3)) (hR : d + 1 ≤ R.frames ∧ 8 + (n + 11) + 40 * d ≤ R.locals) (hf : cells + mc ≤ R.cells ∧ slots + ms ≤ R.slots)
    (kk : ∀  (L1 : List Nat) (F1 : Nat → va_E) (H1 : Heap) (locs1 : List Loc), post L1 F1 → HW D cl L0 s H1 locs1 L1 F1 → W p l e R s m args below meth c H1 locs1 (cells + mc) (slots + ms) Q (F0 m (pc + 3) ls (rest))) : W p l e R s m args below meth c H locs cells slots Q (F0 m pc ls st0) := by
  exact va_callv (va_runU (As := As) (rest := rest) S (hM H.size) (va_cwU (x := y) (C := r0.1) (owner := y.cls) np S.2.2.2.2 (gw_cons (pre := [.methodLink own index y, .sameMethod y.cls y.cls y.name y.desc, .selects r0.1 y y, .instanceMethod y, .initialized y.cls]) hcd (List.forall_mem_cons.mpr ⟨hlink, List.forall_mem_cons.mpr ⟨hsame, List.forall_mem_cons.mpr ⟨hsel, List.forall_mem_cons.mpr ⟨hin, List.forall_mem_cons.mpr ⟨hcd.2.1, fun _ h => absurd h List.not_mem_nil⟩⟩⟩⟩⟩)) rfl rfl rfl rfl ⟨hcd.2.2.1, hcd.2.2.2, hnp⟩ hR) ⟨PrC.blind, pk_recv hK hW hb he hc, fun U hU hWm => ⟨rfl, PrC.of hK hW hST hU hWm⟩⟩ rfl hlen hsize hstk (lv_room hcat) hdg hf) hW.2.2 (fun q _ h => hW.sub q h) hW.sub (fun u t H1 locs1 ht hvm hp hB hz hk hS1 => kk u.1 u.2 H1 locs1 hp (hW.after (sz := 0) ht hB hS1))
theorem pk_cPV (S : CallFix p m c cc nL s args Gw own) (hK : va_K D cl tys s) (hST : ST ζ (AL L0 s.heap.size) s s.heap) (hW : HW D cl L0 s H locs L F) {post : List Nat → (Nat → va_E) → Prop} {b ci : Nat} {fs : List Value} {r0 : vw_C} (hM : MtV l D cl tys ζ y bytes n rt d mc ms (.ref b :: As) L F post) (hcd : MCode y bytes n rt) (hlink : Cond.methodLink own index y ∈ Gw) (hin : Cond.instanceMethod y ∈ Gw) (hsel : Cond.selects r0.1 y y ∈ NwL) (hsame : Cond.sameMethod y.cls y.cls y.name y.desc ∈ Gw) (hnp : (parseMethodDescriptor y.desc).map (fun d => d.parameters.length) = some np) (hb : b ∈ L) (he : F b = .inr (ci, fs)) (hc : cl[ci]? = some r0) (hlen : As.length = np) (hsize : ls.size = nL) (hstk : st0 = As.reverse ++ .ref b :: rest) (hcat : (rest.map fun v => v.category).sum ≤ 8) (hdg : decode cc pc = .ok (.invokevirtual index, 3)) (hR : d + 1 ≤ R.frames ∧ 8 + (n + 11) + 40 * d ≤ R.locals) (hf : cells + mc ≤ R.cells ∧ slots + ms ≤ R.slots)
    (kk : ∀  (L1 : List Nat) (F1 : Nat → va_E) (H1 : Heap) (locs1 : List Loc), post L1 F1 → HW D cl L0 s H1 locs1 L1 F1 → W p l e R s m args below meth c H1 locs1 (cells + mc) (slots + ms) Q (F0 m (pc + 3) ls (rest))) : W p l e R s m args below meth c H locs cells slots Q (F0 m pc ls st0) := by
  have hsel1 : (Cond.selects r0.1 y y).before args s = true := va_Nw.use rfl (hST.1.1 _ hsel)
  have hts : ∀ w ∈ Cond.selects r0.1 y y :: Gw, w.before args s = true := List.forall_mem_cons.mpr ⟨hsel1, S.2.2.2.2⟩
  have S1 : CallFix p m c cc nL s args (Cond.selects r0.1 y y :: Gw) own := ⟨S.1, S.2.1, S.2.2.1, S.2.2.2.1, hts⟩
  exact va_callv (va_runU (As := As) (rest := rest) S1 (hM H.size) (va_cwU (Ts := Cond.selects r0.1 y y :: Gw) (x := y) (C := r0.1) (owner := y.cls) np hts (gw_cons2 (pre := [.methodLink own index y, .sameMethod y.cls y.cls y.name y.desc, .selects r0.1 y y, .instanceMethod y, .initialized y.cls]) hcd (List.forall_mem_cons.mpr ⟨List.mem_cons_of_mem _ hlink, List.forall_mem_cons.mpr ⟨List.mem_cons_of_mem _ hsame, List.forall_mem_cons.mpr ⟨List.mem_cons_self, List.forall_mem_cons.mpr ⟨List.mem_cons_of_mem _ hin, List.forall_mem_cons.mpr ⟨List.mem_cons_of_mem _ hcd.2.1, fun _ h => absurd h List.not_mem_nil⟩⟩⟩⟩⟩)) rfl rfl rfl rfl ⟨hcd.2.2.1, hcd.2.2.2, hnp⟩ hR) ⟨PrC.blind, pk_recv hK hW hb he hc, fun U hU hWm => ⟨rfl, PrC.of hK hW hST hU hWm⟩⟩ rfl hlen hsize hstk (lv_room hcat) hdg hf) hW.2.2 (fun q _ h => hW.sub q h) hW.sub (fun u t H1 locs1 ht hvm hp hB hz hk hS1 => kk u.1 u.2 H1 locs1 hp (hW.after (sz := 0) ht hB hS1))
theorem pk_cUR (S : CallFix p m c cc nL s args Gw own) (hK : va_K D cl tys s) (hST : ST ζ (AL L0 s.heap.size) s s.heap) (hW : HW D cl L0 s H locs L F) {post : Nat → List Nat → (Nat → va_E) → Prop} {b ci : Nat} {fs : List Value} {r0 : vw_C} (hM : MtR l D cl tys ζ y bytes n rt d mc ms (.ref b :: As) L F post) (hcd : MCode y bytes n rt) (hlink : Cond.methodLink own index y ∈ Gw) (hin : Cond.instanceMethod y ∈ Gw) (hsel : Cond.selects r0.1 y y ∈ Gw) (hsame : Cond.sameMethod y.cls y.cls y.name y.desc ∈ Gw) (hnp : (parseMethodDescriptor y.desc).map (fun d => d.parameters.length) = some np) (hb : b ∈ L) (he : F b = .inr (ci, fs)) (hc : cl[ci]? = some r0) (hlen : As.length = np) (hsize : ls.size = nL) (hstk : st0 = As.reverse ++ .ref b :: rest) (hcat : (rest.map fun v => v.category).sum ≤ 8) (hdg : decode cc pc = .ok (.invokevirtual index, 3)) (hR : d + 1 ≤ R.frames ∧ 8 + (n + 11) + 40 * d ≤ R.locals) (hf : cells + mc ≤ R.cells ∧ slots + ms ≤ R.slots)
    (kk : ∀ (r : Nat) (L1 : List Nat) (F1 : Nat → va_E) (H1 : Heap) (locs1 : List Loc), post r L1 F1 → HW D cl L0 s H1 locs1 L1 F1 → W p l e R s m args below meth c H1 locs1 (cells + mc) (slots + ms) Q (F0 m (pc + 3) ls (.ref r :: rest))) : W p l e R s m args below meth c H locs cells slots Q (F0 m pc ls st0) := by
  exact va_callr (va_runU (As := As) (rest := rest) S (hM H.size) (va_cwU (x := y) (C := r0.1) (owner := y.cls) np S.2.2.2.2 (gw_cons (pre := [.methodLink own index y, .sameMethod y.cls y.cls y.name y.desc, .selects r0.1 y y, .instanceMethod y, .initialized y.cls]) hcd (List.forall_mem_cons.mpr ⟨hlink, List.forall_mem_cons.mpr ⟨hsame, List.forall_mem_cons.mpr ⟨hsel, List.forall_mem_cons.mpr ⟨hin, List.forall_mem_cons.mpr ⟨hcd.2.1, fun _ h => absurd h List.not_mem_nil⟩⟩⟩⟩⟩)) rfl rfl rfl rfl ⟨hcd.2.2.1, hcd.2.2.2, hnp⟩ hR) ⟨PrC.blind, pk_recv hK hW hb he hc, fun U hU hWm => ⟨rfl, PrC.of hK hW hST hU hWm⟩⟩ rfl hlen hsize hstk (lv_room hcat) hdg hf) hW.2.2 (fun q _ h => hW.sub q h) hW.sub (fun u r t H1 locs1 ht hvm hp hB hz hk hS1 => kk r u.1 u.2 H1 locs1 hB.1 (hW.after (sz := 0) ht hB.2 hS1))
theorem pk_cPR (S : CallFix p m c cc nL s args Gw own) (hK : va_K D cl tys s) (hST : ST ζ (AL L0 s.heap.size) s s.heap) (hW : HW D cl L0 s H locs L F) {post : Nat → List Nat → (Nat → va_E) → Prop} {b ci : Nat} {fs : List Value} {r0 : vw_C} (hM : MtR l D cl tys ζ y bytes n rt d mc ms (.ref b :: As) L F post) (hcd : MCode y bytes n rt) (hlink : Cond.methodLink own index y ∈ Gw) (hin : Cond.instanceMethod y ∈ Gw) (hsel : Cond.selects r0.1 y y ∈ NwL) (hsame : Cond.sameMethod y.cls y.cls y.name y.desc ∈ Gw) (hnp : (parseMethodDescriptor y.desc).map (fun d => d.parameters.length) = some np) (hb : b ∈ L) (he : F b = .inr (ci, fs)) (hc : cl[ci]? = some r0) (hlen : As.length = np) (hsize : ls.size = nL) (hstk : st0 = As.reverse ++ .ref b :: rest) (hcat : (rest.map fun v => v.category).sum ≤ 8) (hdg : decode cc pc = .ok (.invokevirtual index, 3)) (hR : d + 1 ≤ R.frames ∧ 8 + (n + 11) + 40 * d ≤ R.locals) (hf : cells + mc ≤ R.cells ∧ slots + ms ≤ R.slots)
    (kk : ∀ (r : Nat) (L1 : List Nat) (F1 : Nat → va_E) (H1 : Heap) (locs1 : List Loc), post r L1 F1 → HW D cl L0 s H1 locs1 L1 F1 → W p l e R s m args below meth c H1 locs1 (cells + mc) (slots + ms) Q (F0 m (pc + 3) ls (.ref r :: rest))) : W p l e R s m args below meth c H locs cells slots Q (F0 m pc ls st0) := by
  have hsel1 : (Cond.selects r0.1 y y).before args s = true := va_Nw.use rfl (hST.1.1 _ hsel)
  have hts : ∀ w ∈ Cond.selects r0.1 y y :: Gw, w.before args s = true := List.forall_mem_cons.mpr ⟨hsel1, S.2.2.2.2⟩
  have S1 : CallFix p m c cc nL s args (Cond.selects r0.1 y y :: Gw) own := ⟨S.1, S.2.1, S.2.2.1, S.2.2.2.1, hts⟩
  exact va_callr (va_runU (As := As) (rest := rest) S1 (hM H.size) (va_cwU (Ts := Cond.selects r0.1 y y :: Gw) (x := y) (C := r0.1) (owner := y.cls) np hts (gw_cons2 (pre := [.methodLink own index y, .sameMethod y.cls y.cls y.name y.desc, .selects r0.1 y y, .instanceMethod y, .initialized y.cls]) hcd (List.forall_mem_cons.mpr ⟨List.mem_cons_of_mem _ hlink, List.forall_mem_cons.mpr ⟨List.mem_cons_of_mem _ hsame, List.forall_mem_cons.mpr ⟨List.mem_cons_self, List.forall_mem_cons.mpr ⟨List.mem_cons_of_mem _ hin, List.forall_mem_cons.mpr ⟨List.mem_cons_of_mem _ hcd.2.1, fun _ h => absurd h List.not_mem_nil⟩⟩⟩⟩⟩)) rfl rfl rfl rfl ⟨hcd.2.2.1, hcd.2.2.2, hnp⟩ hR) ⟨PrC.blind, pk_recv hK hW hb he hc, fun U hU hWm => ⟨rfl, PrC.of hK hW hST hU hWm⟩⟩ rfl hlen hsize hstk (lv_room hcat) hdg hf) hW.2.2 (fun q _ h => hW.sub q h) hW.sub (fun u r t H1 locs1 ht hvm hp hB hz hk hS1 => kk r u.1 u.2 H1 locs1 hB.1 (hW.after (sz := 0) ht hB.2 hS1))
theorem pk_cWR (S : CallFix p m c cc nL s args Gw own) (hK : va_K D cl tys s) (hST : ST ζ (AL L0 s.heap.size) s s.heap) (hW : HW D cl L0 s H locs L F) {post : Nat → List Nat → (Nat → va_E) → Prop} {b ci : Nat} {fs : List Value} {r0 : vw_C} (hM : MtR l D cl tys ζ y bytes n rt d mc ms (.ref b :: As) L F post) (hcd : MCode y bytes n rt) (hlink : Cond.methodLink own index y ∈ Gw) (hin : Cond.instanceMethod y ∈ Gw) (hsame : Cond.sameMethod y.cls y.cls y.name y.desc ∈ Gw) (hsup : Cond.superclass own y.cls ∈ Gw) (hyn : y.name ≠ "<init>") (hnp : (parseMethodDescriptor y.desc).map (fun d => d.parameters.length) = some np) (hb : b ∈ L) (he : F b = .inr (ci, fs)) (hc : cl[ci]? = some r0) (hlen : As.length = np) (hsize : ls.size = nL) (hstk : st0 = As.reverse ++ .ref b :: rest) (hcat : (rest.map fun v => v.category).sum ≤ 8) (hdg : decode cc pc = .ok (.invokespecial index, 3)) (hR : d + 1 ≤ R.frames ∧ 8 + (n + 11) + 40 * d ≤ R.locals) (hf : cells + mc ≤ R.cells ∧ slots + ms ≤ R.slots)
    (kk : ∀ (r : Nat) (L1 : List Nat) (F1 : Nat → va_E) (H1 : Heap) (locs1 : List Loc), post r L1 F1 → HW D cl L0 s H1 locs1 L1 F1 → W p l e R s m args below meth c H1 locs1 (cells + mc) (slots + ms) Q (F0 m (pc + 3) ls (.ref r :: rest))) : W p l e R s m args below meth c H locs cells slots Q (F0 m pc ls st0) := by
  exact va_callr (va_runSU (As := As) (rest := rest) (hK.1 _ _ hc).2 S (hM H.size) (va_cwSU np S.2.2.2.2 (gw_cons (pre := [.methodLink own index y, .sameMethod y.cls y.cls y.name y.desc, .superclass own y.cls, .instanceMethod y, .initialized y.cls]) hcd (List.forall_mem_cons.mpr ⟨hlink, List.forall_mem_cons.mpr ⟨hsame, List.forall_mem_cons.mpr ⟨hsup, List.forall_mem_cons.mpr ⟨hin, List.forall_mem_cons.mpr ⟨hcd.2.1, fun _ h => absurd h List.not_mem_nil⟩⟩⟩⟩⟩)) rfl rfl rfl ⟨hyn, hnp⟩ hR) ⟨PrC.blind, pk_recv hK hW hb he hc, fun U hU hWm => ⟨rfl, PrC.of hK hW hST hU hWm⟩⟩ rfl hlen hsize hstk (lv_room hcat) hdg hf) hW.2.2 (fun q _ h => hW.sub q h) hW.sub (fun u r t H1 locs1 ht hvm hp hB hz hk hS1 => kk r u.1 u.2 H1 locs1 hB.1 (hW.after (sz := 0) ht hB.2 hS1))
end CKu
section MKb
variable {p : Program} {l : Launch} {e : Env} {R : Room} {s : State} {m : MethodId} {args : Array Value} {below : List Frame} {meth : Method} {c : Code} {cc : ByteArray} {nL : Nat} {own : String} {H : Heap} {locs : List Loc} {cells slots : Nat} {Q : State → Prop} {D : va_G} {cl : List vw_C} {tys : List (ClassId × FieldType)} {pc : Nat} {ls : Array Slot} {rest : List Value} {L0 L : List Nat} {F : Nat → va_E} {ζ : Nat → Nat}
theorem pk_bast (S : CallFix p m c cc nL s args Gw own) (hK : va_K D cl tys s) (hW : HW D cl L0 s H locs L F) {a n : Nat} {cA : ClassId} {f : Nat → Int32} (t0 : Nat) (ha : a ∈ L) (he : F a = .inl (cA, n, .inl f)) (ht : tys[t0]? = some (cA, .byte)) {i x : Int32} (hin : vp_in i n) (hdg : decode cc pc = .ok (.bastore, 1))
    (kk : ∀ (g : Nat → Int32) (H1 : Heap) (locs1 : List Loc), (∀ j, fits .byte (.int (g j)) = true) → HW D cl L0 s H1 locs1 L (va_up F a (.inl (cA, n, .inl g))) → W p l e R s m args below meth c H1 locs1 cells slots Q (F0 m (pc + 1) ls rest)) (hfit : ∀ j, fits .byte (.int (f j)) = true) : W p l e R s m args below meth c H locs cells slots Q (F0 m pc ls (.int x :: .int i :: .ref a :: rest)) := by
  obtain ⟨k0, hk0⟩ := pl_get (F := F) ha rfl
  refine va_bast S.1 S.2.1 hK hW.1 hW.2.1 hW.2.2 k0 t0 (by rw [← he]; exact hk0) ht hin hdg
    (fun H1 locs1 h1 h2 h3 => kk _ H1 locs1 ?_ (hW.set (e0 := F a) ha _ hk0 h1 h2 h3))
  intro j
  by_cases hj : j = i.toNatClampNeg
  · rw [hj, pk_us, vp_nar_byte]; exact pk_fb x
  · rw [pk_un hj]; exact hfit j
end MKb
section CQb
variable {p : Program} {l : Launch} {e : Env} {R : Room} {s : State} {m : MethodId} {args : Array Value} {below : List Frame} {meth : Method} {c : Code} {cc : ByteArray} {nL : Nat} {own : String} {H : Heap} {locs : List Loc} {cells slots : Nat} {Q : State → Prop} {D : va_G} {tys : List (ClassId × FieldType)} {pc : Nat} {ls : Array Slot} {rest : List Value} {L0 L : List Nat} {F : Nat → va_E} {ζ : Nat → Nat}
theorem pk_copyb (S : CallFix p m c cc nL s args Gw own) (hK : va_K D cls tys s) (hW : HW D cls L0 s H locs L F) {index : Nat} (hlink : Cond.methodLink own index arraycopyName ∈ Gw) (hnat : Cond.native arraycopyName ∈ Gw) (hsta : Cond.static arraycopyName ∈ Gw) (hini : Cond.initialized "java/lang/System" ∈ Gw) (hsz : ls.size = nL)
    {a0 a1 n0 n1 : Nat} {c0 : ClassId} {f g : Nat → Int32} (t0 : Nat) (ht : tys[t0]? = some (c0, .byte)) (m0 : a0 ∈ L) (e0 : F a0 = .inl (c0, n0, .inl f)) (m1 : a1 ∈ L) (e1 : F a1 = .inl (c0, n1, .inl g)) {sp dp n : Int32} (i j k : Nat) (hsp : sp = nI i) (hdp : dp = nI j) (hn : n = nI k) (h4 : i + k ≤ n0) (h5 : j + k ≤ n1) (hb0 : n0 < 2147483648) (hb1 : n1 < 2147483648) (hf : ∀ q, fits .byte (.int (f q)) = true) (hg : ∀ q, fits .byte (.int (g q)) = true)
    (hfr : 1 ≤ R.frames) (hlo : (rest.map fun v => v.category).sum + (nativeFrameWords "java/lang/System" "arraycopy" 5 + 11) ≤ R.locals) (hdg : decode cc pc = .ok (.invokestatic index, 3))
    (kk : ∀ (g' : Nat → Int32) (H1 : Heap) (locs1 : List Loc), (∀ q, fits .byte (.int (g' q)) = true) → HW D cls L0 s H1 locs1 L (va_up F a1 (.inl (c0, n1, .inl g'))) → W p l e R s m args below meth c H1 locs1 cells slots Q (F0 m (pc + 3) ls rest)) : W p l e R s m args below meth c H locs cells slots Q (F0 m pc ls (.int n :: .int dp :: .ref a1 :: .int sp :: .ref a0 :: rest)) := by
  obtain ⟨k0, hk0⟩ := pl_get m0 e0
  obtain ⟨k1, hk1⟩ := pl_get (F := F) m1 rfl
  have ci : (nI i).toNatClampNeg = i := nI_clamp (by omega)
  have cj : (nI j).toNatClampNeg = j := nI_clamp (by omega)
  have ck : (nI k).toNatClampNeg = k := nI_clamp (by omega)
  subst hsp hdp hn
  have hfit : ∀ x : Nat, x < (nI k).toNatClampNeg → fits .byte (.int (f ((nI i).toNatClampNeg + x))) = true := fun x _ => hf _
  have hgg : ∀ q, fits .byte (.int (va_cpy f g i j k q)) = true := by
    intro q
    rcases Decidable.em (j ≤ q ∧ q < j + k) with h | h
    · have e : va_cpy f g i j k q = f (i + (q - j)) := if_pos h
      rw [e]; exact hf _
    · have e : va_cpy f g i j k q = g q := if_neg h
      rw [e]; exact hg _
  refine va_copyi (ty := .byte) (f := f) (g := g) S.1 S.2.1 (S.2.2.1.trans hsz.symm) S.2.2.2.1 (S.2.2.2.2 _ hlink) (S.2.2.2.2 _ hnat) (S.2.2.2.2 _ hsta) (S.2.2.2.2 _ hini) hK hW.1 hW.2.1 hW.2.2 k0 k1 t0 t0 hk0 (hk1.trans (congrArg (fun ee => some (a1, ee)) e1)) ht ht rfl (nI_pos (by omega)) (nI_pos (by omega)) (nI_pos (by omega)) (by rw [ci, ck]; exact h4) (by rw [cj, ck]; exact h5) hfit hfr hlo hdg ?_
  intro H1 locs1 h1 h2 h3
  rw [ci, cj, ck] at h1 h2
  exact kk (va_cpy f g i j k) H1 locs1 hgg (hW.set (e0 := F a1) m1 _ hk1 h1 h2 h3)
end CQb
/-- a StringBuilder of cnt Latin letters, its bytes at v -/
def SB (κ : Nat → ClassId) (b v cap cnt : Nat) (L : List Nat) (F : Nat → va_E) : Prop := b ∈ L ∧ v ∈ L ∧ b ≠ v ∧ cnt ≤ cap ∧ (∃ ml : Int32, F b = .inr (1, [.ref v, .int 0, .int ml, .int (nI cnt)])) ∧ ∃ g : Nat → Int32, (∀ j, fits .byte (.int (g j)) = true) ∧ F v = .inl (κ 1, cap, .inl g)
/-- a String of cnt Latin letters -/
def SS (κ : Nat → ClassId) (b v cnt : Nat) (L : List Nat) (F : Nat → va_E) : Prop := b ∈ L ∧ v ∈ L ∧ b ≠ v ∧ (∃ h z : Int32, F b = .inr (0, [.ref v, .int 0, .int h, .int z])) ∧ ∃ g : Nat → Int32, (∀ j, fits .byte (.int (g j)) = true) ∧ F v = .inl (κ 1, cnt, .inl g)
end
