/-! ArrayList, Integer: contracts over the pool -/
theorem met_mono {l : Launch} {y : MethodName} {ws : List Cond} {rm : Room} {Pc : Array Value → State → Prop} {Qc Qc' : Array Value → State → Outcome → State → Prop} {mc ms : Nat} {free : Addr → Prop} (h : Met l y ws rm Pc Qc mc ms free) (hq : ∀ a st o t, Qc a st o t → Qc' a st o t) : Met l y ws rm Pc Qc' mc ms free := by
  intro p e a b c s m args below hf ha hP hK
  obtain ⟨n, o, h1, h2, h3, h4, h5⟩ := h p e a b c s m args below hf ha hP hK
  exact ⟨n, o, h1, h2, h3, hq _ _ _ _ h4, h5⟩
theorem MtI.imp {l : Launch} {D : va_G} {cl : List vw_C} {tys : List (ClassId × FieldType)} {ζ : Nat → Nat} {y : MethodName} {bytes : ByteArray} {n d mc ms : Nat} {rt : Option FieldType} {av : List Value} {L : List Nat} {F : Nat → va_E} {post post' : Int32 → List Nat → (Nat → va_E) → Prop} (h : MtI l D cl tys ζ y bytes n rt d mc ms av L F post) (hp : ∀ r L' F', post r L' F' → post' r L' F') : MtI l D cl tys ζ y bytes n rt d mc ms av L F post' :=
  fun sz => met_mono (h sz) (fun a st o t hq => by obtain ⟨⟨r, u, h1, h2, h3⟩, h4⟩ := hq; exact ⟨⟨r, u, h1, hp _ _ _ h2, h3⟩, h4⟩)
theorem MtV.imp {l : Launch} {D : va_G} {cl : List vw_C} {tys : List (ClassId × FieldType)} {ζ : Nat → Nat} {y : MethodName} {bytes : ByteArray} {n d mc ms : Nat} {rt : Option FieldType} {av : List Value} {L : List Nat} {F : Nat → va_E} {post post' : List Nat → (Nat → va_E) → Prop} (h : MtV l D cl tys ζ y bytes n rt d mc ms av L F post) (hp : ∀ L' F', post L' F' → post' L' F') : MtV l D cl tys ζ y bytes n rt d mc ms av L F post' :=
  fun sz => met_mono (h sz) (fun a st o t hq => by obtain ⟨⟨u, h1, h2, h3⟩, h4⟩ := hq; exact ⟨⟨u, h1, hp _ _ h2, h3⟩, h4⟩)
theorem MtR.imp {l : Launch} {D : va_G} {cl : List vw_C} {tys : List (ClassId × FieldType)} {ζ : Nat → Nat} {y : MethodName} {bytes : ByteArray} {n d mc ms : Nat} {rt : Option FieldType} {av : List Value} {L : List Nat} {F : Nat → va_E} {post post' : Nat → List Nat → (Nat → va_E) → Prop} (h : MtR l D cl tys ζ y bytes n rt d mc ms av L F post) (hp : ∀ r L' F', post r L' F' → post' r L' F') : MtR l D cl tys ζ y bytes n rt d mc ms av L F post' :=
  fun sz => met_mono (h sz) (fun a st o t hq => by obtain ⟨⟨u, r, h1, h2, h3, h5⟩, h4⟩ := hq; exact ⟨⟨u, r, h1, h2, hp _ _ _ h3, h5⟩, h4⟩)
def RA (κ : Nat → ClassId) (h ar n : Nat) (f : Nat → Option Nat) (md sz : Int32) (L : List Nat) (F : Nat → va_E) : Prop := h ∈ L ∧ F h = .inr (4, [.int md, .ref ar, .int sz]) ∧ ar ∈ L ∧ h ≠ ar ∧ F ar = rfA (κ 3) n f
def RE (ζ : Nat → Nat) (h : Nat) (md sz : Int32) (L : List Nat) (F : Nat → va_E) : Prop := h ∈ L ∧ F h = .inr (4, [.int md, .ref (ζ 256), .int sz])
theorem bx_cell {D : va_G} {tys : List (ClassId × FieldType)} {s : State} {H : Heap} {locs : List Loc} {L0 L : List Nat} {F : Nat → va_E} {ζ : Nat → Nat} (hK : va_K D cls tys s) (hW : HW D cls L0 s H locs L F) (hST : ST ζ (AL L0 s.heap.size) s s.heap) {y : Nat} {v : Int32} (hb : bx ζ L F y v) : ∃ cellV : Cell, H[y]? = some cellV ∧ cellV.vm.isStatics = false ∧ s.vm.findClass "java/lang/Integer" = some cellV.cls := by
  rcases hb with ⟨h1, h2⟩ | ⟨k, hk, rfl, -⟩
  · exact pk_recv (r := (RJ6, TJ6, 1)) hK hW h1 h2 rfl
  · obtain ⟨cell, h1, h2, h3, h4⟩ := hST.2.cache.1 k hk
    have hlt : ζ k < s.heap.size := (Array.getElem?_eq_some_iff.mp h1).1
    exact ⟨cell, (hW.2.2.2.1 _ hlt h4).trans h1, h2, h3⟩

theorem mc_J3_checkIndex_8e157 : MCode yJ3_checkIndex_8e157 cJ3_checkIndex_8e157 3 (some .int) := ⟨wd_906, wd_22, by decide, by decide⟩
theorem np_J3_checkIndex_8e157 : (parseMethodDescriptor yJ3_checkIndex_8e157.desc).map (fun d => d.parameters.length) = some 3 := by decide +kernel
set_option maxHeartbeats 4000000 in
set_option maxRecDepth 100000 in
theorem c_J3_checkIndex_8e157 {l : Launch} {D : va_G} {κ : Nat → ClassId} {ζ : Nat → Nat} {L : List Nat} {F : Nat → va_E} {i len : Int32} (h0 : ¬ i < 0) (h1 : i < len) : MtI l D cls (ty5 κ) ζ yJ3_checkIndex_8e157 cJ3_checkIndex_8e157 3 (some .int) 1 0 0 ([.int i, .int len, .null] : List Value) L F (fun r L' F' => L = L' ∧ F = F' ∧ i = r) := by
  refine MtI.of (by decide) (Nat.le_of_ble_eq_true rfl) ?_
  intro p e s m below meth c S hr hlk hini hK hW hST ls hl
  have hl : lv_has ls 3 [(0, .int i), (1, .int len), (2, .null)] := hl
  refine lv_iload_n S.1 S.2.1 dJ3_checkIndex_8e157_0 rfl (lv_at hl 0 rfl) ?_
  refine lv_if_lt (tgt := 9) S.1 S.2.1 dJ3_checkIndex_8e157_1 (by decide) (fun c1 => absurd c1 h0) (fun _ => ?_)
  refine lv_iload_n S.1 S.2.1 dJ3_checkIndex_8e157_4 rfl (lv_at hl 0 rfl) ?_
  refine lv_iload_n S.1 S.2.1 dJ3_checkIndex_8e157_5 rfl (lv_at hl 1 rfl) ?_
  refine lv_icmp_lt (tgt := 16) S.1 S.2.1 dJ3_checkIndex_8e157_6 (by decide) (fun _ => ?_) (fun c1 => absurd h1 c1)
  refine lv_iload_n S.1 S.2.1 dJ3_checkIndex_8e157_16 rfl (lv_at hl 0 rfl) ?_
  exact pk_iret S hr hlk hW ⟨rfl, rfl, rfl⟩ (by decide) (by decide) dJ3_checkIndex_8e157_17
theorem mc_J15_checkIndex_7cf53 : MCode yJ15_checkIndex_7cf53 cJ15_checkIndex_7cf53 2 (some .int) := ⟨wd_1209, wd_21, by decide, by decide⟩
theorem np_J15_checkIndex_7cf53 : (parseMethodDescriptor yJ15_checkIndex_7cf53.desc).map (fun d => d.parameters.length) = some 2 := by decide +kernel
set_option maxHeartbeats 4000000 in
set_option maxRecDepth 100000 in
theorem c_J15_checkIndex_7cf53 {l : Launch} {D : va_G} {κ : Nat → ClassId} {ζ : Nat → Nat} {L : List Nat} {F : Nat → va_E} {i len : Int32} (h0 : ¬ i < 0) (h1 : i < len) : MtI l D cls (ty5 κ) ζ yJ15_checkIndex_7cf53 cJ15_checkIndex_7cf53 2 (some .int) 2 0 0 ([.int i, .int len] : List Value) L F (fun r L' F' => L = L' ∧ F = F' ∧ i = r) := by
  refine MtI.of (by decide) (Nat.le_of_ble_eq_true rfl) ?_
  intro p e s m below meth c S hr hlk hini hK hW hST ls hl
  have hl : lv_has ls 2 [(0, .int i), (1, .int len)] := hl
  refine lv_iload_n S.1 S.2.1 dJ15_checkIndex_7cf53_0 rfl (lv_at hl 0 rfl) ?_
  refine lv_iload_n S.1 S.2.1 dJ15_checkIndex_7cf53_1 rfl (lv_at hl 1 rfl) ?_
  refine lv_null S.1 S.2.1 dJ15_checkIndex_7cf53_2 ?_
  refine pk_cSI (As := [.int i, .int len, .null]) (rest := []) S hK hST hW (c_J3_checkIndex_8e157 h0 h1) mc_J3_checkIndex_8e157 wd_1210 wd_905 np_J3_checkIndex_8e157 rfl hl.1 rfl (Nat.le_of_ble_eq_true rfl) dJ15_checkIndex_7cf53_3 ⟨by decide, by decide⟩ ⟨by decide, by decide⟩ (fun r L_1 F_2 H_3 l_4 hp hW => ?_)
  obtain ⟨rfl, rfl, rfl⟩ := hp
  exact pk_iret S hr hlk hW ⟨rfl, rfl, rfl⟩ (by decide) (by decide) dJ15_checkIndex_7cf53_6
theorem mc_Jx4a65c_size_8abf5 : MCode yJx4a65c_size_8abf5 cJx4a65c_size_8abf5 1 (some .int) := ⟨wd_1218, wd_8, by decide, by decide⟩
theorem np_Jx4a65c_size_8abf5 : (parseMethodDescriptor yJx4a65c_size_8abf5.desc).map (fun d => d.parameters.length) = some 0 := by decide +kernel
set_option maxHeartbeats 4000000 in
set_option maxRecDepth 100000 in
theorem c_Jx4a65c_size_8abf5 {l : Launch} {D : va_G} {κ : Nat → ClassId} {ζ : Nat → Nat} {L : List Nat} {F : Nat → va_E} {h : Nat} {md sz : Int32} {rr : Nat} (m_h : h ∈ L) (e_h : F h = .inr (4, [.int md, .ref rr, .int sz])) : MtI l D cls (ty5 κ) ζ yJx4a65c_size_8abf5 cJx4a65c_size_8abf5 1 (some .int) 1 0 0 ([.ref h] : List Value) L F (fun r L' F' => L = L' ∧ F = F' ∧ sz = r) := by
  refine MtI.of (by decide) (Nat.le_of_ble_eq_true rfl) ?_
  intro p e s m below meth c S hr hlk hini hK hW hST ls hl
  have hl : lv_has ls 1 [(0, .ref h)] := hl
  refine lv_aload_n S.1 S.2.1 dJx4a65c_size_8abf5_0 rfl (lv_at hl 0 rfl) ?_
  refine pk_get S hK hW 2 m_h e_h rfl hinJx4a65c (by decide) wd_1085 rfl dJx4a65c_size_8abf5_1 ?_
  exact pk_iret S hr hlk hW ⟨rfl, rfl, rfl⟩ (by decide) (by decide) dJx4a65c_size_8abf5_4
theorem mc_Jx4a65c_isEmpty_aae02 : MCode yJx4a65c_isEmpty_aae02 cJx4a65c_isEmpty_aae02 1 (some .boolean) := ⟨wd_1357, wd_8, by decide, by decide⟩
theorem np_Jx4a65c_isEmpty_aae02 : (parseMethodDescriptor yJx4a65c_isEmpty_aae02.desc).map (fun d => d.parameters.length) = some 0 := by decide +kernel
set_option maxHeartbeats 4000000 in
set_option maxRecDepth 100000 in
theorem c_Jx4a65c_isEmpty_aae02 {l : Launch} {D : va_G} {κ : Nat → ClassId} {ζ : Nat → Nat} {L : List Nat} {F : Nat → va_E} {h : Nat} {md sz : Int32} {rr : Nat} (m_h : h ∈ L) (e_h : F h = .inr (4, [.int md, .ref rr, .int sz])) : MtI l D cls (ty5 κ) ζ yJx4a65c_isEmpty_aae02 cJx4a65c_isEmpty_aae02 1 (some .boolean) 1 0 0 ([.ref h] : List Value) L F (fun r L' F' => L = L' ∧ F = F' ∧ (if sz = 0 then (1 : Int32) else 0) = r) := by
  refine MtI.of (by decide) (Nat.le_of_ble_eq_true rfl) ?_
  intro p e s m below meth c S hr hlk hini hK hW hST ls hl
  have hl : lv_has ls 1 [(0, .ref h)] := hl
  refine lv_aload_n S.1 S.2.1 dJx4a65c_isEmpty_aae02_0 rfl (lv_at hl 0 rfl) ?_
  refine pk_get S hK hW 2 m_h e_h rfl hinJx4a65c (by decide) wd_1085 rfl dJx4a65c_isEmpty_aae02_1 ?_
  refine lv_if_ne (tgt := 11) S.1 S.2.1 dJx4a65c_isEmpty_aae02_4 (by decide) (fun c1 => ?_) (fun c1 => ?_)
  · refine lv_iconst (v := 0) S.1 S.2.1 dJx4a65c_isEmpty_aae02_11 (by decide) ?_
    exact pk_zret S hr hlk hW (by decide) ⟨rfl, rfl, by rw [if_neg c1]⟩ (by decide) (by decide) dJx4a65c_isEmpty_aae02_12
  · refine lv_iconst (v := 1) S.1 S.2.1 dJx4a65c_isEmpty_aae02_7 (by decide) ?_
    refine lv_goto (tgt := 12) S.1 S.2.1 dJx4a65c_isEmpty_aae02_8 (by decide) ?_
    exact pk_zret S hr hlk hW (by decide) ⟨rfl, rfl, by rw [if_pos c1]⟩ (by decide) (by decide) dJx4a65c_isEmpty_aae02_12
theorem mc_Jx4a65c_elementData_915e3 : MCode yJx4a65c_elementData_915e3 cJx4a65c_elementData_915e3 2 (some (.object "java/lang/Object")) := ⟨wd_1214, wd_8, by decide, by decide⟩
theorem np_Jx4a65c_elementData_915e3 : (parseMethodDescriptor yJx4a65c_elementData_915e3.desc).map (fun d => d.parameters.length) = some 1 := by decide +kernel
set_option maxHeartbeats 4000000 in
set_option maxRecDepth 100000 in
theorem c_Jx4a65c_elementData_915e3 {l : Launch} {D : va_G} {κ : Nat → ClassId} {ζ : Nat → Nat} {L : List Nat} {F : Nat → va_E} {h ar n : Nat} {f : Nat → Option Nat} {md sz : Int32} (hR : RA κ h ar n f md sz L F) {i : Int32} {y : Nat} (hin : vp_in i n) (hv : f i.toNatClampNeg = some y) : MtR l D cls (ty5 κ) ζ yJx4a65c_elementData_915e3 cJx4a65c_elementData_915e3 2 (some (.object "java/lang/Object")) 1 0 0 ([.ref h, .int i] : List Value) L F (fun r L' F' => L = L' ∧ F = F' ∧ y = r) := by
  refine MtR.of (by decide) (Nat.le_of_ble_eq_true rfl) ?_
  intro p e s m below meth c S hr hlk hini hK hW hST ls hl
  have hl : lv_has ls 2 [(0, .ref h), (1, .int i)] := hl
  obtain ⟨m_h, e_h, m_ar, n_h_ar, e_ar⟩ := hR
  refine lv_aload_n S.1 S.2.1 dJx4a65c_elementData_915e3_0 rfl (lv_at hl 0 rfl) ?_
  refine pk_get S hK hW 1 m_h e_h rfl hinJx4a65c (by decide) wd_1083 rfl dJx4a65c_elementData_915e3_1 ?_
  refine lv_iload_n S.1 S.2.1 dJx4a65c_elementData_915e3_4 rfl (lv_at hl 1 rfl) ?_
  refine pk_aald S hK hW 3 m_ar e_ar rfl hin hv dJx4a65c_elementData_915e3_5 ?_
  exact pk_rret S hr (Or.inl ⟨_, rfl⟩) hlk hW ⟨rfl, rfl, rfl⟩ (by decide) (by decide) dJx4a65c_elementData_915e3_6
theorem mc_Jx4a65c_get_915e3 : MCode yJx4a65c_get_915e3 cJx4a65c_get_915e3 2 (some (.object "java/lang/Object")) := ⟨wd_1206, wd_8, by decide, by decide⟩
theorem np_Jx4a65c_get_915e3 : (parseMethodDescriptor yJx4a65c_get_915e3.desc).map (fun d => d.parameters.length) = some 1 := by decide +kernel
set_option maxHeartbeats 4000000 in
set_option maxRecDepth 100000 in
theorem c_Jx4a65c_get_915e3 {l : Launch} {D : va_G} {κ : Nat → ClassId} {ζ : Nat → Nat} {L : List Nat} {F : Nat → va_E} {h ar n : Nat} {f : Nat → Option Nat} {md sz : Int32} (hR : RA κ h ar n f md sz L F) {i : Int32} {y : Nat} (h0 : ¬ i < 0) (h1 : i < sz) (hin : vp_in i n) (hv : f i.toNatClampNeg = some y) : MtR l D cls (ty5 κ) ζ yJx4a65c_get_915e3 cJx4a65c_get_915e3 2 (some (.object "java/lang/Object")) 3 0 0 ([.ref h, .int i] : List Value) L F (fun r L' F' => L = L' ∧ F = F' ∧ y = r) := by
  refine MtR.of (by decide) (Nat.le_of_ble_eq_true rfl) ?_
  intro p e s m below meth c S hr hlk hini hK hW hST ls hl
  have hl : lv_has ls 2 [(0, .ref h), (1, .int i)] := hl
  obtain ⟨m_h, e_h, m_ar, n_h_ar, e_ar⟩ := hR
  refine lv_iload_n S.1 S.2.1 dJx4a65c_get_915e3_0 rfl (lv_at hl 1 rfl) ?_
  refine lv_aload_n S.1 S.2.1 dJx4a65c_get_915e3_1 rfl (lv_at hl 0 rfl) ?_
  refine pk_get S hK hW 2 m_h e_h rfl hinJx4a65c (by decide) wd_1085 rfl dJx4a65c_get_915e3_2 ?_
  refine pk_cSI (As := [.int i, .int sz]) (rest := []) S hK hST hW (c_J15_checkIndex_7cf53 h0 h1) mc_J15_checkIndex_7cf53 wd_1207 wd_1208 np_J15_checkIndex_7cf53 rfl hl.1 rfl (Nat.le_of_ble_eq_true rfl) dJx4a65c_get_915e3_5 ⟨by decide, by decide⟩ ⟨by decide, by decide⟩ (fun r L_1 F_2 H_3 l_4 hp hW => ?_)
  obtain ⟨rfl, rfl, rfl⟩ := hp
  refine lv_pop S.1 S.2.1 dJx4a65c_get_915e3_8 rfl ?_
  refine lv_aload_n S.1 S.2.1 dJx4a65c_get_915e3_9 rfl (lv_at hl 0 rfl) ?_
  refine lv_iload_n S.1 S.2.1 dJx4a65c_get_915e3_10 rfl (lv_at hl 1 rfl) ?_
  refine pk_cVR (As := [.int i]) (rest := []) S hK hST hW (c_Jx4a65c_elementData_915e3 ⟨m_h, e_h, m_ar, n_h_ar, e_ar⟩ hin hv) mc_Jx4a65c_elementData_915e3 wd_1211 wd_1212 wd_1213 rfl np_Jx4a65c_elementData_915e3 m_h e_h rfl rfl hl.1 rfl (Nat.le_of_ble_eq_true rfl) dJx4a65c_get_915e3_11 ⟨by decide, by decide⟩ ⟨by decide, by decide⟩ (fun r L_5 F_6 H_7 l_8 hp hW => ?_)
  obtain ⟨rfl, rfl, rfl⟩ := hp
  exact pk_rret S hr (Or.inl ⟨_, rfl⟩) hlk hW ⟨rfl, rfl, rfl⟩ (by decide) (by decide) dJx4a65c_get_915e3_14
theorem mc_Jx4a65c_set_bcc79 : MCode yJx4a65c_set_bcc79 cJx4a65c_set_bcc79 4 (some (.object "java/lang/Object")) := ⟨wd_1448, wd_8, by decide, by decide⟩
theorem np_Jx4a65c_set_bcc79 : (parseMethodDescriptor yJx4a65c_set_bcc79.desc).map (fun d => d.parameters.length) = some 2 := by decide +kernel
set_option maxHeartbeats 4000000 in
set_option maxRecDepth 100000 in
theorem c_Jx4a65c_set_bcc79 {l : Launch} {D : va_G} {κ : Nat → ClassId} {ζ : Nat → Nat} {L : List Nat} {F : Nat → va_E} {h ar n : Nat} {f : Nat → Option Nat} {md sz : Int32} (hR : RA κ h ar n f md sz L F) {i : Int32} {y : Nat} (h0 : ¬ i < 0) (h1 : i < sz) (hin : vp_in i n) (hv : f i.toNatClampNeg = some y) {y2 : Nat} {v2 : Int32} (hb2 : bx ζ L F y2 v2) : MtR l D cls (ty5 κ) ζ yJx4a65c_set_bcc79 cJx4a65c_set_bcc79 4 (some (.object "java/lang/Object")) 3 0 0 ([.ref h, .int i, .ref y2] : List Value) L F (fun r L' F' => L = L' ∧ y = r ∧ RA κ h ar n (va_up f i.toNatClampNeg (some y2)) md sz L F' ∧ FrR h ar F F') := by
  refine MtR.of (by decide) (Nat.le_of_ble_eq_true rfl) ?_
  intro p e s m below meth c S hr hlk hini hK hW hST ls hl
  have hl : lv_has ls 4 [(0, .ref h), (1, .int i), (2, .ref y2)] := hl
  obtain ⟨m_h, e_h, m_ar, n_h_ar, e_ar⟩ := hR
  have hfr : ∀ q, q ≠ h → q ≠ ar → F q = F q := fun _ _ _ => rfl
  refine lv_iload_n S.1 S.2.1 dJx4a65c_set_bcc79_0 rfl (lv_at hl 1 rfl) ?_
  refine lv_aload_n S.1 S.2.1 dJx4a65c_set_bcc79_1 rfl (lv_at hl 0 rfl) ?_
  refine pk_get S hK hW 2 m_h e_h rfl hinJx4a65c (by decide) wd_1085 rfl dJx4a65c_set_bcc79_2 ?_
  refine pk_cSI (As := [.int i, .int sz]) (rest := []) S hK hST hW (c_J15_checkIndex_7cf53 h0 h1) mc_J15_checkIndex_7cf53 wd_1207 wd_1208 np_J15_checkIndex_7cf53 rfl hl.1 rfl (Nat.le_of_ble_eq_true rfl) dJx4a65c_set_bcc79_5 ⟨by decide, by decide⟩ ⟨by decide, by decide⟩ (fun r L_1 F_2 H_3 l_4 hp hW => ?_)
  obtain ⟨rfl, rfl, rfl⟩ := hp
  refine lv_pop S.1 S.2.1 dJx4a65c_set_bcc79_8 rfl ?_
  refine lv_aload_n S.1 S.2.1 dJx4a65c_set_bcc79_9 rfl (lv_at hl 0 rfl) ?_
  refine lv_iload_n S.1 S.2.1 dJx4a65c_set_bcc79_10 rfl (lv_at hl 1 rfl) ?_
  refine pk_cVR (As := [.int i]) (rest := []) S hK hST hW (c_Jx4a65c_elementData_915e3 ⟨m_h, e_h, m_ar, n_h_ar, e_ar⟩ hin hv) mc_Jx4a65c_elementData_915e3 wd_1211 wd_1212 wd_1213 rfl np_Jx4a65c_elementData_915e3 m_h e_h rfl rfl hl.1 rfl (Nat.le_of_ble_eq_true rfl) dJx4a65c_set_bcc79_11 ⟨by decide, by decide⟩ ⟨by decide, by decide⟩ (fun r L_5 F_6 H_7 l_8 hp hW => ?_)
  obtain ⟨rfl, rfl, rfl⟩ := hp
  refine lv_astore_n (lv' := [(3, .ref y), (0, .ref h), (1, .int i), (2, .ref y2)]) S.1 S.2.1 dJx4a65c_set_bcc79_14 rfl hl (Nat.le_of_ble_eq_true rfl) rfl (fun ls hl => ?_)
  refine lv_aload_n S.1 S.2.1 dJx4a65c_set_bcc79_15 rfl (lv_at hl 1 rfl) ?_
  refine pk_get S hK hW 1 m_h e_h rfl hinJx4a65c (by decide) wd_1083 rfl dJx4a65c_set_bcc79_16 ?_
  refine lv_iload_n S.1 S.2.1 dJx4a65c_set_bcc79_19 rfl (lv_at hl 2 rfl) ?_
  refine lv_aload_n S.1 S.2.1 dJx4a65c_set_bcc79_20 rfl (lv_at hl 3 rfl) ?_
  refine pk_aast S hK hW 3 m_ar e_ar rfl (bx_cell hK hW hST hb2) (hST.1.1 _ wn_26) hin dJx4a65c_set_bcc79_21 (fun H_9 l_10 hW => ?_)
  have e_h : (va_up F ar (rfA (κ 3) n (va_up f i.toNatClampNeg (some y2)))) h = .inr (4, [.int md, .ref ar, .int sz]) := (up_ne n_h_ar).trans e_h
  have e_ar : (va_up F ar (rfA (κ 3) n (va_up f i.toNatClampNeg (some y2)))) ar = rfA (κ 3) n (va_up f i.toNatClampNeg (some y2)) := up_eq
  have hfr : ∀ q, q ≠ h → q ≠ ar → (va_up F ar (rfA (κ 3) n (va_up f i.toNatClampNeg (some y2)))) q = F q := fun q q1 q2 => (up_ne q2).trans (hfr q q1 q2)
  generalize va_up F ar (rfA (κ 3) n (va_up f i.toNatClampNeg (some y2))) = F_11 at hW e_h e_ar hfr
  refine lv_aload_n S.1 S.2.1 dJx4a65c_set_bcc79_22 rfl (lv_at hl 0 rfl) ?_
  exact pk_rret S hr (Or.inl ⟨_, rfl⟩) hlk hW ⟨rfl, rfl, ⟨m_h, e_h, m_ar, n_h_ar, e_ar⟩, hfr⟩ (by decide) (by decide) dJx4a65c_set_bcc79_23
