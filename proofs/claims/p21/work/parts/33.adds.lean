/-! ArrayList: add, add at a place, remove, clear -/
theorem mc_Jx4a65c_add_9ea2d : MCode yJx4a65c_add_9ea2d cJx4a65c_add_9ea2d 2 (some .boolean) := ⟨wd_1111, wd_8, by decide, by decide⟩
theorem np_Jx4a65c_add_9ea2d : (parseMethodDescriptor yJx4a65c_add_9ea2d.desc).map (fun d => d.parameters.length) = some 1 := by decide +kernel
set_option maxHeartbeats 4000000 in
set_option maxRecDepth 100000 in
theorem c_Jx4a65c_add_9ea2d_fitI {l : Launch} {D : va_G} {κ : Nat → ClassId} {ζ : Nat → Nat} {L : List Nat} {F : Nat → va_E} {h ar n k : Nat} {f : Nat → Option Nat} {md : Int32} (hR : RA κ h ar n f md (nI k) L F) (hk : k < n) (hn : n ≤ 32) {y : Nat} {v : Int32} (hb : bx ζ L F y v) : MtI l D cls (ty5 κ) ζ yJx4a65c_add_9ea2d cJx4a65c_add_9ea2d 2 (some .boolean) 7 1 32 ([.ref h, .ref y] : List Value) L F (fun r L' F' => L = L' ∧ RA κ h ar n (va_up f k (some y)) (md + 1) (nI (k + 1)) L F' ∧ FrR h ar F F') := by
  refine MtI.of (by decide) (Nat.le_of_ble_eq_true rfl) ?_
  intro p e s m below meth c S hr hlk hini hK hW hST ls hl
  have hl : lv_has ls 2 [(0, .ref h), (1, .ref y)] := hl
  obtain ⟨m_h, e_h, m_ar, n_h_ar, e_ar⟩ := hR
  have e0 := e_h
  have e_ar0 := e_ar
  have hfr : ∀ q, q ≠ h → q ≠ ar → F q = F q := fun _ _ _ => rfl
  refine lv_aload_n S.1 S.2.1 dJx4a65c_add_9ea2d_0 rfl (lv_at hl 0 rfl) ?_
  refine lv_dup S.1 S.2.1 dJx4a65c_add_9ea2d_1 rfl ?_
  refine pk_getU S hK hW 0 m_h e_h rfl hinJx4a65c (by decide) wd_1089 wd_1088 rfl dJx4a65c_add_9ea2d_2 ?_
  refine lv_iconst (v := 1) S.1 S.2.1 dJx4a65c_add_9ea2d_5 (by decide) ?_
  refine lv_iadd S.1 S.2.1 dJx4a65c_add_9ea2d_6 ?_
  refine pk_putU (v := .int (md + 1)) S hK hW 0 m_h e_h rfl hinJx4a65c tyJx4a65c_ok nmJx4a65c (by decide) wd_1089 wd_1088 rfl rfl rfl rfl (Nat.le_of_ble_eq_true rfl) dJx4a65c_add_9ea2d_7 (fun H_1 l_2 hW => ?_)
  have e_h : (va_up F h (.inr (4, ([.int md, .ref ar, .int (nI k)] : List Value).set 0 (.int (md + 1))))) h = .inr (4, [.int (md + 1), .ref ar, .int (nI k)]) := up_eq
  have e_ar : (va_up F h (.inr (4, ([.int md, .ref ar, .int (nI k)] : List Value).set 0 (.int (md + 1))))) ar = rfA (κ 3) n f := (up_ne n_h_ar.symm).trans e_ar
  have hfr : ∀ q, q ≠ h → q ≠ ar → (va_up F h (.inr (4, ([.int md, .ref ar, .int (nI k)] : List Value).set 0 (.int (md + 1))))) q = F q := fun q q1 q2 => (up_ne q1).trans (hfr q q1 q2)
  generalize va_up F h (.inr (4, ([.int md, .ref ar, .int (nI k)] : List Value).set 0 (.int (md + 1)))) = F_3 at hW e_h e_ar hfr
  refine lv_aload_n S.1 S.2.1 dJx4a65c_add_9ea2d_10 rfl (lv_at hl 0 rfl) ?_
  refine lv_aload_n S.1 S.2.1 dJx4a65c_add_9ea2d_11 rfl (lv_at hl 1 rfl) ?_
  refine lv_aload_n S.1 S.2.1 dJx4a65c_add_9ea2d_12 rfl (lv_at hl 0 rfl) ?_
  refine pk_get S hK hW 1 m_h e_h rfl hinJx4a65c (by decide) wd_1083 rfl dJx4a65c_add_9ea2d_13 ?_
  refine lv_aload_n S.1 S.2.1 dJx4a65c_add_9ea2d_16 rfl (lv_at hl 0 rfl) ?_
  refine pk_get S hK hW 2 m_h e_h rfl hinJx4a65c (by decide) wd_1085 rfl dJx4a65c_add_9ea2d_17 ?_
  have hb := hb.keep e0 (fun x hx => hx) (fun x hx xh => if xa : x = ar then by rw [xa, e_ar, e_ar0] else hfr x xh xa)
  refine pk_cVV (As := [.ref y, .ref ar, .int (nI k)]) (rest := []) S hK hST hW (c_Jx4a65c_add_72be8_fitI ⟨m_h, e_h, m_ar, n_h_ar, e_ar⟩ hk hn hb) mc_Jx4a65c_add_72be8 wd_1112 wd_1114 wd_1697 rfl np_Jx4a65c_add_72be8 m_h e_h rfl rfl hl.1 rfl (Nat.le_of_ble_eq_true rfl) dJx4a65c_add_9ea2d_20 ⟨by decide, by decide⟩ ⟨by decide, by decide⟩ (fun L1 F1 H1 l1 hp hW => ?_)
  obtain ⟨rfl, hR1, hfr1⟩ := hp
  refine lv_iconst (v := 1) S.1 S.2.1 dJx4a65c_add_9ea2d_23 (by decide) ?_
  exact pk_zret S hr hlk hW (by decide) ⟨rfl, hR1, FrR.tr hfr hfr1⟩ (by decide) (by decide) dJx4a65c_add_9ea2d_24
set_option maxHeartbeats 4000000 in
set_option maxRecDepth 100000 in
theorem c_Jx4a65c_add_9ea2d_newI {l : Launch} {D : va_G} {κ : Nat → ClassId} {ζ : Nat → Nat} {L : List Nat} {F : Nat → va_E} {h : Nat} {md : Int32} (hR : RE ζ h md 0 L F) {y : Nat} {v : Int32} (hb : bx ζ L F y v) : MtI l D cls (ty5 κ) ζ yJx4a65c_add_9ea2d cJx4a65c_add_9ea2d 2 (some .boolean) 7 1 32 ([.ref h, .ref y] : List Value) L F (fun r L' F' => (∀ x ∈ L, x ∈ L') ∧ ∃ q, q ∉ L ∧ RA κ h q 10 (va_up (fun _ => none) 0 (some y)) (md + 1) (nI (0 + 1)) L' F' ∧ ∀ x ∈ L, x ≠ h → F' x = F x) := by
  refine MtI.of (by decide) (Nat.le_of_ble_eq_true rfl) ?_
  intro p e s m below meth c S hr hlk hini hK hW hST ls hl
  have hl : lv_has ls 2 [(0, .ref h), (1, .ref y)] := hl
  obtain ⟨m_h, e_h⟩ := hR
  have e0 := e_h
  have hfr : ∀ q, q ≠ h → F q = F q := fun _ _ => rfl
  refine lv_aload_n S.1 S.2.1 dJx4a65c_add_9ea2d_0 rfl (lv_at hl 0 rfl) ?_
  refine lv_dup S.1 S.2.1 dJx4a65c_add_9ea2d_1 rfl ?_
  refine pk_getU S hK hW 0 m_h e_h rfl hinJx4a65c (by decide) wd_1089 wd_1088 rfl dJx4a65c_add_9ea2d_2 ?_
  refine lv_iconst (v := 1) S.1 S.2.1 dJx4a65c_add_9ea2d_5 (by decide) ?_
  refine lv_iadd S.1 S.2.1 dJx4a65c_add_9ea2d_6 ?_
  refine pk_putU (v := .int (md + 1)) S hK hW 0 m_h e_h rfl hinJx4a65c tyJx4a65c_ok nmJx4a65c (by decide) wd_1089 wd_1088 rfl rfl rfl rfl (Nat.le_of_ble_eq_true rfl) dJx4a65c_add_9ea2d_7 (fun H_1 l_2 hW => ?_)
  have e_h : (va_up F h (.inr (4, ([.int md, .ref (ζ 256), .int 0] : List Value).set 0 (.int (md + 1))))) h = .inr (4, [.int (md + 1), .ref (ζ 256), .int 0]) := up_eq
  have hfr : ∀ q, q ≠ h → (va_up F h (.inr (4, ([.int md, .ref (ζ 256), .int 0] : List Value).set 0 (.int (md + 1))))) q = F q := fun q q1 => (up_ne q1).trans (hfr q q1)
  generalize va_up F h (.inr (4, ([.int md, .ref (ζ 256), .int 0] : List Value).set 0 (.int (md + 1)))) = F_3 at hW e_h hfr
  refine lv_aload_n S.1 S.2.1 dJx4a65c_add_9ea2d_10 rfl (lv_at hl 0 rfl) ?_
  refine lv_aload_n S.1 S.2.1 dJx4a65c_add_9ea2d_11 rfl (lv_at hl 1 rfl) ?_
  refine lv_aload_n S.1 S.2.1 dJx4a65c_add_9ea2d_12 rfl (lv_at hl 0 rfl) ?_
  refine pk_get S hK hW 1 m_h e_h rfl hinJx4a65c (by decide) wd_1083 rfl dJx4a65c_add_9ea2d_13 ?_
  refine lv_aload_n S.1 S.2.1 dJx4a65c_add_9ea2d_16 rfl (lv_at hl 0 rfl) ?_
  refine pk_get S hK hW 2 m_h e_h rfl hinJx4a65c (by decide) wd_1085 rfl dJx4a65c_add_9ea2d_17 ?_
  have hb := hb.keep e0 (fun x hx => hx) (fun x _ hx => hfr x hx)
  refine pk_cVV (As := [.ref y, .ref (ζ 256), .int 0]) (rest := []) S hK hST hW (c_Jx4a65c_add_72be8_newI ⟨m_h, e_h⟩ hb) mc_Jx4a65c_add_72be8 wd_1112 wd_1114 wd_1697 rfl np_Jx4a65c_add_72be8 m_h e_h rfl rfl hl.1 rfl (Nat.le_of_ble_eq_true rfl) dJx4a65c_add_9ea2d_20 ⟨by decide, by decide⟩ ⟨by decide, by decide⟩ (fun L1 F1 H1 l1 hp hW => ?_)
  obtain ⟨hsub1, q, hq_q, hR1, hfr1⟩ := hp
  refine lv_iconst (v := 1) S.1 S.2.1 dJx4a65c_add_9ea2d_23 (by decide) ?_
  exact pk_zret S hr hlk hW (by decide) ⟨hsub1, q, hq_q, hR1, fun x hx xh => (hfr1 x hx xh).trans (hfr x xh)⟩ (by decide) (by decide) dJx4a65c_add_9ea2d_24
set_option maxHeartbeats 4000000 in
set_option maxRecDepth 100000 in
theorem c_Jx4a65c_add_9ea2d_fitL {l : Launch} {D : va_G} {κ : Nat → ClassId} {ζ : Nat → Nat} {L : List Nat} {F : Nat → va_E} {h ar n k : Nat} {f : Nat → Option Nat} {md : Int32} (hR : RA κ h ar n f md (nI k) L F) (hk : k < n) (hn : n ≤ 32) {y : Nat} {w : List Value} (hyh : y ≠ h) (hb : y ∈ L ∧ F y = .inr (4, w)) : MtI l D cls (ty5 κ) ζ yJx4a65c_add_9ea2d cJx4a65c_add_9ea2d 2 (some .boolean) 7 1 32 ([.ref h, .ref y] : List Value) L F (fun r L' F' => L = L' ∧ RA κ h ar n (va_up f k (some y)) (md + 1) (nI (k + 1)) L F' ∧ FrR h ar F F') := by
  refine MtI.of (by decide) (Nat.le_of_ble_eq_true rfl) ?_
  intro p e s m below meth c S hr hlk hini hK hW hST ls hl
  have hl : lv_has ls 2 [(0, .ref h), (1, .ref y)] := hl
  obtain ⟨m_h, e_h, m_ar, n_h_ar, e_ar⟩ := hR
  have e0 := e_h
  have e_ar0 := e_ar
  have hfr : ∀ q, q ≠ h → q ≠ ar → F q = F q := fun _ _ _ => rfl
  refine lv_aload_n S.1 S.2.1 dJx4a65c_add_9ea2d_0 rfl (lv_at hl 0 rfl) ?_
  refine lv_dup S.1 S.2.1 dJx4a65c_add_9ea2d_1 rfl ?_
  refine pk_getU S hK hW 0 m_h e_h rfl hinJx4a65c (by decide) wd_1089 wd_1088 rfl dJx4a65c_add_9ea2d_2 ?_
  refine lv_iconst (v := 1) S.1 S.2.1 dJx4a65c_add_9ea2d_5 (by decide) ?_
  refine lv_iadd S.1 S.2.1 dJx4a65c_add_9ea2d_6 ?_
  refine pk_putU (v := .int (md + 1)) S hK hW 0 m_h e_h rfl hinJx4a65c tyJx4a65c_ok nmJx4a65c (by decide) wd_1089 wd_1088 rfl rfl rfl rfl (Nat.le_of_ble_eq_true rfl) dJx4a65c_add_9ea2d_7 (fun H_1 l_2 hW => ?_)
  have e_h : (va_up F h (.inr (4, ([.int md, .ref ar, .int (nI k)] : List Value).set 0 (.int (md + 1))))) h = .inr (4, [.int (md + 1), .ref ar, .int (nI k)]) := up_eq
  have e_ar : (va_up F h (.inr (4, ([.int md, .ref ar, .int (nI k)] : List Value).set 0 (.int (md + 1))))) ar = rfA (κ 3) n f := (up_ne n_h_ar.symm).trans e_ar
  have hfr : ∀ q, q ≠ h → q ≠ ar → (va_up F h (.inr (4, ([.int md, .ref ar, .int (nI k)] : List Value).set 0 (.int (md + 1))))) q = F q := fun q q1 q2 => (up_ne q1).trans (hfr q q1 q2)
  generalize va_up F h (.inr (4, ([.int md, .ref ar, .int (nI k)] : List Value).set 0 (.int (md + 1)))) = F_3 at hW e_h e_ar hfr
  refine lv_aload_n S.1 S.2.1 dJx4a65c_add_9ea2d_10 rfl (lv_at hl 0 rfl) ?_
  refine lv_aload_n S.1 S.2.1 dJx4a65c_add_9ea2d_11 rfl (lv_at hl 1 rfl) ?_
  refine lv_aload_n S.1 S.2.1 dJx4a65c_add_9ea2d_12 rfl (lv_at hl 0 rfl) ?_
  refine pk_get S hK hW 1 m_h e_h rfl hinJx4a65c (by decide) wd_1083 rfl dJx4a65c_add_9ea2d_13 ?_
  refine lv_aload_n S.1 S.2.1 dJx4a65c_add_9ea2d_16 rfl (lv_at hl 0 rfl) ?_
  refine pk_get S hK hW 2 m_h e_h rfl hinJx4a65c (by decide) wd_1085 rfl dJx4a65c_add_9ea2d_17 ?_
  have hb := And.intro hb.1 ((if xa : y = ar then by rw [xa, e_ar, e_ar0] else hfr y hyh xa : _ = _).trans hb.2)
  refine pk_cVV (As := [.ref y, .ref ar, .int (nI k)]) (rest := []) S hK hST hW (c_Jx4a65c_add_72be8_fitL ⟨m_h, e_h, m_ar, n_h_ar, e_ar⟩ hk hn hb) mc_Jx4a65c_add_72be8 wd_1112 wd_1114 wd_1697 rfl np_Jx4a65c_add_72be8 m_h e_h rfl rfl hl.1 rfl (Nat.le_of_ble_eq_true rfl) dJx4a65c_add_9ea2d_20 ⟨by decide, by decide⟩ ⟨by decide, by decide⟩ (fun L1 F1 H1 l1 hp hW => ?_)
  obtain ⟨rfl, hR1, hfr1⟩ := hp
  refine lv_iconst (v := 1) S.1 S.2.1 dJx4a65c_add_9ea2d_23 (by decide) ?_
  exact pk_zret S hr hlk hW (by decide) ⟨rfl, hR1, FrR.tr hfr hfr1⟩ (by decide) (by decide) dJx4a65c_add_9ea2d_24
set_option maxHeartbeats 4000000 in
set_option maxRecDepth 100000 in
theorem c_Jx4a65c_add_9ea2d_newL {l : Launch} {D : va_G} {κ : Nat → ClassId} {ζ : Nat → Nat} {L : List Nat} {F : Nat → va_E} {h : Nat} {md : Int32} (hR : RE ζ h md 0 L F) {y : Nat} {w : List Value} (hyh : y ≠ h) (hb : y ∈ L ∧ F y = .inr (4, w)) : MtI l D cls (ty5 κ) ζ yJx4a65c_add_9ea2d cJx4a65c_add_9ea2d 2 (some .boolean) 7 1 32 ([.ref h, .ref y] : List Value) L F (fun r L' F' => (∀ x ∈ L, x ∈ L') ∧ ∃ q, q ∉ L ∧ RA κ h q 10 (va_up (fun _ => none) 0 (some y)) (md + 1) (nI (0 + 1)) L' F' ∧ ∀ x ∈ L, x ≠ h → F' x = F x) := by
  refine MtI.of (by decide) (Nat.le_of_ble_eq_true rfl) ?_
  intro p e s m below meth c S hr hlk hini hK hW hST ls hl
  have hl : lv_has ls 2 [(0, .ref h), (1, .ref y)] := hl
  obtain ⟨m_h, e_h⟩ := hR
  have e0 := e_h
  have hfr : ∀ q, q ≠ h → F q = F q := fun _ _ => rfl
  refine lv_aload_n S.1 S.2.1 dJx4a65c_add_9ea2d_0 rfl (lv_at hl 0 rfl) ?_
  refine lv_dup S.1 S.2.1 dJx4a65c_add_9ea2d_1 rfl ?_
  refine pk_getU S hK hW 0 m_h e_h rfl hinJx4a65c (by decide) wd_1089 wd_1088 rfl dJx4a65c_add_9ea2d_2 ?_
  refine lv_iconst (v := 1) S.1 S.2.1 dJx4a65c_add_9ea2d_5 (by decide) ?_
  refine lv_iadd S.1 S.2.1 dJx4a65c_add_9ea2d_6 ?_
  refine pk_putU (v := .int (md + 1)) S hK hW 0 m_h e_h rfl hinJx4a65c tyJx4a65c_ok nmJx4a65c (by decide) wd_1089 wd_1088 rfl rfl rfl rfl (Nat.le_of_ble_eq_true rfl) dJx4a65c_add_9ea2d_7 (fun H_1 l_2 hW => ?_)
  have e_h : (va_up F h (.inr (4, ([.int md, .ref (ζ 256), .int 0] : List Value).set 0 (.int (md + 1))))) h = .inr (4, [.int (md + 1), .ref (ζ 256), .int 0]) := up_eq
  have hfr : ∀ q, q ≠ h → (va_up F h (.inr (4, ([.int md, .ref (ζ 256), .int 0] : List Value).set 0 (.int (md + 1))))) q = F q := fun q q1 => (up_ne q1).trans (hfr q q1)
  generalize va_up F h (.inr (4, ([.int md, .ref (ζ 256), .int 0] : List Value).set 0 (.int (md + 1)))) = F_3 at hW e_h hfr
  refine lv_aload_n S.1 S.2.1 dJx4a65c_add_9ea2d_10 rfl (lv_at hl 0 rfl) ?_
  refine lv_aload_n S.1 S.2.1 dJx4a65c_add_9ea2d_11 rfl (lv_at hl 1 rfl) ?_
  refine lv_aload_n S.1 S.2.1 dJx4a65c_add_9ea2d_12 rfl (lv_at hl 0 rfl) ?_
  refine pk_get S hK hW 1 m_h e_h rfl hinJx4a65c (by decide) wd_1083 rfl dJx4a65c_add_9ea2d_13 ?_
  refine lv_aload_n S.1 S.2.1 dJx4a65c_add_9ea2d_16 rfl (lv_at hl 0 rfl) ?_
  refine pk_get S hK hW 2 m_h e_h rfl hinJx4a65c (by decide) wd_1085 rfl dJx4a65c_add_9ea2d_17 ?_
  have hb := And.intro hb.1 ((hfr y hyh).trans hb.2)
  refine pk_cVV (As := [.ref y, .ref (ζ 256), .int 0]) (rest := []) S hK hST hW (c_Jx4a65c_add_72be8_newL ⟨m_h, e_h⟩ hyh hb) mc_Jx4a65c_add_72be8 wd_1112 wd_1114 wd_1697 rfl np_Jx4a65c_add_72be8 m_h e_h rfl rfl hl.1 rfl (Nat.le_of_ble_eq_true rfl) dJx4a65c_add_9ea2d_20 ⟨by decide, by decide⟩ ⟨by decide, by decide⟩ (fun L1 F1 H1 l1 hp hW => ?_)
  obtain ⟨hsub1, q, hq_q, hR1, hfr1⟩ := hp
  refine lv_iconst (v := 1) S.1 S.2.1 dJx4a65c_add_9ea2d_23 (by decide) ?_
  exact pk_zret S hr hlk hW (by decide) ⟨hsub1, q, hq_q, hR1, fun x hx xh => (hfr1 x hx xh).trans (hfr x xh)⟩ (by decide) (by decide) dJx4a65c_add_9ea2d_24
set_option maxHeartbeats 4000000 in
set_option maxRecDepth 100000 in
theorem c_Jx4a65c_add_9ea2d_full {l : Launch} {D : va_G} {κ : Nat → ClassId} {ζ : Nat → Nat} {L : List Nat} {F : Nat → va_E} {h ar n : Nat} {f : Nat → Option Nat} {md : Int32} (hR : RA κ h ar n f md (nI n) L F) (hn0 : 0 < n) (hn1 : n ≤ 21) (hel : ∀ i, i < n → ∀ y, f i = some y → ∃ v, bx ζ L F y v) {y : Nat} {v : Int32} (hb : bx ζ L F y v) : MtI l D cls (ty5 κ) ζ yJx4a65c_add_9ea2d cJx4a65c_add_9ea2d 2 (some .boolean) 7 1 32 ([.ref h, .ref y] : List Value) L F (fun r L' F' => (∀ x ∈ L, x ∈ L') ∧ ∃ q, q ∉ L ∧ RA κ h q (n + max 1 (n / 2)) (va_up (va_cpy f (fun _ => none) 0 0 n) n (some y)) (md + 1) (nI (n + 1)) L' F' ∧ ∀ x ∈ L, x ≠ h → F' x = F x) := by
  refine MtI.of (by decide) (Nat.le_of_ble_eq_true rfl) ?_
  intro p e s m below meth c S hr hlk hini hK hW hST ls hl
  have hl : lv_has ls 2 [(0, .ref h), (1, .ref y)] := hl
  obtain ⟨m_h, e_h, m_ar, n_h_ar, e_ar⟩ := hR
  have e0 := e_h
  have e_ar0 := e_ar
  have hfr : ∀ q, q ≠ h → q ≠ ar → F q = F q := fun _ _ _ => rfl
  refine lv_aload_n S.1 S.2.1 dJx4a65c_add_9ea2d_0 rfl (lv_at hl 0 rfl) ?_
  refine lv_dup S.1 S.2.1 dJx4a65c_add_9ea2d_1 rfl ?_
  refine pk_getU S hK hW 0 m_h e_h rfl hinJx4a65c (by decide) wd_1089 wd_1088 rfl dJx4a65c_add_9ea2d_2 ?_
  refine lv_iconst (v := 1) S.1 S.2.1 dJx4a65c_add_9ea2d_5 (by decide) ?_
  refine lv_iadd S.1 S.2.1 dJx4a65c_add_9ea2d_6 ?_
  refine pk_putU (v := .int (md + 1)) S hK hW 0 m_h e_h rfl hinJx4a65c tyJx4a65c_ok nmJx4a65c (by decide) wd_1089 wd_1088 rfl rfl rfl rfl (Nat.le_of_ble_eq_true rfl) dJx4a65c_add_9ea2d_7 (fun H_1 l_2 hW => ?_)
  have e_h : (va_up F h (.inr (4, ([.int md, .ref ar, .int (nI n)] : List Value).set 0 (.int (md + 1))))) h = .inr (4, [.int (md + 1), .ref ar, .int (nI n)]) := up_eq
  have e_ar : (va_up F h (.inr (4, ([.int md, .ref ar, .int (nI n)] : List Value).set 0 (.int (md + 1))))) ar = rfA (κ 3) n f := (up_ne n_h_ar.symm).trans e_ar
  have hfr : ∀ q, q ≠ h → q ≠ ar → (va_up F h (.inr (4, ([.int md, .ref ar, .int (nI n)] : List Value).set 0 (.int (md + 1))))) q = F q := fun q q1 q2 => (up_ne q1).trans (hfr q q1 q2)
  generalize va_up F h (.inr (4, ([.int md, .ref ar, .int (nI n)] : List Value).set 0 (.int (md + 1)))) = F_3 at hW e_h e_ar hfr
  refine lv_aload_n S.1 S.2.1 dJx4a65c_add_9ea2d_10 rfl (lv_at hl 0 rfl) ?_
  refine lv_aload_n S.1 S.2.1 dJx4a65c_add_9ea2d_11 rfl (lv_at hl 1 rfl) ?_
  refine lv_aload_n S.1 S.2.1 dJx4a65c_add_9ea2d_12 rfl (lv_at hl 0 rfl) ?_
  refine pk_get S hK hW 1 m_h e_h rfl hinJx4a65c (by decide) wd_1083 rfl dJx4a65c_add_9ea2d_13 ?_
  refine lv_aload_n S.1 S.2.1 dJx4a65c_add_9ea2d_16 rfl (lv_at hl 0 rfl) ?_
  refine pk_get S hK hW 2 m_h e_h rfl hinJx4a65c (by decide) wd_1085 rfl dJx4a65c_add_9ea2d_17 ?_
  have hkb : ∀ x ∈ L, x ≠ h → F_3 x = F x := fun x hx xh => if xa : x = ar then by rw [xa, e_ar, e_ar0] else hfr x xh xa
  have hb := hb.keep e0 (fun x hx => hx) hkb
  have hel1 : ∀ i, i < n → ∀ y, f i = some y → ∃ v, bx ζ L F_3 y v := fun i hi y hy => by obtain ⟨v, hv⟩ := hel i hi y hy; exact ⟨v, hv.keep e0 (fun x hx => hx) hkb⟩
  refine pk_cVV (As := [.ref y, .ref ar, .int (nI n)]) (rest := []) S hK hST hW (c_Jx4a65c_add_72be8_full ⟨m_h, e_h, m_ar, n_h_ar, e_ar⟩ hn0 hn1 hel1 hb) mc_Jx4a65c_add_72be8 wd_1112 wd_1114 wd_1697 rfl np_Jx4a65c_add_72be8 m_h e_h rfl rfl hl.1 rfl (Nat.le_of_ble_eq_true rfl) dJx4a65c_add_9ea2d_20 ⟨by decide, by decide⟩ ⟨by decide, by decide⟩ (fun L1 F1 H1 l1 hp hW => ?_)
  obtain ⟨hsub1, q, hq_q, hR1, hfr1⟩ := hp
  refine lv_iconst (v := 1) S.1 S.2.1 dJx4a65c_add_9ea2d_23 (by decide) ?_
  exact pk_zret S hr hlk hW (by decide) ⟨hsub1, q, hq_q, hR1, fun x hx xh => (hfr1 x hx xh).trans (hkb x hx xh)⟩ (by decide) (by decide) dJx4a65c_add_9ea2d_24
theorem mc_Jx4a65c_rangeCheckForAdd_d00df : MCode yJx4a65c_rangeCheckForAdd_d00df cJx4a65c_rangeCheckForAdd_d00df 2 none := ⟨wd_1257, wd_8, by decide, by decide⟩
theorem np_Jx4a65c_rangeCheckForAdd_d00df : (parseMethodDescriptor yJx4a65c_rangeCheckForAdd_d00df.desc).map (fun d => d.parameters.length) = some 1 := by decide +kernel
set_option maxHeartbeats 4000000 in
set_option maxRecDepth 100000 in
theorem c_Jx4a65c_rangeCheckForAdd_d00df {l : Launch} {D : va_G} {κ : Nat → ClassId} {ζ : Nat → Nat} {L : List Nat} {F : Nat → va_E} {h : Nat} {md sz : Int32} {rr : Nat} (m_h : h ∈ L) (e_h : F h = .inr (4, [.int md, .ref rr, .int sz])) {i : Int32} (hi1 : ¬ sz < i) (hi0 : 0 ≤ i) : MtV l D cls (ty5 κ) ζ yJx4a65c_rangeCheckForAdd_d00df cJx4a65c_rangeCheckForAdd_d00df 2 none 1 0 0 ([.ref h, .int i] : List Value) L F (fun L' F' => L = L' ∧ F = F') := by
  refine MtV.of (by decide) (Nat.le_of_ble_eq_true rfl) ?_
  intro p e s m below meth c S hr hlk hini hK hW hST ls hl
  have hl : lv_has ls 2 [(0, .ref h), (1, .int i)] := hl
  refine lv_iload_n S.1 S.2.1 dJx4a65c_rangeCheckForAdd_d00df_0 rfl (lv_at hl 1 rfl) ?_
  refine lv_aload_n S.1 S.2.1 dJx4a65c_rangeCheckForAdd_d00df_1 rfl (lv_at hl 0 rfl) ?_
  refine pk_get S hK hW 2 m_h e_h rfl hinJx4a65c (by decide) wd_1085 rfl dJx4a65c_rangeCheckForAdd_d00df_2 ?_
  refine lv_icmp_gt (tgt := 12) S.1 S.2.1 dJx4a65c_rangeCheckForAdd_d00df_5 (by decide) (fun c1 => absurd c1 hi1) (fun _ => ?_)
  refine lv_iload_n S.1 S.2.1 dJx4a65c_rangeCheckForAdd_d00df_8 rfl (lv_at hl 1 rfl) ?_
  refine lv_if_ge (tgt := 25) S.1 S.2.1 dJx4a65c_rangeCheckForAdd_d00df_9 (by decide) (fun _ => ?_) (fun c1 => absurd hi0 c1)
  exact pk_vret S hr hlk hW ⟨rfl, rfl⟩ (by decide) (by decide) dJx4a65c_rangeCheckForAdd_d00df_25
theorem mc_Jx4a65c_add_7a177 : MCode yJx4a65c_add_7a177 cJx4a65c_add_7a177 5 none := ⟨wd_1253, wd_8, by decide, by decide⟩
theorem np_Jx4a65c_add_7a177 : (parseMethodDescriptor yJx4a65c_add_7a177.desc).map (fun d => d.parameters.length) = some 2 := by decide +kernel
set_option maxHeartbeats 4000000 in
set_option maxRecDepth 100000 in
theorem c_Jx4a65c_add_7a177_fit {l : Launch} {D : va_G} {κ : Nat → ClassId} {ζ : Nat → Nat} {L : List Nat} {F : Nat → va_E} {h ar n k i : Nat} {f : Nat → Option Nat} {md : Int32} (hR : RA κ h ar n f md (nI k) L F) (hik : i ≤ k) (hk : k < n) (hn : n ≤ 32) (hel : ∀ i, i < k → ∀ y, f i = some y → ∃ v, bx ζ L F y v) {y : Nat} {v : Int32} (hb : bx ζ L F y v) : MtV l D cls (ty5 κ) ζ yJx4a65c_add_7a177 cJx4a65c_add_7a177 5 none 6 1 32 ([.ref h, .int (nI i), .ref y] : List Value) L F (fun L' F' => L = L' ∧ RA κ h ar n (va_up (va_cpy f f i (i + 1) (k - i)) i (some y)) (md + 1) (nI (k + 1)) L F' ∧ FrR h ar F F') := by
  refine MtV.of (by decide) (Nat.le_of_ble_eq_true rfl) ?_
  intro p e s m below meth c S hr hlk hini hK hW hST ls hl
  have hl : lv_has ls 5 [(0, .ref h), (1, .int (nI i)), (2, .ref y)] := hl
  obtain ⟨m_h, e_h, m_ar, n_h_ar, e_ar⟩ := hR
  have e0 := e_h
  have e_ar0 := e_ar
  have hfr : ∀ q, q ≠ h → q ≠ ar → F q = F q := fun _ _ _ => rfl
  refine lv_aload_n S.1 S.2.1 dJx4a65c_add_7a177_0 rfl (lv_at hl 0 rfl) ?_
  refine lv_iload_n S.1 S.2.1 dJx4a65c_add_7a177_1 rfl (lv_at hl 1 rfl) ?_
  refine pk_cVV (As := [.int (nI i)]) (rest := []) S hK hST hW (c_Jx4a65c_rangeCheckForAdd_d00df m_h e_h (nI_nlt hik (by omega)) (nI_pos' (by omega))) mc_Jx4a65c_rangeCheckForAdd_d00df wd_1254 wd_1256 wd_1706 rfl np_Jx4a65c_rangeCheckForAdd_d00df m_h e_h rfl rfl hl.1 rfl (Nat.le_of_ble_eq_true rfl) dJx4a65c_add_7a177_2 ⟨by decide, by decide⟩ ⟨by decide, by decide⟩ (fun L_1 F_2 H_3 l_4 hp hW => ?_)
  obtain ⟨rfl, rfl⟩ := hp
  refine lv_aload_n S.1 S.2.1 dJx4a65c_add_7a177_5 rfl (lv_at hl 0 rfl) ?_
  refine lv_dup S.1 S.2.1 dJx4a65c_add_7a177_6 rfl ?_
  refine pk_getU S hK hW 0 m_h e_h rfl hinJx4a65c (by decide) wd_1089 wd_1088 rfl dJx4a65c_add_7a177_7 ?_
  refine lv_iconst (v := 1) S.1 S.2.1 dJx4a65c_add_7a177_10 (by decide) ?_
  refine lv_iadd S.1 S.2.1 dJx4a65c_add_7a177_11 ?_
  refine pk_putU (v := .int (md + 1)) S hK hW 0 m_h e_h rfl hinJx4a65c tyJx4a65c_ok nmJx4a65c (by decide) wd_1089 wd_1088 rfl rfl rfl rfl (Nat.le_of_ble_eq_true rfl) dJx4a65c_add_7a177_12 (fun H_5 l_6 hW => ?_)
  have e_h : (va_up F h (.inr (4, ([.int md, .ref ar, .int (nI k)] : List Value).set 0 (.int (md + 1))))) h = .inr (4, [.int (md + 1), .ref ar, .int (nI k)]) := up_eq
  have e_ar : (va_up F h (.inr (4, ([.int md, .ref ar, .int (nI k)] : List Value).set 0 (.int (md + 1))))) ar = rfA (κ 3) n f := (up_ne n_h_ar.symm).trans e_ar
  have hfr : ∀ q, q ≠ h → q ≠ ar → (va_up F h (.inr (4, ([.int md, .ref ar, .int (nI k)] : List Value).set 0 (.int (md + 1))))) q = F q := fun q q1 q2 => (up_ne q1).trans (hfr q q1 q2)
  generalize va_up F h (.inr (4, ([.int md, .ref ar, .int (nI k)] : List Value).set 0 (.int (md + 1)))) = F_7 at hW e_h e_ar hfr
  refine lv_aload_n S.1 S.2.1 dJx4a65c_add_7a177_15 rfl (lv_at hl 0 rfl) ?_
  refine pk_get S hK hW 2 m_h e_h rfl hinJx4a65c (by decide) wd_1085 rfl dJx4a65c_add_7a177_16 ?_
  refine lv_dup S.1 S.2.1 dJx4a65c_add_7a177_19 rfl ?_
  refine lv_istore_n (lv' := [(3, .int (nI k)), (0, .ref h), (1, .int (nI i)), (2, .ref y)]) S.1 S.2.1 dJx4a65c_add_7a177_20 rfl hl (Nat.le_of_ble_eq_true rfl) rfl (fun ls hl => ?_)
  refine lv_aload_n S.1 S.2.1 dJx4a65c_add_7a177_21 rfl (lv_at hl 1 rfl) ?_
  refine pk_get S hK hW 1 m_h e_h rfl hinJx4a65c (by decide) wd_1083 rfl dJx4a65c_add_7a177_22 ?_
  refine lv_dup S.1 S.2.1 dJx4a65c_add_7a177_25 rfl ?_
  refine lv_astore (lv' := [(4, .ref ar), (3, .int (nI k)), (0, .ref h), (1, .int (nI i)), (2, .ref y)]) S.1 S.2.1 dJx4a65c_add_7a177_26 hl (Nat.le_of_ble_eq_true rfl) rfl (fun ls hl => ?_)
  refine pk_alen S hK hW 3 m_ar e_ar rfl rfl dJx4a65c_add_7a177_28 ?_
  refine lv_icmp_ne (tgt := 38) S.1 S.2.1 dJx4a65c_add_7a177_29 (by decide) (fun _ => ?_) (fun c1 => absurd c1 (fun ee => absurd ((nI_eq (by omega) (by omega)).mp ee) (by omega)))
  refine lv_aload S.1 S.2.1 dJx4a65c_add_7a177_38 (lv_at hl 0 rfl) ?_
  refine lv_iload_n S.1 S.2.1 dJx4a65c_add_7a177_40 rfl (lv_at hl 3 rfl) ?_
  refine lv_aload S.1 S.2.1 dJx4a65c_add_7a177_41 (lv_at hl 0 rfl) ?_
  refine lv_iload_n S.1 S.2.1 dJx4a65c_add_7a177_43 rfl (lv_at hl 3 rfl) ?_
  refine lv_iconst (v := 1) S.1 S.2.1 dJx4a65c_add_7a177_44 (by decide) ?_
  refine lv_iadd S.1 S.2.1 dJx4a65c_add_7a177_45 ?_
  refine lv_topi (fun y_8 ey_8 => ?_)
  have ey_8 : y_8 = nI (i + 1) := ey_8.trans (nI_1 i)
  subst ey_8
  refine lv_iload_n S.1 S.2.1 dJx4a65c_add_7a177_46 rfl (lv_at hl 1 rfl) ?_
  refine lv_iload_n S.1 S.2.1 dJx4a65c_add_7a177_47 rfl (lv_at hl 3 rfl) ?_
  refine lv_isub S.1 S.2.1 dJx4a65c_add_7a177_48 ?_
  refine lv_topi (fun y_9 ey_9 => ?_)
  have ey_9 : y_9 = nI (k - i) := ey_9.trans (pk_sub (by omega))
  subst ey_9
  have hkb : ∀ x ∈ L, x ≠ h → F_7 x = F x := fun x hx xh => if xa : x = ar then by rw [xa, e_ar, e_ar0] else hfr x xh xa
  have hb := hb.keep e0 (fun x hx => hx) hkb
  have hel1 : ∀ i, i < k → ∀ y, f i = some y → ∃ v, bx ζ L F_7 y v := fun i hi y hy => by obtain ⟨v, hv⟩ := hel i hi y hy; exact ⟨v, hv.keep e0 (fun x hx => hx) hkb⟩
  have e_h0 := e_h
  have e_ar1 := e_ar
  refine pk_copyq S hK hST hW wd_1271 wd_857 wd_856 wd_13 hl.1 3 rfl m_ar e_ar m_ar e_ar i (i + 1) (k - i) rfl rfl rfl (by omega) (by omega) (by omega) (by omega) (fun q hq y hy => hel1 (i + q) (by omega) y hy) (by decide) (Nat.le_of_ble_eq_true rfl) dJx4a65c_add_7a177_49 (fun H_10 l_11 hW => ?_)
  have e_h : (va_up F_7 ar (rfA (κ 3) n (va_cpy f f i (i + 1) (k - i)))) h = .inr (4, [.int (md + 1), .ref ar, .int (nI k)]) := (up_ne n_h_ar).trans e_h
  have e_ar : (va_up F_7 ar (rfA (κ 3) n (va_cpy f f i (i + 1) (k - i)))) ar = rfA (κ 3) n (va_cpy f f i (i + 1) (k - i)) := up_eq
  have hfr : ∀ q, q ≠ h → q ≠ ar → (va_up F_7 ar (rfA (κ 3) n (va_cpy f f i (i + 1) (k - i)))) q = F q := fun q q1 q2 => (up_ne q2).trans (hfr q q1 q2)
  generalize va_up F_7 ar (rfA (κ 3) n (va_cpy f f i (i + 1) (k - i))) = F_12 at hW e_h e_ar hfr
  refine lv_aload S.1 S.2.1 dJx4a65c_add_7a177_52 (lv_at hl 0 rfl) ?_
  refine lv_iload_n S.1 S.2.1 dJx4a65c_add_7a177_54 rfl (lv_at hl 3 rfl) ?_
  refine lv_aload_n S.1 S.2.1 dJx4a65c_add_7a177_55 rfl (lv_at hl 4 rfl) ?_
  have hb : bx ζ L F_12 y v := by
    rcases hb with ⟨b1, b2⟩ | b
    · have yh : y ≠ h := fun ee => by rw [ee, e_h0] at b2; cases b2
      have ya : y ≠ ar := fun ee => by rw [ee, e_ar1] at b2; cases b2
      exact Or.inl ⟨b1, (hfr y yh ya).trans ((hkb y b1 yh).symm.trans b2)⟩
    · exact Or.inr b
  refine pk_aast S hK hW 3 m_ar e_ar rfl (bx_cell hK hW hST hb) (hST.1.1 _ wn_26) (vp_in_nI (by omega) (by omega)) dJx4a65c_add_7a177_56 (fun H_13 l_14 hW => ?_)
  rw [show (nI i).toNatClampNeg = i from nI_clamp (by omega)] at hW
  have e_h : (va_up F_12 ar (rfA (κ 3) n (va_up (va_cpy f f i (i + 1) (k - i)) i (some y)))) h = .inr (4, [.int (md + 1), .ref ar, .int (nI k)]) := (up_ne n_h_ar).trans e_h
  have e_ar : (va_up F_12 ar (rfA (κ 3) n (va_up (va_cpy f f i (i + 1) (k - i)) i (some y)))) ar = rfA (κ 3) n (va_up (va_cpy f f i (i + 1) (k - i)) i (some y)) := up_eq
  have hfr : ∀ q, q ≠ h → q ≠ ar → (va_up F_12 ar (rfA (κ 3) n (va_up (va_cpy f f i (i + 1) (k - i)) i (some y)))) q = F q := fun q q1 q2 => (up_ne q2).trans (hfr q q1 q2)
  generalize va_up F_12 ar (rfA (κ 3) n (va_up (va_cpy f f i (i + 1) (k - i)) i (some y))) = F_15 at hW e_h e_ar hfr
  refine lv_aload_n S.1 S.2.1 dJx4a65c_add_7a177_57 rfl (lv_at hl 2 rfl) ?_
  refine lv_iload_n S.1 S.2.1 dJx4a65c_add_7a177_58 rfl (lv_at hl 1 rfl) ?_
  refine lv_iconst (v := 1) S.1 S.2.1 dJx4a65c_add_7a177_59 (by decide) ?_
  refine lv_iadd S.1 S.2.1 dJx4a65c_add_7a177_60 ?_
  refine lv_topi (fun y_16 ey_16 => ?_)
  have ey_16 : y_16 = nI (k + 1) := ey_16.trans (nI_1 k)
  subst ey_16
  refine pk_put (v := .int (nI (k + 1))) S hK hW 2 m_h e_h rfl hinJx4a65c tyJx4a65c_ok nmJx4a65c (by decide) wd_1085 rfl rfl rfl rfl (Nat.le_of_ble_eq_true rfl) dJx4a65c_add_7a177_61 (fun H_17 l_18 hW => ?_)
  have e_h : (va_up F_15 h (.inr (4, ([.int (md + 1), .ref ar, .int (nI k)] : List Value).set 2 (.int (nI (k + 1)))))) h = .inr (4, [.int (md + 1), .ref ar, .int (nI (k + 1))]) := up_eq
  have e_ar : (va_up F_15 h (.inr (4, ([.int (md + 1), .ref ar, .int (nI k)] : List Value).set 2 (.int (nI (k + 1)))))) ar = rfA (κ 3) n (va_up (va_cpy f f i (i + 1) (k - i)) i (some y)) := (up_ne n_h_ar.symm).trans e_ar
  have hfr : ∀ q, q ≠ h → q ≠ ar → (va_up F_15 h (.inr (4, ([.int (md + 1), .ref ar, .int (nI k)] : List Value).set 2 (.int (nI (k + 1)))))) q = F q := fun q q1 q2 => (up_ne q1).trans (hfr q q1 q2)
  generalize va_up F_15 h (.inr (4, ([.int (md + 1), .ref ar, .int (nI k)] : List Value).set 2 (.int (nI (k + 1))))) = F_19 at hW e_h e_ar hfr
  exact pk_vret S hr hlk hW ⟨rfl, ⟨m_h, e_h, m_ar, n_h_ar, e_ar⟩, hfr⟩ (by decide) (by decide) dJx4a65c_add_7a177_64
set_option maxHeartbeats 4000000 in
set_option maxRecDepth 100000 in
theorem c_Jx4a65c_add_7a177_full {l : Launch} {D : va_G} {κ : Nat → ClassId} {ζ : Nat → Nat} {L : List Nat} {F : Nat → va_E} {h ar n i : Nat} {f : Nat → Option Nat} {md : Int32} (hR : RA κ h ar n f md (nI n) L F) (hik : i ≤ n) (hn0 : 0 < n) (hn1 : n ≤ 21) (hel : ∀ i, i < n → ∀ y, f i = some y → ∃ v, bx ζ L F y v) {y : Nat} {v : Int32} (hb : bx ζ L F y v) : MtV l D cls (ty5 κ) ζ yJx4a65c_add_7a177 cJx4a65c_add_7a177 5 none 6 1 32 ([.ref h, .int (nI i), .ref y] : List Value) L F (fun L' F' => (∀ x ∈ L, x ∈ L') ∧ ∃ q, q ∉ L ∧ RA κ h q (n + max 1 (n / 2)) (va_up (va_cpy (va_cpy f (fun _ => none) 0 0 n) (va_cpy f (fun _ => none) 0 0 n) i (i + 1) (n - i)) i (some y)) (md + 1) (nI (n + 1)) L' F' ∧ ∀ x ∈ L, x ≠ h → F' x = F x) := by
  refine MtV.of (by decide) (Nat.le_of_ble_eq_true rfl) ?_
  intro p e s m below meth c S hr hlk hini hK hW hST ls hl
  have hl : lv_has ls 5 [(0, .ref h), (1, .int (nI i)), (2, .ref y)] := hl
  obtain ⟨m_h, e_h, m_ar, n_h_ar, e_ar⟩ := hR
  have e0 := e_h
  have e_ar0 := e_ar
  have hfr : ∀ q, q ≠ h → q ≠ ar → F q = F q := fun _ _ _ => rfl
  refine lv_aload_n S.1 S.2.1 dJx4a65c_add_7a177_0 rfl (lv_at hl 0 rfl) ?_
  refine lv_iload_n S.1 S.2.1 dJx4a65c_add_7a177_1 rfl (lv_at hl 1 rfl) ?_
  refine pk_cVV (As := [.int (nI i)]) (rest := []) S hK hST hW (c_Jx4a65c_rangeCheckForAdd_d00df m_h e_h (nI_nlt hik (by omega)) (nI_pos' (by omega))) mc_Jx4a65c_rangeCheckForAdd_d00df wd_1254 wd_1256 wd_1706 rfl np_Jx4a65c_rangeCheckForAdd_d00df m_h e_h rfl rfl hl.1 rfl (Nat.le_of_ble_eq_true rfl) dJx4a65c_add_7a177_2 ⟨by decide, by decide⟩ ⟨by decide, by decide⟩ (fun L_1 F_2 H_3 l_4 hp hW => ?_)
  obtain ⟨rfl, rfl⟩ := hp
  refine lv_aload_n S.1 S.2.1 dJx4a65c_add_7a177_5 rfl (lv_at hl 0 rfl) ?_
  refine lv_dup S.1 S.2.1 dJx4a65c_add_7a177_6 rfl ?_
  refine pk_getU S hK hW 0 m_h e_h rfl hinJx4a65c (by decide) wd_1089 wd_1088 rfl dJx4a65c_add_7a177_7 ?_
  refine lv_iconst (v := 1) S.1 S.2.1 dJx4a65c_add_7a177_10 (by decide) ?_
  refine lv_iadd S.1 S.2.1 dJx4a65c_add_7a177_11 ?_
  refine pk_putU (v := .int (md + 1)) S hK hW 0 m_h e_h rfl hinJx4a65c tyJx4a65c_ok nmJx4a65c (by decide) wd_1089 wd_1088 rfl rfl rfl rfl (Nat.le_of_ble_eq_true rfl) dJx4a65c_add_7a177_12 (fun H_5 l_6 hW => ?_)
  have e_h : (va_up F h (.inr (4, ([.int md, .ref ar, .int (nI n)] : List Value).set 0 (.int (md + 1))))) h = .inr (4, [.int (md + 1), .ref ar, .int (nI n)]) := up_eq
  have e_ar : (va_up F h (.inr (4, ([.int md, .ref ar, .int (nI n)] : List Value).set 0 (.int (md + 1))))) ar = rfA (κ 3) n f := (up_ne n_h_ar.symm).trans e_ar
  have hfr : ∀ q, q ≠ h → q ≠ ar → (va_up F h (.inr (4, ([.int md, .ref ar, .int (nI n)] : List Value).set 0 (.int (md + 1))))) q = F q := fun q q1 q2 => (up_ne q1).trans (hfr q q1 q2)
  generalize va_up F h (.inr (4, ([.int md, .ref ar, .int (nI n)] : List Value).set 0 (.int (md + 1)))) = F_7 at hW e_h e_ar hfr
  refine lv_aload_n S.1 S.2.1 dJx4a65c_add_7a177_15 rfl (lv_at hl 0 rfl) ?_
  refine pk_get S hK hW 2 m_h e_h rfl hinJx4a65c (by decide) wd_1085 rfl dJx4a65c_add_7a177_16 ?_
  refine lv_dup S.1 S.2.1 dJx4a65c_add_7a177_19 rfl ?_
  refine lv_istore_n (lv' := [(3, .int (nI n)), (0, .ref h), (1, .int (nI i)), (2, .ref y)]) S.1 S.2.1 dJx4a65c_add_7a177_20 rfl hl (Nat.le_of_ble_eq_true rfl) rfl (fun ls hl => ?_)
  refine lv_aload_n S.1 S.2.1 dJx4a65c_add_7a177_21 rfl (lv_at hl 1 rfl) ?_
  refine pk_get S hK hW 1 m_h e_h rfl hinJx4a65c (by decide) wd_1083 rfl dJx4a65c_add_7a177_22 ?_
  refine lv_dup S.1 S.2.1 dJx4a65c_add_7a177_25 rfl ?_
  refine lv_astore (lv' := [(4, .ref ar), (3, .int (nI n)), (0, .ref h), (1, .int (nI i)), (2, .ref y)]) S.1 S.2.1 dJx4a65c_add_7a177_26 hl (Nat.le_of_ble_eq_true rfl) rfl (fun ls hl => ?_)
  refine pk_alen S hK hW 3 m_ar e_ar rfl rfl dJx4a65c_add_7a177_28 ?_
  refine lv_icmp_ne (tgt := 38) S.1 S.2.1 dJx4a65c_add_7a177_29 (by decide) (fun c1 => absurd rfl c1) (fun _ => ?_)
  refine lv_aload_n S.1 S.2.1 dJx4a65c_add_7a177_32 rfl (lv_at hl 2 rfl) ?_
  have hkb : ∀ x ∈ L, x ≠ h → F_7 x = F x := fun x hx xh => if xa : x = ar then by rw [xa, e_ar, e_ar0] else hfr x xh xa
  have hb := hb.keep e0 (fun x hx => hx) hkb
  have hel1 : ∀ i, i < n → ∀ y, f i = some y → ∃ v, bx ζ L F_7 y v := fun i hi y hy => by obtain ⟨v, hv⟩ := hel i hi y hy; exact ⟨v, hv.keep e0 (fun x hx => hx) hkb⟩
  have e_h9 := e_h
  refine pk_cVR (As := []) (rest := []) S hK hST hW (c_Jx4a65c_grow_d5877_own ⟨m_h, e_h, m_ar, n_h_ar, e_ar⟩ hn0 hn1 hel1) mc_Jx4a65c_grow_d5877 wd_1116 wd_1118 wd_1698 rfl np_Jx4a65c_grow_d5877 m_h e_h rfl rfl hl.1 rfl (Nat.le_of_ble_eq_true rfl) dJx4a65c_add_7a177_33 ⟨by decide, by decide⟩ ⟨by decide, by decide⟩ (fun q L1 F1 H1 l1 hp hW => ?_)
  obtain ⟨hsub1, hq_q, hR1, hfr1⟩ := hp
  obtain ⟨m_h1, e_h1, m_q, n_h_q, e_q⟩ := hR1
  have hb := hb.keep e_h9 hsub1 hfr1
  have hel2 : ∀ i, i < n → ∀ y, (va_cpy f (fun _ => none) 0 0 n) i = some y → ∃ v, bx ζ L1 F1 y v := fun i hi y hy => by
    obtain ⟨v, hv⟩ := hel1 i hi y (by rw [← hy]; simp only [va_cpy]; rw [if_pos ⟨Nat.zero_le _, by omega⟩]; simp)
    exact ⟨v, hv.keep e_h9 hsub1 hfr1⟩
  have m_h := m_h1
  have e_h := e_h1
  have hfr : ∀ x ∈ L, x ≠ h → F1 x = F x := fun x hx xh => (hfr1 x hx xh).trans (hkb x hx xh)
  refine lv_astore (lv' := [(4, .ref q), (3, .int (nI n)), (0, .ref h), (1, .int (nI i)), (2, .ref y)]) S.1 S.2.1 dJx4a65c_add_7a177_36 hl (Nat.le_of_ble_eq_true rfl) rfl (fun ls hl => ?_)
  refine lv_aload S.1 S.2.1 dJx4a65c_add_7a177_38 (lv_at hl 0 rfl) ?_
  refine lv_iload_n S.1 S.2.1 dJx4a65c_add_7a177_40 rfl (lv_at hl 3 rfl) ?_
  refine lv_aload S.1 S.2.1 dJx4a65c_add_7a177_41 (lv_at hl 0 rfl) ?_
  refine lv_iload_n S.1 S.2.1 dJx4a65c_add_7a177_43 rfl (lv_at hl 3 rfl) ?_
  refine lv_iconst (v := 1) S.1 S.2.1 dJx4a65c_add_7a177_44 (by decide) ?_
  refine lv_iadd S.1 S.2.1 dJx4a65c_add_7a177_45 ?_
  refine lv_topi (fun y_8 ey_8 => ?_)
  have ey_8 : y_8 = nI (i + 1) := ey_8.trans (nI_1 i)
  subst ey_8
  refine lv_iload_n S.1 S.2.1 dJx4a65c_add_7a177_46 rfl (lv_at hl 1 rfl) ?_
  refine lv_iload_n S.1 S.2.1 dJx4a65c_add_7a177_47 rfl (lv_at hl 3 rfl) ?_
  refine lv_isub S.1 S.2.1 dJx4a65c_add_7a177_48 ?_
  refine lv_topi (fun y_9 ey_9 => ?_)
  have ey_9 : y_9 = nI (n - i) := ey_9.trans (pk_sub (by omega))
  subst ey_9
  have hq9 : ∀ x, x ≠ q → (va_up F1 q (rfA (κ 3) (n + max 1 (n / 2)) (va_cpy (va_cpy f (fun _ => none) 0 0 n) (va_cpy f (fun _ => none) 0 0 n) i (i + 1) (n - i)))) x = F1 x := fun x xq => up_ne xq
  have hb0 := hb
  have e_q1 := e_q
  refine pk_copyq S hK hST hW wd_1271 wd_857 wd_856 wd_13 hl.1 3 rfl m_q e_q m_q e_q i (i + 1) (n - i) rfl rfl rfl (by omega) (by omega) (by omega) (by omega) (fun x hx y hy => hel2 (i + x) (by omega) y hy) (by decide) (Nat.le_of_ble_eq_true rfl) dJx4a65c_add_7a177_49 (fun H_10 l_11 hW => ?_)
  have e_h : (va_up F1 q (rfA (κ 3) (n + max 1 (n / 2)) (va_cpy (va_cpy f (fun _ => none) 0 0 n) (va_cpy f (fun _ => none) 0 0 n) i (i + 1) (n - i)))) h = .inr (4, [.int (md + 1), .ref q, .int (nI n)]) := (up_ne n_h_q).trans e_h
  have e_q : (va_up F1 q (rfA (κ 3) (n + max 1 (n / 2)) (va_cpy (va_cpy f (fun _ => none) 0 0 n) (va_cpy f (fun _ => none) 0 0 n) i (i + 1) (n - i)))) q = rfA (κ 3) (n + max 1 (n / 2)) (va_cpy (va_cpy f (fun _ => none) 0 0 n) (va_cpy f (fun _ => none) 0 0 n) i (i + 1) (n - i)) := up_eq
  have hfr : ∀ x ∈ L, x ≠ h → (va_up F1 q (rfA (κ 3) (n + max 1 (n / 2)) (va_cpy (va_cpy f (fun _ => none) 0 0 n) (va_cpy f (fun _ => none) 0 0 n) i (i + 1) (n - i)))) x = F x := fun x hx xh => (up_ne (fun (ee : x = q) => hq_q (ee ▸ hx))).trans (hfr x hx xh)
  generalize va_up F1 q (rfA (κ 3) (n + max 1 (n / 2)) (va_cpy (va_cpy f (fun _ => none) 0 0 n) (va_cpy f (fun _ => none) 0 0 n) i (i + 1) (n - i))) = F_12 at hW e_h e_q hfr hq9
  refine lv_aload S.1 S.2.1 dJx4a65c_add_7a177_52 (lv_at hl 0 rfl) ?_
  refine lv_iload_n S.1 S.2.1 dJx4a65c_add_7a177_54 rfl (lv_at hl 3 rfl) ?_
  refine lv_aload_n S.1 S.2.1 dJx4a65c_add_7a177_55 rfl (lv_at hl 4 rfl) ?_
  have hb : bx ζ L1 F_12 y v := by
    rcases hb with ⟨b1, b2⟩ | b
    · have ya : y ≠ q := fun ee => by rw [ee, e_q1] at b2; cases b2
      exact Or.inl ⟨b1, (hq9 y ya).trans b2⟩
    · exact Or.inr b
  refine pk_aast S hK hW 3 m_q e_q rfl (bx_cell hK hW hST hb) (hST.1.1 _ wn_26) (vp_in_nI (by omega) (by omega)) dJx4a65c_add_7a177_56 (fun H_13 l_14 hW => ?_)
  rw [show (nI i).toNatClampNeg = i from nI_clamp (by omega)] at hW
  have e_h : (va_up F_12 q (rfA (κ 3) (n + max 1 (n / 2)) (va_up (va_cpy (va_cpy f (fun _ => none) 0 0 n) (va_cpy f (fun _ => none) 0 0 n) i (i + 1) (n - i)) i (some y)))) h = .inr (4, [.int (md + 1), .ref q, .int (nI n)]) := (up_ne n_h_q).trans e_h
  have e_q : (va_up F_12 q (rfA (κ 3) (n + max 1 (n / 2)) (va_up (va_cpy (va_cpy f (fun _ => none) 0 0 n) (va_cpy f (fun _ => none) 0 0 n) i (i + 1) (n - i)) i (some y)))) q = rfA (κ 3) (n + max 1 (n / 2)) (va_up (va_cpy (va_cpy f (fun _ => none) 0 0 n) (va_cpy f (fun _ => none) 0 0 n) i (i + 1) (n - i)) i (some y)) := up_eq
  have hfr : ∀ x ∈ L, x ≠ h → (va_up F_12 q (rfA (κ 3) (n + max 1 (n / 2)) (va_up (va_cpy (va_cpy f (fun _ => none) 0 0 n) (va_cpy f (fun _ => none) 0 0 n) i (i + 1) (n - i)) i (some y)))) x = F x := fun x hx xh => (up_ne (fun (ee : x = q) => hq_q (ee ▸ hx))).trans (hfr x hx xh)
  generalize va_up F_12 q (rfA (κ 3) (n + max 1 (n / 2)) (va_up (va_cpy (va_cpy f (fun _ => none) 0 0 n) (va_cpy f (fun _ => none) 0 0 n) i (i + 1) (n - i)) i (some y))) = F_15 at hW e_h e_q hfr
  refine lv_aload_n S.1 S.2.1 dJx4a65c_add_7a177_57 rfl (lv_at hl 2 rfl) ?_
  refine lv_iload_n S.1 S.2.1 dJx4a65c_add_7a177_58 rfl (lv_at hl 1 rfl) ?_
  refine lv_iconst (v := 1) S.1 S.2.1 dJx4a65c_add_7a177_59 (by decide) ?_
  refine lv_iadd S.1 S.2.1 dJx4a65c_add_7a177_60 ?_
  refine lv_topi (fun y_16 ey_16 => ?_)
  have ey_16 : y_16 = nI (n + 1) := ey_16.trans (nI_1 n)
  subst ey_16
  refine pk_put (v := .int (nI (n + 1))) S hK hW 2 m_h e_h rfl hinJx4a65c tyJx4a65c_ok nmJx4a65c (by decide) wd_1085 rfl rfl rfl rfl (Nat.le_of_ble_eq_true rfl) dJx4a65c_add_7a177_61 (fun H_17 l_18 hW => ?_)
  have e_h : (va_up F_15 h (.inr (4, ([.int (md + 1), .ref q, .int (nI n)] : List Value).set 2 (.int (nI (n + 1)))))) h = .inr (4, [.int (md + 1), .ref q, .int (nI (n + 1))]) := up_eq
  have e_q : (va_up F_15 h (.inr (4, ([.int (md + 1), .ref q, .int (nI n)] : List Value).set 2 (.int (nI (n + 1)))))) q = rfA (κ 3) (n + max 1 (n / 2)) (va_up (va_cpy (va_cpy f (fun _ => none) 0 0 n) (va_cpy f (fun _ => none) 0 0 n) i (i + 1) (n - i)) i (some y)) := (up_ne n_h_q.symm).trans e_q
  have hfr : ∀ x ∈ L, x ≠ h → (va_up F_15 h (.inr (4, ([.int (md + 1), .ref q, .int (nI n)] : List Value).set 2 (.int (nI (n + 1)))))) x = F x := fun x hx xh => (up_ne xh).trans (hfr x hx xh)
  generalize va_up F_15 h (.inr (4, ([.int (md + 1), .ref q, .int (nI n)] : List Value).set 2 (.int (nI (n + 1))))) = F_19 at hW e_h e_q hfr
  exact pk_vret S hr hlk hW ⟨hsub1, q, hq_q, ⟨m_h, e_h, m_q, n_h_q, e_q⟩, hfr⟩ (by decide) (by decide) dJx4a65c_add_7a177_64
set_option maxHeartbeats 4000000 in
set_option maxRecDepth 100000 in
theorem c_Jx4a65c_add_7a177_new {l : Launch} {D : va_G} {κ : Nat → ClassId} {ζ : Nat → Nat} {L : List Nat} {F : Nat → va_E} {h : Nat} {md : Int32} (hR : RE ζ h md 0 L F) {y : Nat} {v : Int32} (hb : bx ζ L F y v) : MtV l D cls (ty5 κ) ζ yJx4a65c_add_7a177 cJx4a65c_add_7a177 5 none 6 1 32 ([.ref h, .int (nI 0), .ref y] : List Value) L F (fun L' F' => (∀ x ∈ L, x ∈ L') ∧ ∃ q, q ∉ L ∧ RA κ h q 10 (va_up (va_cpy (fun _ => none) (fun _ => none) 0 (0 + 1) 0) 0 (some y)) (md + 1) (nI (0 + 1)) L' F' ∧ ∀ x ∈ L, x ≠ h → F' x = F x) := by
  refine MtV.of (by decide) (Nat.le_of_ble_eq_true rfl) ?_
  intro p e s m below meth c S hr hlk hini hK hW hST ls hl
  have hl : lv_has ls 5 [(0, .ref h), (1, .int (nI 0)), (2, .ref y)] := hl
  obtain ⟨m_h, e_h⟩ := hR
  have e0 := e_h
  have hfr : ∀ q, q ≠ h → F q = F q := fun _ _ => rfl
  refine lv_aload_n S.1 S.2.1 dJx4a65c_add_7a177_0 rfl (lv_at hl 0 rfl) ?_
  refine lv_iload_n S.1 S.2.1 dJx4a65c_add_7a177_1 rfl (lv_at hl 1 rfl) ?_
  refine pk_cVV (As := [.int (nI 0)]) (rest := []) S hK hST hW (c_Jx4a65c_rangeCheckForAdd_d00df m_h e_h (by decide) (by decide)) mc_Jx4a65c_rangeCheckForAdd_d00df wd_1254 wd_1256 wd_1706 rfl np_Jx4a65c_rangeCheckForAdd_d00df m_h e_h rfl rfl hl.1 rfl (Nat.le_of_ble_eq_true rfl) dJx4a65c_add_7a177_2 ⟨by decide, by decide⟩ ⟨by decide, by decide⟩ (fun L_1 F_2 H_3 l_4 hp hW => ?_)
  obtain ⟨rfl, rfl⟩ := hp
  refine lv_aload_n S.1 S.2.1 dJx4a65c_add_7a177_5 rfl (lv_at hl 0 rfl) ?_
  refine lv_dup S.1 S.2.1 dJx4a65c_add_7a177_6 rfl ?_
  refine pk_getU S hK hW 0 m_h e_h rfl hinJx4a65c (by decide) wd_1089 wd_1088 rfl dJx4a65c_add_7a177_7 ?_
  refine lv_iconst (v := 1) S.1 S.2.1 dJx4a65c_add_7a177_10 (by decide) ?_
  refine lv_iadd S.1 S.2.1 dJx4a65c_add_7a177_11 ?_
  refine pk_putU (v := .int (md + 1)) S hK hW 0 m_h e_h rfl hinJx4a65c tyJx4a65c_ok nmJx4a65c (by decide) wd_1089 wd_1088 rfl rfl rfl rfl (Nat.le_of_ble_eq_true rfl) dJx4a65c_add_7a177_12 (fun H_5 l_6 hW => ?_)
  have e_h : (va_up F h (.inr (4, ([.int md, .ref (ζ 256), .int 0] : List Value).set 0 (.int (md + 1))))) h = .inr (4, [.int (md + 1), .ref (ζ 256), .int 0]) := up_eq
  have hfr : ∀ q, q ≠ h → (va_up F h (.inr (4, ([.int md, .ref (ζ 256), .int 0] : List Value).set 0 (.int (md + 1))))) q = F q := fun q q1 => (up_ne q1).trans (hfr q q1)
  generalize va_up F h (.inr (4, ([.int md, .ref (ζ 256), .int 0] : List Value).set 0 (.int (md + 1)))) = F_7 at hW e_h hfr
  refine lv_aload_n S.1 S.2.1 dJx4a65c_add_7a177_15 rfl (lv_at hl 0 rfl) ?_
  refine pk_get S hK hW 2 m_h e_h rfl hinJx4a65c (by decide) wd_1085 rfl dJx4a65c_add_7a177_16 ?_
  refine lv_dup S.1 S.2.1 dJx4a65c_add_7a177_19 rfl ?_
  refine lv_istore_n (lv' := [(3, .int 0), (0, .ref h), (1, .int (nI 0)), (2, .ref y)]) S.1 S.2.1 dJx4a65c_add_7a177_20 rfl hl (Nat.le_of_ble_eq_true rfl) rfl (fun ls hl => ?_)
  refine lv_aload_n S.1 S.2.1 dJx4a65c_add_7a177_21 rfl (lv_at hl 1 rfl) ?_
  refine pk_get S hK hW 1 m_h e_h rfl hinJx4a65c (by decide) wd_1083 rfl dJx4a65c_add_7a177_22 ?_
  refine lv_dup S.1 S.2.1 dJx4a65c_add_7a177_25 rfl ?_
  refine lv_astore (lv' := [(4, .ref (ζ 256)), (3, .int 0), (0, .ref h), (1, .int (nI 0)), (2, .ref y)]) S.1 S.2.1 dJx4a65c_add_7a177_26 hl (Nat.le_of_ble_eq_true rfl) rfl (fun ls hl => ?_)
  refine va_tlen (v := 0) S.1 S.2.1 hST.2.tEmpty hW.2.2 rfl dJx4a65c_add_7a177_28 ?_
  refine lv_icmp_ne (tgt := 38) S.1 S.2.1 dJx4a65c_add_7a177_29 (by decide) (fun c1 => absurd rfl c1) (fun _ => ?_)
  refine lv_aload_n S.1 S.2.1 dJx4a65c_add_7a177_32 rfl (lv_at hl 2 rfl) ?_
  have hb := hb.keep e0 (fun x hx => hx) (fun x _ hx => hfr x hx)
  have e_h9 := e_h
  have hfr0 := hfr
  refine pk_cVR (As := []) (rest := []) S hK hST hW (c_Jx4a65c_grow_d5877_new ⟨m_h, e_h⟩) mc_Jx4a65c_grow_d5877 wd_1116 wd_1118 wd_1698 rfl np_Jx4a65c_grow_d5877 m_h e_h rfl rfl hl.1 rfl (Nat.le_of_ble_eq_true rfl) dJx4a65c_add_7a177_33 ⟨by decide, by decide⟩ ⟨by decide, by decide⟩ (fun q L1 F1 H1 l1 hp hW => ?_)
  obtain ⟨hsub1, hq_q, hR1, hfr1⟩ := hp
  obtain ⟨m_h1, e_h1, m_q, n_h_q, e_q⟩ := hR1
  have hb := hb.keep e_h9 hsub1 hfr1
  have m_h := m_h1
  have e_h := e_h1
  have hfr : ∀ x ∈ L, x ≠ h → F1 x = F x := fun x hx xh => (hfr1 x hx xh).trans (hfr0 x xh)
  refine lv_astore (lv' := [(4, .ref q), (3, .int 0), (0, .ref h), (1, .int (nI 0)), (2, .ref y)]) S.1 S.2.1 dJx4a65c_add_7a177_36 hl (Nat.le_of_ble_eq_true rfl) rfl (fun ls hl => ?_)
  refine lv_aload S.1 S.2.1 dJx4a65c_add_7a177_38 (lv_at hl 0 rfl) ?_
  refine lv_iload_n S.1 S.2.1 dJx4a65c_add_7a177_40 rfl (lv_at hl 3 rfl) ?_
  refine lv_aload S.1 S.2.1 dJx4a65c_add_7a177_41 (lv_at hl 0 rfl) ?_
  refine lv_iload_n S.1 S.2.1 dJx4a65c_add_7a177_43 rfl (lv_at hl 3 rfl) ?_
  refine lv_iconst (v := 1) S.1 S.2.1 dJx4a65c_add_7a177_44 (by decide) ?_
  refine lv_iadd S.1 S.2.1 dJx4a65c_add_7a177_45 ?_
  refine lv_topi (fun y_8 ey_8 => ?_)
  have ey_8 : y_8 = nI (0 + 1) := ey_8.trans (nI_1 0)
  subst ey_8
  refine lv_iload_n S.1 S.2.1 dJx4a65c_add_7a177_46 rfl (lv_at hl 1 rfl) ?_
  refine lv_iload_n S.1 S.2.1 dJx4a65c_add_7a177_47 rfl (lv_at hl 3 rfl) ?_
  refine lv_isub S.1 S.2.1 dJx4a65c_add_7a177_48 ?_
  refine lv_topi (fun y_9 ey_9 => ?_)
  have ey_9 : y_9 = nI 0 := ey_9.trans (rfl)
  subst ey_9
  have e_q1 := e_q
  have hq9 : ∀ x, x ≠ q → (va_up F1 q (rfA (κ 3) 10 (va_cpy (fun _ => none) (fun _ => none) 0 (0 + 1) 0))) x = F1 x := fun x xq => up_ne xq
  refine pk_copyq S hK hST hW wd_1271 wd_857 wd_856 wd_13 hl.1 3 rfl m_q e_q m_q e_q 0 (0 + 1) 0 rfl rfl rfl (by omega) (by omega) (by omega) (by omega) (fun x hx y hy => absurd hx (Nat.not_lt_zero x)) (by decide) (Nat.le_of_ble_eq_true rfl) dJx4a65c_add_7a177_49 (fun H_10 l_11 hW => ?_)
  have e_h : (va_up F1 q (rfA (κ 3) 10 (va_cpy (fun _ => none) (fun _ => none) 0 (0 + 1) 0))) h = .inr (4, [.int (md + 1), .ref q, .int 0]) := (up_ne n_h_q).trans e_h
  have e_q : (va_up F1 q (rfA (κ 3) 10 (va_cpy (fun _ => none) (fun _ => none) 0 (0 + 1) 0))) q = rfA (κ 3) 10 (va_cpy (fun _ => none) (fun _ => none) 0 (0 + 1) 0) := up_eq
  have hfr : ∀ x ∈ L, x ≠ h → (va_up F1 q (rfA (κ 3) 10 (va_cpy (fun _ => none) (fun _ => none) 0 (0 + 1) 0))) x = F x := fun x hx xh => (up_ne (fun (ee : x = q) => hq_q (ee ▸ hx))).trans (hfr x hx xh)
  generalize va_up F1 q (rfA (κ 3) 10 (va_cpy (fun _ => none) (fun _ => none) 0 (0 + 1) 0)) = F_12 at hW e_h e_q hfr hq9
  refine lv_aload S.1 S.2.1 dJx4a65c_add_7a177_52 (lv_at hl 0 rfl) ?_
  refine lv_iload_n S.1 S.2.1 dJx4a65c_add_7a177_54 rfl (lv_at hl 3 rfl) ?_
  refine lv_aload_n S.1 S.2.1 dJx4a65c_add_7a177_55 rfl (lv_at hl 4 rfl) ?_
  have hb : bx ζ L1 F_12 y v := by
    rcases hb with ⟨b1, b2⟩ | b
    · have ya : y ≠ q := fun ee => by rw [ee, e_q1] at b2; cases b2
      exact Or.inl ⟨b1, (hq9 y ya).trans b2⟩
    · exact Or.inr b
  refine pk_aast S hK hW 3 m_q e_q rfl (bx_cell hK hW hST hb) (hST.1.1 _ wn_26) (vp_in_nI (by omega) (by omega)) dJx4a65c_add_7a177_56 (fun H_13 l_14 hW => ?_)
  rw [show (nI 0).toNatClampNeg = 0 from nI_clamp (by omega)] at hW
  have e_h : (va_up F_12 q (rfA (κ 3) 10 (va_up (va_cpy (fun _ => none) (fun _ => none) 0 (0 + 1) 0) 0 (some y)))) h = .inr (4, [.int (md + 1), .ref q, .int 0]) := (up_ne n_h_q).trans e_h
  have e_q : (va_up F_12 q (rfA (κ 3) 10 (va_up (va_cpy (fun _ => none) (fun _ => none) 0 (0 + 1) 0) 0 (some y)))) q = rfA (κ 3) 10 (va_up (va_cpy (fun _ => none) (fun _ => none) 0 (0 + 1) 0) 0 (some y)) := up_eq
  have hfr : ∀ x ∈ L, x ≠ h → (va_up F_12 q (rfA (κ 3) 10 (va_up (va_cpy (fun _ => none) (fun _ => none) 0 (0 + 1) 0) 0 (some y)))) x = F x := fun x hx xh => (up_ne (fun (ee : x = q) => hq_q (ee ▸ hx))).trans (hfr x hx xh)
  generalize va_up F_12 q (rfA (κ 3) 10 (va_up (va_cpy (fun _ => none) (fun _ => none) 0 (0 + 1) 0) 0 (some y))) = F_15 at hW e_h e_q hfr
  refine lv_aload_n S.1 S.2.1 dJx4a65c_add_7a177_57 rfl (lv_at hl 2 rfl) ?_
  refine lv_iload_n S.1 S.2.1 dJx4a65c_add_7a177_58 rfl (lv_at hl 1 rfl) ?_
  refine lv_iconst (v := 1) S.1 S.2.1 dJx4a65c_add_7a177_59 (by decide) ?_
  refine lv_iadd S.1 S.2.1 dJx4a65c_add_7a177_60 ?_
  refine lv_topi (fun y_16 ey_16 => ?_)
  have ey_16 : y_16 = nI (0 + 1) := ey_16.trans (rfl)
  subst ey_16
  refine pk_put (v := .int (nI (0 + 1))) S hK hW 2 m_h e_h rfl hinJx4a65c tyJx4a65c_ok nmJx4a65c (by decide) wd_1085 rfl rfl rfl rfl (Nat.le_of_ble_eq_true rfl) dJx4a65c_add_7a177_61 (fun H_17 l_18 hW => ?_)
  have e_h : (va_up F_15 h (.inr (4, ([.int (md + 1), .ref q, .int 0] : List Value).set 2 (.int (nI (0 + 1)))))) h = .inr (4, [.int (md + 1), .ref q, .int (nI (0 + 1))]) := up_eq
  have e_q : (va_up F_15 h (.inr (4, ([.int (md + 1), .ref q, .int 0] : List Value).set 2 (.int (nI (0 + 1)))))) q = rfA (κ 3) 10 (va_up (va_cpy (fun _ => none) (fun _ => none) 0 (0 + 1) 0) 0 (some y)) := (up_ne n_h_q.symm).trans e_q
  have hfr : ∀ x ∈ L, x ≠ h → (va_up F_15 h (.inr (4, ([.int (md + 1), .ref q, .int 0] : List Value).set 2 (.int (nI (0 + 1)))))) x = F x := fun x hx xh => (up_ne xh).trans (hfr x hx xh)
  generalize va_up F_15 h (.inr (4, ([.int (md + 1), .ref q, .int 0] : List Value).set 2 (.int (nI (0 + 1))))) = F_19 at hW e_h e_q hfr
  exact pk_vret S hr hlk hW ⟨hsub1, q, hq_q, ⟨m_h, e_h, m_q, n_h_q, e_q⟩, hfr⟩ (by decide) (by decide) dJx4a65c_add_7a177_64
