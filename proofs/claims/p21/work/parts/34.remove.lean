/-! ArrayList: remove, clear, its makers; Integer; the iterator -/
theorem mc_Jx4a65c_fastRemove_b59b0 : MCode yJx4a65c_fastRemove_b59b0 cJx4a65c_fastRemove_b59b0 4 none := ⟨wd_1287, wd_8, by decide, by decide⟩
theorem np_Jx4a65c_fastRemove_b59b0 : (parseMethodDescriptor yJx4a65c_fastRemove_b59b0.desc).map (fun d => d.parameters.length) = some 2 := by decide +kernel
set_option maxHeartbeats 4000000 in
set_option maxRecDepth 100000 in
theorem c_Jx4a65c_fastRemove_b59b0 {l : Launch} {D : va_G} {κ : Nat → ClassId} {ζ : Nat → Nat} {L : List Nat} {F : Nat → va_E} {h ar n k i : Nat} {f : Nat → Option Nat} {md : Int32} (hR : RA κ h ar n f md (nI k) L F) (hik : i < k) (hk : k ≤ n) (hn : n ≤ 32) (hel : ∀ i, i < k → ∀ y, f i = some y → ∃ v, bx ζ L F y v) : MtV l D cls (ty5 κ) ζ yJx4a65c_fastRemove_b59b0 cJx4a65c_fastRemove_b59b0 4 none 2 0 0 ([.ref h, .ref ar, .int (nI i)] : List Value) L F (fun L' F' => L = L' ∧ (∃ f', RA κ h ar n f' (md + 1) (nI (k - 1)) L F' ∧ ∀ j, j < k - 1 → f' j = if j < i then f j else f (j + 1)) ∧ FrR h ar F F') := by
  refine MtV.of (by decide) (Nat.le_of_ble_eq_true rfl) ?_
  intro p e s m below meth c S hr hlk hini hK hW hST ls hl
  have hl : lv_has ls 4 [(0, .ref h), (1, .ref ar), (2, .int (nI i))] := hl
  obtain ⟨m_h, e_h, m_ar, n_h_ar, e_ar⟩ := hR
  have e0 := e_h
  have e_ar0 := e_ar
  have hfr : ∀ q, q ≠ h → q ≠ ar → F q = F q := fun _ _ _ => rfl
  refine lv_aload_n S.1 S.2.1 dJx4a65c_fastRemove_b59b0_0 rfl (lv_at hl 0 rfl) ?_
  refine lv_dup S.1 S.2.1 dJx4a65c_fastRemove_b59b0_1 rfl ?_
  refine pk_getU S hK hW 0 m_h e_h rfl hinJx4a65c (by decide) wd_1089 wd_1088 rfl dJx4a65c_fastRemove_b59b0_2 ?_
  refine lv_iconst (v := 1) S.1 S.2.1 dJx4a65c_fastRemove_b59b0_5 (by decide) ?_
  refine lv_iadd S.1 S.2.1 dJx4a65c_fastRemove_b59b0_6 ?_
  refine pk_putU (v := .int (md + 1)) S hK hW 0 m_h e_h rfl hinJx4a65c tyJx4a65c_ok nmJx4a65c (by decide) wd_1089 wd_1088 rfl rfl rfl rfl (Nat.le_of_ble_eq_true rfl) dJx4a65c_fastRemove_b59b0_7 (fun H_1 l_2 hW => ?_)
  have e_h : (va_up F h (.inr (4, ([.int md, .ref ar, .int (nI k)] : List Value).set 0 (.int (md + 1))))) h = .inr (4, [.int (md + 1), .ref ar, .int (nI k)]) := up_eq
  have e_ar : (va_up F h (.inr (4, ([.int md, .ref ar, .int (nI k)] : List Value).set 0 (.int (md + 1))))) ar = rfA (κ 3) n f := (up_ne n_h_ar.symm).trans e_ar
  have hfr : ∀ q, q ≠ h → q ≠ ar → (va_up F h (.inr (4, ([.int md, .ref ar, .int (nI k)] : List Value).set 0 (.int (md + 1))))) q = F q := fun q q1 q2 => (up_ne q1).trans (hfr q q1 q2)
  generalize va_up F h (.inr (4, ([.int md, .ref ar, .int (nI k)] : List Value).set 0 (.int (md + 1)))) = F_3 at hW e_h e_ar hfr
  refine lv_aload_n S.1 S.2.1 dJx4a65c_fastRemove_b59b0_10 rfl (lv_at hl 0 rfl) ?_
  refine pk_get S hK hW 2 m_h e_h rfl hinJx4a65c (by decide) wd_1085 rfl dJx4a65c_fastRemove_b59b0_11 ?_
  refine lv_iconst (v := 1) S.1 S.2.1 dJx4a65c_fastRemove_b59b0_14 (by decide) ?_
  refine lv_isub S.1 S.2.1 dJx4a65c_fastRemove_b59b0_15 ?_
  refine lv_topi (fun y_4 ey_4 => ?_)
  have ey_4 : y_4 = nI (k - 1) := ey_4.trans (pk_sub (b := 1) (a := k) (by omega))
  subst ey_4
  refine lv_dup S.1 S.2.1 dJx4a65c_fastRemove_b59b0_16 rfl ?_
  refine lv_istore_n (lv' := [(3, .int (nI (k - 1))), (0, .ref h), (1, .ref ar), (2, .int (nI i))]) S.1 S.2.1 dJx4a65c_fastRemove_b59b0_17 rfl hl (Nat.le_of_ble_eq_true rfl) rfl (fun ls hl => ?_)
  refine lv_iload_n S.1 S.2.1 dJx4a65c_fastRemove_b59b0_18 rfl (lv_at hl 3 rfl) ?_
  refine lv_icmp_le (tgt := 34) S.1 S.2.1 dJx4a65c_fastRemove_b59b0_19 (by decide) (fun c1 => ?_) (fun c1 => ?_)
  · have hlast : i = k - 1 := by have := (nI_leI (by omega) (by omega)).mp c1; omega
    refine lv_aload_n S.1 S.2.1 dJx4a65c_fastRemove_b59b0_34 rfl (lv_at hl 2 rfl) ?_
    refine lv_aload_n S.1 S.2.1 dJx4a65c_fastRemove_b59b0_35 rfl (lv_at hl 1 rfl) ?_
    refine lv_iload_n S.1 S.2.1 dJx4a65c_fastRemove_b59b0_36 rfl (lv_at hl 0 rfl) ?_
    refine lv_dup_x1 S.1 S.2.1 dJx4a65c_fastRemove_b59b0_37 rfl rfl ?_
    refine pk_put (v := .int (nI (k - 1))) S hK hW 2 m_h e_h rfl hinJx4a65c tyJx4a65c_ok nmJx4a65c (by decide) wd_1085 rfl rfl rfl rfl (Nat.le_of_ble_eq_true rfl) dJx4a65c_fastRemove_b59b0_38 (fun H_5 l_6 hW => ?_)
    have e_h : (va_up F_3 h (.inr (4, ([.int (md + 1), .ref ar, .int (nI k)] : List Value).set 2 (.int (nI (k - 1)))))) h = .inr (4, [.int (md + 1), .ref ar, .int (nI (k - 1))]) := up_eq
    have e_ar : (va_up F_3 h (.inr (4, ([.int (md + 1), .ref ar, .int (nI k)] : List Value).set 2 (.int (nI (k - 1)))))) ar = rfA (κ 3) n f := (up_ne n_h_ar.symm).trans e_ar
    have hfr : ∀ q, q ≠ h → q ≠ ar → (va_up F_3 h (.inr (4, ([.int (md + 1), .ref ar, .int (nI k)] : List Value).set 2 (.int (nI (k - 1)))))) q = F q := fun q q1 q2 => (up_ne q1).trans (hfr q q1 q2)
    generalize va_up F_3 h (.inr (4, ([.int (md + 1), .ref ar, .int (nI k)] : List Value).set 2 (.int (nI (k - 1))))) = F_7 at hW e_h e_ar hfr
    refine lv_null S.1 S.2.1 dJx4a65c_fastRemove_b59b0_41 ?_
    refine pk_aastN S hK hW 3 m_ar e_ar rfl (vp_in_nI (by omega) (by omega)) dJx4a65c_fastRemove_b59b0_42 (fun H_8 l_9 hW => ?_)
    rw [show (nI (k - 1)).toNatClampNeg = (k - 1) from nI_clamp (by omega)] at hW
    have e_h : (va_up F_7 ar (rfA (κ 3) n (va_up f (k - 1) none))) h = .inr (4, [.int (md + 1), .ref ar, .int (nI (k - 1))]) := (up_ne n_h_ar).trans e_h
    have e_ar : (va_up F_7 ar (rfA (κ 3) n (va_up f (k - 1) none))) ar = rfA (κ 3) n (va_up f (k - 1) none) := up_eq
    have hfr : ∀ q, q ≠ h → q ≠ ar → (va_up F_7 ar (rfA (κ 3) n (va_up f (k - 1) none))) q = F q := fun q q1 q2 => (up_ne q2).trans (hfr q q1 q2)
    generalize va_up F_7 ar (rfA (κ 3) n (va_up f (k - 1) none)) = F_10 at hW e_h e_ar hfr
    exact pk_vret S hr hlk hW ⟨rfl, ⟨_, ⟨m_h, e_h, m_ar, n_h_ar, e_ar⟩, fun j hj => by rw [up_ne (by omega), if_pos (by omega)]⟩, hfr⟩ (by decide) (by decide) dJx4a65c_fastRemove_b59b0_43
  · have hlt : i < k - 1 := by rcases Nat.lt_or_ge i (k - 1) with q | q; exact q; exact absurd ((nI_leI (by omega) (by omega)).mpr q) c1
    refine lv_aload_n S.1 S.2.1 dJx4a65c_fastRemove_b59b0_22 rfl (lv_at hl 2 rfl) ?_
    refine lv_iload_n S.1 S.2.1 dJx4a65c_fastRemove_b59b0_23 rfl (lv_at hl 3 rfl) ?_
    refine lv_iconst (v := 1) S.1 S.2.1 dJx4a65c_fastRemove_b59b0_24 (by decide) ?_
    refine lv_iadd S.1 S.2.1 dJx4a65c_fastRemove_b59b0_25 ?_
    refine lv_topi (fun y_11 ey_11 => ?_)
    have ey_11 : y_11 = nI (i + 1) := ey_11.trans (nI_1 i)
    subst ey_11
    refine lv_aload_n S.1 S.2.1 dJx4a65c_fastRemove_b59b0_26 rfl (lv_at hl 2 rfl) ?_
    refine lv_iload_n S.1 S.2.1 dJx4a65c_fastRemove_b59b0_27 rfl (lv_at hl 3 rfl) ?_
    refine lv_iload_n S.1 S.2.1 dJx4a65c_fastRemove_b59b0_28 rfl (lv_at hl 0 rfl) ?_
    refine lv_iload_n S.1 S.2.1 dJx4a65c_fastRemove_b59b0_29 rfl (lv_at hl 3 rfl) ?_
    refine lv_isub S.1 S.2.1 dJx4a65c_fastRemove_b59b0_30 ?_
    refine lv_topi (fun y_12 ey_12 => ?_)
    have ey_12 : y_12 = nI (k - 1 - i) := ey_12.trans (pk_sub (by omega))
    subst ey_12
    have hel1 : ∀ i, i < k → ∀ y, f i = some y → ∃ v, bx ζ L F_3 y v := fun i hi y hy => by obtain ⟨v, hv⟩ := hel i hi y hy; exact ⟨v, hv.keep e0 (fun x hx => hx) (fun x hx xh => if xa : x = ar then by rw [xa, e_ar, e_ar0] else hfr x xh xa)⟩
    refine pk_copyq S hK hST hW wd_1271 wd_857 wd_856 wd_13 hl.1 3 rfl m_ar e_ar m_ar e_ar (i + 1) i (k - 1 - i) rfl rfl rfl (by omega) (by omega) (by omega) (by omega) (fun q hq y hy => hel1 (i + 1 + q) (by omega) y hy) (by decide) (Nat.le_of_ble_eq_true rfl) dJx4a65c_fastRemove_b59b0_31 (fun H_13 l_14 hW => ?_)
    have e_h : (va_up F_3 ar (rfA (κ 3) n (va_cpy f f (i + 1) i (k - 1 - i)))) h = .inr (4, [.int (md + 1), .ref ar, .int (nI k)]) := (up_ne n_h_ar).trans e_h
    have e_ar : (va_up F_3 ar (rfA (κ 3) n (va_cpy f f (i + 1) i (k - 1 - i)))) ar = rfA (κ 3) n (va_cpy f f (i + 1) i (k - 1 - i)) := up_eq
    have hfr : ∀ q, q ≠ h → q ≠ ar → (va_up F_3 ar (rfA (κ 3) n (va_cpy f f (i + 1) i (k - 1 - i)))) q = F q := fun q q1 q2 => (up_ne q2).trans (hfr q q1 q2)
    generalize va_up F_3 ar (rfA (κ 3) n (va_cpy f f (i + 1) i (k - 1 - i))) = F_15 at hW e_h e_ar hfr
    refine lv_aload_n S.1 S.2.1 dJx4a65c_fastRemove_b59b0_34 rfl (lv_at hl 2 rfl) ?_
    refine lv_aload_n S.1 S.2.1 dJx4a65c_fastRemove_b59b0_35 rfl (lv_at hl 1 rfl) ?_
    refine lv_iload_n S.1 S.2.1 dJx4a65c_fastRemove_b59b0_36 rfl (lv_at hl 0 rfl) ?_
    refine lv_dup_x1 S.1 S.2.1 dJx4a65c_fastRemove_b59b0_37 rfl rfl ?_
    refine pk_put (v := .int (nI (k - 1))) S hK hW 2 m_h e_h rfl hinJx4a65c tyJx4a65c_ok nmJx4a65c (by decide) wd_1085 rfl rfl rfl rfl (Nat.le_of_ble_eq_true rfl) dJx4a65c_fastRemove_b59b0_38 (fun H_16 l_17 hW => ?_)
    have e_h : (va_up F_15 h (.inr (4, ([.int (md + 1), .ref ar, .int (nI k)] : List Value).set 2 (.int (nI (k - 1)))))) h = .inr (4, [.int (md + 1), .ref ar, .int (nI (k - 1))]) := up_eq
    have e_ar : (va_up F_15 h (.inr (4, ([.int (md + 1), .ref ar, .int (nI k)] : List Value).set 2 (.int (nI (k - 1)))))) ar = rfA (κ 3) n (va_cpy f f (i + 1) i (k - 1 - i)) := (up_ne n_h_ar.symm).trans e_ar
    have hfr : ∀ q, q ≠ h → q ≠ ar → (va_up F_15 h (.inr (4, ([.int (md + 1), .ref ar, .int (nI k)] : List Value).set 2 (.int (nI (k - 1)))))) q = F q := fun q q1 q2 => (up_ne q1).trans (hfr q q1 q2)
    generalize va_up F_15 h (.inr (4, ([.int (md + 1), .ref ar, .int (nI k)] : List Value).set 2 (.int (nI (k - 1))))) = F_18 at hW e_h e_ar hfr
    refine lv_null S.1 S.2.1 dJx4a65c_fastRemove_b59b0_41 ?_
    refine pk_aastN S hK hW 3 m_ar e_ar rfl (vp_in_nI (by omega) (by omega)) dJx4a65c_fastRemove_b59b0_42 (fun H_19 l_20 hW => ?_)
    rw [show (nI (k - 1)).toNatClampNeg = (k - 1) from nI_clamp (by omega)] at hW
    have e_h : (va_up F_18 ar (rfA (κ 3) n (va_up (va_cpy f f (i + 1) i (k - 1 - i)) (k - 1) none))) h = .inr (4, [.int (md + 1), .ref ar, .int (nI (k - 1))]) := (up_ne n_h_ar).trans e_h
    have e_ar : (va_up F_18 ar (rfA (κ 3) n (va_up (va_cpy f f (i + 1) i (k - 1 - i)) (k - 1) none))) ar = rfA (κ 3) n (va_up (va_cpy f f (i + 1) i (k - 1 - i)) (k - 1) none) := up_eq
    have hfr : ∀ q, q ≠ h → q ≠ ar → (va_up F_18 ar (rfA (κ 3) n (va_up (va_cpy f f (i + 1) i (k - 1 - i)) (k - 1) none))) q = F q := fun q q1 q2 => (up_ne q2).trans (hfr q q1 q2)
    generalize va_up F_18 ar (rfA (κ 3) n (va_up (va_cpy f f (i + 1) i (k - 1 - i)) (k - 1) none)) = F_21 at hW e_h e_ar hfr
    exact pk_vret S hr hlk hW ⟨rfl, ⟨_, ⟨m_h, e_h, m_ar, n_h_ar, e_ar⟩, fun j hj => by
      rw [up_ne (by omega)]
      simp only [va_cpy]
      by_cases hji : j < i
      · rw [if_neg (by omega), if_pos hji]
      · rw [if_pos (by omega), if_neg hji, show i + 1 + (j - i) = j + 1 by omega]⟩, hfr⟩ (by decide) (by decide) dJx4a65c_fastRemove_b59b0_43
theorem mc_Jx4a65c_remove_915e3 : MCode yJx4a65c_remove_915e3 cJx4a65c_remove_915e3 4 (some (.object "java/lang/Object")) := ⟨wd_1283, wd_8, by decide, by decide⟩
theorem np_Jx4a65c_remove_915e3 : (parseMethodDescriptor yJx4a65c_remove_915e3.desc).map (fun d => d.parameters.length) = some 1 := by decide +kernel
set_option maxHeartbeats 4000000 in
set_option maxRecDepth 100000 in
theorem c_Jx4a65c_remove_915e3 {l : Launch} {D : va_G} {κ : Nat → ClassId} {ζ : Nat → Nat} {L : List Nat} {F : Nat → va_E} {h ar n k i : Nat} {f : Nat → Option Nat} {md : Int32} (hR : RA κ h ar n f md (nI k) L F) (hik : i < k) (hk : k ≤ n) (hn : n ≤ 32) (hel : ∀ i, i < k → ∀ y, f i = some y → ∃ v, bx ζ L F y v) {y : Nat} (hv : f i = some y) : MtR l D cls (ty5 κ) ζ yJx4a65c_remove_915e3 cJx4a65c_remove_915e3 4 (some (.object "java/lang/Object")) 3 0 0 ([.ref h, .int (nI i)] : List Value) L F (fun r L' F' => L = L' ∧ y = r ∧ (∃ f', RA κ h ar n f' (md + 1) (nI (k - 1)) L F' ∧ ∀ j, j < k - 1 → f' j = if j < i then f j else f (j + 1)) ∧ FrR h ar F F') := by
  refine MtR.of (by decide) (Nat.le_of_ble_eq_true rfl) ?_
  intro p e s m below meth c S hr hlk hini hK hW hST ls hl
  have hl : lv_has ls 4 [(0, .ref h), (1, .int (nI i))] := hl
  obtain ⟨m_h, e_h, m_ar, n_h_ar, e_ar⟩ := hR
  refine lv_iload_n S.1 S.2.1 dJx4a65c_remove_915e3_0 rfl (lv_at hl 1 rfl) ?_
  refine lv_aload_n S.1 S.2.1 dJx4a65c_remove_915e3_1 rfl (lv_at hl 0 rfl) ?_
  refine pk_get S hK hW 2 m_h e_h rfl hinJx4a65c (by decide) wd_1085 rfl dJx4a65c_remove_915e3_2 ?_
  refine pk_cSI (As := [.int (nI i), .int (nI k)]) (rest := []) S hK hST hW (c_J15_checkIndex_7cf53 (nI_pos (by omega)) (nI_lt hik (by omega))) mc_J15_checkIndex_7cf53 wd_1207 wd_1208 np_J15_checkIndex_7cf53 rfl hl.1 rfl (Nat.le_of_ble_eq_true rfl) dJx4a65c_remove_915e3_5 ⟨by decide, by decide⟩ ⟨by decide, by decide⟩ (fun r L_1 F_2 H_3 l_4 hp hW => ?_)
  obtain ⟨rfl, rfl, rfl⟩ := hp
  refine lv_pop S.1 S.2.1 dJx4a65c_remove_915e3_8 rfl ?_
  refine lv_aload_n S.1 S.2.1 dJx4a65c_remove_915e3_9 rfl (lv_at hl 0 rfl) ?_
  refine pk_get S hK hW 1 m_h e_h rfl hinJx4a65c (by decide) wd_1083 rfl dJx4a65c_remove_915e3_10 ?_
  refine lv_astore_n (lv' := [(2, .ref ar), (0, .ref h), (1, .int (nI i))]) S.1 S.2.1 dJx4a65c_remove_915e3_13 rfl hl (Nat.le_of_ble_eq_true rfl) rfl (fun ls hl => ?_)
  refine lv_aload_n S.1 S.2.1 dJx4a65c_remove_915e3_14 rfl (lv_at hl 0 rfl) ?_
  refine lv_iload_n S.1 S.2.1 dJx4a65c_remove_915e3_15 rfl (lv_at hl 2 rfl) ?_
  refine pk_aald S hK hW 3 m_ar e_ar rfl (vp_in_nI (by omega) (by omega)) (show f (nI i).toNatClampNeg = some y by rw [nI_clamp (by omega)]; exact hv) dJx4a65c_remove_915e3_16 ?_
  refine lv_astore_n (lv' := [(3, .ref y), (2, .ref ar), (0, .ref h), (1, .int (nI i))]) S.1 S.2.1 dJx4a65c_remove_915e3_17 rfl hl (Nat.le_of_ble_eq_true rfl) rfl (fun ls hl => ?_)
  refine lv_aload_n S.1 S.2.1 dJx4a65c_remove_915e3_18 rfl (lv_at hl 2 rfl) ?_
  refine lv_aload_n S.1 S.2.1 dJx4a65c_remove_915e3_19 rfl (lv_at hl 1 rfl) ?_
  refine lv_iload_n S.1 S.2.1 dJx4a65c_remove_915e3_20 rfl (lv_at hl 3 rfl) ?_
  refine pk_cVV (As := [.ref ar, .int (nI i)]) (rest := []) S hK hST hW (c_Jx4a65c_fastRemove_b59b0 ⟨m_h, e_h, m_ar, n_h_ar, e_ar⟩ hik hk hn hel) mc_Jx4a65c_fastRemove_b59b0 wd_1284 wd_1286 wd_1710 rfl np_Jx4a65c_fastRemove_b59b0 m_h e_h rfl rfl hl.1 rfl (Nat.le_of_ble_eq_true rfl) dJx4a65c_remove_915e3_21 ⟨by decide, by decide⟩ ⟨by decide, by decide⟩ (fun L1 F1 H1 l1 hp hW => ?_)
  obtain ⟨rfl, hR1, hfr1⟩ := hp
  refine lv_aload_n S.1 S.2.1 dJx4a65c_remove_915e3_24 rfl (lv_at hl 0 rfl) ?_
  exact pk_rret S hr (Or.inl ⟨_, rfl⟩) hlk hW ⟨rfl, rfl, hR1, hfr1⟩ (by decide) (by decide) dJx4a65c_remove_915e3_25
theorem mc_Jx4a65c_clear_da8c8 : MCode yJx4a65c_clear_da8c8 cJx4a65c_clear_da8c8 4 none := ⟨wd_1380, wd_8, by decide, by decide⟩
theorem np_Jx4a65c_clear_da8c8 : (parseMethodDescriptor yJx4a65c_clear_da8c8.desc).map (fun d => d.parameters.length) = some 0 := by decide +kernel
set_option maxHeartbeats 4000000 in
set_option maxRecDepth 100000 in
theorem c_Jx4a65c_clear_da8c8_own {l : Launch} {D : va_G} {κ : Nat → ClassId} {ζ : Nat → Nat} {L : List Nat} {F : Nat → va_E} {h ar n k : Nat} {f : Nat → Option Nat} {md : Int32} (hR : RA κ h ar n f md (nI k) L F) (hk : k ≤ n) (hn : n ≤ 32) : MtV l D cls (ty5 κ) ζ yJx4a65c_clear_da8c8 cJx4a65c_clear_da8c8 4 none 1 0 0 ([.ref h] : List Value) L F (fun L' F' => L = L' ∧ (∃ f', RA κ h ar n f' (md + 1) 0 L F') ∧ FrR h ar F F') := by
  refine MtV.of (by decide) (Nat.le_of_ble_eq_true rfl) ?_
  intro p e s m below meth c S hr hlk hini hK hW hST ls hl
  have hl : lv_has ls 4 [(0, .ref h)] := hl
  obtain ⟨m_h, e_h, m_ar, n_h_ar, e_ar⟩ := hR
  have hfr : ∀ q, q ≠ h → q ≠ ar → F q = F q := fun _ _ _ => rfl
  refine lv_aload_n S.1 S.2.1 dJx4a65c_clear_da8c8_0 rfl (lv_at hl 0 rfl) ?_
  refine lv_dup S.1 S.2.1 dJx4a65c_clear_da8c8_1 rfl ?_
  refine pk_getU S hK hW 0 m_h e_h rfl hinJx4a65c (by decide) wd_1089 wd_1088 rfl dJx4a65c_clear_da8c8_2 ?_
  refine lv_iconst (v := 1) S.1 S.2.1 dJx4a65c_clear_da8c8_5 (by decide) ?_
  refine lv_iadd S.1 S.2.1 dJx4a65c_clear_da8c8_6 ?_
  refine pk_putU (v := .int (md + 1)) S hK hW 0 m_h e_h rfl hinJx4a65c tyJx4a65c_ok nmJx4a65c (by decide) wd_1089 wd_1088 rfl rfl rfl rfl (Nat.le_of_ble_eq_true rfl) dJx4a65c_clear_da8c8_7 (fun H_1 l_2 hW => ?_)
  have e_h : (va_up F h (.inr (4, ([.int md, .ref ar, .int (nI k)] : List Value).set 0 (.int (md + 1))))) h = .inr (4, [.int (md + 1), .ref ar, .int (nI k)]) := up_eq
  have e_ar : (va_up F h (.inr (4, ([.int md, .ref ar, .int (nI k)] : List Value).set 0 (.int (md + 1))))) ar = rfA (κ 3) n f := (up_ne n_h_ar.symm).trans e_ar
  have hfr : ∀ q, q ≠ h → q ≠ ar → (va_up F h (.inr (4, ([.int md, .ref ar, .int (nI k)] : List Value).set 0 (.int (md + 1))))) q = F q := fun q q1 q2 => (up_ne q1).trans (hfr q q1 q2)
  generalize va_up F h (.inr (4, ([.int md, .ref ar, .int (nI k)] : List Value).set 0 (.int (md + 1)))) = F_3 at hW e_h e_ar hfr
  refine lv_aload_n S.1 S.2.1 dJx4a65c_clear_da8c8_10 rfl (lv_at hl 0 rfl) ?_
  refine pk_get S hK hW 1 m_h e_h rfl hinJx4a65c (by decide) wd_1083 rfl dJx4a65c_clear_da8c8_11 ?_
  refine lv_astore_n (lv' := [(1, .ref ar), (0, .ref h)]) S.1 S.2.1 dJx4a65c_clear_da8c8_14 rfl hl (Nat.le_of_ble_eq_true rfl) rfl (fun ls hl => ?_)
  refine lv_aload_n S.1 S.2.1 dJx4a65c_clear_da8c8_15 rfl (lv_at hl 1 rfl) ?_
  refine pk_get S hK hW 2 m_h e_h rfl hinJx4a65c (by decide) wd_1085 rfl dJx4a65c_clear_da8c8_16 ?_
  refine lv_istore_n (lv' := [(2, .int (nI k)), (1, .ref ar), (0, .ref h)]) S.1 S.2.1 dJx4a65c_clear_da8c8_19 rfl hl (Nat.le_of_ble_eq_true rfl) rfl (fun ls hl => ?_)
  refine lv_aload_n S.1 S.2.1 dJx4a65c_clear_da8c8_20 rfl (lv_at hl 2 rfl) ?_
  refine lv_iconst (v := 0) S.1 S.2.1 dJx4a65c_clear_da8c8_21 (by decide) ?_
  refine lv_dup_x1 S.1 S.2.1 dJx4a65c_clear_da8c8_22 rfl rfl ?_
  refine pk_put (v := .int 0) S hK hW 2 m_h e_h rfl hinJx4a65c tyJx4a65c_ok nmJx4a65c (by decide) wd_1085 rfl rfl rfl rfl (Nat.le_of_ble_eq_true rfl) dJx4a65c_clear_da8c8_23 (fun H_4 l_5 hW => ?_)
  have e_h : (va_up F_3 h (.inr (4, ([.int (md + 1), .ref ar, .int (nI k)] : List Value).set 2 (.int 0)))) h = .inr (4, [.int (md + 1), .ref ar, .int 0]) := up_eq
  have e_ar : (va_up F_3 h (.inr (4, ([.int (md + 1), .ref ar, .int (nI k)] : List Value).set 2 (.int 0)))) ar = rfA (κ 3) n f := (up_ne n_h_ar.symm).trans e_ar
  have hfr : ∀ q, q ≠ h → q ≠ ar → (va_up F_3 h (.inr (4, ([.int (md + 1), .ref ar, .int (nI k)] : List Value).set 2 (.int 0)))) q = F q := fun q q1 q2 => (up_ne q1).trans (hfr q q1 q2)
  generalize va_up F_3 h (.inr (4, ([.int (md + 1), .ref ar, .int (nI k)] : List Value).set 2 (.int 0))) = F_6 at hW e_h e_ar hfr
  refine lv_istore_n (lv' := [(3, .int 0), (2, .int (nI k)), (1, .ref ar), (0, .ref h)]) S.1 S.2.1 dJx4a65c_clear_da8c8_26 rfl hl (Nat.le_of_ble_eq_true rfl) rfl (fun ls hl => ?_)
  have loop : ∀ (N j : Nat) (f1 : Nat → Option Nat) (G : Nat → va_E) (H1 : Heap) (l1 : List Loc) (ls : Array Slot), j + N = k → HW D cls L s H1 l1 L G → G h = .inr (4, [.int (md + 1), .ref ar, .int 0]) → G ar = rfA (κ 3) n f1 → FrR h ar F G → lv_has ls 4 [(3, .int (nI j)), (2, .int (nI k)), (1, .ref ar), (0, .ref h)] → W p l e (Rm 1 0 0) s m ([.ref h] : List Value).toArray below meth c H1 l1 0 0 (EnV D cls s below ([.ref h] : List Value).toArray 0 0 L (fun L' F' => L = L' ∧ (∃ f', RA κ h ar n f' (md + 1) 0 L F') ∧ FrR h ar F F')) (F0 m 27 ls []) := by
    intro N
    induction N with
    | zero =>
      intro j f1 G H1 l1 ls hj hW e_h e_ar hfr hl
      refine lv_iload_n S.1 S.2.1 dJx4a65c_clear_da8c8_27 rfl (lv_at hl 0 rfl) ?_
      refine lv_iload_n S.1 S.2.1 dJx4a65c_clear_da8c8_28 rfl (lv_at hl 1 rfl) ?_
      refine lv_icmp_ge (tgt := 42) S.1 S.2.1 dJx4a65c_clear_da8c8_29 (by decide) (fun _ => ?_) (fun c1 => absurd (nI_le (by omega) (by omega)) c1)
      exact pk_vret S hr hlk hW ⟨rfl, ⟨f1, m_h, e_h, m_ar, n_h_ar, e_ar⟩, hfr⟩ (by decide) (by decide) dJx4a65c_clear_da8c8_42
    | succ N ih =>
      intro j f1 G H1 l1 ls hj hW e_h e_ar hfr hl
      refine lv_iload_n S.1 S.2.1 dJx4a65c_clear_da8c8_27 rfl (lv_at hl 0 rfl) ?_
      refine lv_iload_n S.1 S.2.1 dJx4a65c_clear_da8c8_28 rfl (lv_at hl 1 rfl) ?_
      refine lv_icmp_ge (tgt := 42) S.1 S.2.1 dJx4a65c_clear_da8c8_29 (by decide) (fun c1 => absurd c1 (nI_ge (by omega) (by omega))) (fun _ => ?_)
      refine lv_aload_n S.1 S.2.1 dJx4a65c_clear_da8c8_32 rfl (lv_at hl 2 rfl) ?_
      refine lv_iload_n S.1 S.2.1 dJx4a65c_clear_da8c8_33 rfl (lv_at hl 0 rfl) ?_
      refine lv_null S.1 S.2.1 dJx4a65c_clear_da8c8_34 ?_
      refine pk_aastN S hK hW 3 m_ar e_ar rfl (vp_in_nI (by omega) (by omega)) dJx4a65c_clear_da8c8_35 (fun H2 l2 hW => ?_)
      have e_h2 := (up_ne (v := rfA (κ 3) n (va_up f1 (nI j).toNatClampNeg none)) n_h_ar).trans e_h
      have hfr2 : FrR h ar F (va_up G ar (rfA (κ 3) n (va_up f1 (nI j).toNatClampNeg none))) := fun q q1 q2 => (up_ne q2).trans (hfr q q1 q2)
      refine lv_iinc (v := nI (j + 1)) (lv' := [(3, .int (nI (j + 1))), (2, .int (nI k)), (1, .ref ar), (0, .ref h)]) S.1 S.2.1 dJx4a65c_clear_da8c8_36 hl (k := 0) rfl (nI_1 j) (by decide) rfl (fun ls hl => ?_)
      refine lv_goto (tgt := 27) S.1 S.2.1 dJx4a65c_clear_da8c8_39 (by decide) ?_
      exact ih (j + 1) _ _ _ _ ls (by omega) hW e_h2 up_eq hfr2 hl
  exact loop k 0 f F_6 _ _ ls (by omega) hW e_h e_ar hfr hl
set_option maxHeartbeats 4000000 in
set_option maxRecDepth 100000 in
theorem c_Jx4a65c_clear_da8c8_new {l : Launch} {D : va_G} {κ : Nat → ClassId} {ζ : Nat → Nat} {L : List Nat} {F : Nat → va_E} {h : Nat} {md : Int32} (hR : RE ζ h md 0 L F) : MtV l D cls (ty5 κ) ζ yJx4a65c_clear_da8c8 cJx4a65c_clear_da8c8 4 none 1 0 0 ([.ref h] : List Value) L F (fun L' F' => L = L' ∧ RE ζ h (md + 1) 0 L F' ∧ ∀ q, q ≠ h → F' q = F q) := by
  refine MtV.of (by decide) (Nat.le_of_ble_eq_true rfl) ?_
  intro p e s m below meth c S hr hlk hini hK hW hST ls hl
  have hl : lv_has ls 4 [(0, .ref h)] := hl
  obtain ⟨m_h, e_h⟩ := hR
  have hfr : ∀ q, q ≠ h → F q = F q := fun _ _ => rfl
  refine lv_aload_n S.1 S.2.1 dJx4a65c_clear_da8c8_0 rfl (lv_at hl 0 rfl) ?_
  refine lv_dup S.1 S.2.1 dJx4a65c_clear_da8c8_1 rfl ?_
  refine pk_getU S hK hW 0 m_h e_h rfl hinJx4a65c (by decide) wd_1089 wd_1088 rfl dJx4a65c_clear_da8c8_2 ?_
  refine lv_iconst (v := 1) S.1 S.2.1 dJx4a65c_clear_da8c8_5 (by decide) ?_
  refine lv_iadd S.1 S.2.1 dJx4a65c_clear_da8c8_6 ?_
  refine pk_putU (v := .int (md + 1)) S hK hW 0 m_h e_h rfl hinJx4a65c tyJx4a65c_ok nmJx4a65c (by decide) wd_1089 wd_1088 rfl rfl rfl rfl (Nat.le_of_ble_eq_true rfl) dJx4a65c_clear_da8c8_7 (fun H_1 l_2 hW => ?_)
  have e_h : (va_up F h (.inr (4, ([.int md, .ref (ζ 256), .int 0] : List Value).set 0 (.int (md + 1))))) h = .inr (4, [.int (md + 1), .ref (ζ 256), .int 0]) := up_eq
  have hfr : ∀ q, q ≠ h → (va_up F h (.inr (4, ([.int md, .ref (ζ 256), .int 0] : List Value).set 0 (.int (md + 1))))) q = F q := fun q q1 => (up_ne q1).trans (hfr q q1)
  generalize va_up F h (.inr (4, ([.int md, .ref (ζ 256), .int 0] : List Value).set 0 (.int (md + 1)))) = F_3 at hW e_h hfr
  refine lv_aload_n S.1 S.2.1 dJx4a65c_clear_da8c8_10 rfl (lv_at hl 0 rfl) ?_
  refine pk_get S hK hW 1 m_h e_h rfl hinJx4a65c (by decide) wd_1083 rfl dJx4a65c_clear_da8c8_11 ?_
  refine lv_astore_n (lv' := [(1, .ref (ζ 256)), (0, .ref h)]) S.1 S.2.1 dJx4a65c_clear_da8c8_14 rfl hl (Nat.le_of_ble_eq_true rfl) rfl (fun ls hl => ?_)
  refine lv_aload_n S.1 S.2.1 dJx4a65c_clear_da8c8_15 rfl (lv_at hl 1 rfl) ?_
  refine pk_get S hK hW 2 m_h e_h rfl hinJx4a65c (by decide) wd_1085 rfl dJx4a65c_clear_da8c8_16 ?_
  refine lv_istore_n (lv' := [(2, .int 0), (1, .ref (ζ 256)), (0, .ref h)]) S.1 S.2.1 dJx4a65c_clear_da8c8_19 rfl hl (Nat.le_of_ble_eq_true rfl) rfl (fun ls hl => ?_)
  refine lv_aload_n S.1 S.2.1 dJx4a65c_clear_da8c8_20 rfl (lv_at hl 2 rfl) ?_
  refine lv_iconst (v := 0) S.1 S.2.1 dJx4a65c_clear_da8c8_21 (by decide) ?_
  refine lv_dup_x1 S.1 S.2.1 dJx4a65c_clear_da8c8_22 rfl rfl ?_
  refine pk_put (v := .int 0) S hK hW 2 m_h e_h rfl hinJx4a65c tyJx4a65c_ok nmJx4a65c (by decide) wd_1085 rfl rfl rfl rfl (Nat.le_of_ble_eq_true rfl) dJx4a65c_clear_da8c8_23 (fun H_4 l_5 hW => ?_)
  have e_h : (va_up F_3 h (.inr (4, ([.int (md + 1), .ref (ζ 256), .int 0] : List Value).set 2 (.int 0)))) h = .inr (4, [.int (md + 1), .ref (ζ 256), .int 0]) := up_eq
  have hfr : ∀ q, q ≠ h → (va_up F_3 h (.inr (4, ([.int (md + 1), .ref (ζ 256), .int 0] : List Value).set 2 (.int 0)))) q = F q := fun q q1 => (up_ne q1).trans (hfr q q1)
  generalize va_up F_3 h (.inr (4, ([.int (md + 1), .ref (ζ 256), .int 0] : List Value).set 2 (.int 0))) = F_6 at hW e_h hfr
  refine lv_istore_n (lv' := [(3, .int 0), (2, .int 0), (1, .ref (ζ 256)), (0, .ref h)]) S.1 S.2.1 dJx4a65c_clear_da8c8_26 rfl hl (Nat.le_of_ble_eq_true rfl) rfl (fun ls hl => ?_)
  refine lv_iload_n S.1 S.2.1 dJx4a65c_clear_da8c8_27 rfl (lv_at hl 0 rfl) ?_
  refine lv_iload_n S.1 S.2.1 dJx4a65c_clear_da8c8_28 rfl (lv_at hl 1 rfl) ?_
  refine lv_icmp_ge (tgt := 42) S.1 S.2.1 dJx4a65c_clear_da8c8_29 (by decide) (fun _ => ?_) (fun c1 => absurd (by decide) c1)
  exact pk_vret S hr hlk hW ⟨rfl, ⟨m_h, e_h⟩, hfr⟩ (by decide) (by decide) dJx4a65c_clear_da8c8_42
