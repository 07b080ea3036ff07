/-! ArrayList: grow and add -/
theorem grow_N {n : Nat} (h : n ≤ 21) : nI n + (if nI 1 < nI (n / 2) then nI (n / 2) else nI 1) = nI (n + max 1 (n / 2)) := by
  by_cases hc : 1 < n / 2
  · rw [if_pos ((nI_ltI (by omega) (by omega)).mpr hc), nI_add]
    congr 1
    omega
  · rw [if_neg (fun q => hc ((nI_ltI (by omega) (by omega)).mp q)), nI_add]
    congr 1
    omega
theorem pos_nI {n : Nat} (h : 0 < n) (h2 : n < 2147483648) : (0 : Int32) < nI n := by
  have := (nI_ltI (a := 0) (b := n) (by omega) h2).mpr h
  rwa [nI_0] at this
theorem mc_Jx4a65c_grow_92f84 : MCode yJx4a65c_grow_92f84 cJx4a65c_grow_92f84 4 (some (.array (.object "java/lang/Object"))) := ⟨wd_1123, wd_8, by decide, by decide⟩
theorem np_Jx4a65c_grow_92f84 : (parseMethodDescriptor yJx4a65c_grow_92f84.desc).map (fun d => d.parameters.length) = some 1 := by decide +kernel
set_option maxHeartbeats 4000000 in
set_option maxRecDepth 100000 in
theorem c_Jx4a65c_grow_92f84_own {l : Launch} {D : va_G} {κ : Nat → ClassId} {ζ : Nat → Nat} {L : List Nat} {F : Nat → va_E} {h ar n : Nat} {f : Nat → Option Nat} {md sz : Int32} (hR : RA κ h ar n f md sz L F) (hn0 : 0 < n) (hn1 : n ≤ 21) (hel : ∀ i, i < n → ∀ y, f i = some y → ∃ v, bx ζ L F y v) : MtR l D cls (ty5 κ) ζ yJx4a65c_grow_92f84 cJx4a65c_grow_92f84 4 (some (.array (.object "java/lang/Object"))) 4 1 32 ([.ref h, .int (nI (n + 1))] : List Value) L F (fun r L' F' => (∀ x ∈ L, x ∈ L') ∧ r ∉ L ∧ RA κ h r (n + max 1 (n / 2)) (va_cpy f (fun _ => none) 0 0 n) md sz L' F' ∧ ∀ x ∈ L, x ≠ h → F' x = F x) := by
  refine MtR.of (by decide) (Nat.le_of_ble_eq_true rfl) ?_
  intro p e s m below meth c S hr hlk hini hK hW hST ls hl
  have hl : lv_has ls 4 [(0, .ref h), (1, .int (nI (n + 1)))] := hl
  obtain ⟨m_h, e_h, m_ar, n_h_ar, e_ar⟩ := hR
  refine lv_aload_n S.1 S.2.1 dJx4a65c_grow_92f84_0 rfl (lv_at hl 0 rfl) ?_
  refine pk_get S hK hW 1 m_h e_h rfl hinJx4a65c (by decide) wd_1083 rfl dJx4a65c_grow_92f84_1 ?_
  refine pk_alen S hK hW 3 m_ar e_ar rfl rfl dJx4a65c_grow_92f84_4 ?_
  refine lv_istore_n (lv' := [(2, .int (nI n)), (0, .ref h), (1, .int (nI (n + 1)))]) S.1 S.2.1 dJx4a65c_grow_92f84_5 rfl hl (Nat.le_of_ble_eq_true rfl) rfl (fun ls hl => ?_)
  refine lv_iload_n S.1 S.2.1 dJx4a65c_grow_92f84_6 rfl (lv_at hl 0 rfl) ?_
  refine lv_if_gt (tgt := 20) S.1 S.2.1 dJx4a65c_grow_92f84_7 (by decide) (fun _ => ?_) (fun c1 => absurd (pos_nI hn0 (by omega)) c1)
  refine lv_iload_n S.1 S.2.1 dJx4a65c_grow_92f84_20 rfl (lv_at hl 0 rfl) ?_
  refine lv_iload_n S.1 S.2.1 dJx4a65c_grow_92f84_21 rfl (lv_at hl 2 rfl) ?_
  refine lv_iload_n S.1 S.2.1 dJx4a65c_grow_92f84_22 rfl (lv_at hl 0 rfl) ?_
  refine lv_isub S.1 S.2.1 dJx4a65c_grow_92f84_23 ?_
  refine lv_topi (fun y_1 ey_1 => ?_)
  have ey_1 : y_1 = nI 1 := ey_1.trans ((pk_sub (by omega)).trans (by rw [show n + 1 - n = 1 by omega]))
  subst ey_1
  refine lv_iload_n S.1 S.2.1 dJx4a65c_grow_92f84_24 rfl (lv_at hl 0 rfl) ?_
  refine lv_iconst (v := 1) S.1 S.2.1 dJx4a65c_grow_92f84_25 (by decide) ?_
  refine lv_ishr S.1 S.2.1 dJx4a65c_grow_92f84_26 ?_
  refine lv_topi (fun y_2 ey_2 => ?_)
  have ey_2 : y_2 = nI (n / 2) := ey_2.trans (pk_shrN (by omega) _ 1 (by decide))
  subst ey_2
  have hNe := grow_N (n := n) (by omega)
  refine pk_cSI (As := [.int (nI n), .int (nI 1), .int (nI (n / 2))]) (rest := []) S hK hST hW (c_J8_newLength_cabcc (by rw [hNe]; exact nI_nle (by omega) (by omega)) (by rw [hNe]; exact nI_nlt (a := 2147483639) (by omega) (by omega))) mc_J8_newLength_cabcc wd_1124 wd_837 np_J8_newLength_cabcc rfl hl.1 rfl (Nat.le_of_ble_eq_true rfl) dJx4a65c_grow_92f84_27 ⟨by decide, by decide⟩ ⟨by decide, by decide⟩ (fun r L_3 F_4 H_5 l_6 hp hW => ?_)
  obtain ⟨rfl, rfl, rfl⟩ := hp
  refine lv_topi (fun y_7 ey_7 => ?_)
  have ey_7 : y_7 = nI (n + max 1 (n / 2)) := ey_7.trans (hNe)
  subst ey_7
  refine lv_istore_n (lv' := [(3, .int (nI (n + max 1 (n / 2)))), (2, .int (nI n)), (0, .ref h), (1, .int (nI (n + 1)))]) S.1 S.2.1 dJx4a65c_grow_92f84_30 rfl hl (Nat.le_of_ble_eq_true rfl) rfl (fun ls hl => ?_)
  refine lv_aload_n S.1 S.2.1 dJx4a65c_grow_92f84_31 rfl (lv_at hl 2 rfl) ?_
  refine lv_aload_n S.1 S.2.1 dJx4a65c_grow_92f84_32 rfl (lv_at hl 2 rfl) ?_
  refine pk_get S hK hW 1 m_h e_h rfl hinJx4a65c (by decide) wd_1083 rfl dJx4a65c_grow_92f84_33 ?_
  refine lv_iload_n S.1 S.2.1 dJx4a65c_grow_92f84_36 rfl (lv_at hl 0 rfl) ?_
  refine pk_cSR (As := [.ref ar, .int (nI (n + max 1 (n / 2)))]) (rest := [.ref h]) S hK hST hW (c_J7_copyOf_1904c (N := (n + max 1 (n / 2))) m_ar e_ar (by omega) (by omega) hel) mc_J7_copyOf_1904c wd_1125 wd_1126 np_J7_copyOf_1904c rfl hl.1 rfl (Nat.le_of_ble_eq_true rfl) dJx4a65c_grow_92f84_37 ⟨by decide, by decide⟩ ⟨by decide, by decide⟩ (fun q L1 F1 H1 l1 hp hW => ?_)
  obtain ⟨hsub1, m_q, hq_q, e_q, hfr1⟩ := hp
  have n_h_q : h ≠ q := fun ee => hq_q (ee ▸ m_h)
  have n_ar_q : ar ≠ q := fun ee => hq_q (ee ▸ m_ar)
  have e_h : F1 h = .inr (4, [.int md, .ref ar, .int sz]) := (hfr1 h m_h).trans e_h
  have e_ar : F1 ar = rfA (κ 3) n f := (hfr1 ar m_ar).trans e_ar
  have m_h := hsub1 _ m_h
  have m_ar := hsub1 _ m_ar
  have hfr : ∀ x ∈ L, x ≠ h → F1 x = F x := fun x hx _ => hfr1 x hx
  refine lv_dup_x1 S.1 S.2.1 dJx4a65c_grow_92f84_40 rfl rfl ?_
  refine pk_put (v := .ref q) S hK hW 1 m_h e_h rfl hinJx4a65c tyJx4a65c_ok nmJx4a65c (by decide) wd_1083 rfl rfl rfl rfl (Nat.le_of_ble_eq_true rfl) dJx4a65c_grow_92f84_41 (fun H_8 l_9 hW => ?_)
  have e_h : (va_up F1 h (.inr (4, ([.int md, .ref ar, .int sz] : List Value).set 1 (.ref q)))) h = .inr (4, [.int md, .ref q, .int sz]) := up_eq
  have e_ar : (va_up F1 h (.inr (4, ([.int md, .ref ar, .int sz] : List Value).set 1 (.ref q)))) ar = rfA (κ 3) n f := (up_ne n_h_ar.symm).trans e_ar
  have e_q : (va_up F1 h (.inr (4, ([.int md, .ref ar, .int sz] : List Value).set 1 (.ref q)))) q = rfA (κ 3) (n + max 1 (n / 2)) (va_cpy f (fun _ => none) 0 0 n) := (up_ne n_h_q.symm).trans e_q
  have hfr : ∀ x ∈ L, x ≠ h → (va_up F1 h (.inr (4, ([.int md, .ref ar, .int sz] : List Value).set 1 (.ref q)))) x = F x := fun x hx xh => (up_ne xh).trans (hfr x hx xh)
  generalize va_up F1 h (.inr (4, ([.int md, .ref ar, .int sz] : List Value).set 1 (.ref q))) = F_10 at hW e_h e_ar e_q hfr
  exact pk_rret S hr (Or.inr ⟨_, rfl⟩) hlk hW ⟨hsub1, hq_q, ⟨m_h, e_h, m_q, n_h_q, e_q⟩, hfr⟩ (by decide) (by decide) dJx4a65c_grow_92f84_44
set_option maxHeartbeats 4000000 in
set_option maxRecDepth 100000 in
theorem c_Jx4a65c_grow_92f84_new {l : Launch} {D : va_G} {κ : Nat → ClassId} {ζ : Nat → Nat} {L : List Nat} {F : Nat → va_E} {h : Nat} {md sz : Int32} (hR : RE ζ h md sz L F) : MtR l D cls (ty5 κ) ζ yJx4a65c_grow_92f84 cJx4a65c_grow_92f84 4 (some (.array (.object "java/lang/Object"))) 4 1 32 ([.ref h, .int (nI 1)] : List Value) L F (fun r L' F' => (∀ x ∈ L, x ∈ L') ∧ r ∉ L ∧ RA κ h r 10 (fun _ => none) md sz L' F' ∧ ∀ x ∈ L, x ≠ h → F' x = F x) := by
  refine MtR.of (by decide) (Nat.le_of_ble_eq_true rfl) ?_
  intro p e s m below meth c S hr hlk hini hK hW hST ls hl
  have hl : lv_has ls 4 [(0, .ref h), (1, .int (nI 1))] := hl
  obtain ⟨m_h, e_h⟩ := hR
  have hsub : ∀ x ∈ L, x ∈ L := fun x hx => hx
  have hfr : ∀ x ∈ L, x ≠ h → F x = F x := fun _ _ _ => rfl
  refine lv_aload_n S.1 S.2.1 dJx4a65c_grow_92f84_0 rfl (lv_at hl 0 rfl) ?_
  refine pk_get S hK hW 1 m_h e_h rfl hinJx4a65c (by decide) wd_1083 rfl dJx4a65c_grow_92f84_1 ?_
  refine va_tlen (v := 0) S.1 S.2.1 hST.2.tEmpty hW.2.2 rfl dJx4a65c_grow_92f84_4 ?_
  refine lv_istore_n (lv' := [(2, .int 0), (0, .ref h), (1, .int (nI 1))]) S.1 S.2.1 dJx4a65c_grow_92f84_5 rfl hl (Nat.le_of_ble_eq_true rfl) rfl (fun ls hl => ?_)
  refine lv_iload_n S.1 S.2.1 dJx4a65c_grow_92f84_6 rfl (lv_at hl 0 rfl) ?_
  refine lv_if_gt (tgt := 20) S.1 S.2.1 dJx4a65c_grow_92f84_7 (by decide) (fun c1 => absurd c1 (by decide)) (fun _ => ?_)
  refine lv_aload_n S.1 S.2.1 dJx4a65c_grow_92f84_10 rfl (lv_at hl 1 rfl) ?_
  refine pk_get S hK hW 1 m_h e_h rfl hinJx4a65c (by decide) wd_1083 rfl dJx4a65c_grow_92f84_11 ?_
  refine pk_gets S hW hST.2.zEmpty wd_1082 dJx4a65c_grow_92f84_14 ?_
  refine lv_acmp_eq (rx := some (ζ 256)) (ry := some (ζ 256)) (tgt := 45) S.1 S.2.1 dJx4a65c_grow_92f84_17 (by decide) (fun _ => ?_) (fun c1 => absurd rfl c1)
  refine lv_aload_n S.1 S.2.1 dJx4a65c_grow_92f84_45 rfl (lv_at hl 1 rfl) ?_
  refine lv_bipush (v := 10) S.1 S.2.1 dJx4a65c_grow_92f84_46 (by decide) ?_
  refine lv_iload_n S.1 S.2.1 dJx4a65c_grow_92f84_48 rfl (lv_at hl 2 rfl) ?_
  refine va_mmax S.1 S.2.1 (S.2.2.1.trans hl.1.symm) S.2.2.2.1 (S.2.2.2.2 _ wd_1153) (S.2.2.2.2 _ wd_301) (S.2.2.2.2 _ wd_11) (S.2.2.2.2 _ wd_302) (by decide) (Nat.le_of_ble_eq_true rfl) (by decide) (by decide) dJx4a65c_grow_92f84_49 ?_
  refine lv_topi (fun y_1 ey_1 => ?_)
  have ey_1 : y_1 = 10 := ey_1.trans (if_neg (by decide))
  subst ey_1
  refine pk_newq (N' := 10) S hK hW 3 rfl wd_1154 hST.2.aoObj (by decide) (by decide) (by decide) (by decide) (by decide) dJx4a65c_grow_92f84_52 (fun q H_2 hq_q hW => ?_)
  have n_h_q : h ≠ q := fun ee => hq_q (ee ▸ m_h)
  have e_h : (va_up F q (rfA (κ 3) 10 (fun _ => none))) h = .inr (4, [.int md, .ref (ζ 256), .int sz]) := (up_ne n_h_q).trans e_h
  have m_h := List.mem_append_left [q] m_h
  have e_q : (va_up F q (rfA (κ 3) 10 (fun _ => none))) q = rfA (κ 3) 10 (fun _ => none) := up_eq
  have m_q : q ∈ L ++ [q] := List.mem_append_right _ (List.mem_singleton.mpr rfl)
  have hnw_q : q ∉ L := fun ee => hq_q (hsub _ ee)
  have hfr : ∀ x ∈ L, x ≠ h → (va_up F q (rfA (κ 3) 10 (fun _ => none))) x = F x := fun x hx hxh => (up_ne (fun (ee : x = q) => hnw_q (ee ▸ hx))).trans (hfr x hx hxh)
  have hsub : ∀ x ∈ L, x ∈ L ++ [q] := fun x hx => List.mem_append_left _ (hsub x hx)
  generalize va_up F q (rfA (κ 3) 10 (fun _ => none)) = F_3 at hW e_h e_q hfr
  generalize L ++ [q] = L_4 at hW m_h m_q hsub
  refine lv_dup_x1 S.1 S.2.1 dJx4a65c_grow_92f84_55 rfl rfl ?_
  refine pk_put (v := .ref q) S hK hW 1 m_h e_h rfl hinJx4a65c tyJx4a65c_ok nmJx4a65c (by decide) wd_1083 rfl rfl rfl rfl (Nat.le_of_ble_eq_true rfl) dJx4a65c_grow_92f84_56 (fun H_5 l_6 hW => ?_)
  have e_h : (va_up F_3 h (.inr (4, ([.int md, .ref (ζ 256), .int sz] : List Value).set 1 (.ref q)))) h = .inr (4, [.int md, .ref q, .int sz]) := up_eq
  have e_q : (va_up F_3 h (.inr (4, ([.int md, .ref (ζ 256), .int sz] : List Value).set 1 (.ref q)))) q = rfA (κ 3) 10 (fun _ => none) := (up_ne n_h_q.symm).trans e_q
  have hfr : ∀ x ∈ L, x ≠ h → (va_up F_3 h (.inr (4, ([.int md, .ref (ζ 256), .int sz] : List Value).set 1 (.ref q)))) x = F x := fun x hx hxh => (up_ne hxh).trans (hfr x hx hxh)
  generalize va_up F_3 h (.inr (4, ([.int md, .ref (ζ 256), .int sz] : List Value).set 1 (.ref q))) = F_7 at hW e_h e_q hfr
  exact pk_rret S hr (Or.inr ⟨_, rfl⟩) hlk hW ⟨hsub, hnw_q, ⟨m_h, e_h, m_q, n_h_q, e_q⟩, hfr⟩ (by decide) (by decide) dJx4a65c_grow_92f84_59
theorem mc_Jx4a65c_grow_d5877 : MCode yJx4a65c_grow_d5877 cJx4a65c_grow_d5877 1 (some (.array (.object "java/lang/Object"))) := ⟨wd_1119, wd_8, by decide, by decide⟩
theorem np_Jx4a65c_grow_d5877 : (parseMethodDescriptor yJx4a65c_grow_d5877.desc).map (fun d => d.parameters.length) = some 0 := by decide +kernel
set_option maxHeartbeats 4000000 in
set_option maxRecDepth 100000 in
theorem c_Jx4a65c_grow_d5877_own {l : Launch} {D : va_G} {κ : Nat → ClassId} {ζ : Nat → Nat} {L : List Nat} {F : Nat → va_E} {h ar n : Nat} {f : Nat → Option Nat} {md : Int32} (hR : RA κ h ar n f md (nI n) L F) (hn0 : 0 < n) (hn1 : n ≤ 21) (hel : ∀ i, i < n → ∀ y, f i = some y → ∃ v, bx ζ L F y v) : MtR l D cls (ty5 κ) ζ yJx4a65c_grow_d5877 cJx4a65c_grow_d5877 1 (some (.array (.object "java/lang/Object"))) 5 1 32 ([.ref h] : List Value) L F (fun r L' F' => (∀ x ∈ L, x ∈ L') ∧ r ∉ L ∧ RA κ h r (n + max 1 (n / 2)) (va_cpy f (fun _ => none) 0 0 n) md (nI n) L' F' ∧ ∀ x ∈ L, x ≠ h → F' x = F x) := by
  refine MtR.of (by decide) (Nat.le_of_ble_eq_true rfl) ?_
  intro p e s m below meth c S hr hlk hini hK hW hST ls hl
  have hl : lv_has ls 1 [(0, .ref h)] := hl
  obtain ⟨m_h, e_h, m_ar, n_h_ar, e_ar⟩ := hR
  refine lv_aload_n S.1 S.2.1 dJx4a65c_grow_d5877_0 rfl (lv_at hl 0 rfl) ?_
  refine lv_aload_n S.1 S.2.1 dJx4a65c_grow_d5877_1 rfl (lv_at hl 0 rfl) ?_
  refine pk_get S hK hW 2 m_h e_h rfl hinJx4a65c (by decide) wd_1085 rfl dJx4a65c_grow_d5877_2 ?_
  refine lv_iconst (v := 1) S.1 S.2.1 dJx4a65c_grow_d5877_5 (by decide) ?_
  refine lv_iadd S.1 S.2.1 dJx4a65c_grow_d5877_6 ?_
  refine lv_topi (fun y_1 ey_1 => ?_)
  have ey_1 : y_1 = nI (n + 1) := ey_1.trans (nI_1 n)
  subst ey_1
  refine pk_cVR (As := [.int (nI (n + 1))]) (rest := []) S hK hST hW (c_Jx4a65c_grow_92f84_own ⟨m_h, e_h, m_ar, n_h_ar, e_ar⟩ hn0 hn1 hel) mc_Jx4a65c_grow_92f84 wd_1120 wd_1122 wd_1699 rfl np_Jx4a65c_grow_92f84 m_h e_h rfl rfl hl.1 rfl (Nat.le_of_ble_eq_true rfl) dJx4a65c_grow_d5877_7 ⟨by decide, by decide⟩ ⟨by decide, by decide⟩ (fun r L_2 F_3 H_4 l_5 hp hW => ?_)
  obtain ⟨h1, h2, h3, h4⟩ := hp
  exact pk_rret S hr (Or.inr ⟨_, rfl⟩) hlk hW ⟨h1, h2, h3, h4⟩ (by decide) (by decide) dJx4a65c_grow_d5877_10
set_option maxHeartbeats 4000000 in
set_option maxRecDepth 100000 in
theorem c_Jx4a65c_grow_d5877_new {l : Launch} {D : va_G} {κ : Nat → ClassId} {ζ : Nat → Nat} {L : List Nat} {F : Nat → va_E} {h : Nat} {md : Int32} (hR : RE ζ h md 0 L F) : MtR l D cls (ty5 κ) ζ yJx4a65c_grow_d5877 cJx4a65c_grow_d5877 1 (some (.array (.object "java/lang/Object"))) 5 1 32 ([.ref h] : List Value) L F (fun r L' F' => (∀ x ∈ L, x ∈ L') ∧ r ∉ L ∧ RA κ h r 10 (fun _ => none) md 0 L' F' ∧ ∀ x ∈ L, x ≠ h → F' x = F x) := by
  refine MtR.of (by decide) (Nat.le_of_ble_eq_true rfl) ?_
  intro p e s m below meth c S hr hlk hini hK hW hST ls hl
  have hl : lv_has ls 1 [(0, .ref h)] := hl
  obtain ⟨m_h, e_h⟩ := hR
  refine lv_aload_n S.1 S.2.1 dJx4a65c_grow_d5877_0 rfl (lv_at hl 0 rfl) ?_
  refine lv_aload_n S.1 S.2.1 dJx4a65c_grow_d5877_1 rfl (lv_at hl 0 rfl) ?_
  refine pk_get S hK hW 2 m_h e_h rfl hinJx4a65c (by decide) wd_1085 rfl dJx4a65c_grow_d5877_2 ?_
  refine lv_iconst (v := 1) S.1 S.2.1 dJx4a65c_grow_d5877_5 (by decide) ?_
  refine lv_iadd S.1 S.2.1 dJx4a65c_grow_d5877_6 ?_
  refine lv_topi (fun y_1 ey_1 => ?_)
  have ey_1 : y_1 = nI 1 := ey_1.trans (rfl)
  subst ey_1
  refine pk_cVR (As := [.int (nI 1)]) (rest := []) S hK hST hW (c_Jx4a65c_grow_92f84_new ⟨m_h, e_h⟩) mc_Jx4a65c_grow_92f84 wd_1120 wd_1122 wd_1699 rfl np_Jx4a65c_grow_92f84 m_h e_h rfl rfl hl.1 rfl (Nat.le_of_ble_eq_true rfl) dJx4a65c_grow_d5877_7 ⟨by decide, by decide⟩ ⟨by decide, by decide⟩ (fun r L_2 F_3 H_4 l_5 hp hW => ?_)
  obtain ⟨h1, h2, h3, h4⟩ := hp
  exact pk_rret S hr (Or.inr ⟨_, rfl⟩) hlk hW ⟨h1, h2, h3, h4⟩ (by decide) (by decide) dJx4a65c_grow_d5877_10
theorem mc_Jx4a65c_add_72be8 : MCode yJx4a65c_add_72be8 cJx4a65c_add_72be8 4 none := ⟨wd_1115, wd_8, by decide, by decide⟩
theorem np_Jx4a65c_add_72be8 : (parseMethodDescriptor yJx4a65c_add_72be8.desc).map (fun d => d.parameters.length) = some 3 := by decide +kernel
set_option maxHeartbeats 4000000 in
set_option maxRecDepth 100000 in
theorem c_Jx4a65c_add_72be8_fitI {l : Launch} {D : va_G} {κ : Nat → ClassId} {ζ : Nat → Nat} {L : List Nat} {F : Nat → va_E} {h ar n k : Nat} {f : Nat → Option Nat} {md sz : Int32} (hR : RA κ h ar n f md sz L F) (hk : k < n) (hn : n ≤ 32) {y : Nat} {v : Int32} (hb : bx ζ L F y v) : MtV l D cls (ty5 κ) ζ yJx4a65c_add_72be8 cJx4a65c_add_72be8 4 none 6 1 32 ([.ref h, .ref y, .ref ar, .int (nI k)] : List Value) L F (fun L' F' => L = L' ∧ RA κ h ar n (va_up f k (some y)) md (nI (k + 1)) L F' ∧ FrR h ar F F') := by
  refine MtV.of (by decide) (Nat.le_of_ble_eq_true rfl) ?_
  intro p e s m below meth c S hr hlk hini hK hW hST ls hl
  have hl : lv_has ls 4 [(0, .ref h), (1, .ref y), (2, .ref ar), (3, .int (nI k))] := hl
  obtain ⟨m_h, e_h, m_ar, n_h_ar, e_ar⟩ := hR
  have hfr : ∀ q, q ≠ h → q ≠ ar → F q = F q := fun _ _ _ => rfl
  refine lv_iload_n S.1 S.2.1 dJx4a65c_add_72be8_0 rfl (lv_at hl 3 rfl) ?_
  refine lv_aload_n S.1 S.2.1 dJx4a65c_add_72be8_1 rfl (lv_at hl 2 rfl) ?_
  refine pk_alen S hK hW 3 m_ar e_ar rfl rfl dJx4a65c_add_72be8_2 ?_
  refine lv_icmp_ne (tgt := 11) S.1 S.2.1 dJx4a65c_add_72be8_3 (by decide) (fun _ => ?_) (fun c1 => absurd c1 (fun ee => absurd ((nI_eq (by omega) (by omega)).mp ee) (by omega)))
  refine lv_aload_n S.1 S.2.1 dJx4a65c_add_72be8_11 rfl (lv_at hl 2 rfl) ?_
  refine lv_iload_n S.1 S.2.1 dJx4a65c_add_72be8_12 rfl (lv_at hl 3 rfl) ?_
  refine lv_aload_n S.1 S.2.1 dJx4a65c_add_72be8_13 rfl (lv_at hl 1 rfl) ?_
  refine pk_aast S hK hW 3 m_ar e_ar rfl (bx_cell hK hW hST hb) (hST.1.1 _ wn_26) (vp_in_nI (by omega) (by omega)) dJx4a65c_add_72be8_14 (fun H_1 l_2 hW => ?_)
  rw [show (nI k).toNatClampNeg = k from nI_clamp (by omega)] at hW
  have e_h : (va_up F ar (rfA (κ 3) n (va_up f k (some y)))) h = .inr (4, [.int md, .ref ar, .int sz]) := (up_ne n_h_ar).trans e_h
  have e_ar : (va_up F ar (rfA (κ 3) n (va_up f k (some y)))) ar = rfA (κ 3) n (va_up f k (some y)) := up_eq
  have hfr : ∀ q, q ≠ h → q ≠ ar → (va_up F ar (rfA (κ 3) n (va_up f k (some y)))) q = F q := fun q q1 q2 => (up_ne q2).trans (hfr q q1 q2)
  generalize va_up F ar (rfA (κ 3) n (va_up f k (some y))) = F_3 at hW e_h e_ar hfr
  refine lv_aload_n S.1 S.2.1 dJx4a65c_add_72be8_15 rfl (lv_at hl 0 rfl) ?_
  refine lv_iload_n S.1 S.2.1 dJx4a65c_add_72be8_16 rfl (lv_at hl 3 rfl) ?_
  refine lv_iconst (v := 1) S.1 S.2.1 dJx4a65c_add_72be8_17 (by decide) ?_
  refine lv_iadd S.1 S.2.1 dJx4a65c_add_72be8_18 ?_
  refine lv_topi (fun y_4 ey_4 => ?_)
  have ey_4 : y_4 = nI (k + 1) := ey_4.trans (nI_1 k)
  subst ey_4
  refine pk_put (v := .int (nI (k + 1))) S hK hW 2 m_h e_h rfl hinJx4a65c tyJx4a65c_ok nmJx4a65c (by decide) wd_1085 rfl rfl rfl rfl (Nat.le_of_ble_eq_true rfl) dJx4a65c_add_72be8_19 (fun H_5 l_6 hW => ?_)
  have e_h : (va_up F_3 h (.inr (4, ([.int md, .ref ar, .int sz] : List Value).set 2 (.int (nI (k + 1)))))) h = .inr (4, [.int md, .ref ar, .int (nI (k + 1))]) := up_eq
  have e_ar : (va_up F_3 h (.inr (4, ([.int md, .ref ar, .int sz] : List Value).set 2 (.int (nI (k + 1)))))) ar = rfA (κ 3) n (va_up f k (some y)) := (up_ne n_h_ar.symm).trans e_ar
  have hfr : ∀ q, q ≠ h → q ≠ ar → (va_up F_3 h (.inr (4, ([.int md, .ref ar, .int sz] : List Value).set 2 (.int (nI (k + 1)))))) q = F q := fun q q1 q2 => (up_ne q1).trans (hfr q q1 q2)
  generalize va_up F_3 h (.inr (4, ([.int md, .ref ar, .int sz] : List Value).set 2 (.int (nI (k + 1))))) = F_7 at hW e_h e_ar hfr
  exact pk_vret S hr hlk hW ⟨rfl, ⟨m_h, e_h, m_ar, n_h_ar, e_ar⟩, hfr⟩ (by decide) (by decide) dJx4a65c_add_72be8_22
set_option maxHeartbeats 4000000 in
set_option maxRecDepth 100000 in
theorem c_Jx4a65c_add_72be8_fitL {l : Launch} {D : va_G} {κ : Nat → ClassId} {ζ : Nat → Nat} {L : List Nat} {F : Nat → va_E} {h ar n k : Nat} {f : Nat → Option Nat} {md sz : Int32} (hR : RA κ h ar n f md sz L F) (hk : k < n) (hn : n ≤ 32) {y : Nat} {w : List Value} (hb : y ∈ L ∧ F y = .inr (4, w)) : MtV l D cls (ty5 κ) ζ yJx4a65c_add_72be8 cJx4a65c_add_72be8 4 none 6 1 32 ([.ref h, .ref y, .ref ar, .int (nI k)] : List Value) L F (fun L' F' => L = L' ∧ RA κ h ar n (va_up f k (some y)) md (nI (k + 1)) L F' ∧ FrR h ar F F') := by
  refine MtV.of (by decide) (Nat.le_of_ble_eq_true rfl) ?_
  intro p e s m below meth c S hr hlk hini hK hW hST ls hl
  have hl : lv_has ls 4 [(0, .ref h), (1, .ref y), (2, .ref ar), (3, .int (nI k))] := hl
  obtain ⟨m_h, e_h, m_ar, n_h_ar, e_ar⟩ := hR
  have hfr : ∀ q, q ≠ h → q ≠ ar → F q = F q := fun _ _ _ => rfl
  refine lv_iload_n S.1 S.2.1 dJx4a65c_add_72be8_0 rfl (lv_at hl 3 rfl) ?_
  refine lv_aload_n S.1 S.2.1 dJx4a65c_add_72be8_1 rfl (lv_at hl 2 rfl) ?_
  refine pk_alen S hK hW 3 m_ar e_ar rfl rfl dJx4a65c_add_72be8_2 ?_
  refine lv_icmp_ne (tgt := 11) S.1 S.2.1 dJx4a65c_add_72be8_3 (by decide) (fun _ => ?_) (fun c1 => absurd c1 (fun ee => absurd ((nI_eq (by omega) (by omega)).mp ee) (by omega)))
  refine lv_aload_n S.1 S.2.1 dJx4a65c_add_72be8_11 rfl (lv_at hl 2 rfl) ?_
  refine lv_iload_n S.1 S.2.1 dJx4a65c_add_72be8_12 rfl (lv_at hl 3 rfl) ?_
  refine lv_aload_n S.1 S.2.1 dJx4a65c_add_72be8_13 rfl (lv_at hl 1 rfl) ?_
  refine pk_aast S hK hW 3 m_ar e_ar rfl (pk_recv (r := (RJx4a65c, TJx4a65c, 3)) hK hW hb.1 hb.2 rfl) (hST.1.1 _ wn_32) (vp_in_nI (by omega) (by omega)) dJx4a65c_add_72be8_14 (fun H_1 l_2 hW => ?_)
  rw [show (nI k).toNatClampNeg = k from nI_clamp (by omega)] at hW
  have e_h : (va_up F ar (rfA (κ 3) n (va_up f k (some y)))) h = .inr (4, [.int md, .ref ar, .int sz]) := (up_ne n_h_ar).trans e_h
  have e_ar : (va_up F ar (rfA (κ 3) n (va_up f k (some y)))) ar = rfA (κ 3) n (va_up f k (some y)) := up_eq
  have hfr : ∀ q, q ≠ h → q ≠ ar → (va_up F ar (rfA (κ 3) n (va_up f k (some y)))) q = F q := fun q q1 q2 => (up_ne q2).trans (hfr q q1 q2)
  generalize va_up F ar (rfA (κ 3) n (va_up f k (some y))) = F_3 at hW e_h e_ar hfr
  refine lv_aload_n S.1 S.2.1 dJx4a65c_add_72be8_15 rfl (lv_at hl 0 rfl) ?_
  refine lv_iload_n S.1 S.2.1 dJx4a65c_add_72be8_16 rfl (lv_at hl 3 rfl) ?_
  refine lv_iconst (v := 1) S.1 S.2.1 dJx4a65c_add_72be8_17 (by decide) ?_
  refine lv_iadd S.1 S.2.1 dJx4a65c_add_72be8_18 ?_
  refine lv_topi (fun y_4 ey_4 => ?_)
  have ey_4 : y_4 = nI (k + 1) := ey_4.trans (nI_1 k)
  subst ey_4
  refine pk_put (v := .int (nI (k + 1))) S hK hW 2 m_h e_h rfl hinJx4a65c tyJx4a65c_ok nmJx4a65c (by decide) wd_1085 rfl rfl rfl rfl (Nat.le_of_ble_eq_true rfl) dJx4a65c_add_72be8_19 (fun H_5 l_6 hW => ?_)
  have e_h : (va_up F_3 h (.inr (4, ([.int md, .ref ar, .int sz] : List Value).set 2 (.int (nI (k + 1)))))) h = .inr (4, [.int md, .ref ar, .int (nI (k + 1))]) := up_eq
  have e_ar : (va_up F_3 h (.inr (4, ([.int md, .ref ar, .int sz] : List Value).set 2 (.int (nI (k + 1)))))) ar = rfA (κ 3) n (va_up f k (some y)) := (up_ne n_h_ar.symm).trans e_ar
  have hfr : ∀ q, q ≠ h → q ≠ ar → (va_up F_3 h (.inr (4, ([.int md, .ref ar, .int sz] : List Value).set 2 (.int (nI (k + 1)))))) q = F q := fun q q1 q2 => (up_ne q1).trans (hfr q q1 q2)
  generalize va_up F_3 h (.inr (4, ([.int md, .ref ar, .int sz] : List Value).set 2 (.int (nI (k + 1))))) = F_7 at hW e_h e_ar hfr
  exact pk_vret S hr hlk hW ⟨rfl, ⟨m_h, e_h, m_ar, n_h_ar, e_ar⟩, hfr⟩ (by decide) (by decide) dJx4a65c_add_72be8_22
set_option maxHeartbeats 4000000 in
set_option maxRecDepth 100000 in
theorem c_Jx4a65c_add_72be8_full {l : Launch} {D : va_G} {κ : Nat → ClassId} {ζ : Nat → Nat} {L : List Nat} {F : Nat → va_E} {h ar n : Nat} {f : Nat → Option Nat} {md : Int32} (hR : RA κ h ar n f md (nI n) L F) (hn0 : 0 < n) (hn1 : n ≤ 21) (hel : ∀ i, i < n → ∀ y, f i = some y → ∃ v, bx ζ L F y v) {y : Nat} {v : Int32} (hb : bx ζ L F y v) : MtV l D cls (ty5 κ) ζ yJx4a65c_add_72be8 cJx4a65c_add_72be8 4 none 6 1 32 ([.ref h, .ref y, .ref ar, .int (nI n)] : List Value) L F (fun L' F' => (∀ x ∈ L, x ∈ L') ∧ ∃ q, q ∉ L ∧ RA κ h q (n + max 1 (n / 2)) (va_up (va_cpy f (fun _ => none) 0 0 n) n (some y)) md (nI (n + 1)) L' F' ∧ ∀ x ∈ L, x ≠ h → F' x = F x) := by
  refine MtV.of (by decide) (Nat.le_of_ble_eq_true rfl) ?_
  intro p e s m below meth c S hr hlk hini hK hW hST ls hl
  have hl : lv_has ls 4 [(0, .ref h), (1, .ref y), (2, .ref ar), (3, .int (nI n))] := hl
  obtain ⟨m_h, e_h, m_ar, n_h_ar, e_ar⟩ := hR
  refine lv_iload_n S.1 S.2.1 dJx4a65c_add_72be8_0 rfl (lv_at hl 3 rfl) ?_
  refine lv_aload_n S.1 S.2.1 dJx4a65c_add_72be8_1 rfl (lv_at hl 2 rfl) ?_
  refine pk_alen S hK hW 3 m_ar e_ar rfl rfl dJx4a65c_add_72be8_2 ?_
  refine lv_icmp_ne (tgt := 11) S.1 S.2.1 dJx4a65c_add_72be8_3 (by decide) (fun c1 => absurd rfl c1) (fun _ => ?_)
  refine lv_aload_n S.1 S.2.1 dJx4a65c_add_72be8_6 rfl (lv_at hl 0 rfl) ?_
  refine pk_cVR (As := []) (rest := []) S hK hST hW (c_Jx4a65c_grow_d5877_own ⟨m_h, e_h, m_ar, n_h_ar, e_ar⟩ hn0 hn1 hel) mc_Jx4a65c_grow_d5877 wd_1116 wd_1118 wd_1698 rfl np_Jx4a65c_grow_d5877 m_h e_h rfl rfl hl.1 rfl (Nat.le_of_ble_eq_true rfl) dJx4a65c_add_72be8_7 ⟨by decide, by decide⟩ ⟨by decide, by decide⟩ (fun q L1 F1 H1 l1 hp hW => ?_)
  obtain ⟨hsub1, hq_q, hR1, hfr1⟩ := hp
  obtain ⟨m_h1, e_h1, m_q, n_h_q, e_q⟩ := hR1
  have hb := hb.keep e_h hsub1 hfr1
  have m_h := m_h1
  have e_h := e_h1
  have hfr : ∀ x ∈ L, x ≠ h → F1 x = F x := hfr1
  refine lv_astore_n (lv' := [(2, .ref q), (0, .ref h), (1, .ref y), (3, .int (nI n))]) S.1 S.2.1 dJx4a65c_add_72be8_10 rfl hl (Nat.le_of_ble_eq_true rfl) rfl (fun ls hl => ?_)
  refine lv_aload_n S.1 S.2.1 dJx4a65c_add_72be8_11 rfl (lv_at hl 0 rfl) ?_
  refine lv_iload_n S.1 S.2.1 dJx4a65c_add_72be8_12 rfl (lv_at hl 3 rfl) ?_
  refine lv_aload_n S.1 S.2.1 dJx4a65c_add_72be8_13 rfl (lv_at hl 2 rfl) ?_
  refine pk_aast S hK hW 3 m_q e_q rfl (bx_cell hK hW hST hb) (hST.1.1 _ wn_26) (vp_in_nI (by omega) (by omega)) dJx4a65c_add_72be8_14 (fun H_1 l_2 hW => ?_)
  rw [show (nI n).toNatClampNeg = n from nI_clamp (by omega)] at hW
  have e_h : (va_up F1 q (rfA (κ 3) (n + max 1 (n / 2)) (va_up (va_cpy f (fun _ => none) 0 0 n) n (some y)))) h = .inr (4, [.int md, .ref q, .int (nI n)]) := (up_ne n_h_q).trans e_h
  have e_q : (va_up F1 q (rfA (κ 3) (n + max 1 (n / 2)) (va_up (va_cpy f (fun _ => none) 0 0 n) n (some y)))) q = rfA (κ 3) (n + max 1 (n / 2)) (va_up (va_cpy f (fun _ => none) 0 0 n) n (some y)) := up_eq
  have hfr : ∀ x ∈ L, x ≠ h → (va_up F1 q (rfA (κ 3) (n + max 1 (n / 2)) (va_up (va_cpy f (fun _ => none) 0 0 n) n (some y)))) x = F x := fun x hx xh => (up_ne (fun (ee : x = q) => hq_q (ee ▸ hx))).trans (hfr x hx xh)
  generalize va_up F1 q (rfA (κ 3) (n + max 1 (n / 2)) (va_up (va_cpy f (fun _ => none) 0 0 n) n (some y))) = F_3 at hW e_h e_q hfr
  refine lv_aload_n S.1 S.2.1 dJx4a65c_add_72be8_15 rfl (lv_at hl 1 rfl) ?_
  refine lv_iload_n S.1 S.2.1 dJx4a65c_add_72be8_16 rfl (lv_at hl 3 rfl) ?_
  refine lv_iconst (v := 1) S.1 S.2.1 dJx4a65c_add_72be8_17 (by decide) ?_
  refine lv_iadd S.1 S.2.1 dJx4a65c_add_72be8_18 ?_
  refine lv_topi (fun y_4 ey_4 => ?_)
  have ey_4 : y_4 = nI (n + 1) := ey_4.trans (nI_1 n)
  subst ey_4
  refine pk_put (v := .int (nI (n + 1))) S hK hW 2 m_h e_h rfl hinJx4a65c tyJx4a65c_ok nmJx4a65c (by decide) wd_1085 rfl rfl rfl rfl (Nat.le_of_ble_eq_true rfl) dJx4a65c_add_72be8_19 (fun H_5 l_6 hW => ?_)
  have e_h : (va_up F_3 h (.inr (4, ([.int md, .ref q, .int (nI n)] : List Value).set 2 (.int (nI (n + 1)))))) h = .inr (4, [.int md, .ref q, .int (nI (n + 1))]) := up_eq
  have e_q : (va_up F_3 h (.inr (4, ([.int md, .ref q, .int (nI n)] : List Value).set 2 (.int (nI (n + 1)))))) q = rfA (κ 3) (n + max 1 (n / 2)) (va_up (va_cpy f (fun _ => none) 0 0 n) n (some y)) := (up_ne n_h_q.symm).trans e_q
  have hfr : ∀ x ∈ L, x ≠ h → (va_up F_3 h (.inr (4, ([.int md, .ref q, .int (nI n)] : List Value).set 2 (.int (nI (n + 1)))))) x = F x := fun x hx xh => (up_ne xh).trans (hfr x hx xh)
  generalize va_up F_3 h (.inr (4, ([.int md, .ref q, .int (nI n)] : List Value).set 2 (.int (nI (n + 1))))) = F_7 at hW e_h e_q hfr
  exact pk_vret S hr hlk hW ⟨hsub1, q, hq_q, ⟨m_h, e_h, m_q, n_h_q, e_q⟩, hfr⟩ (by decide) (by decide) dJx4a65c_add_72be8_22
set_option maxHeartbeats 4000000 in
set_option maxRecDepth 100000 in
theorem c_Jx4a65c_add_72be8_newI {l : Launch} {D : va_G} {κ : Nat → ClassId} {ζ : Nat → Nat} {L : List Nat} {F : Nat → va_E} {h : Nat} {md : Int32} (hR : RE ζ h md 0 L F) {y : Nat} {v : Int32} (hb : bx ζ L F y v) : MtV l D cls (ty5 κ) ζ yJx4a65c_add_72be8 cJx4a65c_add_72be8 4 none 6 1 32 ([.ref h, .ref y, .ref (ζ 256), .int (nI 0)] : List Value) L F (fun L' F' => (∀ x ∈ L, x ∈ L') ∧ ∃ q, q ∉ L ∧ RA κ h q 10 (va_up (fun _ => none) 0 (some y)) md (nI (0 + 1)) L' F' ∧ ∀ x ∈ L, x ≠ h → F' x = F x) := by
  refine MtV.of (by decide) (Nat.le_of_ble_eq_true rfl) ?_
  intro p e s m below meth c S hr hlk hini hK hW hST ls hl
  have hl : lv_has ls 4 [(0, .ref h), (1, .ref y), (2, .ref (ζ 256)), (3, .int (nI 0))] := hl
  obtain ⟨m_h, e_h⟩ := hR
  refine lv_iload_n S.1 S.2.1 dJx4a65c_add_72be8_0 rfl (lv_at hl 3 rfl) ?_
  refine lv_aload_n S.1 S.2.1 dJx4a65c_add_72be8_1 rfl (lv_at hl 2 rfl) ?_
  refine va_tlen (v := 0) S.1 S.2.1 hST.2.tEmpty hW.2.2 rfl dJx4a65c_add_72be8_2 ?_
  refine lv_icmp_ne (tgt := 11) S.1 S.2.1 dJx4a65c_add_72be8_3 (by decide) (fun c1 => absurd rfl c1) (fun _ => ?_)
  refine lv_aload_n S.1 S.2.1 dJx4a65c_add_72be8_6 rfl (lv_at hl 0 rfl) ?_
  refine pk_cVR (As := []) (rest := []) S hK hST hW (c_Jx4a65c_grow_d5877_new ⟨m_h, e_h⟩) mc_Jx4a65c_grow_d5877 wd_1116 wd_1118 wd_1698 rfl np_Jx4a65c_grow_d5877 m_h e_h rfl rfl hl.1 rfl (Nat.le_of_ble_eq_true rfl) dJx4a65c_add_72be8_7 ⟨by decide, by decide⟩ ⟨by decide, by decide⟩ (fun q L1 F1 H1 l1 hp hW => ?_)
  obtain ⟨hsub1, hq_q, hR1, hfr1⟩ := hp
  obtain ⟨m_h1, e_h1, m_q, n_h_q, e_q⟩ := hR1
  have hb := hb.keep e_h hsub1 hfr1
  have m_h := m_h1
  have e_h := e_h1
  have hfr : ∀ x ∈ L, x ≠ h → F1 x = F x := hfr1
  refine lv_astore_n (lv' := [(2, .ref q), (0, .ref h), (1, .ref y), (3, .int (nI 0))]) S.1 S.2.1 dJx4a65c_add_72be8_10 rfl hl (Nat.le_of_ble_eq_true rfl) rfl (fun ls hl => ?_)
  refine lv_aload_n S.1 S.2.1 dJx4a65c_add_72be8_11 rfl (lv_at hl 0 rfl) ?_
  refine lv_iload_n S.1 S.2.1 dJx4a65c_add_72be8_12 rfl (lv_at hl 3 rfl) ?_
  refine lv_aload_n S.1 S.2.1 dJx4a65c_add_72be8_13 rfl (lv_at hl 2 rfl) ?_
  refine pk_aast S hK hW 3 m_q e_q rfl (bx_cell hK hW hST hb) (hST.1.1 _ wn_26) (vp_in_nI (by omega) (by omega)) dJx4a65c_add_72be8_14 (fun H_1 l_2 hW => ?_)
  rw [show (nI 0).toNatClampNeg = 0 from nI_clamp (by omega)] at hW
  have e_h : (va_up F1 q (rfA (κ 3) 10 (va_up (fun _ => none) 0 (some y)))) h = .inr (4, [.int md, .ref q, .int 0]) := (up_ne n_h_q).trans e_h
  have e_q : (va_up F1 q (rfA (κ 3) 10 (va_up (fun _ => none) 0 (some y)))) q = rfA (κ 3) 10 (va_up (fun _ => none) 0 (some y)) := up_eq
  have hfr : ∀ x ∈ L, x ≠ h → (va_up F1 q (rfA (κ 3) 10 (va_up (fun _ => none) 0 (some y)))) x = F x := fun x hx xh => (up_ne (fun (ee : x = q) => hq_q (ee ▸ hx))).trans (hfr x hx xh)
  generalize va_up F1 q (rfA (κ 3) 10 (va_up (fun _ => none) 0 (some y))) = F_3 at hW e_h e_q hfr
  refine lv_aload_n S.1 S.2.1 dJx4a65c_add_72be8_15 rfl (lv_at hl 1 rfl) ?_
  refine lv_iload_n S.1 S.2.1 dJx4a65c_add_72be8_16 rfl (lv_at hl 3 rfl) ?_
  refine lv_iconst (v := 1) S.1 S.2.1 dJx4a65c_add_72be8_17 (by decide) ?_
  refine lv_iadd S.1 S.2.1 dJx4a65c_add_72be8_18 ?_
  refine lv_topi (fun y_4 ey_4 => ?_)
  have ey_4 : y_4 = nI (0 + 1) := ey_4.trans (nI_1 0)
  subst ey_4
  refine pk_put (v := .int (nI (0 + 1))) S hK hW 2 m_h e_h rfl hinJx4a65c tyJx4a65c_ok nmJx4a65c (by decide) wd_1085 rfl rfl rfl rfl (Nat.le_of_ble_eq_true rfl) dJx4a65c_add_72be8_19 (fun H_5 l_6 hW => ?_)
  have e_h : (va_up F_3 h (.inr (4, ([.int md, .ref q, .int 0] : List Value).set 2 (.int (nI (0 + 1)))))) h = .inr (4, [.int md, .ref q, .int (nI (0 + 1))]) := up_eq
  have e_q : (va_up F_3 h (.inr (4, ([.int md, .ref q, .int 0] : List Value).set 2 (.int (nI (0 + 1)))))) q = rfA (κ 3) 10 (va_up (fun _ => none) 0 (some y)) := (up_ne n_h_q.symm).trans e_q
  have hfr : ∀ x ∈ L, x ≠ h → (va_up F_3 h (.inr (4, ([.int md, .ref q, .int 0] : List Value).set 2 (.int (nI (0 + 1)))))) x = F x := fun x hx xh => (up_ne xh).trans (hfr x hx xh)
  generalize va_up F_3 h (.inr (4, ([.int md, .ref q, .int 0] : List Value).set 2 (.int (nI (0 + 1))))) = F_7 at hW e_h e_q hfr
  exact pk_vret S hr hlk hW ⟨hsub1, q, hq_q, ⟨m_h, e_h, m_q, n_h_q, e_q⟩, hfr⟩ (by decide) (by decide) dJx4a65c_add_72be8_22
set_option maxHeartbeats 4000000 in
set_option maxRecDepth 100000 in
theorem c_Jx4a65c_add_72be8_newL {l : Launch} {D : va_G} {κ : Nat → ClassId} {ζ : Nat → Nat} {L : List Nat} {F : Nat → va_E} {h : Nat} {md : Int32} (hR : RE ζ h md 0 L F) {y : Nat} {w : List Value} (hyh : y ≠ h) (hb : y ∈ L ∧ F y = .inr (4, w)) : MtV l D cls (ty5 κ) ζ yJx4a65c_add_72be8 cJx4a65c_add_72be8 4 none 6 1 32 ([.ref h, .ref y, .ref (ζ 256), .int (nI 0)] : List Value) L F (fun L' F' => (∀ x ∈ L, x ∈ L') ∧ ∃ q, q ∉ L ∧ RA κ h q 10 (va_up (fun _ => none) 0 (some y)) md (nI (0 + 1)) L' F' ∧ ∀ x ∈ L, x ≠ h → F' x = F x) := by
  refine MtV.of (by decide) (Nat.le_of_ble_eq_true rfl) ?_
  intro p e s m below meth c S hr hlk hini hK hW hST ls hl
  have hl : lv_has ls 4 [(0, .ref h), (1, .ref y), (2, .ref (ζ 256)), (3, .int (nI 0))] := hl
  obtain ⟨m_h, e_h⟩ := hR
  refine lv_iload_n S.1 S.2.1 dJx4a65c_add_72be8_0 rfl (lv_at hl 3 rfl) ?_
  refine lv_aload_n S.1 S.2.1 dJx4a65c_add_72be8_1 rfl (lv_at hl 2 rfl) ?_
  refine va_tlen (v := 0) S.1 S.2.1 hST.2.tEmpty hW.2.2 rfl dJx4a65c_add_72be8_2 ?_
  refine lv_icmp_ne (tgt := 11) S.1 S.2.1 dJx4a65c_add_72be8_3 (by decide) (fun c1 => absurd rfl c1) (fun _ => ?_)
  refine lv_aload_n S.1 S.2.1 dJx4a65c_add_72be8_6 rfl (lv_at hl 0 rfl) ?_
  refine pk_cVR (As := []) (rest := []) S hK hST hW (c_Jx4a65c_grow_d5877_new ⟨m_h, e_h⟩) mc_Jx4a65c_grow_d5877 wd_1116 wd_1118 wd_1698 rfl np_Jx4a65c_grow_d5877 m_h e_h rfl rfl hl.1 rfl (Nat.le_of_ble_eq_true rfl) dJx4a65c_add_72be8_7 ⟨by decide, by decide⟩ ⟨by decide, by decide⟩ (fun q L1 F1 H1 l1 hp hW => ?_)
  obtain ⟨hsub1, hq_q, hR1, hfr1⟩ := hp
  obtain ⟨m_h1, e_h1, m_q, n_h_q, e_q⟩ := hR1
  have m_h := m_h1
  have e_h := e_h1
  have hfr : ∀ x ∈ L, x ≠ h → F1 x = F x := hfr1
  have hb := And.intro (hsub1 _ hb.1) ((hfr1 _ hb.1 hyh).trans hb.2)
  refine lv_astore_n (lv' := [(2, .ref q), (0, .ref h), (1, .ref y), (3, .int (nI 0))]) S.1 S.2.1 dJx4a65c_add_72be8_10 rfl hl (Nat.le_of_ble_eq_true rfl) rfl (fun ls hl => ?_)
  refine lv_aload_n S.1 S.2.1 dJx4a65c_add_72be8_11 rfl (lv_at hl 0 rfl) ?_
  refine lv_iload_n S.1 S.2.1 dJx4a65c_add_72be8_12 rfl (lv_at hl 3 rfl) ?_
  refine lv_aload_n S.1 S.2.1 dJx4a65c_add_72be8_13 rfl (lv_at hl 2 rfl) ?_
  refine pk_aast S hK hW 3 m_q e_q rfl (pk_recv (r := (RJx4a65c, TJx4a65c, 3)) hK hW hb.1 hb.2 rfl) (hST.1.1 _ wn_32) (vp_in_nI (by omega) (by omega)) dJx4a65c_add_72be8_14 (fun H_1 l_2 hW => ?_)
  rw [show (nI 0).toNatClampNeg = 0 from nI_clamp (by omega)] at hW
  have e_h : (va_up F1 q (rfA (κ 3) 10 (va_up (fun _ => none) 0 (some y)))) h = .inr (4, [.int md, .ref q, .int 0]) := (up_ne n_h_q).trans e_h
  have e_q : (va_up F1 q (rfA (κ 3) 10 (va_up (fun _ => none) 0 (some y)))) q = rfA (κ 3) 10 (va_up (fun _ => none) 0 (some y)) := up_eq
  have hfr : ∀ x ∈ L, x ≠ h → (va_up F1 q (rfA (κ 3) 10 (va_up (fun _ => none) 0 (some y)))) x = F x := fun x hx xh => (up_ne (fun (ee : x = q) => hq_q (ee ▸ hx))).trans (hfr x hx xh)
  generalize va_up F1 q (rfA (κ 3) 10 (va_up (fun _ => none) 0 (some y))) = F_3 at hW e_h e_q hfr
  refine lv_aload_n S.1 S.2.1 dJx4a65c_add_72be8_15 rfl (lv_at hl 1 rfl) ?_
  refine lv_iload_n S.1 S.2.1 dJx4a65c_add_72be8_16 rfl (lv_at hl 3 rfl) ?_
  refine lv_iconst (v := 1) S.1 S.2.1 dJx4a65c_add_72be8_17 (by decide) ?_
  refine lv_iadd S.1 S.2.1 dJx4a65c_add_72be8_18 ?_
  refine lv_topi (fun y_4 ey_4 => ?_)
  have ey_4 : y_4 = nI (0 + 1) := ey_4.trans (nI_1 0)
  subst ey_4
  refine pk_put (v := .int (nI (0 + 1))) S hK hW 2 m_h e_h rfl hinJx4a65c tyJx4a65c_ok nmJx4a65c (by decide) wd_1085 rfl rfl rfl rfl (Nat.le_of_ble_eq_true rfl) dJx4a65c_add_72be8_19 (fun H_5 l_6 hW => ?_)
  have e_h : (va_up F_3 h (.inr (4, ([.int md, .ref q, .int 0] : List Value).set 2 (.int (nI (0 + 1)))))) h = .inr (4, [.int md, .ref q, .int (nI (0 + 1))]) := up_eq
  have e_q : (va_up F_3 h (.inr (4, ([.int md, .ref q, .int 0] : List Value).set 2 (.int (nI (0 + 1)))))) q = rfA (κ 3) 10 (va_up (fun _ => none) 0 (some y)) := (up_ne n_h_q.symm).trans e_q
  have hfr : ∀ x ∈ L, x ≠ h → (va_up F_3 h (.inr (4, ([.int md, .ref q, .int 0] : List Value).set 2 (.int (nI (0 + 1)))))) x = F x := fun x hx xh => (up_ne xh).trans (hfr x hx xh)
  generalize va_up F_3 h (.inr (4, ([.int md, .ref q, .int 0] : List Value).set 2 (.int (nI (0 + 1))))) = F_7 at hW e_h e_q hfr
  exact pk_vret S hr hlk hW ⟨hsub1, q, hq_q, ⟨m_h, e_h, m_q, n_h_q, e_q⟩, hfr⟩ (by decide) (by decide) dJx4a65c_add_72be8_22
