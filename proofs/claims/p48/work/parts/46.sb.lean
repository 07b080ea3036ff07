/-! StringBuilder and String, by their lengths -/
def ncap (cap m : Nat) : Nat := if m ≤ cap then cap else cap + max (m - cap) (cap + 2)
def gms (cap m : Nat) : Nat := if m ≤ cap then 0 else cap + max (m - cap) (cap + 2)
def gmc (cap m : Nat) : Nat := if m ≤ cap then 0 else 1
theorem ncap_pot (cap m : Nat) : gms cap m + 2 * cap ≤ 2 * ncap cap m ∧ gmc cap m + cap ≤ ncap cap m ∧ ncap cap m ≤ max cap (2 * m) ∧ m ≤ ncap cap m ∧ cap ≤ ncap cap m := by
  unfold gms gmc ncap
  by_cases h : m ≤ cap
  · rw [if_pos h, if_pos h, if_pos h]; omega
  · rw [if_neg h, if_neg h, if_neg h]; omega
theorem shr0 (x : Int32) : x >>> ((0 : Int32) &&& 31) = x := Int32.shiftRight_zero
theorem shl0 (x : Int32) : x <<< ((0 : Int32) &&& 31) = x := Int32.shiftLeft_zero
theorem sub_le0 {m c : Nat} (h : m ≤ c) (hc : c < 2147483648) : nI m - nI c ≤ 0 := by
  rw [Int32.le_iff_toInt_le, Int32.toInt_sub, nI_toInt (by omega), nI_toInt (by omega)]
  show Int.bmod ((m : Int) - c) (2 ^ 32) ≤ 0
  rw [Int.bmod_def]
  split <;> omega
theorem ncap_I {cap m : Nat} (h : cap < m) (hm : m ≤ 100000) : nI cap + (if nI (m - cap) < nI (cap + 2) then nI (cap + 2) else nI (m - cap)) = nI (cap + max (m - cap) (cap + 2)) := by
  by_cases hc : m - cap < cap + 2
  · rw [if_pos ((nI_ltI (by omega) (by omega)).mpr hc), nI_add]
    congr 1
    omega
  · rw [if_neg (fun q => hc ((nI_ltI (by omega) (by omega)).mp q)), nI_add]
    congr 1
    omega
theorem min_nI {a b : Nat} (h : a ≤ b) (hb : b < 2147483648) : (if nI a < nI b then nI a else nI b) = nI a := by
  by_cases e : a < b
  · exact if_pos ((nI_ltI (by omega) (by omega)).mpr e)
  · have : a = b := by omega
    subst this
    exact ite_self _
theorem mc_J5_isLatin1_aae02 : MCode yJ5_isLatin1_aae02 cJ5_isLatin1_aae02 1 (some .boolean) := ⟨wd_862, wd_26, by decide, by decide⟩
theorem np_J5_isLatin1_aae02 : (parseMethodDescriptor yJ5_isLatin1_aae02.desc).map (fun d => d.parameters.length) = some 0 := by decide +kernel
set_option maxHeartbeats 4000000 in
set_option maxRecDepth 100000 in
theorem c_J5_isLatin1_aae02 {l : Launch} {D : va_G} {κ : Nat → ClassId} {ζ : Nat → Nat} {L : List Nat} {F : Nat → va_E} {b v cnt : Nat} {ml : Int32} (m_b : b ∈ L) (e_b : F b = .inr (1, [.ref v, .int 0, .int ml, .int (nI cnt)])) : MtI l D cls (ty5 κ) ζ yJ5_isLatin1_aae02 cJ5_isLatin1_aae02 1 (some .boolean) 1 0 0 ([.ref b] : List Value) L F (fun r L' F' => L = L' ∧ F = F' ∧ 1 = r) := by
  refine MtI.of (by decide) (Nat.le_of_ble_eq_true rfl) ?_
  intro p e s m below meth c S hr hlk hini hK hW hST ls hl
  have hl : lv_has ls 1 [(0, .ref b)] := hl
  refine pk_gets S hW hST.2.zCompact wd_804 dJ5_isLatin1_aae02_0 ?_
  refine lv_if_eq (tgt := 17) S.1 S.2.1 dJ5_isLatin1_aae02_3 (by decide) (fun c1 => absurd c1 (by decide)) (fun _ => ?_)
  refine lv_aload_n S.1 S.2.1 dJ5_isLatin1_aae02_6 rfl (lv_at hl 0 rfl) ?_
  refine pk_get S hK hW 1 m_b e_b rfl hinJ4 (by decide) wd_813 rfl dJ5_isLatin1_aae02_7 ?_
  refine lv_if_ne (tgt := 17) S.1 S.2.1 dJ5_isLatin1_aae02_10 (by decide) (fun c1 => absurd rfl c1) (fun _ => ?_)
  refine lv_iconst (v := 1) S.1 S.2.1 dJ5_isLatin1_aae02_13 (by decide) ?_
  refine lv_goto (tgt := 18) S.1 S.2.1 dJ5_isLatin1_aae02_14 (by decide) ?_
  exact pk_zret S hr hlk hW (by decide) ⟨rfl, rfl, rfl⟩ (by decide) (by decide) dJ5_isLatin1_aae02_18
theorem mc_J1_canEncode_fc78d : MCode yJ1_canEncode_fc78d cJ1_canEncode_fc78d 1 (some .boolean) := ⟨wd_865, wd_30, by decide, by decide⟩
theorem np_J1_canEncode_fc78d : (parseMethodDescriptor yJ1_canEncode_fc78d.desc).map (fun d => d.parameters.length) = some 1 := by decide +kernel
set_option maxHeartbeats 4000000 in
set_option maxRecDepth 100000 in
theorem c_J1_canEncode_fc78d {l : Launch} {D : va_G} {κ : Nat → ClassId} {ζ : Nat → Nat} {L : List Nat} {F : Nat → va_E} {ch : Int32} (hc : ¬ 255 < ch) : MtI l D cls (ty5 κ) ζ yJ1_canEncode_fc78d cJ1_canEncode_fc78d 1 (some .boolean) 1 0 0 ([.int ch] : List Value) L F (fun r L' F' => L = L' ∧ F = F' ∧ 1 = r) := by
  refine MtI.of (by decide) (Nat.le_of_ble_eq_true rfl) ?_
  intro p e s m below meth c S hr hlk hini hK hW hST ls hl
  have hl : lv_has ls 1 [(0, .int ch)] := hl
  refine lv_iload_n S.1 S.2.1 dJ1_canEncode_fc78d_0 rfl (lv_at hl 0 rfl) ?_
  refine lv_sipush (v := 255) S.1 S.2.1 dJ1_canEncode_fc78d_1 (by decide) ?_
  refine lv_icmp_gt (tgt := 11) S.1 S.2.1 dJ1_canEncode_fc78d_4 (by decide) (fun c1 => absurd c1 hc) (fun _ => ?_)
  refine lv_iconst (v := 1) S.1 S.2.1 dJ1_canEncode_fc78d_7 (by decide) ?_
  refine lv_goto (tgt := 12) S.1 S.2.1 dJ1_canEncode_fc78d_8 (by decide) ?_
  exact pk_zret S hr hlk hW (by decide) ⟨rfl, rfl, rfl⟩ (by decide) (by decide) dJ1_canEncode_fc78d_12
theorem nI_nM {n : Nat} (h : n < 2147483647) : ¬ nI n = 2147483647 := fun e => by
  have := (nI_eq (a := n) (b := 2147483647) (by omega) (by omega)).mp e
  omega
theorem mc_J5_newCapacity_0f7a4 : MCode yJ5_newCapacity_0f7a4 cJ5_newCapacity_0f7a4 6 (some .int) := ⟨wd_835, wd_26, by decide, by decide⟩
theorem np_J5_newCapacity_0f7a4 : (parseMethodDescriptor yJ5_newCapacity_0f7a4.desc).map (fun d => d.parameters.length) = some 1 := by decide +kernel
set_option maxHeartbeats 4000000 in
set_option maxRecDepth 100000 in
theorem c_J5_newCapacity_0f7a4 {l : Launch} {D : va_G} {κ : Nat → ClassId} {ζ : Nat → Nat} {L : List Nat} {F : Nat → va_E} {b v cap cnt : Nat} {ml : Int32} {g : Nat → Int32} (m_b : b ∈ L) (m_v : v ∈ L) (n_b_v : b ≠ v) (e_b : F b = .inr (1, [.ref v, .int 0, .int ml, .int (nI cnt)])) (e_v : F v = .inl (κ 1, cap, .inl g)) (hg : ∀ j, fits .byte (.int (g j)) = true) {w : Nat} (hcm : cap < w) (hm : w ≤ 100000) : MtI l D cls (ty5 κ) ζ yJ5_newCapacity_0f7a4 cJ5_newCapacity_0f7a4 6 (some .int) 3 0 0 ([.ref b, .int (nI w)] : List Value) L F (fun r L' F' => L = L' ∧ F = F' ∧ nI (cap + max (w - cap) (cap + 2)) = r) := by
  refine MtI.of (by decide) (Nat.le_of_ble_eq_true rfl) ?_
  intro p e s m below meth c S hr hlk hini hK hW hST ls hl
  have hl : lv_has ls 6 [(0, .ref b), (1, .int (nI w))] := hl
  refine lv_aload_n S.1 S.2.1 dJ5_newCapacity_0f7a4_0 rfl (lv_at hl 0 rfl) ?_
  refine pk_get S hK hW 0 m_b e_b rfl hinJ4 (by decide) wd_812 rfl dJ5_newCapacity_0f7a4_1 ?_
  refine pk_alen S hK hW 1 m_v e_v rfl rfl dJ5_newCapacity_0f7a4_4 ?_
  refine lv_istore_n (lv' := [(2, .int (nI cap)), (0, .ref b), (1, .int (nI w))]) S.1 S.2.1 dJ5_newCapacity_0f7a4_5 rfl hl (Nat.le_of_ble_eq_true rfl) rfl (fun ls hl => ?_)
  refine lv_iload_n S.1 S.2.1 dJ5_newCapacity_0f7a4_6 rfl (lv_at hl 2 rfl) ?_
  refine lv_aload_n S.1 S.2.1 dJ5_newCapacity_0f7a4_7 rfl (lv_at hl 1 rfl) ?_
  refine pk_get S hK hW 1 m_b e_b rfl hinJ4 (by decide) wd_813 rfl dJ5_newCapacity_0f7a4_8 ?_
  refine lv_ishl S.1 S.2.1 dJ5_newCapacity_0f7a4_11 ?_
  refine lv_topi (fun y_1 ey_1 => ?_)
  have ey_1 : y_1 = (nI w) := ey_1.trans (shl0 _)
  subst ey_1
  refine lv_istore_n (lv' := [(3, .int (nI w)), (2, .int (nI cap)), (0, .ref b), (1, .int (nI w))]) S.1 S.2.1 dJ5_newCapacity_0f7a4_12 rfl hl (Nat.le_of_ble_eq_true rfl) rfl (fun ls hl => ?_)
  refine lv_iload_n S.1 S.2.1 dJ5_newCapacity_0f7a4_13 rfl (lv_at hl 0 rfl) ?_
  refine lv_iload_n S.1 S.2.1 dJ5_newCapacity_0f7a4_14 rfl (lv_at hl 1 rfl) ?_
  refine lv_isub S.1 S.2.1 dJ5_newCapacity_0f7a4_15 ?_
  refine lv_topi (fun y_2 ey_2 => ?_)
  have ey_2 : y_2 = nI (w - cap) := ey_2.trans (pk_sub (by omega))
  subst ey_2
  refine lv_istore (lv' := [(4, .int (nI (w - cap))), (3, .int (nI w)), (2, .int (nI cap)), (0, .ref b), (1, .int (nI w))]) S.1 S.2.1 dJ5_newCapacity_0f7a4_16 hl (Nat.le_of_ble_eq_true rfl) rfl (fun ls hl => ?_)
  refine lv_iload_n S.1 S.2.1 dJ5_newCapacity_0f7a4_18 rfl (lv_at hl 2 rfl) ?_
  refine lv_iload S.1 S.2.1 dJ5_newCapacity_0f7a4_19 (lv_at hl 0 rfl) ?_
  refine lv_iload_n S.1 S.2.1 dJ5_newCapacity_0f7a4_21 rfl (lv_at hl 2 rfl) ?_
  refine lv_iconst (v := 2) S.1 S.2.1 dJ5_newCapacity_0f7a4_22 (by decide) ?_
  refine lv_aload_n S.1 S.2.1 dJ5_newCapacity_0f7a4_23 rfl (lv_at hl 3 rfl) ?_
  refine pk_get S hK hW 1 m_b e_b rfl hinJ4 (by decide) wd_813 rfl dJ5_newCapacity_0f7a4_24 ?_
  refine lv_ishl S.1 S.2.1 dJ5_newCapacity_0f7a4_27 ?_
  refine lv_topi (fun y_3 ey_3 => ?_)
  have ey_3 : y_3 = 2 := ey_3.trans (shl0 _)
  subst ey_3
  refine lv_iadd S.1 S.2.1 dJ5_newCapacity_0f7a4_28 ?_
  refine lv_topi (fun y_4 ey_4 => ?_)
  have ey_4 : y_4 = nI (cap + 2) := ey_4.trans ((nI_add cap 2))
  subst ey_4
  have hNe := ncap_I hcm hm
  refine pk_cSI (As := [.int (nI cap), .int (nI (w - cap)), .int (nI (cap + 2))]) (rest := []) S hK hST hW (c_J8_newLength_cabcc (by rw [hNe]; exact nI_nle (by omega) (by omega)) (by rw [hNe]; exact nI_nlt (a := 2147483639) (by omega) (by omega))) mc_J8_newLength_cabcc wd_836 wd_837 np_J8_newLength_cabcc rfl hl.1 rfl (Nat.le_of_ble_eq_true rfl) dJ5_newCapacity_0f7a4_29 ⟨Nat.le_of_ble_eq_true rfl, Nat.le_of_ble_eq_true rfl⟩ ⟨Nat.le_of_ble_eq_true rfl, Nat.le_of_ble_eq_true rfl⟩ (fun r L_5 F_6 H_7 l_8 hp hW => ?_)
  obtain ⟨rfl, rfl, rfl⟩ := hp
  refine lv_topi (fun y_9 ey_9 => ?_)
  have ey_9 : y_9 = nI (cap + max (w - cap) (cap + 2)) := ey_9.trans (hNe)
  subst ey_9
  refine lv_istore (lv' := [(5, .int (nI (cap + max (w - cap) (cap + 2)))), (4, .int (nI (w - cap))), (3, .int (nI w)), (2, .int (nI cap)), (0, .ref b), (1, .int (nI w))]) S.1 S.2.1 dJ5_newCapacity_0f7a4_32 hl (Nat.le_of_ble_eq_true rfl) rfl (fun ls hl => ?_)
  refine lv_iload S.1 S.2.1 dJ5_newCapacity_0f7a4_34 (lv_at hl 0 rfl) ?_
  refine lv_ldc (v := 2147483647) S.1 S.2.1 S.2.2.2.1 (S.2.2.2.2 _ wd_844) dJ5_newCapacity_0f7a4_36 ?_
  refine lv_icmp_ne (tgt := 51) S.1 S.2.1 dJ5_newCapacity_0f7a4_38 (by decide) (fun _ => ?_) (fun c1 => absurd c1 (nI_nM (by omega)))
  refine lv_iload S.1 S.2.1 dJ5_newCapacity_0f7a4_51 (lv_at hl 0 rfl) ?_
  refine lv_aload_n S.1 S.2.1 dJ5_newCapacity_0f7a4_53 rfl (lv_at hl 4 rfl) ?_
  refine pk_get S hK hW 1 m_b e_b rfl hinJ4 (by decide) wd_813 rfl dJ5_newCapacity_0f7a4_54 ?_
  refine lv_ishr S.1 S.2.1 dJ5_newCapacity_0f7a4_57 ?_
  refine lv_topi (fun y_10 ey_10 => ?_)
  have ey_10 : y_10 = (nI (cap + max (w - cap) (cap + 2))) := ey_10.trans (shr0 _)
  subst ey_10
  exact pk_iret S hr hlk hW ⟨rfl, rfl, rfl⟩ (by decide) (by decide) dJ5_newCapacity_0f7a4_58
theorem mc_J7_copyOf_9075b : MCode yJ7_copyOf_9075b cJ7_copyOf_9075b 3 (some (.array .byte)) := ⟨wd_847, wd_12, by decide, by decide⟩
theorem np_J7_copyOf_9075b : (parseMethodDescriptor yJ7_copyOf_9075b.desc).map (fun d => d.parameters.length) = some 2 := by decide +kernel
set_option maxHeartbeats 4000000 in
set_option maxRecDepth 100000 in
theorem c_J7_copyOf_9075b {l : Launch} {D : va_G} {κ : Nat → ClassId} {ζ : Nat → Nat} {L : List Nat} {F : Nat → va_E} {v cap N : Nat} {g : Nat → Int32} (m_v : v ∈ L) (e_v : F v = .inl (κ 1, cap, .inl g)) (hg : ∀ j, fits .byte (.int (g j)) = true) (hcN : cap < N) (hN : N ≤ 300000) : MtR l D cls (ty5 κ) ζ yJ7_copyOf_9075b cJ7_copyOf_9075b 3 (some (.array .byte)) 2 1 N ([.ref v, .int (nI N)] : List Value) L F (fun r L' F' => (∀ x ∈ L, x ∈ L') ∧ r ∈ L' ∧ r ∉ L ∧ (∃ g', (∀ j, fits .byte (.int (g' j)) = true) ∧ F' r = .inl (κ 1, N, .inl g')) ∧ ∀ x ∈ L, F' x = F x) := by
  refine MtR.of (by decide) (Nat.le_of_ble_eq_true rfl) ?_
  intro p e s m below meth c S hr hlk hini hK hW hST ls hl
  have hl : lv_has ls 3 [(0, .ref v), (1, .int (nI N))] := hl
  have hsub : ∀ x ∈ L, x ∈ L := fun x hx => hx
  have hfr : ∀ x ∈ L, True → F x = F x := fun _ _ _ => rfl
  refine lv_iload_n S.1 S.2.1 dJ7_copyOf_9075b_0 rfl (lv_at hl 1 rfl) ?_
  refine lv_aload_n S.1 S.2.1 dJ7_copyOf_9075b_1 rfl (lv_at hl 0 rfl) ?_
  refine pk_alen S hK hW 1 m_v e_v rfl rfl dJ7_copyOf_9075b_2 ?_
  refine lv_icmp_ne (tgt := 14) S.1 S.2.1 dJ7_copyOf_9075b_3 (by decide) (fun _ => ?_) (fun c1 => absurd c1 (fun e => by have := (nI_eq (a := N) (b := cap) (by omega) (by omega)).mp e; omega))
  refine lv_iload_n S.1 S.2.1 dJ7_copyOf_9075b_14 rfl (lv_at hl 1 rfl) ?_
  refine pk_newB (N' := N) S hK hW 1 rfl wd_412 (nI_pos (by omega)) (nI_clamp (by omega)) (by omega) (Nat.le_of_ble_eq_true rfl) (by show 0 + N ≤ N; omega) dJ7_copyOf_9075b_15 (fun q H1 hq_q hW => ?_)
  have n_v_q : v ≠ q := fun ee => hq_q (ee ▸ m_v)
  have e_v : (va_up F q (.inl (κ 1, N, .inl (fun _ => 0)))) v = .inl (κ 1, cap, .inl g) := (up_ne n_v_q).trans e_v
  have m_v := List.mem_append_left [q] m_v
  have e_q : (va_up F q (.inl (κ 1, N, .inl (fun _ => 0)))) q = .inl (κ 1, N, .inl (fun _ => 0)) := up_eq
  have m_q : q ∈ L ++ [q] := List.mem_append_right _ (List.mem_singleton.mpr rfl)
  have hnw_q : q ∉ L := fun ee => hq_q (hsub _ ee)
  have hfr : ∀ x ∈ L, True → (va_up F q (.inl (κ 1, N, .inl (fun _ => 0)))) x = F x := fun x hx ht => (up_ne (fun (ee : x = q) => hnw_q (ee ▸ hx))).trans (hfr x hx ht)
  have hsub : ∀ x ∈ L, x ∈ L ++ [q] := fun x hx => List.mem_append_left _ (hsub x hx)
  generalize va_up F q (.inl (κ 1, N, .inl (fun _ => 0))) = F_1 at hW e_v e_q hfr
  generalize L ++ [q] = L_2 at hW m_v m_q hsub
  refine lv_astore_n (lv' := [(2, .ref q), (0, .ref v), (1, .int (nI N))]) S.1 S.2.1 dJ7_copyOf_9075b_17 rfl hl (Nat.le_of_ble_eq_true rfl) rfl (fun ls hl => ?_)
  refine lv_aload_n S.1 S.2.1 dJ7_copyOf_9075b_18 rfl (lv_at hl 1 rfl) ?_
  refine lv_iconst (v := 0) S.1 S.2.1 dJ7_copyOf_9075b_19 (by decide) ?_
  refine lv_aload_n S.1 S.2.1 dJ7_copyOf_9075b_20 rfl (lv_at hl 0 rfl) ?_
  refine lv_iconst (v := 0) S.1 S.2.1 dJ7_copyOf_9075b_21 (by decide) ?_
  refine lv_aload_n S.1 S.2.1 dJ7_copyOf_9075b_22 rfl (lv_at hl 1 rfl) ?_
  refine pk_alen S hK hW 1 m_v e_v rfl rfl dJ7_copyOf_9075b_23 ?_
  refine lv_iload_n S.1 S.2.1 dJ7_copyOf_9075b_24 rfl (lv_at hl 2 rfl) ?_
  refine va_mmin S.1 S.2.1 (S.2.2.1.trans hl.1.symm) S.2.2.2.1 (S.2.2.2.2 _ wd_854) (S.2.2.2.2 _ wd_648) (S.2.2.2.2 _ wd_11) (S.2.2.2.2 _ wd_649) (Nat.le_of_ble_eq_true rfl) (Nat.le_of_ble_eq_true rfl) (Nat.le_of_ble_eq_true rfl) (by show 0 + N ≤ N; omega) dJ7_copyOf_9075b_25 ?_
  refine lv_topi (fun y_3 ey_3 => ?_)
  have ey_3 : y_3 = nI cap := ey_3.trans (if_neg (nI_nlt (by omega) (by omega)))
  subst ey_3
  refine pk_copyb S hK hW wd_855 wd_857 wd_856 wd_13 hl.1 1 rfl m_v e_v m_q e_q 0 0 cap rfl rfl rfl (by omega) (by omega) (by omega) (by omega) hg (fun _ => rfl) (Nat.le_of_ble_eq_true rfl) (Nat.le_of_ble_eq_true rfl) dJ7_copyOf_9075b_28 (fun g1 H2 l2 hg1 hW => ?_)
  have e_v : (va_up F_1 q (.inl (κ 1, N, .inl g1))) v = .inl (κ 1, cap, .inl g) := (up_ne n_v_q).trans e_v
  have e_q : (va_up F_1 q (.inl (κ 1, N, .inl g1))) q = .inl (κ 1, N, .inl g1) := up_eq
  have hfr : ∀ x ∈ L, True → (va_up F_1 q (.inl (κ 1, N, .inl g1))) x = F x := fun x hx ht => (up_ne (fun (ee : x = q) => hnw_q (ee ▸ hx))).trans (hfr x hx ht)
  generalize va_up F_1 q (.inl (κ 1, N, .inl g1)) = F_4 at hW e_v e_q hfr
  refine lv_aload_n S.1 S.2.1 dJ7_copyOf_9075b_31 rfl (lv_at hl 0 rfl) ?_
  exact pk_rret S hr (Or.inr ⟨_, rfl⟩) hlk hW ⟨hsub, m_q, hnw_q, ⟨g1, hg1, e_q⟩, fun x hx => hfr x hx trivial⟩ (by decide) (by show 0 + N ≤ N; omega) dJ7_copyOf_9075b_32
theorem mc_J5_ensureCapacityInternal_d00df : MCode yJ5_ensureCapacityInternal_d00df cJ5_ensureCapacityInternal_d00df 3 none := ⟨wd_831, wd_26, by decide, by decide⟩
theorem np_J5_ensureCapacityInternal_d00df : (parseMethodDescriptor yJ5_ensureCapacityInternal_d00df.desc).map (fun d => d.parameters.length) = some 1 := by decide +kernel
set_option maxHeartbeats 4000000 in
set_option maxRecDepth 100000 in
theorem c_J5_ensureCapacityInternal_d00df_fit {l : Launch} {D : va_G} {κ : Nat → ClassId} {ζ : Nat → Nat} {L : List Nat} {F : Nat → va_E} {b v cap cnt : Nat} {ml : Int32} {g : Nat → Int32} (m_b : b ∈ L) (m_v : v ∈ L) (n_b_v : b ≠ v) (e_b : F b = .inr (1, [.ref v, .int 0, .int ml, .int (nI cnt)])) (e_v : F v = .inl (κ 1, cap, .inl g)) (hg : ∀ j, fits .byte (.int (g j)) = true) {w : Nat} (hcm : w ≤ cap) (hm : cap ≤ 300000) : MtV l D cls (ty5 κ) ζ yJ5_ensureCapacityInternal_d00df cJ5_ensureCapacityInternal_d00df 3 none 4 0 0 ([.ref b, .int (nI w)] : List Value) L F (fun L' F' => L = L' ∧ F = F') := by
  refine MtV.of (by decide) (Nat.le_of_ble_eq_true rfl) ?_
  intro p e s m below meth c S hr hlk hini hK hW hST ls hl
  have hl : lv_has ls 3 [(0, .ref b), (1, .int (nI w))] := hl
  refine lv_aload_n S.1 S.2.1 dJ5_ensureCapacityInternal_d00df_0 rfl (lv_at hl 0 rfl) ?_
  refine pk_get S hK hW 0 m_b e_b rfl hinJ4 (by decide) wd_812 rfl dJ5_ensureCapacityInternal_d00df_1 ?_
  refine pk_alen S hK hW 1 m_v e_v rfl rfl dJ5_ensureCapacityInternal_d00df_4 ?_
  refine lv_aload_n S.1 S.2.1 dJ5_ensureCapacityInternal_d00df_5 rfl (lv_at hl 0 rfl) ?_
  refine pk_get S hK hW 1 m_b e_b rfl hinJ4 (by decide) wd_813 rfl dJ5_ensureCapacityInternal_d00df_6 ?_
  refine lv_ishr S.1 S.2.1 dJ5_ensureCapacityInternal_d00df_9 ?_
  refine lv_topi (fun y_1 ey_1 => ?_)
  have ey_1 : y_1 = (nI cap) := ey_1.trans (shr0 _)
  subst ey_1
  refine lv_istore_n (lv' := [(2, .int (nI cap)), (0, .ref b), (1, .int (nI w))]) S.1 S.2.1 dJ5_ensureCapacityInternal_d00df_10 rfl hl (Nat.le_of_ble_eq_true rfl) rfl (fun ls hl => ?_)
  refine lv_iload_n S.1 S.2.1 dJ5_ensureCapacityInternal_d00df_11 rfl (lv_at hl 2 rfl) ?_
  refine lv_iload_n S.1 S.2.1 dJ5_ensureCapacityInternal_d00df_12 rfl (lv_at hl 0 rfl) ?_
  refine lv_isub S.1 S.2.1 dJ5_ensureCapacityInternal_d00df_13 ?_
  refine lv_if_le (tgt := 38) S.1 S.2.1 dJ5_ensureCapacityInternal_d00df_14 (by decide) (fun _ => ?_) (fun c1 => absurd (sub_le0 hcm (by omega)) c1)
  exact pk_vret S hr hlk hW ⟨rfl, rfl⟩ (by decide) (by decide) dJ5_ensureCapacityInternal_d00df_38
set_option maxHeartbeats 4000000 in
set_option maxRecDepth 100000 in
theorem c_J5_ensureCapacityInternal_d00df_grow {l : Launch} {D : va_G} {κ : Nat → ClassId} {ζ : Nat → Nat} {L : List Nat} {F : Nat → va_E} {b v cap cnt : Nat} {ml : Int32} {g : Nat → Int32} (m_b : b ∈ L) (m_v : v ∈ L) (n_b_v : b ≠ v) (e_b : F b = .inr (1, [.ref v, .int 0, .int ml, .int (nI cnt)])) (e_v : F v = .inl (κ 1, cap, .inl g)) (hg : ∀ j, fits .byte (.int (g j)) = true) {w : Nat} (hcm : cap < w) (hm : w ≤ 100000) : MtV l D cls (ty5 κ) ζ yJ5_ensureCapacityInternal_d00df cJ5_ensureCapacityInternal_d00df 3 none 4 1 (cap + max (w - cap) (cap + 2)) ([.ref b, .int (nI w)] : List Value) L F (fun L' F' => (∀ x ∈ L, x ∈ L') ∧ (∃ q g', q ∉ L ∧ q ∈ L' ∧ b ≠ q ∧ F' b = .inr (1, [.ref q, .int 0, .int ml, .int (nI cnt)]) ∧ F' q = .inl (κ 1, (cap + max (w - cap) (cap + 2)), .inl g') ∧ ∀ j, fits .byte (.int (g' j)) = true) ∧ ∀ x ∈ L, x ≠ b → F' x = F x) := by
  refine MtV.of (by decide) (Nat.le_of_ble_eq_true rfl) ?_
  intro p e s m below meth c S hr hlk hini hK hW hST ls hl
  have hl : lv_has ls 3 [(0, .ref b), (1, .int (nI w))] := hl
  refine lv_aload_n S.1 S.2.1 dJ5_ensureCapacityInternal_d00df_0 rfl (lv_at hl 0 rfl) ?_
  refine pk_get S hK hW 0 m_b e_b rfl hinJ4 (by decide) wd_812 rfl dJ5_ensureCapacityInternal_d00df_1 ?_
  refine pk_alen S hK hW 1 m_v e_v rfl rfl dJ5_ensureCapacityInternal_d00df_4 ?_
  refine lv_aload_n S.1 S.2.1 dJ5_ensureCapacityInternal_d00df_5 rfl (lv_at hl 0 rfl) ?_
  refine pk_get S hK hW 1 m_b e_b rfl hinJ4 (by decide) wd_813 rfl dJ5_ensureCapacityInternal_d00df_6 ?_
  refine lv_ishr S.1 S.2.1 dJ5_ensureCapacityInternal_d00df_9 ?_
  refine lv_topi (fun y_1 ey_1 => ?_)
  have ey_1 : y_1 = (nI cap) := ey_1.trans (shr0 _)
  subst ey_1
  refine lv_istore_n (lv' := [(2, .int (nI cap)), (0, .ref b), (1, .int (nI w))]) S.1 S.2.1 dJ5_ensureCapacityInternal_d00df_10 rfl hl (Nat.le_of_ble_eq_true rfl) rfl (fun ls hl => ?_)
  refine lv_iload_n S.1 S.2.1 dJ5_ensureCapacityInternal_d00df_11 rfl (lv_at hl 2 rfl) ?_
  refine lv_iload_n S.1 S.2.1 dJ5_ensureCapacityInternal_d00df_12 rfl (lv_at hl 0 rfl) ?_
  refine lv_isub S.1 S.2.1 dJ5_ensureCapacityInternal_d00df_13 ?_
  refine lv_topi (fun y_2 ey_2 => ?_)
  have ey_2 : y_2 = nI (w - cap) := ey_2.trans (pk_sub (by omega))
  subst ey_2
  refine lv_if_le (tgt := 38) S.1 S.2.1 dJ5_ensureCapacityInternal_d00df_14 (by decide) (fun c1 => absurd c1 (nI_nle (by omega) (by omega))) (fun _ => ?_)
  refine lv_aload_n S.1 S.2.1 dJ5_ensureCapacityInternal_d00df_17 rfl (lv_at hl 1 rfl) ?_
  refine lv_aload_n S.1 S.2.1 dJ5_ensureCapacityInternal_d00df_18 rfl (lv_at hl 1 rfl) ?_
  refine pk_get S hK hW 0 m_b e_b rfl hinJ4 (by decide) wd_812 rfl dJ5_ensureCapacityInternal_d00df_19 ?_
  refine lv_aload_n S.1 S.2.1 dJ5_ensureCapacityInternal_d00df_22 rfl (lv_at hl 1 rfl) ?_
  refine lv_iload_n S.1 S.2.1 dJ5_ensureCapacityInternal_d00df_23 rfl (lv_at hl 2 rfl) ?_
  refine pk_cPI (As := [.int (nI w)]) (rest := [.ref v, .ref b]) S hK hST hW (c_J5_newCapacity_0f7a4 m_b m_v n_b_v e_b e_v hg hcm hm) mc_J5_newCapacity_0f7a4 wd_832 wd_834 wn_48 wd_1655 np_J5_newCapacity_0f7a4 m_b e_b rfl rfl hl.1 rfl (Nat.le_of_ble_eq_true rfl) dJ5_ensureCapacityInternal_d00df_24 ⟨Nat.le_of_ble_eq_true rfl, Nat.le_of_ble_eq_true rfl⟩ ⟨Nat.zero_le _, Nat.zero_le _⟩ (fun r L_3 F_4 H_5 l_6 hp hW => ?_)
  obtain ⟨rfl, rfl, rfl⟩ := hp
  refine lv_aload_n S.1 S.2.1 dJ5_ensureCapacityInternal_d00df_27 rfl (lv_at hl 1 rfl) ?_
  refine pk_get S hK hW 1 m_b e_b rfl hinJ4 (by decide) wd_813 rfl dJ5_ensureCapacityInternal_d00df_28 ?_
  refine lv_ishl S.1 S.2.1 dJ5_ensureCapacityInternal_d00df_31 ?_
  refine lv_topi (fun y_7 ey_7 => ?_)
  have ey_7 : y_7 = (nI (cap + max (w - cap) (cap + 2))) := ey_7.trans (shl0 _)
  subst ey_7
  refine pk_cSR (As := [.ref v, .int (nI (cap + max (w - cap) (cap + 2)))]) (rest := [.ref b]) S hK hST hW (c_J7_copyOf_9075b m_v e_v hg (N := (cap + max (w - cap) (cap + 2))) (by omega) (by omega)) mc_J7_copyOf_9075b wd_845 wd_846 np_J7_copyOf_9075b rfl hl.1 rfl (Nat.le_of_ble_eq_true rfl) dJ5_ensureCapacityInternal_d00df_32 ⟨Nat.le_of_ble_eq_true rfl, Nat.le_of_ble_eq_true rfl⟩ ⟨Nat.le_of_ble_eq_true rfl, by show 0 + (cap + max (w - cap) (cap + 2)) ≤ (cap + max (w - cap) (cap + 2)); omega⟩ (fun q L1 F1 H1 l1 hp hW => ?_)
  obtain ⟨hsub1, m_q, hq_q, ⟨g1, hg1, e_q⟩, hfr1⟩ := hp
  have n_b_q : b ≠ q := fun ee => hq_q (ee ▸ m_b)
  have n_v_q : v ≠ q := fun ee => hq_q (ee ▸ m_v)
  have e_b : F1 b = .inr (1, [.ref v, .int 0, .int ml, .int (nI cnt)]) := (hfr1 b m_b).trans e_b
  have e_v : F1 v = .inl (κ 1, cap, .inl g) := (hfr1 v m_v).trans e_v
  have m_b := hsub1 _ m_b
  have m_v := hsub1 _ m_v
  have hfr : ∀ x ∈ L, x ≠ b → F1 x = F x := fun x hx _ => hfr1 x hx
  refine pk_put (v := .ref q) S hK hW 0 m_b e_b rfl hinJ4 tyJ4_ok nmJ4 (by decide) wd_812 rfl rfl rfl rfl (Nat.le_of_ble_eq_true rfl) dJ5_ensureCapacityInternal_d00df_35 (fun H_8 l_9 hW => ?_)
  have e_b : (va_up F1 b (.inr (1, ([.ref v, .int 0, .int ml, .int (nI cnt)] : List Value).set 0 (.ref q)))) b = .inr (1, [.ref q, .int 0, .int ml, .int (nI cnt)]) := up_eq
  have e_v : (va_up F1 b (.inr (1, ([.ref v, .int 0, .int ml, .int (nI cnt)] : List Value).set 0 (.ref q)))) v = .inl (κ 1, cap, .inl g) := (up_ne n_b_v.symm).trans e_v
  have e_q : (va_up F1 b (.inr (1, ([.ref v, .int 0, .int ml, .int (nI cnt)] : List Value).set 0 (.ref q)))) q = .inl (κ 1, (cap + max (w - cap) (cap + 2)), .inl g1) := (up_ne n_b_q.symm).trans e_q
  have hfr : ∀ x ∈ L, x ≠ b → (va_up F1 b (.inr (1, ([.ref v, .int 0, .int ml, .int (nI cnt)] : List Value).set 0 (.ref q)))) x = F x := fun x hx xb => (up_ne xb).trans (hfr x hx xb)
  generalize va_up F1 b (.inr (1, ([.ref v, .int 0, .int ml, .int (nI cnt)] : List Value).set 0 (.ref q))) = F_10 at hW e_b e_v e_q hfr
  exact pk_vret S hr hlk hW ⟨hsub1, ⟨q, g1, hq_q, m_q, n_b_q, e_b, e_q, hg1⟩, hfr⟩ (by decide) (by show 0 + (cap + max (w - cap) (cap + 2)) ≤ (cap + max (w - cap) (cap + 2)); omega) dJ5_ensureCapacityInternal_d00df_38
theorem mc_J5_init_d00df : MCode yJ5_init_d00df cJ5_init_d00df 2 none := ⟨wd_802, wd_26, by decide, by decide⟩
theorem np_J5_init_d00df : (parseMethodDescriptor yJ5_init_d00df.desc).map (fun d => d.parameters.length) = some 1 := by decide +kernel
set_option maxHeartbeats 4000000 in
set_option maxRecDepth 100000 in
theorem c_J5_init_d00df {l : Launch} {D : va_G} {κ : Nat → ClassId} {ζ : Nat → Nat} {L : List Nat} {F : Nat → va_E} {b N : Nat} (m_b : b ∈ L) (e_b : F b = .inr (1, [.null, .int 0, .int 0, .int 0])) (hN : N ≤ 300000) : MtV l D cls (ty5 κ) ζ yJ5_init_d00df cJ5_init_d00df 2 none 2 1 N ([.ref b, .int (nI N)] : List Value) L F (fun L' F' => (∀ x ∈ L, x ∈ L') ∧ (∃ q g', q ∉ L ∧ q ∈ L' ∧ b ≠ q ∧ F' b = .inr (1, [.ref q, .int 0, .int 0, .int 0]) ∧ F' q = .inl (κ 1, N, .inl g') ∧ ∀ j, fits .byte (.int (g' j)) = true) ∧ ∀ x ∈ L, x ≠ b → F' x = F x) := by
  refine MtV.of (by decide) (Nat.le_of_ble_eq_true rfl) ?_
  intro p e s m below meth c S hr hlk hini hK hW hST ls hl
  have hl : lv_has ls 2 [(0, .ref b), (1, .int (nI N))] := hl
  have hsub : ∀ x ∈ L, x ∈ L := fun x hx => hx
  have hfr : ∀ x ∈ L, x ≠ b → F x = F x := fun _ _ _ => rfl
  refine lv_aload_n S.1 S.2.1 dJ5_init_d00df_0 rfl (lv_at hl 0 rfl) ?_
  refine pk_objInit S wd_803 wd_38 wd_39 hl.1 dJ5_init_d00df_1 (Nat.le_of_ble_eq_true rfl) (Nat.le_of_ble_eq_true rfl) ?_
  refine pk_gets S hW hST.2.zCompact wd_804 dJ5_init_d00df_4 ?_
  refine lv_if_eq (tgt := 25) S.1 S.2.1 dJ5_init_d00df_7 (by decide) (fun c1 => absurd c1 (by decide)) (fun _ => ?_)
  refine lv_aload_n S.1 S.2.1 dJ5_init_d00df_10 rfl (lv_at hl 0 rfl) ?_
  refine lv_iload_n S.1 S.2.1 dJ5_init_d00df_11 rfl (lv_at hl 1 rfl) ?_
  refine pk_newB (N' := N) S hK hW 1 rfl wd_412 (nI_pos (by omega)) (nI_clamp (by omega)) (by omega) (Nat.le_of_ble_eq_true rfl) (by show 0 + N ≤ N; omega) dJ5_init_d00df_12 (fun q H1 hq_q hW => ?_)
  have n_b_q : b ≠ q := fun ee => hq_q (ee ▸ m_b)
  have e_b : (va_up F q (.inl (κ 1, N, .inl (fun _ => 0)))) b = .inr (1, [.null, .int 0, .int 0, .int 0]) := (up_ne n_b_q).trans e_b
  have m_b := List.mem_append_left [q] m_b
  have e_q : (va_up F q (.inl (κ 1, N, .inl (fun _ => 0)))) q = .inl (κ 1, N, .inl (fun _ => 0)) := up_eq
  have m_q : q ∈ L ++ [q] := List.mem_append_right _ (List.mem_singleton.mpr rfl)
  have hnw_q : q ∉ L := fun ee => hq_q (hsub _ ee)
  have hfr : ∀ x ∈ L, x ≠ b → (va_up F q (.inl (κ 1, N, .inl (fun _ => 0)))) x = F x := fun x hx xb => (up_ne (fun (ee : x = q) => hnw_q (ee ▸ hx))).trans (hfr x hx xb)
  have hsub : ∀ x ∈ L, x ∈ L ++ [q] := fun x hx => List.mem_append_left _ (hsub x hx)
  generalize va_up F q (.inl (κ 1, N, .inl (fun _ => 0))) = F_1 at hW e_b e_q hfr
  generalize L ++ [q] = L_2 at hW m_b m_q hsub
  refine pk_put (v := .ref q) S hK hW 0 m_b e_b rfl hinJ4 tyJ4_ok nmJ4 (by decide) wd_812 rfl rfl rfl rfl (Nat.le_of_ble_eq_true rfl) dJ5_init_d00df_14 (fun H_3 l_4 hW => ?_)
  have e_b : (va_up F_1 b (.inr (1, ([.null, .int 0, .int 0, .int 0] : List Value).set 0 (.ref q)))) b = .inr (1, [.ref q, .int 0, .int 0, .int 0]) := up_eq
  have e_q : (va_up F_1 b (.inr (1, ([.null, .int 0, .int 0, .int 0] : List Value).set 0 (.ref q)))) q = .inl (κ 1, N, .inl (fun _ => 0)) := (up_ne n_b_q.symm).trans e_q
  have hfr : ∀ x ∈ L, x ≠ b → (va_up F_1 b (.inr (1, ([.null, .int 0, .int 0, .int 0] : List Value).set 0 (.ref q)))) x = F x := fun x hx xb => (up_ne xb).trans (hfr x hx xb)
  generalize va_up F_1 b (.inr (1, ([.null, .int 0, .int 0, .int 0] : List Value).set 0 (.ref q))) = F_5 at hW e_b e_q hfr
  refine lv_aload_n S.1 S.2.1 dJ5_init_d00df_17 rfl (lv_at hl 0 rfl) ?_
  refine lv_iconst (v := 0) S.1 S.2.1 dJ5_init_d00df_18 (by decide) ?_
  refine pk_put (v := .int 0) S hK hW 1 m_b e_b rfl hinJ4 tyJ4_ok nmJ4 (by decide) wd_813 rfl rfl rfl rfl (Nat.le_of_ble_eq_true rfl) dJ5_init_d00df_19 (fun H_6 l_7 hW => ?_)
  have e_b : (va_up F_5 b (.inr (1, ([.ref q, .int 0, .int 0, .int 0] : List Value).set 1 (.int 0)))) b = .inr (1, [.ref q, .int 0, .int 0, .int 0]) := up_eq
  have e_q : (va_up F_5 b (.inr (1, ([.ref q, .int 0, .int 0, .int 0] : List Value).set 1 (.int 0)))) q = .inl (κ 1, N, .inl (fun _ => 0)) := (up_ne n_b_q.symm).trans e_q
  have hfr : ∀ x ∈ L, x ≠ b → (va_up F_5 b (.inr (1, ([.ref q, .int 0, .int 0, .int 0] : List Value).set 1 (.int 0)))) x = F x := fun x hx xb => (up_ne xb).trans (hfr x hx xb)
  generalize va_up F_5 b (.inr (1, ([.ref q, .int 0, .int 0, .int 0] : List Value).set 1 (.int 0))) = F_8 at hW e_b e_q hfr
  refine lv_goto (tgt := 38) S.1 S.2.1 dJ5_init_d00df_22 (by decide) ?_
  exact pk_vret S hr hlk hW ⟨hsub, ⟨q, _, hnw_q, m_q, n_b_q, e_b, e_q, fun _ => rfl⟩, fun x hx xb => hfr x hx xb⟩ (by decide) (by show 0 + N ≤ N; omega) dJ5_init_d00df_38
theorem mc_J4_init_da8c8 : MCode yJ4_init_da8c8 cJ4_init_da8c8 1 none := ⟨wd_799, wd_27, by decide, by decide⟩
theorem np_J4_init_da8c8 : (parseMethodDescriptor yJ4_init_da8c8.desc).map (fun d => d.parameters.length) = some 0 := by decide +kernel
set_option maxHeartbeats 4000000 in
set_option maxRecDepth 100000 in
theorem c_J4_init_da8c8 {l : Launch} {D : va_G} {κ : Nat → ClassId} {ζ : Nat → Nat} {L : List Nat} {F : Nat → va_E} {b : Nat} (m_b : b ∈ L) (e_b : F b = .inr (1, [.null, .int 0, .int 0, .int 0])) : MtV l D cls (ty5 κ) ζ yJ4_init_da8c8 cJ4_init_da8c8 1 none 3 1 16 ([.ref b] : List Value) L F (fun L' F' => (∀ x ∈ L, x ∈ L') ∧ (∃ q g', q ∉ L ∧ q ∈ L' ∧ b ≠ q ∧ F' b = .inr (1, [.ref q, .int 0, .int 0, .int 0]) ∧ F' q = .inl (κ 1, 16, .inl g') ∧ ∀ j, fits .byte (.int (g' j)) = true) ∧ ∀ x ∈ L, x ≠ b → F' x = F x) := by
  refine MtV.of (by decide) (Nat.le_of_ble_eq_true rfl) ?_
  intro p e s m below meth c S hr hlk hini hK hW hST ls hl
  have hl : lv_has ls 1 [(0, .ref b)] := hl
  refine lv_aload_n S.1 S.2.1 dJ4_init_da8c8_0 rfl (lv_at hl 0 rfl) ?_
  refine lv_bipush (v := 16) S.1 S.2.1 dJ4_init_da8c8_1 (by decide) ?_
  refine pk_cIV (As := [.int (nI 16)]) (rest := []) S hK hST hW (c_J5_init_d00df (N := 16) m_b e_b (by decide)) mc_J5_init_d00df wd_800 wd_801 rfl rfl np_J5_init_d00df rfl hl.1 rfl (Nat.le_of_ble_eq_true rfl) dJ4_init_da8c8_3 ⟨Nat.le_of_ble_eq_true rfl, Nat.le_of_ble_eq_true rfl⟩ ⟨Nat.le_of_ble_eq_true rfl, Nat.le_of_ble_eq_true rfl⟩ (fun L1 F1 H1 l1 hp hW => ?_)
  obtain ⟨ha, hb2, hc2⟩ := hp
  exact pk_vret S hr hlk hW ⟨ha, hb2, hc2⟩ (by decide) (by decide) dJ4_init_da8c8_6
theorem mc_J5_append_3fe6f : MCode yJ5_append_3fe6f cJ5_append_3fe6f 2 (some (.object "java/lang/AbstractStringBuilder")) := ⟨wd_827, wd_26, by decide, by decide⟩
theorem np_J5_append_3fe6f : (parseMethodDescriptor yJ5_append_3fe6f.desc).map (fun d => d.parameters.length) = some 1 := by decide +kernel
set_option maxHeartbeats 4000000 in
set_option maxRecDepth 100000 in
theorem c_J5_append_3fe6f_fit {l : Launch} {D : va_G} {κ : Nat → ClassId} {ζ : Nat → Nat} {L : List Nat} {F : Nat → va_E} {b v cap cnt : Nat} {ml : Int32} {g : Nat → Int32} (m_b : b ∈ L) (m_v : v ∈ L) (n_b_v : b ≠ v) (e_b : F b = .inr (1, [.ref v, .int 0, .int ml, .int (nI cnt)])) (e_v : F v = .inl (κ 1, cap, .inl g)) (hg : ∀ j, fits .byte (.int (g j)) = true) {ch : Int32} (hch : ¬ 255 < ch) (hfit : cnt + 1 ≤ cap) (hcp : cap ≤ 300000) : MtR l D cls (ty5 κ) ζ yJ5_append_3fe6f cJ5_append_3fe6f 2 (some (.object "java/lang/AbstractStringBuilder")) 5 0 0 ([.ref b, .int ch] : List Value) L F (fun r L' F' => b = r ∧ L = L' ∧ F' b = .inr (1, [.ref v, .int 0, .int ml, .int (nI (cnt + 1))]) ∧ (∃ g', F' v = .inl (κ 1, cap, .inl g') ∧ ∀ j, fits .byte (.int (g' j)) = true) ∧ ∀ q, q ≠ b → q ≠ v → F' q = F q) := by
  refine MtR.of (by decide) (Nat.le_of_ble_eq_true rfl) ?_
  intro p e s m below meth c S hr hlk hini hK hW hST ls hl
  have hl : lv_has ls 2 [(0, .ref b), (1, .int ch)] := hl
  have hfr : ∀ q, q ≠ b → q ≠ v → F q = F q := fun _ _ _ => rfl
  refine lv_aload_n S.1 S.2.1 dJ5_append_3fe6f_0 rfl (lv_at hl 0 rfl) ?_
  refine lv_aload_n S.1 S.2.1 dJ5_append_3fe6f_1 rfl (lv_at hl 0 rfl) ?_
  refine pk_get S hK hW 3 m_b e_b rfl hinJ4 (by decide) wd_815 rfl dJ5_append_3fe6f_2 ?_
  refine lv_iconst (v := 1) S.1 S.2.1 dJ5_append_3fe6f_5 (by decide) ?_
  refine lv_iadd S.1 S.2.1 dJ5_append_3fe6f_6 ?_
  refine lv_topi (fun y_1 ey_1 => ?_)
  have ey_1 : y_1 = nI (cnt + 1) := ey_1.trans ((nI_1 cnt))
  subst ey_1
  refine pk_cPV (As := [.int (nI (cnt + 1))]) (rest := []) S hK hST hW (c_J5_ensureCapacityInternal_d00df_fit m_b m_v n_b_v e_b e_v hg hfit hcp) mc_J5_ensureCapacityInternal_d00df wd_828 wd_830 wn_47 wd_1654 np_J5_ensureCapacityInternal_d00df m_b e_b rfl rfl hl.1 rfl (Nat.le_of_ble_eq_true rfl) dJ5_append_3fe6f_7 ⟨Nat.le_of_ble_eq_true rfl, Nat.le_of_ble_eq_true rfl⟩ ⟨Nat.le_of_ble_eq_true rfl, Nat.le_of_ble_eq_true rfl⟩ (fun L_2 F_3 H_4 l_5 hp hW => ?_)
  obtain ⟨rfl, rfl⟩ := hp
  refine lv_aload_n S.1 S.2.1 dJ5_append_3fe6f_10 rfl (lv_at hl 0 rfl) ?_
  refine pk_cUI (As := []) (rest := []) S hK hST hW (c_J5_isLatin1_aae02 m_b e_b) mc_J5_isLatin1_aae02 wd_858 wd_859 wd_861 wd_860 np_J5_isLatin1_aae02 m_b e_b rfl rfl hl.1 rfl (Nat.le_of_ble_eq_true rfl) dJ5_append_3fe6f_11 ⟨Nat.le_of_ble_eq_true rfl, Nat.le_of_ble_eq_true rfl⟩ ⟨Nat.le_of_ble_eq_true rfl, Nat.le_of_ble_eq_true rfl⟩ (fun r L_6 F_7 H_8 l_9 hp hW => ?_)
  obtain ⟨rfl, rfl, rfl⟩ := hp
  refine lv_if_eq (tgt := 45) S.1 S.2.1 dJ5_append_3fe6f_14 (by decide) (fun c1 => absurd c1 (by decide)) (fun _ => ?_)
  refine lv_iload_n S.1 S.2.1 dJ5_append_3fe6f_17 rfl (lv_at hl 1 rfl) ?_
  refine pk_cSI (As := [.int ch]) (rest := []) S hK hST hW (c_J1_canEncode_fc78d hch) mc_J1_canEncode_fc78d wd_863 wd_864 np_J1_canEncode_fc78d rfl hl.1 rfl (Nat.le_of_ble_eq_true rfl) dJ5_append_3fe6f_18 ⟨Nat.le_of_ble_eq_true rfl, Nat.le_of_ble_eq_true rfl⟩ ⟨Nat.le_of_ble_eq_true rfl, Nat.le_of_ble_eq_true rfl⟩ (fun r L_10 F_11 H_12 l_13 hp hW => ?_)
  obtain ⟨rfl, rfl, rfl⟩ := hp
  refine lv_if_eq (tgt := 45) S.1 S.2.1 dJ5_append_3fe6f_21 (by decide) (fun c1 => absurd c1 (by decide)) (fun _ => ?_)
  refine lv_aload_n S.1 S.2.1 dJ5_append_3fe6f_24 rfl (lv_at hl 0 rfl) ?_
  refine pk_get S hK hW 0 m_b e_b rfl hinJ4 (by decide) wd_812 rfl dJ5_append_3fe6f_25 ?_
  refine lv_aload_n S.1 S.2.1 dJ5_append_3fe6f_28 rfl (lv_at hl 0 rfl) ?_
  refine lv_dup S.1 S.2.1 dJ5_append_3fe6f_29 rfl ?_
  refine pk_get S hK hW 3 m_b e_b rfl hinJ4 (by decide) wd_815 rfl dJ5_append_3fe6f_30 ?_
  refine lv_dup_x1 S.1 S.2.1 dJ5_append_3fe6f_33 rfl rfl ?_
  refine lv_iconst (v := 1) S.1 S.2.1 dJ5_append_3fe6f_34 (by decide) ?_
  refine lv_iadd S.1 S.2.1 dJ5_append_3fe6f_35 ?_
  refine lv_topi (fun y_14 ey_14 => ?_)
  have ey_14 : y_14 = nI (cnt + 1) := ey_14.trans ((nI_1 cnt))
  subst ey_14
  refine pk_put (v := .int (nI (cnt + 1))) S hK hW 3 m_b e_b rfl hinJ4 tyJ4_ok nmJ4 (by decide) wd_815 rfl rfl rfl rfl (Nat.le_of_ble_eq_true rfl) dJ5_append_3fe6f_36 (fun H_15 l_16 hW => ?_)
  have e_b : (va_up F b (.inr (1, ([.ref v, .int 0, .int ml, .int (nI cnt)] : List Value).set 3 (.int (nI (cnt + 1)))))) b = .inr (1, [.ref v, .int 0, .int ml, .int (nI (cnt + 1))]) := up_eq
  have e_v : (va_up F b (.inr (1, ([.ref v, .int 0, .int ml, .int (nI cnt)] : List Value).set 3 (.int (nI (cnt + 1)))))) v = .inl (κ 1, cap, .inl g) := (up_ne n_b_v.symm).trans e_v
  have hfr : ∀ q, q ≠ b → q ≠ v → (va_up F b (.inr (1, ([.ref v, .int 0, .int ml, .int (nI cnt)] : List Value).set 3 (.int (nI (cnt + 1)))))) q = F q := fun q q1 q2 => (up_ne q1).trans (hfr q q1 q2)
  generalize va_up F b (.inr (1, ([.ref v, .int 0, .int ml, .int (nI cnt)] : List Value).set 3 (.int (nI (cnt + 1))))) = F_17 at hW e_b e_v hfr
  refine lv_iload_n S.1 S.2.1 dJ5_append_3fe6f_39 rfl (lv_at hl 1 rfl) ?_
  refine lv_i2b S.1 S.2.1 dJ5_append_3fe6f_40 rfl ?_
  refine pk_bast S hK hW 1 m_v e_v rfl (vp_in_nI (by omega) (by omega)) dJ5_append_3fe6f_41 (fun g9 H9 l9 hg9 hW => ?_) hg
  have e_b : (va_up F_17 v (.inl (κ 1, cap, .inl g9))) b = .inr (1, [.ref v, .int 0, .int ml, .int (nI (cnt + 1))]) := (up_ne n_b_v).trans e_b
  have e_v : (va_up F_17 v (.inl (κ 1, cap, .inl g9))) v = .inl (κ 1, cap, .inl g9) := up_eq
  have hfr : ∀ q, q ≠ b → q ≠ v → (va_up F_17 v (.inl (κ 1, cap, .inl g9))) q = F q := fun q q1 q2 => (up_ne q2).trans (hfr q q1 q2)
  generalize va_up F_17 v (.inl (κ 1, cap, .inl g9)) = F_18 at hW e_b e_v hfr
  refine lv_goto (tgt := 75) S.1 S.2.1 dJ5_append_3fe6f_42 (by decide) ?_
  refine lv_aload_n S.1 S.2.1 dJ5_append_3fe6f_75 rfl (lv_at hl 0 rfl) ?_
  exact pk_rret S hr (Or.inl ⟨_, rfl⟩) hlk hW ⟨rfl, rfl, e_b, ⟨g9, e_v, hg9⟩, hfr⟩ (by decide) (by decide) dJ5_append_3fe6f_76
theorem mc_J4_append_cf468 : MCode yJ4_append_cf468 cJ4_append_cf468 2 (some (.object "java/lang/StringBuilder")) := ⟨wd_824, wd_27, by decide, by decide⟩
theorem np_J4_append_cf468 : (parseMethodDescriptor yJ4_append_cf468.desc).map (fun d => d.parameters.length) = some 1 := by decide +kernel
set_option maxHeartbeats 4000000 in
set_option maxRecDepth 100000 in
theorem c_J4_append_cf468_fit {l : Launch} {D : va_G} {κ : Nat → ClassId} {ζ : Nat → Nat} {L : List Nat} {F : Nat → va_E} {b v cap cnt : Nat} {ml : Int32} {g : Nat → Int32} (m_b : b ∈ L) (m_v : v ∈ L) (n_b_v : b ≠ v) (e_b : F b = .inr (1, [.ref v, .int 0, .int ml, .int (nI cnt)])) (e_v : F v = .inl (κ 1, cap, .inl g)) (hg : ∀ j, fits .byte (.int (g j)) = true) {ch : Int32} (hch : ¬ 255 < ch) (hfit : cnt + 1 ≤ cap) (hcp : cap ≤ 300000) : MtR l D cls (ty5 κ) ζ yJ4_append_cf468 cJ4_append_cf468 2 (some (.object "java/lang/StringBuilder")) 6 0 0 ([.ref b, .int ch] : List Value) L F (fun r L' F' => b = r ∧ L = L' ∧ F' b = .inr (1, [.ref v, .int 0, .int ml, .int (nI (cnt + 1))]) ∧ (∃ g', F' v = .inl (κ 1, cap, .inl g') ∧ ∀ j, fits .byte (.int (g' j)) = true) ∧ ∀ q, q ≠ b → q ≠ v → F' q = F q) := by
  refine MtR.of (by decide) (Nat.le_of_ble_eq_true rfl) ?_
  intro p e s m below meth c S hr hlk hini hK hW hST ls hl
  have hl : lv_has ls 2 [(0, .ref b), (1, .int ch)] := hl
  refine lv_aload_n S.1 S.2.1 dJ4_append_cf468_0 rfl (lv_at hl 0 rfl) ?_
  refine lv_iload_n S.1 S.2.1 dJ4_append_cf468_1 rfl (lv_at hl 1 rfl) ?_
  refine pk_cWR (As := [.int ch]) (rest := []) S hK hST hW (c_J5_append_3fe6f_fit m_b m_v n_b_v e_b e_v hg hch hfit hcp) mc_J5_append_3fe6f wd_825 wd_826 wd_1653 wd_820 (by decide) np_J5_append_3fe6f m_b e_b rfl rfl hl.1 rfl (Nat.le_of_ble_eq_true rfl) dJ4_append_cf468_2 ⟨Nat.le_of_ble_eq_true rfl, Nat.le_of_ble_eq_true rfl⟩ ⟨Nat.le_of_ble_eq_true rfl, Nat.le_of_ble_eq_true rfl⟩ (fun r L_1 F_2 H_3 l_4 hp hW => ?_)
  obtain ⟨rfl, hp⟩ := hp
  refine lv_pop S.1 S.2.1 dJ4_append_cf468_5 rfl ?_
  refine lv_aload_n S.1 S.2.1 dJ4_append_cf468_6 rfl (lv_at hl 0 rfl) ?_
  exact pk_rret S hr (Or.inl ⟨_, rfl⟩) hlk hW ⟨rfl, hp⟩ (by decide) (by decide) dJ4_append_cf468_7
set_option maxHeartbeats 4000000 in
set_option maxRecDepth 100000 in
theorem c_J5_append_3fe6f_grow {l : Launch} {D : va_G} {κ : Nat → ClassId} {ζ : Nat → Nat} {L : List Nat} {F : Nat → va_E} {b v cap cnt : Nat} {ml : Int32} {g : Nat → Int32} (m_b : b ∈ L) (m_v : v ∈ L) (n_b_v : b ≠ v) (e_b : F b = .inr (1, [.ref v, .int 0, .int ml, .int (nI cnt)])) (e_v : F v = .inl (κ 1, cap, .inl g)) (hg : ∀ j, fits .byte (.int (g j)) = true) {ch : Int32} (hch : ¬ 255 < ch) (hgr : cap < cnt + 1) (hcn : cnt + 1 ≤ 100000) : MtR l D cls (ty5 κ) ζ yJ5_append_3fe6f cJ5_append_3fe6f 2 (some (.object "java/lang/AbstractStringBuilder")) 5 1 (cap + max (cnt + 1 - cap) (cap + 2)) ([.ref b, .int ch] : List Value) L F (fun r L' F' => b = r ∧ (∀ x ∈ L, x ∈ L') ∧ (∃ q g', q ∉ L ∧ q ∈ L' ∧ b ≠ q ∧ F' b = .inr (1, [.ref q, .int 0, .int ml, .int (nI (cnt + 1))]) ∧ F' q = .inl (κ 1, (cap + max (cnt + 1 - cap) (cap + 2)), .inl g') ∧ ∀ j, fits .byte (.int (g' j)) = true) ∧ ∀ x ∈ L, x ≠ b → F' x = F x) := by
  refine MtR.of (by decide) (Nat.le_of_ble_eq_true rfl) ?_
  intro p e s m below meth c S hr hlk hini hK hW hST ls hl
  have hl : lv_has ls 2 [(0, .ref b), (1, .int ch)] := hl
  refine lv_aload_n S.1 S.2.1 dJ5_append_3fe6f_0 rfl (lv_at hl 0 rfl) ?_
  refine lv_aload_n S.1 S.2.1 dJ5_append_3fe6f_1 rfl (lv_at hl 0 rfl) ?_
  refine pk_get S hK hW 3 m_b e_b rfl hinJ4 (by decide) wd_815 rfl dJ5_append_3fe6f_2 ?_
  refine lv_iconst (v := 1) S.1 S.2.1 dJ5_append_3fe6f_5 (by decide) ?_
  refine lv_iadd S.1 S.2.1 dJ5_append_3fe6f_6 ?_
  refine lv_topi (fun y_1 ey_1 => ?_)
  have ey_1 : y_1 = nI (cnt + 1) := ey_1.trans ((nI_1 cnt))
  subst ey_1
  refine pk_cPV (As := [.int (nI (cnt + 1))]) (rest := []) S hK hST hW (c_J5_ensureCapacityInternal_d00df_grow m_b m_v n_b_v e_b e_v hg hgr hcn) mc_J5_ensureCapacityInternal_d00df wd_828 wd_830 wn_47 wd_1654 np_J5_ensureCapacityInternal_d00df m_b e_b rfl rfl hl.1 rfl (Nat.le_of_ble_eq_true rfl) dJ5_append_3fe6f_7 ⟨Nat.le_of_ble_eq_true rfl, Nat.le_of_ble_eq_true rfl⟩ ⟨Nat.le_of_ble_eq_true rfl, by rw [Nat.zero_add]; exact Nat.le_refl _⟩ (fun L1 F1 H1 l1 hp hW => ?_)
  obtain ⟨hsub1, ⟨q, g1, hq_q, m_q, n_b_q, e_b, e_q, hg1⟩, hfr1⟩ := hp
  have m_b := hsub1 _ m_b
  have hfr : ∀ x ∈ L, x ≠ b → F1 x = F x := hfr1
  refine lv_aload_n S.1 S.2.1 dJ5_append_3fe6f_10 rfl (lv_at hl 0 rfl) ?_
  refine pk_cUI (As := []) (rest := []) S hK hST hW (c_J5_isLatin1_aae02 m_b e_b) mc_J5_isLatin1_aae02 wd_858 wd_859 wd_861 wd_860 np_J5_isLatin1_aae02 m_b e_b rfl rfl hl.1 rfl (Nat.le_of_ble_eq_true rfl) dJ5_append_3fe6f_11 ⟨Nat.le_of_ble_eq_true rfl, Nat.le_of_ble_eq_true rfl⟩ ⟨Nat.le_of_ble_eq_true rfl, by rw [Nat.add_zero, Nat.zero_add]; exact Nat.le_refl _⟩ (fun r L_2 F_3 H_4 l_5 hp hW => ?_)
  obtain ⟨rfl, rfl, rfl⟩ := hp
  refine lv_if_eq (tgt := 45) S.1 S.2.1 dJ5_append_3fe6f_14 (by decide) (fun c1 => absurd c1 (by decide)) (fun _ => ?_)
  refine lv_iload_n S.1 S.2.1 dJ5_append_3fe6f_17 rfl (lv_at hl 1 rfl) ?_
  refine pk_cSI (As := [.int ch]) (rest := []) S hK hST hW (c_J1_canEncode_fc78d hch) mc_J1_canEncode_fc78d wd_863 wd_864 np_J1_canEncode_fc78d rfl hl.1 rfl (Nat.le_of_ble_eq_true rfl) dJ5_append_3fe6f_18 ⟨Nat.le_of_ble_eq_true rfl, Nat.le_of_ble_eq_true rfl⟩ ⟨Nat.le_of_ble_eq_true rfl, by rw [Nat.add_zero, Nat.zero_add]; exact Nat.le_refl _⟩ (fun r L_6 F_7 H_8 l_9 hp hW => ?_)
  obtain ⟨rfl, rfl, rfl⟩ := hp
  refine lv_if_eq (tgt := 45) S.1 S.2.1 dJ5_append_3fe6f_21 (by decide) (fun c1 => absurd c1 (by decide)) (fun _ => ?_)
  refine lv_aload_n S.1 S.2.1 dJ5_append_3fe6f_24 rfl (lv_at hl 0 rfl) ?_
  refine pk_get S hK hW 0 m_b e_b rfl hinJ4 (by decide) wd_812 rfl dJ5_append_3fe6f_25 ?_
  refine lv_aload_n S.1 S.2.1 dJ5_append_3fe6f_28 rfl (lv_at hl 0 rfl) ?_
  refine lv_dup S.1 S.2.1 dJ5_append_3fe6f_29 rfl ?_
  refine pk_get S hK hW 3 m_b e_b rfl hinJ4 (by decide) wd_815 rfl dJ5_append_3fe6f_30 ?_
  refine lv_dup_x1 S.1 S.2.1 dJ5_append_3fe6f_33 rfl rfl ?_
  refine lv_iconst (v := 1) S.1 S.2.1 dJ5_append_3fe6f_34 (by decide) ?_
  refine lv_iadd S.1 S.2.1 dJ5_append_3fe6f_35 ?_
  refine lv_topi (fun y_10 ey_10 => ?_)
  have ey_10 : y_10 = nI (cnt + 1) := ey_10.trans ((nI_1 cnt))
  subst ey_10
  refine pk_put (v := .int (nI (cnt + 1))) S hK hW 3 m_b e_b rfl hinJ4 tyJ4_ok nmJ4 (by decide) wd_815 rfl rfl rfl rfl (Nat.le_of_ble_eq_true rfl) dJ5_append_3fe6f_36 (fun H_11 l_12 hW => ?_)
  have e_b : (va_up F1 b (.inr (1, ([.ref q, .int 0, .int ml, .int (nI cnt)] : List Value).set 3 (.int (nI (cnt + 1)))))) b = .inr (1, [.ref q, .int 0, .int ml, .int (nI (cnt + 1))]) := up_eq
  have e_q : (va_up F1 b (.inr (1, ([.ref q, .int 0, .int ml, .int (nI cnt)] : List Value).set 3 (.int (nI (cnt + 1)))))) q = .inl (κ 1, (cap + max (cnt + 1 - cap) (cap + 2)), .inl g1) := (up_ne n_b_q.symm).trans e_q
  have hfr : ∀ x ∈ L, x ≠ b → (va_up F1 b (.inr (1, ([.ref q, .int 0, .int ml, .int (nI cnt)] : List Value).set 3 (.int (nI (cnt + 1)))))) x = F x := fun x hx xb => (up_ne xb).trans (hfr x hx xb)
  generalize va_up F1 b (.inr (1, ([.ref q, .int 0, .int ml, .int (nI cnt)] : List Value).set 3 (.int (nI (cnt + 1))))) = F_13 at hW e_b e_q hfr
  refine lv_iload_n S.1 S.2.1 dJ5_append_3fe6f_39 rfl (lv_at hl 1 rfl) ?_
  refine lv_i2b S.1 S.2.1 dJ5_append_3fe6f_40 rfl ?_
  refine pk_bast S hK hW 1 m_q e_q rfl (vp_in_nI (by omega) (by omega)) dJ5_append_3fe6f_41 (fun g9 H9 l9 hg9 hW => ?_) hg1
  have e_b : (va_up F_13 q (.inl (κ 1, (cap + max (cnt + 1 - cap) (cap + 2)), .inl g9))) b = .inr (1, [.ref q, .int 0, .int ml, .int (nI (cnt + 1))]) := (up_ne n_b_q).trans e_b
  have e_q : (va_up F_13 q (.inl (κ 1, (cap + max (cnt + 1 - cap) (cap + 2)), .inl g9))) q = .inl (κ 1, (cap + max (cnt + 1 - cap) (cap + 2)), .inl g9) := up_eq
  have hfr : ∀ x ∈ L, x ≠ b → (va_up F_13 q (.inl (κ 1, (cap + max (cnt + 1 - cap) (cap + 2)), .inl g9))) x = F x := fun x hx xb => (up_ne (fun (ee : x = q) => hq_q (ee ▸ hx))).trans (hfr x hx xb)
  generalize va_up F_13 q (.inl (κ 1, (cap + max (cnt + 1 - cap) (cap + 2)), .inl g9)) = F_14 at hW e_b e_q hfr
  refine lv_goto (tgt := 75) S.1 S.2.1 dJ5_append_3fe6f_42 (by decide) ?_
  refine lv_aload_n S.1 S.2.1 dJ5_append_3fe6f_75 rfl (lv_at hl 0 rfl) ?_
  exact pk_rret S hr (Or.inl ⟨_, rfl⟩) hlk hW ⟨rfl, hsub1, ⟨q, g9, hq_q, m_q, n_b_q, e_b, e_q, hg9⟩, hfr⟩ (by decide) (by rw [Nat.zero_add]; exact Nat.le_refl _) dJ5_append_3fe6f_76
set_option maxHeartbeats 4000000 in
set_option maxRecDepth 100000 in
theorem c_J4_append_cf468_grow {l : Launch} {D : va_G} {κ : Nat → ClassId} {ζ : Nat → Nat} {L : List Nat} {F : Nat → va_E} {b v cap cnt : Nat} {ml : Int32} {g : Nat → Int32} (m_b : b ∈ L) (m_v : v ∈ L) (n_b_v : b ≠ v) (e_b : F b = .inr (1, [.ref v, .int 0, .int ml, .int (nI cnt)])) (e_v : F v = .inl (κ 1, cap, .inl g)) (hg : ∀ j, fits .byte (.int (g j)) = true) {ch : Int32} (hch : ¬ 255 < ch) (hgr : cap < cnt + 1) (hcn : cnt + 1 ≤ 100000) : MtR l D cls (ty5 κ) ζ yJ4_append_cf468 cJ4_append_cf468 2 (some (.object "java/lang/StringBuilder")) 6 1 (cap + max (cnt + 1 - cap) (cap + 2)) ([.ref b, .int ch] : List Value) L F (fun r L' F' => b = r ∧ (∀ x ∈ L, x ∈ L') ∧ (∃ q g', q ∉ L ∧ q ∈ L' ∧ b ≠ q ∧ F' b = .inr (1, [.ref q, .int 0, .int ml, .int (nI (cnt + 1))]) ∧ F' q = .inl (κ 1, (cap + max (cnt + 1 - cap) (cap + 2)), .inl g') ∧ ∀ j, fits .byte (.int (g' j)) = true) ∧ ∀ x ∈ L, x ≠ b → F' x = F x) := by
  refine MtR.of (by decide) (Nat.le_of_ble_eq_true rfl) ?_
  intro p e s m below meth c S hr hlk hini hK hW hST ls hl
  have hl : lv_has ls 2 [(0, .ref b), (1, .int ch)] := hl
  refine lv_aload_n S.1 S.2.1 dJ4_append_cf468_0 rfl (lv_at hl 0 rfl) ?_
  refine lv_iload_n S.1 S.2.1 dJ4_append_cf468_1 rfl (lv_at hl 1 rfl) ?_
  refine pk_cWR (As := [.int ch]) (rest := []) S hK hST hW (c_J5_append_3fe6f_grow m_b m_v n_b_v e_b e_v hg hch hgr hcn) mc_J5_append_3fe6f wd_825 wd_826 wd_1653 wd_820 (by decide) np_J5_append_3fe6f m_b e_b rfl rfl hl.1 rfl (Nat.le_of_ble_eq_true rfl) dJ4_append_cf468_2 ⟨Nat.le_of_ble_eq_true rfl, Nat.le_of_ble_eq_true rfl⟩ ⟨Nat.le_of_ble_eq_true rfl, by rw [Nat.zero_add]; exact Nat.le_refl _⟩ (fun r L_1 F_2 H_3 l_4 hp hW => ?_)
  obtain ⟨rfl, hp⟩ := hp
  refine lv_pop S.1 S.2.1 dJ4_append_cf468_5 rfl ?_
  refine lv_aload_n S.1 S.2.1 dJ4_append_cf468_6 rfl (lv_at hl 0 rfl) ?_
  exact pk_rret S hr (Or.inl ⟨_, rfl⟩) hlk hW ⟨rfl, hp⟩ (by decide) (by rw [Nat.zero_add]; exact Nat.le_refl _) dJ4_append_cf468_7
/-- append(char), be it that it fits or that it grows -/
theorem c_SBc {l : Launch} {D : va_G} {κ : Nat → ClassId} {ζ : Nat → Nat} {L : List Nat} {F : Nat → va_E} {b v cap cnt : Nat} (h : SB κ b v cap cnt L F) {ch : Int32} (hch : ¬ 255 < ch) (hcn : cnt + 1 ≤ 100000) (hcp : cap ≤ 300000) : MtR l D cls (ty5 κ) ζ yJ4_append_cf468 cJ4_append_cf468 2 (some (.object "java/lang/StringBuilder")) 6 (gmc cap (cnt + 1)) (gms cap (cnt + 1)) [.ref b, .int ch] L F (fun r L' F' => b = r ∧ (∀ x ∈ L, x ∈ L') ∧ (∃ v', (v' = v ∨ v' ∉ L) ∧ SB κ b v' (ncap cap (cnt + 1)) (cnt + 1) L' F') ∧ ∀ x ∈ L, x ≠ b → x ≠ v → F' x = F x) := by
  obtain ⟨m_b, m_v, n_b_v, hle, ⟨ml, e_b⟩, g, hg, e_v⟩ := h
  by_cases hf : cnt + 1 ≤ cap
  · rw [show gmc cap (cnt + 1) = 0 from if_pos hf, show gms cap (cnt + 1) = 0 from if_pos hf, show ncap cap (cnt + 1) = cap from if_pos hf]
    refine MtR.imp (c_J4_append_cf468_fit m_b m_v n_b_v e_b e_v hg hch hf hcp) (fun r L' F' hp => ?_)
    obtain ⟨rfl, rfl, h1, ⟨g', h2, h3⟩, h4⟩ := hp
    exact ⟨rfl, fun x hx => hx, ⟨v, Or.inl rfl, m_b, m_v, n_b_v, hf, ⟨ml, h1⟩, g', h3, h2⟩, fun x _ x1 x2 => h4 x x1 x2⟩
  · rw [show gmc cap (cnt + 1) = 1 from if_neg hf, show gms cap (cnt + 1) = _ from if_neg hf, show ncap cap (cnt + 1) = _ from if_neg hf]
    refine MtR.imp (c_J4_append_cf468_grow m_b m_v n_b_v e_b e_v hg hch (by omega) hcn) (fun r L' F' hp => ?_)
    obtain ⟨rfl, h0, ⟨q, g', h1, h2, h3, h4, h5, h6⟩, h7⟩ := hp
    exact ⟨rfl, h0, ⟨q, Or.inr h1, h0 _ m_b, h2, h3, by omega, ⟨ml, h4⟩, g', h6, h5⟩, fun x hx x1 _ => h7 x hx x1⟩
theorem mc_J6_stringSize_0f7a4 : MCode yJ6_stringSize_0f7a4 cJ6_stringSize_0f7a4 4 (some .int) := ⟨wd_916, wd_24, by decide, by decide⟩
theorem np_J6_stringSize_0f7a4 : (parseMethodDescriptor yJ6_stringSize_0f7a4.desc).map (fun d => d.parameters.length) = some 1 := by decide +kernel
set_option maxHeartbeats 4000000 in
set_option maxRecDepth 100000 in
theorem c_J6_stringSize_0f7a4_1 {l : Launch} {D : va_G} {κ : Nat → ClassId} {ζ : Nat → Nat} {L : List Nat} {F : Nat → va_E} {n : Nat} (h : n < 10) : MtI l D cls (ty5 κ) ζ yJ6_stringSize_0f7a4 cJ6_stringSize_0f7a4 4 (some .int) 2 0 0 ([.int (nI n)] : List Value) L F (fun r L' F' => L = L' ∧ F = F' ∧ nI 1 = r) := by
  refine MtI.of (by decide) (Nat.le_of_ble_eq_true rfl) ?_
  intro p e s m below meth c S hr hlk hini hK hW hST ls hl
  have hl : lv_has ls 4 [(0, .int (nI n))] := hl
  refine lv_iconst (v := 1) S.1 S.2.1 dJ6_stringSize_0f7a4_0 (by decide) ?_
  refine lv_istore_n (lv' := [(1, .int 1), (0, .int (nI n))]) S.1 S.2.1 dJ6_stringSize_0f7a4_1 rfl hl (Nat.le_of_ble_eq_true rfl) rfl (fun ls hl => ?_)
  refine lv_iload_n S.1 S.2.1 dJ6_stringSize_0f7a4_2 rfl (lv_at hl 1 rfl) ?_
  refine lv_if_lt (tgt := 11) S.1 S.2.1 dJ6_stringSize_0f7a4_3 (by decide) (fun c1 => absurd c1 (nI_pos (by omega))) (fun _ => ?_)
  refine lv_iconst (v := 0) S.1 S.2.1 dJ6_stringSize_0f7a4_6 (by decide) ?_
  refine lv_istore_n (lv' := [(1, .int 0), (0, .int (nI n))]) S.1 S.2.1 dJ6_stringSize_0f7a4_7 rfl hl (Nat.le_of_ble_eq_true rfl) rfl (fun ls hl => ?_)
  refine lv_iload_n S.1 S.2.1 dJ6_stringSize_0f7a4_8 rfl (lv_at hl 1 rfl) ?_
  refine lv_ineg S.1 S.2.1 dJ6_stringSize_0f7a4_9 ?_
  refine lv_istore_n (lv' := [(0, .int (-(nI n))), (1, .int 0)]) S.1 S.2.1 dJ6_stringSize_0f7a4_10 rfl hl (Nat.le_of_ble_eq_true rfl) rfl (fun ls hl => ?_)
  refine lv_bipush (v := (-10)) S.1 S.2.1 dJ6_stringSize_0f7a4_11 (by decide) ?_
  refine lv_istore_n (lv' := [(2, .int (-10)), (0, .int (-(nI n))), (1, .int 0)]) S.1 S.2.1 dJ6_stringSize_0f7a4_13 rfl hl (Nat.le_of_ble_eq_true rfl) rfl (fun ls hl => ?_)
  refine lv_iconst (v := 1) S.1 S.2.1 dJ6_stringSize_0f7a4_14 (by decide) ?_
  refine lv_istore_n (lv' := [(3, .int 1), (2, .int (-10)), (0, .int (-(nI n))), (1, .int 0)]) S.1 S.2.1 dJ6_stringSize_0f7a4_15 rfl hl (Nat.le_of_ble_eq_true rfl) rfl (fun ls hl => ?_)
  refine lv_iload_n S.1 S.2.1 dJ6_stringSize_0f7a4_16 rfl (lv_at hl 0 rfl) ?_
  refine lv_bipush (v := 10) S.1 S.2.1 dJ6_stringSize_0f7a4_17 (by decide) ?_
  refine lv_icmp_ge (tgt := 42) S.1 S.2.1 dJ6_stringSize_0f7a4_19 (by decide) (fun c1 => absurd c1 (by decide)) (fun _ => ?_)
  refine lv_iload_n S.1 S.2.1 dJ6_stringSize_0f7a4_22 rfl (lv_at hl 2 rfl) ?_
  refine lv_iload_n S.1 S.2.1 dJ6_stringSize_0f7a4_23 rfl (lv_at hl 1 rfl) ?_
  refine lv_icmp_le (tgt := 31) S.1 S.2.1 dJ6_stringSize_0f7a4_24 (by decide) (fun c1 => absurd ((sb_nle (a := n) (b := 10) (by omega) (by omega)).mp (show -nI n ≤ -nI 10 from c1)) (by omega)) (fun _ => ?_)
  refine lv_iload_n S.1 S.2.1 dJ6_stringSize_0f7a4_27 rfl (lv_at hl 0 rfl) ?_
  refine lv_iload_n S.1 S.2.1 dJ6_stringSize_0f7a4_28 rfl (lv_at hl 3 rfl) ?_
  refine lv_iadd S.1 S.2.1 dJ6_stringSize_0f7a4_29 ?_
  exact pk_iret S hr hlk hW ⟨rfl, rfl, rfl⟩ (by decide) (by decide) dJ6_stringSize_0f7a4_30
set_option maxHeartbeats 4000000 in
set_option maxRecDepth 100000 in
theorem c_J6_stringSize_0f7a4_2 {l : Launch} {D : va_G} {κ : Nat → ClassId} {ζ : Nat → Nat} {L : List Nat} {F : Nat → va_E} {n : Nat} (h0 : 10 ≤ n) (h : n < 100) : MtI l D cls (ty5 κ) ζ yJ6_stringSize_0f7a4 cJ6_stringSize_0f7a4 4 (some .int) 2 0 0 ([.int (nI n)] : List Value) L F (fun r L' F' => L = L' ∧ F = F' ∧ nI 2 = r) := by
  refine MtI.of (by decide) (Nat.le_of_ble_eq_true rfl) ?_
  intro p e s m below meth c S hr hlk hini hK hW hST ls hl
  have hl : lv_has ls 4 [(0, .int (nI n))] := hl
  refine lv_iconst (v := 1) S.1 S.2.1 dJ6_stringSize_0f7a4_0 (by decide) ?_
  refine lv_istore_n (lv' := [(1, .int 1), (0, .int (nI n))]) S.1 S.2.1 dJ6_stringSize_0f7a4_1 rfl hl (Nat.le_of_ble_eq_true rfl) rfl (fun ls hl => ?_)
  refine lv_iload_n S.1 S.2.1 dJ6_stringSize_0f7a4_2 rfl (lv_at hl 1 rfl) ?_
  refine lv_if_lt (tgt := 11) S.1 S.2.1 dJ6_stringSize_0f7a4_3 (by decide) (fun c1 => absurd c1 (nI_pos (by omega))) (fun _ => ?_)
  refine lv_iconst (v := 0) S.1 S.2.1 dJ6_stringSize_0f7a4_6 (by decide) ?_
  refine lv_istore_n (lv' := [(1, .int 0), (0, .int (nI n))]) S.1 S.2.1 dJ6_stringSize_0f7a4_7 rfl hl (Nat.le_of_ble_eq_true rfl) rfl (fun ls hl => ?_)
  refine lv_iload_n S.1 S.2.1 dJ6_stringSize_0f7a4_8 rfl (lv_at hl 1 rfl) ?_
  refine lv_ineg S.1 S.2.1 dJ6_stringSize_0f7a4_9 ?_
  refine lv_istore_n (lv' := [(0, .int (-(nI n))), (1, .int 0)]) S.1 S.2.1 dJ6_stringSize_0f7a4_10 rfl hl (Nat.le_of_ble_eq_true rfl) rfl (fun ls hl => ?_)
  refine lv_bipush (v := (-10)) S.1 S.2.1 dJ6_stringSize_0f7a4_11 (by decide) ?_
  refine lv_istore_n (lv' := [(2, .int (-10)), (0, .int (-(nI n))), (1, .int 0)]) S.1 S.2.1 dJ6_stringSize_0f7a4_13 rfl hl (Nat.le_of_ble_eq_true rfl) rfl (fun ls hl => ?_)
  refine lv_iconst (v := 1) S.1 S.2.1 dJ6_stringSize_0f7a4_14 (by decide) ?_
  refine lv_istore_n (lv' := [(3, .int 1), (2, .int (-10)), (0, .int (-(nI n))), (1, .int 0)]) S.1 S.2.1 dJ6_stringSize_0f7a4_15 rfl hl (Nat.le_of_ble_eq_true rfl) rfl (fun ls hl => ?_)
  refine lv_iload_n S.1 S.2.1 dJ6_stringSize_0f7a4_16 rfl (lv_at hl 0 rfl) ?_
  refine lv_bipush (v := 10) S.1 S.2.1 dJ6_stringSize_0f7a4_17 (by decide) ?_
  refine lv_icmp_ge (tgt := 42) S.1 S.2.1 dJ6_stringSize_0f7a4_19 (by decide) (fun c1 => absurd c1 (by decide)) (fun _ => ?_)
  refine lv_iload_n S.1 S.2.1 dJ6_stringSize_0f7a4_22 rfl (lv_at hl 2 rfl) ?_
  refine lv_iload_n S.1 S.2.1 dJ6_stringSize_0f7a4_23 rfl (lv_at hl 1 rfl) ?_
  refine lv_icmp_le (tgt := 31) S.1 S.2.1 dJ6_stringSize_0f7a4_24 (by decide) (fun _ => ?_) (fun c1 => absurd (show -nI n ≤ -nI 10 from (sb_nle (by omega) (by omega)).mpr (by omega)) c1)
  refine lv_bipush (v := 10) S.1 S.2.1 dJ6_stringSize_0f7a4_31 (by decide) ?_
  refine lv_iload_n S.1 S.2.1 dJ6_stringSize_0f7a4_33 rfl (lv_at hl 1 rfl) ?_
  refine lv_imul S.1 S.2.1 dJ6_stringSize_0f7a4_34 ?_
  refine lv_topi (fun y_1 ey_1 => ?_)
  have ey_1 : y_1 = (-100) := ey_1.trans (rfl)
  subst ey_1
  refine lv_istore_n (lv' := [(2, .int ((-100))), (3, .int 1), (0, .int (-(nI n))), (1, .int 0)]) S.1 S.2.1 dJ6_stringSize_0f7a4_35 rfl hl (Nat.le_of_ble_eq_true rfl) rfl (fun ls hl => ?_)
  refine lv_iinc (lv' := [(3, .int 2), (2, .int ((-100))), (0, .int (-(nI n))), (1, .int 0)]) S.1 S.2.1 dJ6_stringSize_0f7a4_36 hl (k := 1) rfl rfl (Nat.le_of_ble_eq_true rfl) rfl (fun ls hl => ?_)
  refine lv_goto (tgt := 16) S.1 S.2.1 dJ6_stringSize_0f7a4_39 (by decide) ?_
  refine lv_iload_n S.1 S.2.1 dJ6_stringSize_0f7a4_16 rfl (lv_at hl 0 rfl) ?_
  refine lv_bipush (v := 10) S.1 S.2.1 dJ6_stringSize_0f7a4_17 (by decide) ?_
  refine lv_icmp_ge (tgt := 42) S.1 S.2.1 dJ6_stringSize_0f7a4_19 (by decide) (fun c1 => absurd c1 (by decide)) (fun _ => ?_)
  refine lv_iload_n S.1 S.2.1 dJ6_stringSize_0f7a4_22 rfl (lv_at hl 2 rfl) ?_
  refine lv_iload_n S.1 S.2.1 dJ6_stringSize_0f7a4_23 rfl (lv_at hl 1 rfl) ?_
  refine lv_icmp_le (tgt := 31) S.1 S.2.1 dJ6_stringSize_0f7a4_24 (by decide) (fun c1 => absurd ((sb_nle (a := n) (b := 100) (by omega) (by omega)).mp (show -nI n ≤ -nI 100 from c1)) (by omega)) (fun _ => ?_)
  refine lv_iload_n S.1 S.2.1 dJ6_stringSize_0f7a4_27 rfl (lv_at hl 0 rfl) ?_
  refine lv_iload_n S.1 S.2.1 dJ6_stringSize_0f7a4_28 rfl (lv_at hl 3 rfl) ?_
  refine lv_iadd S.1 S.2.1 dJ6_stringSize_0f7a4_29 ?_
  exact pk_iret S hr hlk hW ⟨rfl, rfl, rfl⟩ (by decide) (by decide) dJ6_stringSize_0f7a4_30
set_option maxHeartbeats 4000000 in
set_option maxRecDepth 100000 in
theorem c_J6_stringSize_0f7a4_3 {l : Launch} {D : va_G} {κ : Nat → ClassId} {ζ : Nat → Nat} {L : List Nat} {F : Nat → va_E} {n : Nat} (h0 : 100 ≤ n) (h : n < 1000) : MtI l D cls (ty5 κ) ζ yJ6_stringSize_0f7a4 cJ6_stringSize_0f7a4 4 (some .int) 2 0 0 ([.int (nI n)] : List Value) L F (fun r L' F' => L = L' ∧ F = F' ∧ nI 3 = r) := by
  refine MtI.of (by decide) (Nat.le_of_ble_eq_true rfl) ?_
  intro p e s m below meth c S hr hlk hini hK hW hST ls hl
  have hl : lv_has ls 4 [(0, .int (nI n))] := hl
  refine lv_iconst (v := 1) S.1 S.2.1 dJ6_stringSize_0f7a4_0 (by decide) ?_
  refine lv_istore_n (lv' := [(1, .int 1), (0, .int (nI n))]) S.1 S.2.1 dJ6_stringSize_0f7a4_1 rfl hl (Nat.le_of_ble_eq_true rfl) rfl (fun ls hl => ?_)
  refine lv_iload_n S.1 S.2.1 dJ6_stringSize_0f7a4_2 rfl (lv_at hl 1 rfl) ?_
  refine lv_if_lt (tgt := 11) S.1 S.2.1 dJ6_stringSize_0f7a4_3 (by decide) (fun c1 => absurd c1 (nI_pos (by omega))) (fun _ => ?_)
  refine lv_iconst (v := 0) S.1 S.2.1 dJ6_stringSize_0f7a4_6 (by decide) ?_
  refine lv_istore_n (lv' := [(1, .int 0), (0, .int (nI n))]) S.1 S.2.1 dJ6_stringSize_0f7a4_7 rfl hl (Nat.le_of_ble_eq_true rfl) rfl (fun ls hl => ?_)
  refine lv_iload_n S.1 S.2.1 dJ6_stringSize_0f7a4_8 rfl (lv_at hl 1 rfl) ?_
  refine lv_ineg S.1 S.2.1 dJ6_stringSize_0f7a4_9 ?_
  refine lv_istore_n (lv' := [(0, .int (-(nI n))), (1, .int 0)]) S.1 S.2.1 dJ6_stringSize_0f7a4_10 rfl hl (Nat.le_of_ble_eq_true rfl) rfl (fun ls hl => ?_)
  refine lv_bipush (v := (-10)) S.1 S.2.1 dJ6_stringSize_0f7a4_11 (by decide) ?_
  refine lv_istore_n (lv' := [(2, .int (-10)), (0, .int (-(nI n))), (1, .int 0)]) S.1 S.2.1 dJ6_stringSize_0f7a4_13 rfl hl (Nat.le_of_ble_eq_true rfl) rfl (fun ls hl => ?_)
  refine lv_iconst (v := 1) S.1 S.2.1 dJ6_stringSize_0f7a4_14 (by decide) ?_
  refine lv_istore_n (lv' := [(3, .int 1), (2, .int (-10)), (0, .int (-(nI n))), (1, .int 0)]) S.1 S.2.1 dJ6_stringSize_0f7a4_15 rfl hl (Nat.le_of_ble_eq_true rfl) rfl (fun ls hl => ?_)
  refine lv_iload_n S.1 S.2.1 dJ6_stringSize_0f7a4_16 rfl (lv_at hl 0 rfl) ?_
  refine lv_bipush (v := 10) S.1 S.2.1 dJ6_stringSize_0f7a4_17 (by decide) ?_
  refine lv_icmp_ge (tgt := 42) S.1 S.2.1 dJ6_stringSize_0f7a4_19 (by decide) (fun c1 => absurd c1 (by decide)) (fun _ => ?_)
  refine lv_iload_n S.1 S.2.1 dJ6_stringSize_0f7a4_22 rfl (lv_at hl 2 rfl) ?_
  refine lv_iload_n S.1 S.2.1 dJ6_stringSize_0f7a4_23 rfl (lv_at hl 1 rfl) ?_
  refine lv_icmp_le (tgt := 31) S.1 S.2.1 dJ6_stringSize_0f7a4_24 (by decide) (fun _ => ?_) (fun c1 => absurd (show -nI n ≤ -nI 10 from (sb_nle (by omega) (by omega)).mpr (by omega)) c1)
  refine lv_bipush (v := 10) S.1 S.2.1 dJ6_stringSize_0f7a4_31 (by decide) ?_
  refine lv_iload_n S.1 S.2.1 dJ6_stringSize_0f7a4_33 rfl (lv_at hl 1 rfl) ?_
  refine lv_imul S.1 S.2.1 dJ6_stringSize_0f7a4_34 ?_
  refine lv_topi (fun y_1 ey_1 => ?_)
  have ey_1 : y_1 = (-100) := ey_1.trans (rfl)
  subst ey_1
  refine lv_istore_n (lv' := [(2, .int ((-100))), (3, .int 1), (0, .int (-(nI n))), (1, .int 0)]) S.1 S.2.1 dJ6_stringSize_0f7a4_35 rfl hl (Nat.le_of_ble_eq_true rfl) rfl (fun ls hl => ?_)
  refine lv_iinc (lv' := [(3, .int 2), (2, .int ((-100))), (0, .int (-(nI n))), (1, .int 0)]) S.1 S.2.1 dJ6_stringSize_0f7a4_36 hl (k := 1) rfl rfl (Nat.le_of_ble_eq_true rfl) rfl (fun ls hl => ?_)
  refine lv_goto (tgt := 16) S.1 S.2.1 dJ6_stringSize_0f7a4_39 (by decide) ?_
  refine lv_iload_n S.1 S.2.1 dJ6_stringSize_0f7a4_16 rfl (lv_at hl 0 rfl) ?_
  refine lv_bipush (v := 10) S.1 S.2.1 dJ6_stringSize_0f7a4_17 (by decide) ?_
  refine lv_icmp_ge (tgt := 42) S.1 S.2.1 dJ6_stringSize_0f7a4_19 (by decide) (fun c1 => absurd c1 (by decide)) (fun _ => ?_)
  refine lv_iload_n S.1 S.2.1 dJ6_stringSize_0f7a4_22 rfl (lv_at hl 2 rfl) ?_
  refine lv_iload_n S.1 S.2.1 dJ6_stringSize_0f7a4_23 rfl (lv_at hl 1 rfl) ?_
  refine lv_icmp_le (tgt := 31) S.1 S.2.1 dJ6_stringSize_0f7a4_24 (by decide) (fun _ => ?_) (fun c1 => absurd (show -nI n ≤ -nI 100 from (sb_nle (by omega) (by omega)).mpr (by omega)) c1)
  refine lv_bipush (v := 10) S.1 S.2.1 dJ6_stringSize_0f7a4_31 (by decide) ?_
  refine lv_iload_n S.1 S.2.1 dJ6_stringSize_0f7a4_33 rfl (lv_at hl 1 rfl) ?_
  refine lv_imul S.1 S.2.1 dJ6_stringSize_0f7a4_34 ?_
  refine lv_topi (fun y_2 ey_2 => ?_)
  have ey_2 : y_2 = (-1000) := ey_2.trans (rfl)
  subst ey_2
  refine lv_istore_n (lv' := [(2, .int ((-1000))), (3, .int 2), (0, .int (-(nI n))), (1, .int 0)]) S.1 S.2.1 dJ6_stringSize_0f7a4_35 rfl hl (Nat.le_of_ble_eq_true rfl) rfl (fun ls hl => ?_)
  refine lv_iinc (lv' := [(3, .int 3), (2, .int ((-1000))), (0, .int (-(nI n))), (1, .int 0)]) S.1 S.2.1 dJ6_stringSize_0f7a4_36 hl (k := 1) rfl rfl (Nat.le_of_ble_eq_true rfl) rfl (fun ls hl => ?_)
  refine lv_goto (tgt := 16) S.1 S.2.1 dJ6_stringSize_0f7a4_39 (by decide) ?_
  refine lv_iload_n S.1 S.2.1 dJ6_stringSize_0f7a4_16 rfl (lv_at hl 0 rfl) ?_
  refine lv_bipush (v := 10) S.1 S.2.1 dJ6_stringSize_0f7a4_17 (by decide) ?_
  refine lv_icmp_ge (tgt := 42) S.1 S.2.1 dJ6_stringSize_0f7a4_19 (by decide) (fun c1 => absurd c1 (by decide)) (fun _ => ?_)
  refine lv_iload_n S.1 S.2.1 dJ6_stringSize_0f7a4_22 rfl (lv_at hl 2 rfl) ?_
  refine lv_iload_n S.1 S.2.1 dJ6_stringSize_0f7a4_23 rfl (lv_at hl 1 rfl) ?_
  refine lv_icmp_le (tgt := 31) S.1 S.2.1 dJ6_stringSize_0f7a4_24 (by decide) (fun c1 => absurd ((sb_nle (a := n) (b := 1000) (by omega) (by omega)).mp (show -nI n ≤ -nI 1000 from c1)) (by omega)) (fun _ => ?_)
  refine lv_iload_n S.1 S.2.1 dJ6_stringSize_0f7a4_27 rfl (lv_at hl 0 rfl) ?_
  refine lv_iload_n S.1 S.2.1 dJ6_stringSize_0f7a4_28 rfl (lv_at hl 3 rfl) ?_
  refine lv_iadd S.1 S.2.1 dJ6_stringSize_0f7a4_29 ?_
  exact pk_iret S hr hlk hW ⟨rfl, rfl, rfl⟩ (by decide) (by decide) dJ6_stringSize_0f7a4_30
theorem mc_J6_getChars_ba4f3 : MCode yJ6_getChars_ba4f3 cJ6_getChars_ba4f3 7 (some .int) := ⟨wd_919, wd_24, by decide, by decide⟩
theorem np_J6_getChars_ba4f3 : (parseMethodDescriptor yJ6_getChars_ba4f3.desc).map (fun d => d.parameters.length) = some 3 := by decide +kernel
set_option maxHeartbeats 4000000 in
set_option maxRecDepth 100000 in
theorem c_J6_getChars_ba4f3_1 {l : Launch} {D : va_G} {κ : Nat → ClassId} {ζ : Nat → Nat} {L : List Nat} {F : Nat → va_E} {v cap n k : Nat} {g : Nat → Int32} (m_v : v ∈ L) (e_v : F v = .inl (κ 1, cap, .inl g)) (hg : ∀ j, fits .byte (.int (g j)) = true) (h : n < 10) (hk : 1 ≤ k) (hkc : k ≤ cap) (hcp : cap ≤ 300000) : MtI l D cls (ty5 κ) ζ yJ6_getChars_ba4f3 cJ6_getChars_ba4f3 7 (some .int) 2 0 0 ([.int (nI n), .int (nI k), .ref v] : List Value) L F (fun r L' F' => L = L' ∧ (∃ g', F' v = .inl (κ 1, cap, .inl g') ∧ ∀ j, fits .byte (.int (g' j)) = true) ∧ ∀ q, q ≠ v → F' q = F q) := by
  refine MtI.of (by decide) (Nat.le_of_ble_eq_true rfl) ?_
  intro p e s m below meth c S hr hlk hini hK hW hST ls hl
  have hl : lv_has ls 7 [(0, .int (nI n)), (1, .int (nI k)), (2, .ref v)] := hl
  have hfr : ∀ q, q ≠ v → F q = F q := fun _ _ => rfl
  refine lv_iload_n S.1 S.2.1 dJ6_getChars_ba4f3_0 rfl (lv_at hl 1 rfl) ?_
  refine lv_istore (lv' := [(5, .int (nI k)), (0, .int (nI n)), (1, .int (nI k)), (2, .ref v)]) S.1 S.2.1 dJ6_getChars_ba4f3_1 hl (Nat.le_of_ble_eq_true rfl) rfl (fun ls hl => ?_)
  refine lv_iload_n S.1 S.2.1 dJ6_getChars_ba4f3_3 rfl (lv_at hl 1 rfl) ?_
  refine lv_if_ge (tgt := 11) S.1 S.2.1 dJ6_getChars_ba4f3_4 (by decide) (fun _ => ?_) (fun c1 => absurd (nI_pos' (by omega)) c1)
  refine lv_iconst (v := 0) S.1 S.2.1 dJ6_getChars_ba4f3_11 (by decide) ?_
  refine lv_istore (lv' := [(6, .int 0), (5, .int (nI k)), (0, .int (nI n)), (1, .int (nI k)), (2, .ref v)]) S.1 S.2.1 dJ6_getChars_ba4f3_12 hl (Nat.le_of_ble_eq_true rfl) rfl (fun ls hl => ?_)
  refine lv_iload S.1 S.2.1 dJ6_getChars_ba4f3_14 (lv_at hl 0 rfl) ?_
  refine lv_if_ne (tgt := 22) S.1 S.2.1 dJ6_getChars_ba4f3_16 (by decide) (fun c1 => absurd rfl c1) (fun _ => ?_)
  refine lv_iload_n S.1 S.2.1 dJ6_getChars_ba4f3_19 rfl (lv_at hl 2 rfl) ?_
  refine lv_ineg S.1 S.2.1 dJ6_getChars_ba4f3_20 ?_
  refine lv_istore_n (lv' := [(0, .int (-nI n)), (6, .int 0), (5, .int (nI k)), (1, .int (nI k)), (2, .ref v)]) S.1 S.2.1 dJ6_getChars_ba4f3_21 rfl hl (Nat.le_of_ble_eq_true rfl) rfl (fun ls hl => ?_)
  refine lv_iload_n S.1 S.2.1 dJ6_getChars_ba4f3_22 rfl (lv_at hl 0 rfl) ?_
  refine lv_bipush (v := (-100)) S.1 S.2.1 dJ6_getChars_ba4f3_23 (by decide) ?_
  refine lv_icmp_gt (tgt := 72) S.1 S.2.1 dJ6_getChars_ba4f3_25 (by decide) (fun _ => ?_) (fun c1 => absurd (show -nI 100 < -nI n from (sb_nlt (by omega) (by omega)).mpr (by omega)) c1)
  refine lv_aload_n S.1 S.2.1 dJ6_getChars_ba4f3_72 rfl (lv_at hl 4 rfl) ?_
  refine lv_iinc (lv' := [(5, .int (nI (k - 1))), (0, .int (-nI n)), (6, .int 0), (1, .int (nI k)), (2, .ref v)]) S.1 S.2.1 dJ6_getChars_ba4f3_73 hl (k := 2) rfl (sb_m1 (by omega)) (Nat.le_of_ble_eq_true rfl) rfl (fun ls hl => ?_)
  refine lv_iload S.1 S.2.1 dJ6_getChars_ba4f3_76 (lv_at hl 0 rfl) ?_
  refine pk_gets S hW hST.2.zOnes wd_920 dJ6_getChars_ba4f3_78 ?_
  refine lv_iload_n S.1 S.2.1 dJ6_getChars_ba4f3_81 rfl (lv_at hl 1 rfl) ?_
  refine lv_ineg S.1 S.2.1 dJ6_getChars_ba4f3_82 ?_
  refine lv_topi (fun y_1 ey_1 => ?_)
  have ey_1 : y_1 = nI n := ey_1.trans (Int32.neg_neg)
  subst ey_1
  refine va_tb S.1 S.2.1 hST.2.tOnes hW.2.2 (vp_in_nI (by omega) (by decide)) rfl dJ6_getChars_ba4f3_83 ?_
  refine pk_bast S hK hW 1 m_v e_v rfl (vp_in_nI (by omega) (by omega)) dJ6_getChars_ba4f3_84 (fun g_2 H9 l9 hg_2 hW => ?_) hg
  have e_v : (va_up F v (.inl (κ 1, cap, .inl g_2))) v = .inl (κ 1, cap, .inl g_2) := up_eq
  have hfr : ∀ q, q ≠ v → (va_up F v (.inl (κ 1, cap, .inl g_2))) q = F q := fun q q1 => (up_ne q1).trans (hfr q q1)
  generalize va_up F v (.inl (κ 1, cap, .inl g_2)) = F_3 at hW e_v hfr
  refine lv_iload_n S.1 S.2.1 dJ6_getChars_ba4f3_85 rfl (lv_at hl 1 rfl) ?_
  refine lv_bipush (v := (-9)) S.1 S.2.1 dJ6_getChars_ba4f3_86 (by decide) ?_
  refine lv_icmp_ge (tgt := 104) S.1 S.2.1 dJ6_getChars_ba4f3_88 (by decide) (fun _ => ?_) (fun c1 => absurd (show -nI 9 ≤ -nI n from (sb_nle (by omega) (by omega)).mpr (by omega)) c1)
  refine lv_iload S.1 S.2.1 dJ6_getChars_ba4f3_104 (lv_at hl 2 rfl) ?_
  refine lv_if_eq (tgt := 118) S.1 S.2.1 dJ6_getChars_ba4f3_106 (by decide) (fun _ => ?_) (fun c1 => absurd rfl c1)
  refine lv_iload S.1 S.2.1 dJ6_getChars_ba4f3_118 (lv_at hl 0 rfl) ?_
  exact pk_iret S hr hlk hW ⟨rfl, ⟨_, e_v, hg_2⟩, hfr⟩ (by decide) (by decide) dJ6_getChars_ba4f3_120
set_option maxHeartbeats 4000000 in
set_option maxRecDepth 100000 in
theorem c_J6_getChars_ba4f3_2 {l : Launch} {D : va_G} {κ : Nat → ClassId} {ζ : Nat → Nat} {L : List Nat} {F : Nat → va_E} {v cap n k : Nat} {g : Nat → Int32} (m_v : v ∈ L) (e_v : F v = .inl (κ 1, cap, .inl g)) (hg : ∀ j, fits .byte (.int (g j)) = true) (h0 : 10 ≤ n) (h : n < 100) (hk : 2 ≤ k) (hkc : k ≤ cap) (hcp : cap ≤ 300000) : MtI l D cls (ty5 κ) ζ yJ6_getChars_ba4f3 cJ6_getChars_ba4f3 7 (some .int) 2 0 0 ([.int (nI n), .int (nI k), .ref v] : List Value) L F (fun r L' F' => L = L' ∧ (∃ g', F' v = .inl (κ 1, cap, .inl g') ∧ ∀ j, fits .byte (.int (g' j)) = true) ∧ ∀ q, q ≠ v → F' q = F q) := by
  refine MtI.of (by decide) (Nat.le_of_ble_eq_true rfl) ?_
  intro p e s m below meth c S hr hlk hini hK hW hST ls hl
  have hl : lv_has ls 7 [(0, .int (nI n)), (1, .int (nI k)), (2, .ref v)] := hl
  have hfr : ∀ q, q ≠ v → F q = F q := fun _ _ => rfl
  refine lv_iload_n S.1 S.2.1 dJ6_getChars_ba4f3_0 rfl (lv_at hl 1 rfl) ?_
  refine lv_istore (lv' := [(5, .int (nI k)), (0, .int (nI n)), (1, .int (nI k)), (2, .ref v)]) S.1 S.2.1 dJ6_getChars_ba4f3_1 hl (Nat.le_of_ble_eq_true rfl) rfl (fun ls hl => ?_)
  refine lv_iload_n S.1 S.2.1 dJ6_getChars_ba4f3_3 rfl (lv_at hl 1 rfl) ?_
  refine lv_if_ge (tgt := 11) S.1 S.2.1 dJ6_getChars_ba4f3_4 (by decide) (fun _ => ?_) (fun c1 => absurd (nI_pos' (by omega)) c1)
  refine lv_iconst (v := 0) S.1 S.2.1 dJ6_getChars_ba4f3_11 (by decide) ?_
  refine lv_istore (lv' := [(6, .int 0), (5, .int (nI k)), (0, .int (nI n)), (1, .int (nI k)), (2, .ref v)]) S.1 S.2.1 dJ6_getChars_ba4f3_12 hl (Nat.le_of_ble_eq_true rfl) rfl (fun ls hl => ?_)
  refine lv_iload S.1 S.2.1 dJ6_getChars_ba4f3_14 (lv_at hl 0 rfl) ?_
  refine lv_if_ne (tgt := 22) S.1 S.2.1 dJ6_getChars_ba4f3_16 (by decide) (fun c1 => absurd rfl c1) (fun _ => ?_)
  refine lv_iload_n S.1 S.2.1 dJ6_getChars_ba4f3_19 rfl (lv_at hl 2 rfl) ?_
  refine lv_ineg S.1 S.2.1 dJ6_getChars_ba4f3_20 ?_
  refine lv_istore_n (lv' := [(0, .int (-nI n)), (6, .int 0), (5, .int (nI k)), (1, .int (nI k)), (2, .ref v)]) S.1 S.2.1 dJ6_getChars_ba4f3_21 rfl hl (Nat.le_of_ble_eq_true rfl) rfl (fun ls hl => ?_)
  refine lv_iload_n S.1 S.2.1 dJ6_getChars_ba4f3_22 rfl (lv_at hl 0 rfl) ?_
  refine lv_bipush (v := (-100)) S.1 S.2.1 dJ6_getChars_ba4f3_23 (by decide) ?_
  refine lv_icmp_gt (tgt := 72) S.1 S.2.1 dJ6_getChars_ba4f3_25 (by decide) (fun _ => ?_) (fun c1 => absurd (show -nI 100 < -nI n from (sb_nlt (by omega) (by omega)).mpr (by omega)) c1)
  refine lv_aload_n S.1 S.2.1 dJ6_getChars_ba4f3_72 rfl (lv_at hl 4 rfl) ?_
  refine lv_iinc (lv' := [(5, .int (nI (k - 1))), (0, .int (-nI n)), (6, .int 0), (1, .int (nI k)), (2, .ref v)]) S.1 S.2.1 dJ6_getChars_ba4f3_73 hl (k := 2) rfl (sb_m1 (by omega)) (Nat.le_of_ble_eq_true rfl) rfl (fun ls hl => ?_)
  refine lv_iload S.1 S.2.1 dJ6_getChars_ba4f3_76 (lv_at hl 0 rfl) ?_
  refine pk_gets S hW hST.2.zOnes wd_920 dJ6_getChars_ba4f3_78 ?_
  refine lv_iload_n S.1 S.2.1 dJ6_getChars_ba4f3_81 rfl (lv_at hl 1 rfl) ?_
  refine lv_ineg S.1 S.2.1 dJ6_getChars_ba4f3_82 ?_
  refine lv_topi (fun y_1 ey_1 => ?_)
  have ey_1 : y_1 = nI n := ey_1.trans (Int32.neg_neg)
  subst ey_1
  refine va_tb S.1 S.2.1 hST.2.tOnes hW.2.2 (vp_in_nI (by omega) (by decide)) rfl dJ6_getChars_ba4f3_83 ?_
  refine pk_bast S hK hW 1 m_v e_v rfl (vp_in_nI (by omega) (by omega)) dJ6_getChars_ba4f3_84 (fun g_2 H9 l9 hg_2 hW => ?_) hg
  have e_v : (va_up F v (.inl (κ 1, cap, .inl g_2))) v = .inl (κ 1, cap, .inl g_2) := up_eq
  have hfr : ∀ q, q ≠ v → (va_up F v (.inl (κ 1, cap, .inl g_2))) q = F q := fun q q1 => (up_ne q1).trans (hfr q q1)
  generalize va_up F v (.inl (κ 1, cap, .inl g_2)) = F_3 at hW e_v hfr
  refine lv_iload_n S.1 S.2.1 dJ6_getChars_ba4f3_85 rfl (lv_at hl 1 rfl) ?_
  refine lv_bipush (v := (-9)) S.1 S.2.1 dJ6_getChars_ba4f3_86 (by decide) ?_
  refine lv_icmp_ge (tgt := 104) S.1 S.2.1 dJ6_getChars_ba4f3_88 (by decide) (fun c1 => absurd ((sb_nle (a := 9) (b := n) (by omega) (by omega)).mp (show -nI 9 ≤ -nI n from c1)) (by omega)) (fun _ => ?_)
  refine lv_aload_n S.1 S.2.1 dJ6_getChars_ba4f3_91 rfl (lv_at hl 4 rfl) ?_
  refine lv_iinc (lv' := [(5, .int (nI (k - 1 - 1))), (0, .int (-nI n)), (6, .int 0), (1, .int (nI k)), (2, .ref v)]) S.1 S.2.1 dJ6_getChars_ba4f3_92 hl (k := 0) rfl (sb_m1 (by omega)) (Nat.le_of_ble_eq_true rfl) rfl (fun ls hl => ?_)
  refine lv_iload S.1 S.2.1 dJ6_getChars_ba4f3_95 (lv_at hl 0 rfl) ?_
  refine pk_gets S hW hST.2.zTens wd_921 dJ6_getChars_ba4f3_97 ?_
  refine lv_iload_n S.1 S.2.1 dJ6_getChars_ba4f3_100 rfl (lv_at hl 1 rfl) ?_
  refine lv_ineg S.1 S.2.1 dJ6_getChars_ba4f3_101 ?_
  refine lv_topi (fun y_4 ey_4 => ?_)
  have ey_4 : y_4 = nI n := ey_4.trans (Int32.neg_neg)
  subst ey_4
  refine va_tb S.1 S.2.1 hST.2.tTens hW.2.2 (vp_in_nI (by omega) (by decide)) rfl dJ6_getChars_ba4f3_102 ?_
  refine pk_bast S hK hW 1 m_v e_v rfl (vp_in_nI (by omega) (by omega)) dJ6_getChars_ba4f3_103 (fun g_5 H9 l9 hg_5 hW => ?_) hg_2
  have e_v : (va_up F_3 v (.inl (κ 1, cap, .inl g_5))) v = .inl (κ 1, cap, .inl g_5) := up_eq
  have hfr : ∀ q, q ≠ v → (va_up F_3 v (.inl (κ 1, cap, .inl g_5))) q = F q := fun q q1 => (up_ne q1).trans (hfr q q1)
  generalize va_up F_3 v (.inl (κ 1, cap, .inl g_5)) = F_6 at hW e_v hfr
  refine lv_iload S.1 S.2.1 dJ6_getChars_ba4f3_104 (lv_at hl 2 rfl) ?_
  refine lv_if_eq (tgt := 118) S.1 S.2.1 dJ6_getChars_ba4f3_106 (by decide) (fun _ => ?_) (fun c1 => absurd rfl c1)
  refine lv_iload S.1 S.2.1 dJ6_getChars_ba4f3_118 (lv_at hl 0 rfl) ?_
  exact pk_iret S hr hlk hW ⟨rfl, ⟨_, e_v, hg_5⟩, hfr⟩ (by decide) (by decide) dJ6_getChars_ba4f3_120
set_option maxHeartbeats 4000000 in
set_option maxRecDepth 100000 in
theorem c_J6_getChars_ba4f3_3 {l : Launch} {D : va_G} {κ : Nat → ClassId} {ζ : Nat → Nat} {L : List Nat} {F : Nat → va_E} {v cap n k : Nat} {g : Nat → Int32} (m_v : v ∈ L) (e_v : F v = .inl (κ 1, cap, .inl g)) (hg : ∀ j, fits .byte (.int (g j)) = true) (h0 : 100 ≤ n) (h : n < 1000) (hk : 3 ≤ k) (hkc : k ≤ cap) (hcp : cap ≤ 300000) : MtI l D cls (ty5 κ) ζ yJ6_getChars_ba4f3 cJ6_getChars_ba4f3 7 (some .int) 2 0 0 ([.int (nI n), .int (nI k), .ref v] : List Value) L F (fun r L' F' => L = L' ∧ (∃ g', F' v = .inl (κ 1, cap, .inl g') ∧ ∀ j, fits .byte (.int (g' j)) = true) ∧ ∀ q, q ≠ v → F' q = F q) := by
  refine MtI.of (by decide) (Nat.le_of_ble_eq_true rfl) ?_
  intro p e s m below meth c S hr hlk hini hK hW hST ls hl
  have hl : lv_has ls 7 [(0, .int (nI n)), (1, .int (nI k)), (2, .ref v)] := hl
  have hfr : ∀ q, q ≠ v → F q = F q := fun _ _ => rfl
  refine lv_iload_n S.1 S.2.1 dJ6_getChars_ba4f3_0 rfl (lv_at hl 1 rfl) ?_
  refine lv_istore (lv' := [(5, .int (nI k)), (0, .int (nI n)), (1, .int (nI k)), (2, .ref v)]) S.1 S.2.1 dJ6_getChars_ba4f3_1 hl (Nat.le_of_ble_eq_true rfl) rfl (fun ls hl => ?_)
  refine lv_iload_n S.1 S.2.1 dJ6_getChars_ba4f3_3 rfl (lv_at hl 1 rfl) ?_
  refine lv_if_ge (tgt := 11) S.1 S.2.1 dJ6_getChars_ba4f3_4 (by decide) (fun _ => ?_) (fun c1 => absurd (nI_pos' (by omega)) c1)
  refine lv_iconst (v := 0) S.1 S.2.1 dJ6_getChars_ba4f3_11 (by decide) ?_
  refine lv_istore (lv' := [(6, .int 0), (5, .int (nI k)), (0, .int (nI n)), (1, .int (nI k)), (2, .ref v)]) S.1 S.2.1 dJ6_getChars_ba4f3_12 hl (Nat.le_of_ble_eq_true rfl) rfl (fun ls hl => ?_)
  refine lv_iload S.1 S.2.1 dJ6_getChars_ba4f3_14 (lv_at hl 0 rfl) ?_
  refine lv_if_ne (tgt := 22) S.1 S.2.1 dJ6_getChars_ba4f3_16 (by decide) (fun c1 => absurd rfl c1) (fun _ => ?_)
  refine lv_iload_n S.1 S.2.1 dJ6_getChars_ba4f3_19 rfl (lv_at hl 2 rfl) ?_
  refine lv_ineg S.1 S.2.1 dJ6_getChars_ba4f3_20 ?_
  refine lv_istore_n (lv' := [(0, .int (-nI n)), (6, .int 0), (5, .int (nI k)), (1, .int (nI k)), (2, .ref v)]) S.1 S.2.1 dJ6_getChars_ba4f3_21 rfl hl (Nat.le_of_ble_eq_true rfl) rfl (fun ls hl => ?_)
  refine lv_iload_n S.1 S.2.1 dJ6_getChars_ba4f3_22 rfl (lv_at hl 0 rfl) ?_
  refine lv_bipush (v := (-100)) S.1 S.2.1 dJ6_getChars_ba4f3_23 (by decide) ?_
  refine lv_icmp_gt (tgt := 72) S.1 S.2.1 dJ6_getChars_ba4f3_25 (by decide) (fun c1 => absurd ((sb_nlt (a := 100) (b := n) (by omega) (by omega)).mp (show -nI 100 < -nI n from c1)) (by omega)) (fun _ => ?_)
  refine lv_iload_n S.1 S.2.1 dJ6_getChars_ba4f3_28 rfl (lv_at hl 0 rfl) ?_
  refine lv_bipush (v := 100) S.1 S.2.1 dJ6_getChars_ba4f3_29 (by decide) ?_
  refine lv_idiv S.1 S.2.1 dJ6_getChars_ba4f3_31 (by decide) ?_
  refine lv_topi (fun y_1 ey_1 => ?_)
  have ey_1 : y_1 = (-nI (n / 100)) := ey_1.trans (sb_ndiv (by omega))
  subst ey_1
  refine lv_istore_n (lv' := [(3, .int (-nI (n / 100))), (0, .int (-nI n)), (6, .int 0), (5, .int (nI k)), (1, .int (nI k)), (2, .ref v)]) S.1 S.2.1 dJ6_getChars_ba4f3_32 rfl hl (Nat.le_of_ble_eq_true rfl) rfl (fun ls hl => ?_)
  refine lv_iload_n S.1 S.2.1 dJ6_getChars_ba4f3_33 rfl (lv_at hl 0 rfl) ?_
  refine lv_bipush (v := 100) S.1 S.2.1 dJ6_getChars_ba4f3_34 (by decide) ?_
  refine lv_imul S.1 S.2.1 dJ6_getChars_ba4f3_36 ?_
  refine lv_iload_n S.1 S.2.1 dJ6_getChars_ba4f3_37 rfl (lv_at hl 1 rfl) ?_
  refine lv_isub S.1 S.2.1 dJ6_getChars_ba4f3_38 ?_
  refine lv_topi (fun y_2 ey_2 => ?_)
  have ey_2 : y_2 = nI (n % 100) := ey_2.trans (sb_nrem (by omega))
  subst ey_2
  refine lv_istore (lv' := [(4, .int (nI (n % 100))), (3, .int (-nI (n / 100))), (0, .int (-nI n)), (6, .int 0), (5, .int (nI k)), (1, .int (nI k)), (2, .ref v)]) S.1 S.2.1 dJ6_getChars_ba4f3_39 hl (Nat.le_of_ble_eq_true rfl) rfl (fun ls hl => ?_)
  refine lv_iload_n S.1 S.2.1 dJ6_getChars_ba4f3_41 rfl (lv_at hl 1 rfl) ?_
  refine lv_istore_n (lv' := [(0, .int (-nI (n / 100))), (4, .int (nI (n % 100))), (3, .int (-nI (n / 100))), (6, .int 0), (5, .int (nI k)), (1, .int (nI k)), (2, .ref v)]) S.1 S.2.1 dJ6_getChars_ba4f3_42 rfl hl (Nat.le_of_ble_eq_true rfl) rfl (fun ls hl => ?_)
  refine lv_aload_n S.1 S.2.1 dJ6_getChars_ba4f3_43 rfl (lv_at hl 6 rfl) ?_
  refine lv_iinc (lv' := [(5, .int (nI (k - 1))), (0, .int (-nI (n / 100))), (4, .int (nI (n % 100))), (3, .int (-nI (n / 100))), (6, .int 0), (1, .int (nI k)), (2, .ref v)]) S.1 S.2.1 dJ6_getChars_ba4f3_44 hl (k := 4) rfl (sb_m1 (by omega)) (Nat.le_of_ble_eq_true rfl) rfl (fun ls hl => ?_)
  refine lv_iload S.1 S.2.1 dJ6_getChars_ba4f3_47 (lv_at hl 0 rfl) ?_
  refine pk_gets S hW hST.2.zOnes wd_920 dJ6_getChars_ba4f3_49 ?_
  refine lv_iload S.1 S.2.1 dJ6_getChars_ba4f3_52 (lv_at hl 2 rfl) ?_
  refine va_tb S.1 S.2.1 hST.2.tOnes hW.2.2 (vp_in_nI (by omega) (by decide)) rfl dJ6_getChars_ba4f3_54 ?_
  refine pk_bast S hK hW 1 m_v e_v rfl (vp_in_nI (by omega) (by omega)) dJ6_getChars_ba4f3_55 (fun g_3 H9 l9 hg_3 hW => ?_) hg
  have e_v : (va_up F v (.inl (κ 1, cap, .inl g_3))) v = .inl (κ 1, cap, .inl g_3) := up_eq
  have hfr : ∀ q, q ≠ v → (va_up F v (.inl (κ 1, cap, .inl g_3))) q = F q := fun q q1 => (up_ne q1).trans (hfr q q1)
  generalize va_up F v (.inl (κ 1, cap, .inl g_3)) = F_4 at hW e_v hfr
  refine lv_aload_n S.1 S.2.1 dJ6_getChars_ba4f3_56 rfl (lv_at hl 6 rfl) ?_
  refine lv_iinc (lv' := [(5, .int (nI (k - 1 - 1))), (0, .int (-nI (n / 100))), (4, .int (nI (n % 100))), (3, .int (-nI (n / 100))), (6, .int 0), (1, .int (nI k)), (2, .ref v)]) S.1 S.2.1 dJ6_getChars_ba4f3_57 hl (k := 0) rfl (sb_m1 (by omega)) (Nat.le_of_ble_eq_true rfl) rfl (fun ls hl => ?_)
  refine lv_iload S.1 S.2.1 dJ6_getChars_ba4f3_60 (lv_at hl 0 rfl) ?_
  refine pk_gets S hW hST.2.zTens wd_921 dJ6_getChars_ba4f3_62 ?_
  refine lv_iload S.1 S.2.1 dJ6_getChars_ba4f3_65 (lv_at hl 2 rfl) ?_
  refine va_tb S.1 S.2.1 hST.2.tTens hW.2.2 (vp_in_nI (by omega) (by decide)) rfl dJ6_getChars_ba4f3_67 ?_
  refine pk_bast S hK hW 1 m_v e_v rfl (vp_in_nI (by omega) (by omega)) dJ6_getChars_ba4f3_68 (fun g_5 H9 l9 hg_5 hW => ?_) hg_3
  have e_v : (va_up F_4 v (.inl (κ 1, cap, .inl g_5))) v = .inl (κ 1, cap, .inl g_5) := up_eq
  have hfr : ∀ q, q ≠ v → (va_up F_4 v (.inl (κ 1, cap, .inl g_5))) q = F q := fun q q1 => (up_ne q1).trans (hfr q q1)
  generalize va_up F_4 v (.inl (κ 1, cap, .inl g_5)) = F_6 at hW e_v hfr
  refine lv_goto (tgt := 22) S.1 S.2.1 dJ6_getChars_ba4f3_69 (by decide) ?_
  refine lv_iload_n S.1 S.2.1 dJ6_getChars_ba4f3_22 rfl (lv_at hl 1 rfl) ?_
  refine lv_bipush (v := (-100)) S.1 S.2.1 dJ6_getChars_ba4f3_23 (by decide) ?_
  refine lv_icmp_gt (tgt := 72) S.1 S.2.1 dJ6_getChars_ba4f3_25 (by decide) (fun _ => ?_) (fun c1 => absurd (show -nI 100 < -nI (n / 100) from (sb_nlt (by omega) (by omega)).mpr (by omega)) c1)
  refine lv_aload_n S.1 S.2.1 dJ6_getChars_ba4f3_72 rfl (lv_at hl 6 rfl) ?_
  refine lv_iinc (lv' := [(5, .int (nI (k - 1 - 1 - 1))), (0, .int (-nI (n / 100))), (4, .int (nI (n % 100))), (3, .int (-nI (n / 100))), (6, .int 0), (1, .int (nI k)), (2, .ref v)]) S.1 S.2.1 dJ6_getChars_ba4f3_73 hl (k := 0) rfl (sb_m1 (by omega)) (Nat.le_of_ble_eq_true rfl) rfl (fun ls hl => ?_)
  refine lv_iload S.1 S.2.1 dJ6_getChars_ba4f3_76 (lv_at hl 0 rfl) ?_
  refine pk_gets S hW hST.2.zOnes wd_920 dJ6_getChars_ba4f3_78 ?_
  refine lv_iload_n S.1 S.2.1 dJ6_getChars_ba4f3_81 rfl (lv_at hl 1 rfl) ?_
  refine lv_ineg S.1 S.2.1 dJ6_getChars_ba4f3_82 ?_
  refine lv_topi (fun y_7 ey_7 => ?_)
  have ey_7 : y_7 = nI (n / 100) := ey_7.trans (Int32.neg_neg)
  subst ey_7
  refine va_tb S.1 S.2.1 hST.2.tOnes hW.2.2 (vp_in_nI (by omega) (by decide)) rfl dJ6_getChars_ba4f3_83 ?_
  refine pk_bast S hK hW 1 m_v e_v rfl (vp_in_nI (by omega) (by omega)) dJ6_getChars_ba4f3_84 (fun g_8 H9 l9 hg_8 hW => ?_) hg_5
  have e_v : (va_up F_6 v (.inl (κ 1, cap, .inl g_8))) v = .inl (κ 1, cap, .inl g_8) := up_eq
  have hfr : ∀ q, q ≠ v → (va_up F_6 v (.inl (κ 1, cap, .inl g_8))) q = F q := fun q q1 => (up_ne q1).trans (hfr q q1)
  generalize va_up F_6 v (.inl (κ 1, cap, .inl g_8)) = F_9 at hW e_v hfr
  refine lv_iload_n S.1 S.2.1 dJ6_getChars_ba4f3_85 rfl (lv_at hl 1 rfl) ?_
  refine lv_bipush (v := (-9)) S.1 S.2.1 dJ6_getChars_ba4f3_86 (by decide) ?_
  refine lv_icmp_ge (tgt := 104) S.1 S.2.1 dJ6_getChars_ba4f3_88 (by decide) (fun _ => ?_) (fun c1 => absurd (show -nI 9 ≤ -nI (n / 100) from (sb_nle (by omega) (by omega)).mpr (by omega)) c1)
  refine lv_iload S.1 S.2.1 dJ6_getChars_ba4f3_104 (lv_at hl 4 rfl) ?_
  refine lv_if_eq (tgt := 118) S.1 S.2.1 dJ6_getChars_ba4f3_106 (by decide) (fun _ => ?_) (fun c1 => absurd rfl c1)
  refine lv_iload S.1 S.2.1 dJ6_getChars_ba4f3_118 (lv_at hl 0 rfl) ?_
  exact pk_iret S hr hlk hW ⟨rfl, ⟨_, e_v, hg_8⟩, hfr⟩ (by decide) (by decide) dJ6_getChars_ba4f3_120
/-- how many digits -/
def sdg (n : Nat) : Nat := if n < 10 then 1 else if n < 100 then 2 else 3
theorem sdg_le (n : Nat) : 1 ≤ sdg n ∧ sdg n ≤ 3 := by
  unfold sdg
  split
  · omega
  · split <;> omega
theorem c_sdg {l : Launch} {D : va_G} {κ : Nat → ClassId} {ζ : Nat → Nat} {L : List Nat} {F : Nat → va_E} {n : Nat} (h : n < 1000) : MtI l D cls (ty5 κ) ζ yJ6_stringSize_0f7a4 cJ6_stringSize_0f7a4 4 (some .int) 2 0 0 [.int (nI n)] L F (fun r L' F' => L = L' ∧ F = F' ∧ nI (sdg n) = r) := by
  by_cases h1 : n < 10
  · rw [show sdg n = 1 from if_pos h1]; exact c_J6_stringSize_0f7a4_1 h1
  · by_cases h2 : n < 100
    · rw [show sdg n = 2 from (if_neg h1).trans (if_pos h2)]; exact c_J6_stringSize_0f7a4_2 (by omega) h2
    · rw [show sdg n = 3 from (if_neg h1).trans (if_neg h2)]; exact c_J6_stringSize_0f7a4_3 (by omega) h
theorem c_gch {l : Launch} {D : va_G} {κ : Nat → ClassId} {ζ : Nat → Nat} {L : List Nat} {F : Nat → va_E} {v cap n k : Nat} {g : Nat → Int32} (m_v : v ∈ L) (e_v : F v = .inl (κ 1, cap, .inl g)) (hg : ∀ j, fits .byte (.int (g j)) = true) (h : n < 1000) (hk : sdg n ≤ k) (hkc : k ≤ cap) (hcp : cap ≤ 300000) : MtI l D cls (ty5 κ) ζ yJ6_getChars_ba4f3 cJ6_getChars_ba4f3 7 (some .int) 2 0 0 [.int (nI n), .int (nI k), .ref v] L F (fun r L' F' => L = L' ∧ (∃ g', F' v = .inl (κ 1, cap, .inl g') ∧ ∀ j, fits .byte (.int (g' j)) = true) ∧ ∀ q, q ≠ v → F' q = F q) := by
  by_cases h1 : n < 10
  · rw [show sdg n = 1 from if_pos h1] at hk; exact c_J6_getChars_ba4f3_1 m_v e_v hg h1 hk hkc hcp
  · by_cases h2 : n < 100
    · rw [show sdg n = 2 from (if_neg h1).trans (if_pos h2)] at hk; exact c_J6_getChars_ba4f3_2 m_v e_v hg (by omega) h2 hk hkc hcp
    · rw [show sdg n = 3 from (if_neg h1).trans (if_neg h2)] at hk; exact c_J6_getChars_ba4f3_3 m_v e_v hg (by omega) h hk hkc hcp
theorem mc_J5_append_c97b9 : MCode yJ5_append_c97b9 cJ5_append_c97b9 4 (some (.object "java/lang/AbstractStringBuilder")) := ⟨wd_913, wd_26, by decide, by decide⟩
theorem np_J5_append_c97b9 : (parseMethodDescriptor yJ5_append_c97b9.desc).map (fun d => d.parameters.length) = some 1 := by decide +kernel
set_option maxHeartbeats 4000000 in
set_option maxRecDepth 100000 in
theorem c_J5_append_c97b9_fit {l : Launch} {D : va_G} {κ : Nat → ClassId} {ζ : Nat → Nat} {L : List Nat} {F : Nat → va_E} {b v cap cnt : Nat} {ml : Int32} {g : Nat → Int32} (m_b : b ∈ L) (m_v : v ∈ L) (n_b_v : b ≠ v) (e_b : F b = .inr (1, [.ref v, .int 0, .int ml, .int (nI cnt)])) (e_v : F v = .inl (κ 1, cap, .inl g)) (hg : ∀ j, fits .byte (.int (g j)) = true) {n : Nat} (hn : n < 1000) (hfit : cnt + sdg n ≤ cap) (hcp : cap ≤ 300000) : MtR l D cls (ty5 κ) ζ yJ5_append_c97b9 cJ5_append_c97b9 4 (some (.object "java/lang/AbstractStringBuilder")) 5 0 0 ([.ref b, .int (nI n)] : List Value) L F (fun r L' F' => b = r ∧ L = L' ∧ F' b = .inr (1, [.ref v, .int 0, .int ml, .int (nI (cnt + sdg n))]) ∧ (∃ g', F' v = .inl (κ 1, cap, .inl g') ∧ ∀ j, fits .byte (.int (g' j)) = true) ∧ ∀ q, q ≠ b → q ≠ v → F' q = F q) := by
  refine MtR.of (by decide) (Nat.le_of_ble_eq_true rfl) ?_
  intro p e s m below meth c S hr hlk hini hK hW hST ls hl
  have hl : lv_has ls 4 [(0, .ref b), (1, .int (nI n))] := hl
  have hfr : ∀ q, q ≠ b → q ≠ v → F q = F q := fun _ _ _ => rfl
  refine lv_aload_n S.1 S.2.1 dJ5_append_c97b9_0 rfl (lv_at hl 0 rfl) ?_
  refine pk_get S hK hW 3 m_b e_b rfl hinJ4 (by decide) wd_815 rfl dJ5_append_c97b9_1 ?_
  refine lv_istore_n (lv' := [(2, .int (nI cnt)), (0, .ref b), (1, .int (nI n))]) S.1 S.2.1 dJ5_append_c97b9_4 rfl hl (Nat.le_of_ble_eq_true rfl) rfl (fun ls hl => ?_)
  refine lv_iload_n S.1 S.2.1 dJ5_append_c97b9_5 rfl (lv_at hl 0 rfl) ?_
  refine lv_iload_n S.1 S.2.1 dJ5_append_c97b9_6 rfl (lv_at hl 2 rfl) ?_
  refine pk_cSI (As := [.int (nI n)]) (rest := [.int (nI cnt)]) S hK hST hW (c_sdg hn) mc_J6_stringSize_0f7a4 wd_914 wd_915 np_J6_stringSize_0f7a4 rfl hl.1 rfl (Nat.le_of_ble_eq_true rfl) dJ5_append_c97b9_7 ⟨Nat.le_of_ble_eq_true rfl, Nat.le_of_ble_eq_true rfl⟩ ⟨Nat.le_of_ble_eq_true rfl, Nat.le_of_ble_eq_true rfl⟩ (fun r L_1 F_2 H_3 l_4 hp hW => ?_)
  obtain ⟨rfl, rfl, rfl⟩ := hp
  refine lv_iadd S.1 S.2.1 dJ5_append_c97b9_10 ?_
  refine lv_topi (fun y_5 ey_5 => ?_)
  have ey_5 : y_5 = nI (cnt + sdg n) := ey_5.trans ((nI_add _ _))
  subst ey_5
  refine lv_istore_n (lv' := [(3, .int (nI (cnt + sdg n))), (2, .int (nI cnt)), (0, .ref b), (1, .int (nI n))]) S.1 S.2.1 dJ5_append_c97b9_11 rfl hl (Nat.le_of_ble_eq_true rfl) rfl (fun ls hl => ?_)
  refine lv_aload_n S.1 S.2.1 dJ5_append_c97b9_12 rfl (lv_at hl 2 rfl) ?_
  refine lv_iload_n S.1 S.2.1 dJ5_append_c97b9_13 rfl (lv_at hl 0 rfl) ?_
  refine pk_cPV (As := [.int (nI (cnt + sdg n))]) (rest := []) S hK hST hW (c_J5_ensureCapacityInternal_d00df_fit m_b m_v n_b_v e_b e_v hg hfit hcp) mc_J5_ensureCapacityInternal_d00df wd_828 wd_830 wn_47 wd_1654 np_J5_ensureCapacityInternal_d00df m_b e_b rfl rfl hl.1 rfl (Nat.le_of_ble_eq_true rfl) dJ5_append_c97b9_14 ⟨Nat.le_of_ble_eq_true rfl, Nat.le_of_ble_eq_true rfl⟩ ⟨Nat.le_of_ble_eq_true rfl, Nat.le_of_ble_eq_true rfl⟩ (fun L_6 F_7 H_8 l_9 hp hW => ?_)
  obtain ⟨rfl, rfl⟩ := hp
  refine lv_aload_n S.1 S.2.1 dJ5_append_c97b9_17 rfl (lv_at hl 2 rfl) ?_
  refine pk_cUI (As := []) (rest := []) S hK hST hW (c_J5_isLatin1_aae02 m_b e_b) mc_J5_isLatin1_aae02 wd_858 wd_859 wd_861 wd_860 np_J5_isLatin1_aae02 m_b e_b rfl rfl hl.1 rfl (Nat.le_of_ble_eq_true rfl) dJ5_append_c97b9_18 ⟨Nat.le_of_ble_eq_true rfl, Nat.le_of_ble_eq_true rfl⟩ ⟨Nat.le_of_ble_eq_true rfl, Nat.le_of_ble_eq_true rfl⟩ (fun r L_10 F_11 H_12 l_13 hp hW => ?_)
  obtain ⟨rfl, rfl, rfl⟩ := hp
  refine lv_if_eq (tgt := 37) S.1 S.2.1 dJ5_append_c97b9_21 (by decide) (fun c1 => absurd c1 (by decide)) (fun _ => ?_)
  refine lv_iload_n S.1 S.2.1 dJ5_append_c97b9_24 rfl (lv_at hl 3 rfl) ?_
  refine lv_iload_n S.1 S.2.1 dJ5_append_c97b9_25 rfl (lv_at hl 0 rfl) ?_
  refine lv_aload_n S.1 S.2.1 dJ5_append_c97b9_26 rfl (lv_at hl 2 rfl) ?_
  refine pk_get S hK hW 0 m_b e_b rfl hinJ4 (by decide) wd_812 rfl dJ5_append_c97b9_27 ?_
  refine pk_cSI (As := [.int (nI n), .int (nI (cnt + sdg n)), .ref v]) (rest := []) S hK hST hW (c_gch m_v e_v hg hn (k := (cnt + sdg n)) (by omega) hfit hcp) mc_J6_getChars_ba4f3 wd_917 wd_918 np_J6_getChars_ba4f3 rfl hl.1 rfl (Nat.le_of_ble_eq_true rfl) dJ5_append_c97b9_30 ⟨Nat.le_of_ble_eq_true rfl, Nat.le_of_ble_eq_true rfl⟩ ⟨Nat.le_of_ble_eq_true rfl, Nat.le_of_ble_eq_true rfl⟩ (fun r9 L9 F9 H9 l9 hp hW => ?_)
  obtain ⟨rfl, ⟨g9, e9, hg9⟩, hf9⟩ := hp
  have e_b : F9 b = .inr (1, [.ref v, .int 0, .int ml, .int (nI cnt)]) := (hf9 b n_b_v).trans e_b
  have e_v := e9
  have hfr : ∀ q, q ≠ b → q ≠ v → F9 q = F q := fun q q1 q2 => (hf9 q q2).trans (hfr q q1 q2)
  refine lv_pop S.1 S.2.1 dJ5_append_c97b9_33 rfl ?_
  refine lv_goto (tgt := 48) S.1 S.2.1 dJ5_append_c97b9_34 (by decide) ?_
  refine lv_aload_n S.1 S.2.1 dJ5_append_c97b9_48 rfl (lv_at hl 2 rfl) ?_
  refine lv_iload_n S.1 S.2.1 dJ5_append_c97b9_49 rfl (lv_at hl 0 rfl) ?_
  refine pk_put (v := .int (nI (cnt + sdg n))) S hK hW 3 m_b e_b rfl hinJ4 tyJ4_ok nmJ4 (by decide) wd_815 rfl rfl rfl rfl (Nat.le_of_ble_eq_true rfl) dJ5_append_c97b9_50 (fun H_14 l_15 hW => ?_)
  have e_b : (va_up F9 b (.inr (1, ([.ref v, .int 0, .int ml, .int (nI cnt)] : List Value).set 3 (.int (nI (cnt + sdg n)))))) b = .inr (1, [.ref v, .int 0, .int ml, .int (nI (cnt + sdg n))]) := up_eq
  have e_v : (va_up F9 b (.inr (1, ([.ref v, .int 0, .int ml, .int (nI cnt)] : List Value).set 3 (.int (nI (cnt + sdg n)))))) v = .inl (κ 1, cap, .inl g9) := (up_ne n_b_v.symm).trans e_v
  have hfr : ∀ q, q ≠ b → q ≠ v → (va_up F9 b (.inr (1, ([.ref v, .int 0, .int ml, .int (nI cnt)] : List Value).set 3 (.int (nI (cnt + sdg n)))))) q = F q := fun q q1 q2 => (up_ne q1).trans (hfr q q1 q2)
  generalize va_up F9 b (.inr (1, ([.ref v, .int 0, .int ml, .int (nI cnt)] : List Value).set 3 (.int (nI (cnt + sdg n))))) = F_16 at hW e_b e_v hfr
  refine lv_aload_n S.1 S.2.1 dJ5_append_c97b9_53 rfl (lv_at hl 2 rfl) ?_
  exact pk_rret S hr (Or.inl ⟨_, rfl⟩) hlk hW ⟨rfl, rfl, e_b, ⟨g9, e_v, hg9⟩, hfr⟩ (by decide) (by decide) dJ5_append_c97b9_54
set_option maxHeartbeats 4000000 in
set_option maxRecDepth 100000 in
theorem c_J5_append_c97b9_grow {l : Launch} {D : va_G} {κ : Nat → ClassId} {ζ : Nat → Nat} {L : List Nat} {F : Nat → va_E} {b v cap cnt : Nat} {ml : Int32} {g : Nat → Int32} (m_b : b ∈ L) (m_v : v ∈ L) (n_b_v : b ≠ v) (e_b : F b = .inr (1, [.ref v, .int 0, .int ml, .int (nI cnt)])) (e_v : F v = .inl (κ 1, cap, .inl g)) (hg : ∀ j, fits .byte (.int (g j)) = true) {n : Nat} (hn : n < 1000) (hgr : cap < cnt + sdg n) (hcn : cnt + sdg n ≤ 100000) : MtR l D cls (ty5 κ) ζ yJ5_append_c97b9 cJ5_append_c97b9 4 (some (.object "java/lang/AbstractStringBuilder")) 5 1 (cap + max (cnt + sdg n - cap) (cap + 2)) ([.ref b, .int (nI n)] : List Value) L F (fun r L' F' => b = r ∧ (∀ x ∈ L, x ∈ L') ∧ (∃ q g', q ∉ L ∧ q ∈ L' ∧ b ≠ q ∧ F' b = .inr (1, [.ref q, .int 0, .int ml, .int (nI (cnt + sdg n))]) ∧ F' q = .inl (κ 1, (cap + max (cnt + sdg n - cap) (cap + 2)), .inl g') ∧ ∀ j, fits .byte (.int (g' j)) = true) ∧ ∀ x ∈ L, x ≠ b → F' x = F x) := by
  refine MtR.of (by decide) (Nat.le_of_ble_eq_true rfl) ?_
  intro p e s m below meth c S hr hlk hini hK hW hST ls hl
  have hl : lv_has ls 4 [(0, .ref b), (1, .int (nI n))] := hl
  refine lv_aload_n S.1 S.2.1 dJ5_append_c97b9_0 rfl (lv_at hl 0 rfl) ?_
  refine pk_get S hK hW 3 m_b e_b rfl hinJ4 (by decide) wd_815 rfl dJ5_append_c97b9_1 ?_
  refine lv_istore_n (lv' := [(2, .int (nI cnt)), (0, .ref b), (1, .int (nI n))]) S.1 S.2.1 dJ5_append_c97b9_4 rfl hl (Nat.le_of_ble_eq_true rfl) rfl (fun ls hl => ?_)
  refine lv_iload_n S.1 S.2.1 dJ5_append_c97b9_5 rfl (lv_at hl 0 rfl) ?_
  refine lv_iload_n S.1 S.2.1 dJ5_append_c97b9_6 rfl (lv_at hl 2 rfl) ?_
  refine pk_cSI (As := [.int (nI n)]) (rest := [.int (nI cnt)]) S hK hST hW (c_sdg hn) mc_J6_stringSize_0f7a4 wd_914 wd_915 np_J6_stringSize_0f7a4 rfl hl.1 rfl (Nat.le_of_ble_eq_true rfl) dJ5_append_c97b9_7 ⟨Nat.le_of_ble_eq_true rfl, Nat.le_of_ble_eq_true rfl⟩ ⟨Nat.le_of_ble_eq_true rfl, Nat.zero_le _⟩ (fun r L_1 F_2 H_3 l_4 hp hW => ?_)
  obtain ⟨rfl, rfl, rfl⟩ := hp
  refine lv_iadd S.1 S.2.1 dJ5_append_c97b9_10 ?_
  refine lv_topi (fun y_5 ey_5 => ?_)
  have ey_5 : y_5 = nI (cnt + sdg n) := ey_5.trans ((nI_add _ _))
  subst ey_5
  refine lv_istore_n (lv' := [(3, .int (nI (cnt + sdg n))), (2, .int (nI cnt)), (0, .ref b), (1, .int (nI n))]) S.1 S.2.1 dJ5_append_c97b9_11 rfl hl (Nat.le_of_ble_eq_true rfl) rfl (fun ls hl => ?_)
  refine lv_aload_n S.1 S.2.1 dJ5_append_c97b9_12 rfl (lv_at hl 2 rfl) ?_
  refine lv_iload_n S.1 S.2.1 dJ5_append_c97b9_13 rfl (lv_at hl 0 rfl) ?_
  refine pk_cPV (As := [.int (nI (cnt + sdg n))]) (rest := []) S hK hST hW (c_J5_ensureCapacityInternal_d00df_grow m_b m_v n_b_v e_b e_v hg hgr hcn) mc_J5_ensureCapacityInternal_d00df wd_828 wd_830 wn_47 wd_1654 np_J5_ensureCapacityInternal_d00df m_b e_b rfl rfl hl.1 rfl (Nat.le_of_ble_eq_true rfl) dJ5_append_c97b9_14 ⟨Nat.le_of_ble_eq_true rfl, Nat.le_of_ble_eq_true rfl⟩ ⟨Nat.le_of_ble_eq_true rfl, by rw [Nat.zero_add]; exact Nat.le_refl _⟩ (fun L1 F1 H1 l1 hp hW => ?_)
  obtain ⟨hsub1, ⟨q, g1, hq_q, m_q, n_b_q, e_b, e_q, hg1⟩, hfr1⟩ := hp
  have m_b := hsub1 _ m_b
  have hfr : ∀ x ∈ L, x ≠ b → F1 x = F x := hfr1
  refine lv_aload_n S.1 S.2.1 dJ5_append_c97b9_17 rfl (lv_at hl 2 rfl) ?_
  refine pk_cUI (As := []) (rest := []) S hK hST hW (c_J5_isLatin1_aae02 m_b e_b) mc_J5_isLatin1_aae02 wd_858 wd_859 wd_861 wd_860 np_J5_isLatin1_aae02 m_b e_b rfl rfl hl.1 rfl (Nat.le_of_ble_eq_true rfl) dJ5_append_c97b9_18 ⟨Nat.le_of_ble_eq_true rfl, Nat.le_of_ble_eq_true rfl⟩ ⟨Nat.le_of_ble_eq_true rfl, by rw [Nat.add_zero, Nat.zero_add]; exact Nat.le_refl _⟩ (fun r L_6 F_7 H_8 l_9 hp hW => ?_)
  obtain ⟨rfl, rfl, rfl⟩ := hp
  refine lv_if_eq (tgt := 37) S.1 S.2.1 dJ5_append_c97b9_21 (by decide) (fun c1 => absurd c1 (by decide)) (fun _ => ?_)
  refine lv_iload_n S.1 S.2.1 dJ5_append_c97b9_24 rfl (lv_at hl 3 rfl) ?_
  refine lv_iload_n S.1 S.2.1 dJ5_append_c97b9_25 rfl (lv_at hl 0 rfl) ?_
  refine lv_aload_n S.1 S.2.1 dJ5_append_c97b9_26 rfl (lv_at hl 2 rfl) ?_
  refine pk_get S hK hW 0 m_b e_b rfl hinJ4 (by decide) wd_812 rfl dJ5_append_c97b9_27 ?_
  refine pk_cSI (As := [.int (nI n), .int (nI (cnt + sdg n)), .ref q]) (rest := []) S hK hST hW (c_gch m_q e_q hg1 hn (k := (cnt + sdg n)) (by omega) (by omega) (by omega)) mc_J6_getChars_ba4f3 wd_917 wd_918 np_J6_getChars_ba4f3 rfl hl.1 rfl (Nat.le_of_ble_eq_true rfl) dJ5_append_c97b9_30 ⟨Nat.le_of_ble_eq_true rfl, Nat.le_of_ble_eq_true rfl⟩ ⟨Nat.le_of_ble_eq_true rfl, by rw [Nat.add_zero, Nat.zero_add]; exact Nat.le_refl _⟩ (fun r9 L9 F9 H9 l9 hp hW => ?_)
  obtain ⟨rfl, ⟨g9, e9, hg9⟩, hf9⟩ := hp
  have e_b : F9 b = .inr (1, [.ref q, .int 0, .int ml, .int (nI cnt)]) := (hf9 b n_b_q).trans e_b
  have e_q := e9
  have hfr : ∀ x ∈ L, x ≠ b → F9 x = F x := fun x hx xb => (hf9 x (fun (ee : x = q) => hq_q (ee ▸ hx))).trans (hfr x hx xb)
  refine lv_pop S.1 S.2.1 dJ5_append_c97b9_33 rfl ?_
  refine lv_goto (tgt := 48) S.1 S.2.1 dJ5_append_c97b9_34 (by decide) ?_
  refine lv_aload_n S.1 S.2.1 dJ5_append_c97b9_48 rfl (lv_at hl 2 rfl) ?_
  refine lv_iload_n S.1 S.2.1 dJ5_append_c97b9_49 rfl (lv_at hl 0 rfl) ?_
  refine pk_put (v := .int (nI (cnt + sdg n))) S hK hW 3 m_b e_b rfl hinJ4 tyJ4_ok nmJ4 (by decide) wd_815 rfl rfl rfl rfl (Nat.le_of_ble_eq_true rfl) dJ5_append_c97b9_50 (fun H_10 l_11 hW => ?_)
  have e_b : (va_up F9 b (.inr (1, ([.ref q, .int 0, .int ml, .int (nI cnt)] : List Value).set 3 (.int (nI (cnt + sdg n)))))) b = .inr (1, [.ref q, .int 0, .int ml, .int (nI (cnt + sdg n))]) := up_eq
  have e_q : (va_up F9 b (.inr (1, ([.ref q, .int 0, .int ml, .int (nI cnt)] : List Value).set 3 (.int (nI (cnt + sdg n)))))) q = .inl (κ 1, (cap + max (cnt + sdg n - cap) (cap + 2)), .inl g9) := (up_ne n_b_q.symm).trans e_q
  have hfr : ∀ x ∈ L, x ≠ b → (va_up F9 b (.inr (1, ([.ref q, .int 0, .int ml, .int (nI cnt)] : List Value).set 3 (.int (nI (cnt + sdg n)))))) x = F x := fun x hx xb => (up_ne xb).trans (hfr x hx xb)
  generalize va_up F9 b (.inr (1, ([.ref q, .int 0, .int ml, .int (nI cnt)] : List Value).set 3 (.int (nI (cnt + sdg n))))) = F_12 at hW e_b e_q hfr
  refine lv_aload_n S.1 S.2.1 dJ5_append_c97b9_53 rfl (lv_at hl 2 rfl) ?_
  exact pk_rret S hr (Or.inl ⟨_, rfl⟩) hlk hW ⟨rfl, hsub1, ⟨q, g9, hq_q, m_q, n_b_q, e_b, e_q, hg9⟩, hfr⟩ (by decide) (by rw [Nat.zero_add]; exact Nat.le_refl _) dJ5_append_c97b9_54
theorem mc_J4_append_bf812 : MCode yJ4_append_bf812 cJ4_append_bf812 2 (some (.object "java/lang/StringBuilder")) := ⟨wd_910, wd_27, by decide, by decide⟩
theorem np_J4_append_bf812 : (parseMethodDescriptor yJ4_append_bf812.desc).map (fun d => d.parameters.length) = some 1 := by decide +kernel
set_option maxHeartbeats 4000000 in
set_option maxRecDepth 100000 in
theorem c_J4_append_bf812_fit {l : Launch} {D : va_G} {κ : Nat → ClassId} {ζ : Nat → Nat} {L : List Nat} {F : Nat → va_E} {b v cap cnt : Nat} {ml : Int32} {g : Nat → Int32} (m_b : b ∈ L) (m_v : v ∈ L) (n_b_v : b ≠ v) (e_b : F b = .inr (1, [.ref v, .int 0, .int ml, .int (nI cnt)])) (e_v : F v = .inl (κ 1, cap, .inl g)) (hg : ∀ j, fits .byte (.int (g j)) = true) {n : Nat} (hn : n < 1000) (hfit : cnt + sdg n ≤ cap) (hcp : cap ≤ 300000) : MtR l D cls (ty5 κ) ζ yJ4_append_bf812 cJ4_append_bf812 2 (some (.object "java/lang/StringBuilder")) 6 0 0 ([.ref b, .int (nI n)] : List Value) L F (fun r L' F' => b = r ∧ L = L' ∧ F' b = .inr (1, [.ref v, .int 0, .int ml, .int (nI (cnt + sdg n))]) ∧ (∃ g', F' v = .inl (κ 1, cap, .inl g') ∧ ∀ j, fits .byte (.int (g' j)) = true) ∧ ∀ q, q ≠ b → q ≠ v → F' q = F q) := by
  refine MtR.of (by decide) (Nat.le_of_ble_eq_true rfl) ?_
  intro p e s m below meth c S hr hlk hini hK hW hST ls hl
  have hl : lv_has ls 2 [(0, .ref b), (1, .int (nI n))] := hl
  refine lv_aload_n S.1 S.2.1 dJ4_append_bf812_0 rfl (lv_at hl 0 rfl) ?_
  refine lv_iload_n S.1 S.2.1 dJ4_append_bf812_1 rfl (lv_at hl 1 rfl) ?_
  refine pk_cWR (As := [.int (nI n)]) (rest := []) S hK hST hW (c_J5_append_c97b9_fit m_b m_v n_b_v e_b e_v hg hn hfit hcp) mc_J5_append_c97b9 wd_911 wd_912 wd_1657 wd_820 (by decide) np_J5_append_c97b9 m_b e_b rfl rfl hl.1 rfl (Nat.le_of_ble_eq_true rfl) dJ4_append_bf812_2 ⟨Nat.le_of_ble_eq_true rfl, Nat.le_of_ble_eq_true rfl⟩ ⟨Nat.le_of_ble_eq_true rfl, Nat.le_of_ble_eq_true rfl⟩ (fun r L_1 F_2 H_3 l_4 hp hW => ?_)
  obtain ⟨rfl, hp⟩ := hp
  refine lv_pop S.1 S.2.1 dJ4_append_bf812_5 rfl ?_
  refine lv_aload_n S.1 S.2.1 dJ4_append_bf812_6 rfl (lv_at hl 0 rfl) ?_
  exact pk_rret S hr (Or.inl ⟨_, rfl⟩) hlk hW ⟨rfl, hp⟩ (by decide) (by decide) dJ4_append_bf812_7
set_option maxHeartbeats 4000000 in
set_option maxRecDepth 100000 in
theorem c_J4_append_bf812_grow {l : Launch} {D : va_G} {κ : Nat → ClassId} {ζ : Nat → Nat} {L : List Nat} {F : Nat → va_E} {b v cap cnt : Nat} {ml : Int32} {g : Nat → Int32} (m_b : b ∈ L) (m_v : v ∈ L) (n_b_v : b ≠ v) (e_b : F b = .inr (1, [.ref v, .int 0, .int ml, .int (nI cnt)])) (e_v : F v = .inl (κ 1, cap, .inl g)) (hg : ∀ j, fits .byte (.int (g j)) = true) {n : Nat} (hn : n < 1000) (hgr : cap < cnt + sdg n) (hcn : cnt + sdg n ≤ 100000) : MtR l D cls (ty5 κ) ζ yJ4_append_bf812 cJ4_append_bf812 2 (some (.object "java/lang/StringBuilder")) 6 1 (cap + max (cnt + sdg n - cap) (cap + 2)) ([.ref b, .int (nI n)] : List Value) L F (fun r L' F' => b = r ∧ (∀ x ∈ L, x ∈ L') ∧ (∃ q g', q ∉ L ∧ q ∈ L' ∧ b ≠ q ∧ F' b = .inr (1, [.ref q, .int 0, .int ml, .int (nI (cnt + sdg n))]) ∧ F' q = .inl (κ 1, (cap + max (cnt + sdg n - cap) (cap + 2)), .inl g') ∧ ∀ j, fits .byte (.int (g' j)) = true) ∧ ∀ x ∈ L, x ≠ b → F' x = F x) := by
  refine MtR.of (by decide) (Nat.le_of_ble_eq_true rfl) ?_
  intro p e s m below meth c S hr hlk hini hK hW hST ls hl
  have hl : lv_has ls 2 [(0, .ref b), (1, .int (nI n))] := hl
  refine lv_aload_n S.1 S.2.1 dJ4_append_bf812_0 rfl (lv_at hl 0 rfl) ?_
  refine lv_iload_n S.1 S.2.1 dJ4_append_bf812_1 rfl (lv_at hl 1 rfl) ?_
  refine pk_cWR (As := [.int (nI n)]) (rest := []) S hK hST hW (c_J5_append_c97b9_grow m_b m_v n_b_v e_b e_v hg hn hgr hcn) mc_J5_append_c97b9 wd_911 wd_912 wd_1657 wd_820 (by decide) np_J5_append_c97b9 m_b e_b rfl rfl hl.1 rfl (Nat.le_of_ble_eq_true rfl) dJ4_append_bf812_2 ⟨Nat.le_of_ble_eq_true rfl, Nat.le_of_ble_eq_true rfl⟩ ⟨Nat.le_of_ble_eq_true rfl, by rw [Nat.zero_add]; exact Nat.le_refl _⟩ (fun r L_1 F_2 H_3 l_4 hp hW => ?_)
  obtain ⟨rfl, hp⟩ := hp
  refine lv_pop S.1 S.2.1 dJ4_append_bf812_5 rfl ?_
  refine lv_aload_n S.1 S.2.1 dJ4_append_bf812_6 rfl (lv_at hl 0 rfl) ?_
  exact pk_rret S hr (Or.inl ⟨_, rfl⟩) hlk hW ⟨rfl, hp⟩ (by decide) (by rw [Nat.zero_add]; exact Nat.le_refl _) dJ4_append_bf812_7
/-- append(int), be it that it fits or that it grows -/
theorem c_SBi {l : Launch} {D : va_G} {κ : Nat → ClassId} {ζ : Nat → Nat} {L : List Nat} {F : Nat → va_E} {b v cap cnt : Nat} (h : SB κ b v cap cnt L F) {n : Nat} (hn : n < 1000) (hcn : cnt + sdg n ≤ 100000) (hcp : cap ≤ 300000) : MtR l D cls (ty5 κ) ζ yJ4_append_bf812 cJ4_append_bf812 2 (some (.object "java/lang/StringBuilder")) 6 (gmc cap (cnt + sdg n)) (gms cap (cnt + sdg n)) [.ref b, .int (nI n)] L F (fun r L' F' => b = r ∧ (∀ x ∈ L, x ∈ L') ∧ (∃ v', (v' = v ∨ v' ∉ L) ∧ SB κ b v' (ncap cap (cnt + sdg n)) (cnt + sdg n) L' F') ∧ ∀ x ∈ L, x ≠ b → x ≠ v → F' x = F x) := by
  obtain ⟨m_b, m_v, n_b_v, hle, ⟨ml, e_b⟩, g, hg, e_v⟩ := h
  by_cases hf : cnt + sdg n ≤ cap
  · rw [show gmc cap (cnt + sdg n) = 0 from if_pos hf, show gms cap (cnt + sdg n) = 0 from if_pos hf, show ncap cap (cnt + sdg n) = cap from if_pos hf]
    refine MtR.imp (c_J4_append_bf812_fit m_b m_v n_b_v e_b e_v hg hn hf hcp) (fun r L' F' hp => ?_)
    obtain ⟨rfl, rfl, h1, ⟨g', h2, h3⟩, h4⟩ := hp
    exact ⟨rfl, fun x hx => hx, ⟨v, Or.inl rfl, m_b, m_v, n_b_v, hf, ⟨ml, h1⟩, g', h3, h2⟩, fun x _ x1 x2 => h4 x x1 x2⟩
  · rw [show gmc cap (cnt + sdg n) = 1 from if_neg hf, show gms cap (cnt + sdg n) = _ from if_neg hf, show ncap cap (cnt + sdg n) = _ from if_neg hf]
    refine MtR.imp (c_J4_append_bf812_grow m_b m_v n_b_v e_b e_v hg hn (by omega) hcn) (fun r L' F' hp => ?_)
    obtain ⟨rfl, h0, ⟨q, g', h1, h2, h3, h4, h5, h6⟩, h7⟩ := hp
    exact ⟨rfl, h0, ⟨q, Or.inr h1, h0 _ m_b, h2, h3, by omega, ⟨ml, h4⟩, g', h6, h5⟩, fun x hx x1 _ => h7 x hx x1⟩
theorem mc_J5_length_8abf5 : MCode yJ5_length_8abf5 cJ5_length_8abf5 1 (some .int) := ⟨wd_964, wd_26, by decide, by decide⟩
theorem np_J5_length_8abf5 : (parseMethodDescriptor yJ5_length_8abf5.desc).map (fun d => d.parameters.length) = some 0 := by decide +kernel
set_option maxHeartbeats 4000000 in
set_option maxRecDepth 100000 in
theorem c_J5_length_8abf5 {l : Launch} {D : va_G} {κ : Nat → ClassId} {ζ : Nat → Nat} {L : List Nat} {F : Nat → va_E} {b v cnt : Nat} {ml : Int32} (m_b : b ∈ L) (e_b : F b = .inr (1, [.ref v, .int 0, .int ml, .int (nI cnt)])) : MtI l D cls (ty5 κ) ζ yJ5_length_8abf5 cJ5_length_8abf5 1 (some .int) 1 0 0 ([.ref b] : List Value) L F (fun r L' F' => L = L' ∧ F = F' ∧ nI cnt = r) := by
  refine MtI.of (by decide) (Nat.le_of_ble_eq_true rfl) ?_
  intro p e s m below meth c S hr hlk hini hK hW hST ls hl
  have hl : lv_has ls 1 [(0, .ref b)] := hl
  refine lv_aload_n S.1 S.2.1 dJ5_length_8abf5_0 rfl (lv_at hl 0 rfl) ?_
  refine pk_get S hK hW 3 m_b e_b rfl hinJ4 (by decide) wd_815 rfl dJ5_length_8abf5_1 ?_
  exact pk_iret S hr hlk hW ⟨rfl, rfl, rfl⟩ (by decide) (by decide) dJ5_length_8abf5_4
theorem mc_J5_getValue_6d5f1 : MCode yJ5_getValue_6d5f1 cJ5_getValue_6d5f1 1 (some (.array .byte)) := ⟨wd_956, wd_26, by decide, by decide⟩
theorem np_J5_getValue_6d5f1 : (parseMethodDescriptor yJ5_getValue_6d5f1.desc).map (fun d => d.parameters.length) = some 0 := by decide +kernel
set_option maxHeartbeats 4000000 in
set_option maxRecDepth 100000 in
theorem c_J5_getValue_6d5f1 {l : Launch} {D : va_G} {κ : Nat → ClassId} {ζ : Nat → Nat} {L : List Nat} {F : Nat → va_E} {b v cnt : Nat} {ml : Int32} (m_b : b ∈ L) (e_b : F b = .inr (1, [.ref v, .int 0, .int ml, .int (nI cnt)])) : MtR l D cls (ty5 κ) ζ yJ5_getValue_6d5f1 cJ5_getValue_6d5f1 1 (some (.array .byte)) 1 0 0 ([.ref b] : List Value) L F (fun r L' F' => L = L' ∧ F = F' ∧ v = r) := by
  refine MtR.of (by decide) (Nat.le_of_ble_eq_true rfl) ?_
  intro p e s m below meth c S hr hlk hini hK hW hST ls hl
  have hl : lv_has ls 1 [(0, .ref b)] := hl
  refine lv_aload_n S.1 S.2.1 dJ5_getValue_6d5f1_0 rfl (lv_at hl 0 rfl) ?_
  refine pk_get S hK hW 0 m_b e_b rfl hinJ4 (by decide) wd_812 rfl dJ5_getValue_6d5f1_1 ?_
  exact pk_rret S hr (Or.inr ⟨_, rfl⟩) hlk hW ⟨rfl, rfl, rfl⟩ (by decide) (by decide) dJ5_getValue_6d5f1_4
theorem mc_J4_length_8abf5 : MCode yJ4_length_8abf5 cJ4_length_8abf5 1 (some .int) := ⟨wd_962, wd_27, by decide, by decide⟩
theorem np_J4_length_8abf5 : (parseMethodDescriptor yJ4_length_8abf5.desc).map (fun d => d.parameters.length) = some 0 := by decide +kernel
set_option maxHeartbeats 4000000 in
set_option maxRecDepth 100000 in
theorem c_J4_length_8abf5 {l : Launch} {D : va_G} {κ : Nat → ClassId} {ζ : Nat → Nat} {L : List Nat} {F : Nat → va_E} {b v cnt : Nat} {ml : Int32} (m_b : b ∈ L) (e_b : F b = .inr (1, [.ref v, .int 0, .int ml, .int (nI cnt)])) : MtI l D cls (ty5 κ) ζ yJ4_length_8abf5 cJ4_length_8abf5 1 (some .int) 2 0 0 ([.ref b] : List Value) L F (fun r L' F' => L = L' ∧ F = F' ∧ nI cnt = r) := by
  refine MtI.of (by decide) (Nat.le_of_ble_eq_true rfl) ?_
  intro p e s m below meth c S hr hlk hini hK hW hST ls hl
  have hl : lv_has ls 1 [(0, .ref b)] := hl
  refine lv_aload_n S.1 S.2.1 dJ4_length_8abf5_0 rfl (lv_at hl 0 rfl) ?_
  refine pk_cWI (As := []) (rest := []) S hK hST hW (c_J5_length_8abf5 m_b e_b) mc_J5_length_8abf5 wd_963 wd_958 wd_959 wd_820 (by decide) np_J5_length_8abf5 m_b e_b rfl rfl hl.1 rfl (Nat.le_of_ble_eq_true rfl) dJ4_length_8abf5_1 ⟨Nat.le_of_ble_eq_true rfl, Nat.le_of_ble_eq_true rfl⟩ ⟨Nat.le_of_ble_eq_true rfl, Nat.le_of_ble_eq_true rfl⟩ (fun r L_1 F_2 H_3 l_4 hp hW => ?_)
  obtain ⟨rfl, rfl, rfl⟩ := hp
  exact pk_iret S hr hlk hW ⟨rfl, rfl, rfl⟩ (by decide) (by decide) dJ4_length_8abf5_4
theorem mc_J7_checkLength_df160 : MCode yJ7_checkLength_df160 cJ7_checkLength_df160 2 none := ⟨wd_974, wd_12, by decide, by decide⟩
theorem np_J7_checkLength_df160 : (parseMethodDescriptor yJ7_checkLength_df160.desc).map (fun d => d.parameters.length) = some 2 := by decide +kernel
set_option maxHeartbeats 4000000 in
set_option maxRecDepth 100000 in
theorem c_J7_checkLength_df160 {l : Launch} {D : va_G} {κ : Nat → ClassId} {ζ : Nat → Nat} {L : List Nat} {F : Nat → va_E} {n : Nat} (hn : n ≤ 300000) : MtV l D cls (ty5 κ) ζ yJ7_checkLength_df160 cJ7_checkLength_df160 2 none 1 0 0 ([.int (nI 0), .int (nI n)] : List Value) L F (fun L' F' => L = L' ∧ F = F') := by
  refine MtV.of (by decide) (Nat.le_of_ble_eq_true rfl) ?_
  intro p e s m below meth c S hr hlk hini hK hW hST ls hl
  have hl : lv_has ls 2 [(0, .int (nI 0)), (1, .int (nI n))] := hl
  refine lv_iload_n S.1 S.2.1 dJ7_checkLength_df160_0 rfl (lv_at hl 1 rfl) ?_
  refine lv_iload_n S.1 S.2.1 dJ7_checkLength_df160_1 rfl (lv_at hl 0 rfl) ?_
  refine lv_icmp_ge (tgt := 37) S.1 S.2.1 dJ7_checkLength_df160_2 (by decide) (fun _ => ?_) (fun c1 => absurd (nI_le (by omega) (by omega)) c1)
  exact pk_vret S hr hlk hW ⟨rfl, rfl⟩ (by decide) (by decide) dJ7_checkLength_df160_37
theorem mc_J7_copyOfRangeByte_39247 : MCode yJ7_copyOfRangeByte_39247 cJ7_copyOfRangeByte_39247 5 (some (.array .byte)) := ⟨wd_971, wd_12, by decide, by decide⟩
theorem np_J7_copyOfRangeByte_39247 : (parseMethodDescriptor yJ7_copyOfRangeByte_39247.desc).map (fun d => d.parameters.length) = some 3 := by decide +kernel
set_option maxHeartbeats 4000000 in
set_option maxRecDepth 100000 in
theorem c_J7_copyOfRangeByte_39247 {l : Launch} {D : va_G} {κ : Nat → ClassId} {ζ : Nat → Nat} {L : List Nat} {F : Nat → va_E} {v cap N : Nat} {g : Nat → Int32} (m_v : v ∈ L) (e_v : F v = .inl (κ 1, cap, .inl g)) (hg : ∀ j, fits .byte (.int (g j)) = true) (hcN : N ≤ cap) (hcp : cap ≤ 300000) : MtR l D cls (ty5 κ) ζ yJ7_copyOfRangeByte_39247 cJ7_copyOfRangeByte_39247 5 (some (.array .byte)) 2 1 N ([.ref v, .int (nI 0), .int (nI N)] : List Value) L F (fun r L' F' => (∀ x ∈ L, x ∈ L') ∧ r ∈ L' ∧ r ∉ L ∧ (∃ g', (∀ j, fits .byte (.int (g' j)) = true) ∧ F' r = .inl (κ 1, N, .inl g')) ∧ ∀ x ∈ L, F' x = F x) := by
  refine MtR.of (by decide) (Nat.le_of_ble_eq_true rfl) ?_
  intro p e s m below meth c S hr hlk hini hK hW hST ls hl
  have hl : lv_has ls 5 [(0, .ref v), (1, .int (nI 0)), (2, .int (nI N))] := hl
  have hsub : ∀ x ∈ L, x ∈ L := fun x hx => hx
  have hfr : ∀ x ∈ L, True → F x = F x := fun _ _ _ => rfl
  refine lv_iload_n S.1 S.2.1 dJ7_copyOfRangeByte_39247_0 rfl (lv_at hl 1 rfl) ?_
  refine lv_iload_n S.1 S.2.1 dJ7_copyOfRangeByte_39247_1 rfl (lv_at hl 2 rfl) ?_
  refine pk_cSV (As := [.int (nI 0), .int (nI N)]) (rest := []) S hK hST hW (c_J7_checkLength_df160 (by omega)) mc_J7_checkLength_df160 wd_972 wd_973 np_J7_checkLength_df160 rfl hl.1 rfl (Nat.le_of_ble_eq_true rfl) dJ7_copyOfRangeByte_39247_2 ⟨Nat.le_of_ble_eq_true rfl, Nat.le_of_ble_eq_true rfl⟩ ⟨Nat.zero_le _, Nat.zero_le _⟩ (fun L_1 F_2 H_3 l_4 hp hW => ?_)
  obtain ⟨rfl, rfl⟩ := hp
  refine lv_iload_n S.1 S.2.1 dJ7_copyOfRangeByte_39247_5 rfl (lv_at hl 2 rfl) ?_
  refine lv_iload_n S.1 S.2.1 dJ7_copyOfRangeByte_39247_6 rfl (lv_at hl 1 rfl) ?_
  refine lv_isub S.1 S.2.1 dJ7_copyOfRangeByte_39247_7 ?_
  refine lv_topi (fun y_5 ey_5 => ?_)
  have ey_5 : y_5 = nI N := ey_5.trans ((pk_sub (Nat.zero_le _)).trans (by rw [Nat.sub_zero]))
  subst ey_5
  refine lv_istore_n (lv' := [(3, .int (nI N)), (0, .ref v), (1, .int (nI 0)), (2, .int (nI N))]) S.1 S.2.1 dJ7_copyOfRangeByte_39247_8 rfl hl (Nat.le_of_ble_eq_true rfl) rfl (fun ls hl => ?_)
  refine lv_iload_n S.1 S.2.1 dJ7_copyOfRangeByte_39247_9 rfl (lv_at hl 0 rfl) ?_
  refine pk_newB (N' := N) S hK hW 1 rfl wd_412 (nI_pos (by omega)) (nI_clamp (by omega)) (by omega) (Nat.le_of_ble_eq_true rfl) (by show 0 + N ≤ N; omega) dJ7_copyOfRangeByte_39247_10 (fun q H1 hq_q hW => ?_)
  have n_v_q : v ≠ q := fun ee => hq_q (ee ▸ m_v)
  have e_v : (va_up F q (.inl (κ 1, N, .inl (fun _ => 0)))) v = .inl (κ 1, cap, .inl g) := (up_ne n_v_q).trans e_v
  have m_v := List.mem_append_left [q] m_v
  have e_q : (va_up F q (.inl (κ 1, N, .inl (fun _ => 0)))) q = .inl (κ 1, N, .inl (fun _ => 0)) := up_eq
  have m_q : q ∈ L ++ [q] := List.mem_append_right _ (List.mem_singleton.mpr rfl)
  have hnw_q : q ∉ L := fun ee => hq_q (hsub _ ee)
  have hfr : ∀ x ∈ L, True → (va_up F q (.inl (κ 1, N, .inl (fun _ => 0)))) x = F x := fun x hx ht => (up_ne (fun (ee : x = q) => hnw_q (ee ▸ hx))).trans (hfr x hx ht)
  have hsub : ∀ x ∈ L, x ∈ L ++ [q] := fun x hx => List.mem_append_left _ (hsub x hx)
  generalize va_up F q (.inl (κ 1, N, .inl (fun _ => 0))) = F_6 at hW e_v e_q hfr
  generalize L ++ [q] = L_7 at hW m_v m_q hsub
  refine lv_astore (lv' := [(4, .ref q), (3, .int (nI N)), (0, .ref v), (1, .int (nI 0)), (2, .int (nI N))]) S.1 S.2.1 dJ7_copyOfRangeByte_39247_12 hl (Nat.le_of_ble_eq_true rfl) rfl (fun ls hl => ?_)
  refine lv_aload_n S.1 S.2.1 dJ7_copyOfRangeByte_39247_14 rfl (lv_at hl 2 rfl) ?_
  refine lv_iload_n S.1 S.2.1 dJ7_copyOfRangeByte_39247_15 rfl (lv_at hl 3 rfl) ?_
  refine lv_aload S.1 S.2.1 dJ7_copyOfRangeByte_39247_16 (lv_at hl 0 rfl) ?_
  refine lv_iconst (v := 0) S.1 S.2.1 dJ7_copyOfRangeByte_39247_18 (by decide) ?_
  refine lv_aload_n S.1 S.2.1 dJ7_copyOfRangeByte_39247_19 rfl (lv_at hl 2 rfl) ?_
  refine pk_alen S hK hW 1 m_v e_v rfl rfl dJ7_copyOfRangeByte_39247_20 ?_
  refine lv_iload_n S.1 S.2.1 dJ7_copyOfRangeByte_39247_21 rfl (lv_at hl 3 rfl) ?_
  refine lv_isub S.1 S.2.1 dJ7_copyOfRangeByte_39247_22 ?_
  refine lv_topi (fun y_8 ey_8 => ?_)
  have ey_8 : y_8 = nI cap := ey_8.trans ((pk_sub (Nat.zero_le _)).trans (by rw [Nat.sub_zero]))
  subst ey_8
  refine lv_iload_n S.1 S.2.1 dJ7_copyOfRangeByte_39247_23 rfl (lv_at hl 1 rfl) ?_
  refine va_mmin S.1 S.2.1 (S.2.2.1.trans hl.1.symm) S.2.2.2.1 (S.2.2.2.2 _ wd_854) (S.2.2.2.2 _ wd_648) (S.2.2.2.2 _ wd_11) (S.2.2.2.2 _ wd_649) (Nat.le_of_ble_eq_true rfl) (Nat.le_of_ble_eq_true rfl) (Nat.le_of_ble_eq_true rfl) (by show 0 + N ≤ N; omega) dJ7_copyOfRangeByte_39247_24 ?_
  refine lv_topi (fun y_9 ey_9 => ?_)
  have ey_9 : y_9 = nI N := ey_9.trans (min_nI hcN (by omega))
  subst ey_9
  refine pk_copyb S hK hW wd_855 wd_857 wd_856 wd_13 hl.1 1 rfl m_v e_v m_q e_q 0 0 N rfl rfl rfl (by omega) (by omega) (by omega) (by omega) hg (fun _ => rfl) (Nat.le_of_ble_eq_true rfl) (Nat.le_of_ble_eq_true rfl) dJ7_copyOfRangeByte_39247_27 (fun g1 H2 l2 hg1 hW => ?_)
  have e_v : (va_up F_6 q (.inl (κ 1, N, .inl g1))) v = .inl (κ 1, cap, .inl g) := (up_ne n_v_q).trans e_v
  have e_q : (va_up F_6 q (.inl (κ 1, N, .inl g1))) q = .inl (κ 1, N, .inl g1) := up_eq
  have hfr : ∀ x ∈ L, True → (va_up F_6 q (.inl (κ 1, N, .inl g1))) x = F x := fun x hx ht => (up_ne (fun (ee : x = q) => hnw_q (ee ▸ hx))).trans (hfr x hx ht)
  generalize va_up F_6 q (.inl (κ 1, N, .inl g1)) = F_10 at hW e_v e_q hfr
  refine lv_aload S.1 S.2.1 dJ7_copyOfRangeByte_39247_30 (lv_at hl 0 rfl) ?_
  exact pk_rret S hr (Or.inr ⟨_, rfl⟩) hlk hW ⟨hsub, m_q, hnw_q, ⟨g1, hg1, e_q⟩, fun x hx => hfr x hx trivial⟩ (by decide) (by show 0 + N ≤ N; omega) dJ7_copyOfRangeByte_39247_32
section MKc
variable {p : Program} {l : Launch} {e : Env} {R : Room} {s : State} {m : MethodId} {args : Array Value} {below : List Frame} {meth : Method} {c : Code} {cc : ByteArray} {nL : Nat} {own : String} {H : Heap} {locs : List Loc} {cells slots : Nat} {Q : State → Prop} {D : va_G} {cl : List vw_C} {tys : List (ClassId × FieldType)} {pc : Nat} {ls : Array Slot} {rest : List Value} {L0 L : List Nat} {F : Nat → va_E} {ζ : Nat → Nat}
theorem pk_cloneB (S : CallFix p m c cc nL s args Gw own) (hK : va_K D cl tys s) (hW : HW D cl L0 s H locs L F) {a n index : Nat} {c0 : ClassId} {f : Nat → Int32} (t0 : Nat) (ht : tys[t0]? = some (c0, .byte)) (ha : a ∈ L) (he : F a = .inl (c0, n, .inl f)) (hf : ∀ j, fits .byte (.int (f j)) = true)
    (hlink : Cond.methodLink own index ⟨"[B", "clone", "()Ljava/lang/Object;"⟩ ∈ Gw) (hsame : Cond.sameMethod "[B" "java/lang/Object" "clone" "()Ljava/lang/Object;" ∈ Gw) (hnat : Cond.native ⟨"java/lang/Object", "clone", "()Ljava/lang/Object;"⟩ ∈ Gw) (hinst : Cond.instanceMethod ⟨"java/lang/Object", "clone", "()Ljava/lang/Object;"⟩ ∈ Gw) (hsel : Cond.selects "[B" ⟨"[B", "clone", "()Ljava/lang/Object;"⟩ ⟨"java/lang/Object", "clone", "()Ljava/lang/Object;"⟩ ∈ Gw) (hcl : va_Nw (.castable "[B" "java/lang/Cloneable") s) (hsz : ls.size = nL)
    (hfr : 1 ≤ R.frames) (hlo : (rest.map fun v => v.category).sum + 14 ≤ R.locals) (hcells : cells + 1 ≤ R.cells) (hslots : slots + n ≤ R.slots) (hdg : decode cc pc = .ok (.invokevirtual index, 3))
    (kk : ∀ (q : Nat) (H1 : Heap), s.vm.findClass "[B" = some c0 → q ∉ L → HW D cl L0 s H1 locs (L ++ [q]) (va_up F q (.inl (c0, n, .inl f))) → W p l e R s m args below meth c H1 locs (cells + 1) (slots + n) Q (F0 m (pc + 3) ls (.ref q :: rest))) : W p l e R s m args below meth c H locs cells slots Q (F0 m pc ls (.ref a :: rest)) := by
  obtain ⟨k0, hk0⟩ := pl_get ha he
  have hnm : s.vm.findClass "[B" = some c0 := by
    have h : s.vm.findClass ("[" ++ FieldType.byte.toString) = some c0 := (hK.2 t0 _ ht).2
    have e1 : "[" ++ FieldType.byte.toString = "[B" := by decide
    rw [e1] at h
    exact h
  refine va_clone (x := (n, .inl f)) (ty := .byte) S.1 S.2.1 (S.2.2.1.trans hsz.symm) S.2.2.2.1 (S.2.2.2.2 _ hlink) (S.2.2.2.2 _ hsame) (S.2.2.2.2 _ hnat) (S.2.2.2.2 _ hinst) (S.2.2.2.2 _ hsel) hcl hK hW.1 hW.2.1 hW.2.2 (fun _ h => Or.inr h) k0 t0 hk0 ht hnm ?_ hfr hlo hcells hslots hdg ?_
  · intro i v hv
    rw [vp_cell_i] at hv
    have hi : i < n := by
      have h9 := (Array.getElem?_eq_some_iff.mp hv).1
      rwa [arrV_size] at h9
    rw [arrV_read _ _ hi] at hv
    cases hv
    exact hf i
  · intro q H1 _ h1 h2 h3
    obtain ⟨a1, a2⟩ := hW.push h1 h2 h3
    exact kk q H1 hnm a1 a2
end MKc
theorem mc_J7_copyOfRange_39247 : MCode yJ7_copyOfRange_39247 cJ7_copyOfRange_39247 3 (some (.array .byte)) := ⟨wd_968, wd_12, by decide, by decide⟩
theorem np_J7_copyOfRange_39247 : (parseMethodDescriptor yJ7_copyOfRange_39247.desc).map (fun d => d.parameters.length) = some 3 := by decide +kernel
set_option maxHeartbeats 4000000 in
set_option maxRecDepth 100000 in
theorem c_J7_copyOfRange_39247_copy {l : Launch} {D : va_G} {κ : Nat → ClassId} {ζ : Nat → Nat} {L : List Nat} {F : Nat → va_E} {v cap N : Nat} {g : Nat → Int32} (m_v : v ∈ L) (e_v : F v = .inl (κ 1, cap, .inl g)) (hg : ∀ j, fits .byte (.int (g j)) = true) (hcN : N < cap) (hcp : cap ≤ 300000) : MtR l D cls (ty5 κ) ζ yJ7_copyOfRange_39247 cJ7_copyOfRange_39247 3 (some (.array .byte)) 3 1 N ([.ref v, .int (nI 0), .int (nI N)] : List Value) L F (fun r L' F' => (∀ x ∈ L, x ∈ L') ∧ r ∈ L' ∧ r ∉ L ∧ (∃ g', (∀ j, fits .byte (.int (g' j)) = true) ∧ F' r = .inl (κ 1, N, .inl g')) ∧ ∀ x ∈ L, F' x = F x) := by
  refine MtR.of (by decide) (Nat.le_of_ble_eq_true rfl) ?_
  intro p e s m below meth c S hr hlk hini hK hW hST ls hl
  have hl : lv_has ls 3 [(0, .ref v), (1, .int (nI 0)), (2, .int (nI N))] := hl
  refine lv_iload_n S.1 S.2.1 dJ7_copyOfRange_39247_0 rfl (lv_at hl 1 rfl) ?_
  refine lv_if_ne (tgt := 10) S.1 S.2.1 dJ7_copyOfRange_39247_1 (by decide) (fun c1 => absurd rfl c1) (fun _ => ?_)
  refine lv_iload_n S.1 S.2.1 dJ7_copyOfRange_39247_4 rfl (lv_at hl 2 rfl) ?_
  refine lv_aload_n S.1 S.2.1 dJ7_copyOfRange_39247_5 rfl (lv_at hl 0 rfl) ?_
  refine pk_alen S hK hW 1 m_v e_v rfl rfl dJ7_copyOfRange_39247_6 ?_
  refine lv_icmp_eq (tgt := 17) S.1 S.2.1 dJ7_copyOfRange_39247_7 (by decide) (fun c1 => absurd c1 (fun e => by have := (nI_eq (a := N) (b := cap) (by omega) (by omega)).mp e; omega)) (fun _ => ?_)
  refine lv_aload_n S.1 S.2.1 dJ7_copyOfRange_39247_10 rfl (lv_at hl 0 rfl) ?_
  refine lv_iload_n S.1 S.2.1 dJ7_copyOfRange_39247_11 rfl (lv_at hl 1 rfl) ?_
  refine lv_iload_n S.1 S.2.1 dJ7_copyOfRange_39247_12 rfl (lv_at hl 2 rfl) ?_
  refine pk_cSR (As := [.ref v, .int (nI 0), .int (nI N)]) (rest := []) S hK hST hW (c_J7_copyOfRangeByte_39247 m_v e_v hg (N := N) (by omega) hcp) mc_J7_copyOfRangeByte_39247 wd_969 wd_970 np_J7_copyOfRangeByte_39247 rfl hl.1 rfl (Nat.le_of_ble_eq_true rfl) dJ7_copyOfRange_39247_13 ⟨Nat.le_of_ble_eq_true rfl, Nat.le_of_ble_eq_true rfl⟩ ⟨Nat.le_of_ble_eq_true rfl, by rw [Nat.zero_add]; exact Nat.le_refl _⟩ (fun r L_1 F_2 H_3 l_4 hp hW => ?_)
  skip
  exact pk_rret S hr (Or.inr ⟨_, rfl⟩) hlk hW hp (by decide) (by rw [Nat.zero_add]; exact Nat.le_refl _) dJ7_copyOfRange_39247_16
set_option maxHeartbeats 4000000 in
set_option maxRecDepth 100000 in
theorem c_J7_copyOfRange_39247_clone {l : Launch} {D : va_G} {κ : Nat → ClassId} {ζ : Nat → Nat} {L : List Nat} {F : Nat → va_E} {v cap : Nat} {g : Nat → Int32} (m_v : v ∈ L) (e_v : F v = .inl (κ 1, cap, .inl g)) (hg : ∀ j, fits .byte (.int (g j)) = true) (hcp : cap ≤ 300000) : MtR l D cls (ty5 κ) ζ yJ7_copyOfRange_39247 cJ7_copyOfRange_39247 3 (some (.array .byte)) 3 1 cap ([.ref v, .int (nI 0), .int (nI cap)] : List Value) L F (fun r L' F' => (∀ x ∈ L, x ∈ L') ∧ r ∈ L' ∧ r ∉ L ∧ (∃ g', (∀ j, fits .byte (.int (g' j)) = true) ∧ F' r = .inl (κ 1, cap, .inl g')) ∧ ∀ x ∈ L, F' x = F x) := by
  refine MtR.of (by decide) (Nat.le_of_ble_eq_true rfl) ?_
  intro p e s m below meth c S hr hlk hini hK hW hST ls hl
  have hl : lv_has ls 3 [(0, .ref v), (1, .int (nI 0)), (2, .int (nI cap))] := hl
  have hsub : ∀ x ∈ L, x ∈ L := fun x hx => hx
  have hfr : ∀ x ∈ L, True → F x = F x := fun _ _ _ => rfl
  refine lv_iload_n S.1 S.2.1 dJ7_copyOfRange_39247_0 rfl (lv_at hl 1 rfl) ?_
  refine lv_if_ne (tgt := 10) S.1 S.2.1 dJ7_copyOfRange_39247_1 (by decide) (fun c1 => absurd rfl c1) (fun _ => ?_)
  refine lv_iload_n S.1 S.2.1 dJ7_copyOfRange_39247_4 rfl (lv_at hl 2 rfl) ?_
  refine lv_aload_n S.1 S.2.1 dJ7_copyOfRange_39247_5 rfl (lv_at hl 0 rfl) ?_
  refine pk_alen S hK hW 1 m_v e_v rfl rfl dJ7_copyOfRange_39247_6 ?_
  refine lv_icmp_eq (tgt := 17) S.1 S.2.1 dJ7_copyOfRange_39247_7 (by decide) (fun _ => ?_) (fun c1 => absurd rfl c1)
  refine lv_aload_n S.1 S.2.1 dJ7_copyOfRange_39247_17 rfl (lv_at hl 0 rfl) ?_
  refine pk_cloneB S hK hW 1 rfl m_v e_v hg wd_848 wd_849 wd_850 wd_851 wd_852 (hST.1.1 _ wn_19) hl.1 (Nat.le_of_ble_eq_true rfl) (Nat.le_of_ble_eq_true rfl) (Nat.le_of_ble_eq_true rfl) (by rw [Nat.zero_add]; exact Nat.le_refl _) dJ7_copyOfRange_39247_18 (fun q H1 hnm hq_q hW => ?_)
  have n_v_q : v ≠ q := fun ee => hq_q (ee ▸ m_v)
  have e_v : (va_up F q (.inl (κ 1, cap, .inl g))) v = .inl (κ 1, cap, .inl g) := (up_ne n_v_q).trans e_v
  have m_v := List.mem_append_left [q] m_v
  have e_q : (va_up F q (.inl (κ 1, cap, .inl g))) q = .inl (κ 1, cap, .inl g) := up_eq
  have m_q : q ∈ L ++ [q] := List.mem_append_right _ (List.mem_singleton.mpr rfl)
  have hnw_q : q ∉ L := fun ee => hq_q (hsub _ ee)
  have hfr : ∀ x ∈ L, True → (va_up F q (.inl (κ 1, cap, .inl g))) x = F x := fun x hx ht => (up_ne (fun (ee : x = q) => hnw_q (ee ▸ hx))).trans (hfr x hx ht)
  have hsub : ∀ x ∈ L, x ∈ L ++ [q] := fun x hx => List.mem_append_left _ (hsub x hx)
  generalize va_up F q (.inl (κ 1, cap, .inl g)) = F_1 at hW e_v e_q hfr
  generalize L ++ [q] = L_2 at hW m_v m_q hsub
  obtain ⟨k9, hk9⟩ := pl_get m_q e_q
  refine va_castA S.1 S.2.1 S.2.2.2.1 (S.2.2.2.2 _ wd_853) hW.1 k9 hk9 hnm dJ7_copyOfRange_39247_21 ?_
  exact pk_rret S hr (Or.inr ⟨_, rfl⟩) hlk hW ⟨hsub, m_q, hnw_q, ⟨g, hg, e_q⟩, fun x hx => hfr x hx trivial⟩ (by decide) (by rw [Nat.zero_add]; exact Nat.le_refl _) dJ7_copyOfRange_39247_24
section CKo
variable {p : Program} {l : Launch} {e : Env} {R : Room} {s : State} {m : MethodId} {args : Array Value} {below : List Frame} {meth : Method} {c : Code} {cc : ByteArray} {nL : Nat} {own : String} {H : Heap} {locs : List Loc} {cells slots : Nat} {Q : State → Prop} {D : va_G} {cl : List vw_C} {tys : List (ClassId × FieldType)} {ζ : Nat → Nat} {pc : Nat} {ls : Array Slot} {rest st0 : List Value} {L0 L : List Nat} {F : Nat → va_E} {y : MethodName} {bytes : ByteArray} {n d mc ms index np : Nat} {rt : Option FieldType} {As : List Value}
theorem pk_cOI (S : CallFix p m c cc nL s args Gw own) (hK : va_K D cl tys s) (hST : ST ζ (AL L0 s.heap.size) s s.heap) (hW : HW D cl L0 s H locs L F) {post : Int32 → List Nat → (Nat → va_E) → Prop} {b ci : Nat} {fs : List Value} {r0 : vw_C} {x : MethodName} {b0 : ByteArray} {m0 : Nat} {r9 : Option FieldType} (hM : MtI l D cl tys ζ y bytes n rt d mc ms (.ref b :: As) L F post) (hcd : MCode y bytes n rt) (hlink : Cond.methodLink own index x ∈ Gw) (hin : Cond.instanceMethod y ∈ Gw) (hinx : Cond.instanceMethod x ∈ Gw) (hsel : Cond.selects r0.1 x y ∈ Gw) (hsame : Cond.sameMethod x.cls x.cls x.name x.desc ∈ Gw) (h0 : Cond.code x b0 m0 r9 ∈ Gw) (hx : x.cls ≠ "java/lang/invoke/MethodHandle" ∧ x.cls ≠ "java/lang/invoke/VarHandle") (hnp : (parseMethodDescriptor x.desc).map (fun d => d.parameters.length) = some np) (hb : b ∈ L) (he : F b = .inr (ci, fs)) (hc : cl[ci]? = some r0) (hlen : As.length = np) (hsize : ls.size = nL) (hstk : st0 = As.reverse ++ .ref b :: rest) (hcat : (rest.map fun v => v.category).sum ≤ 8) (hdg : decode cc pc = .ok (.invokevirtual index, 3)) (hR : d + 1 ≤ R.frames ∧ 8 + (n + 11) + 40 * d ≤ R.locals) (hf : cells + mc ≤ R.cells ∧ slots + ms ≤ R.slots)
    (kk : ∀ (r : Int32) (L1 : List Nat) (F1 : Nat → va_E) (H1 : Heap) (locs1 : List Loc), post r L1 F1 → HW D cl L0 s H1 locs1 L1 F1 → W p l e R s m args below meth c H1 locs1 (cells + mc) (slots + ms) Q (F0 m (pc + 3) ls (.int r :: rest))) : W p l e R s m args below meth c H locs cells slots Q (F0 m pc ls st0) := by
  exact va_calli (va_runU (As := As) (rest := rest) S (hM H.size) (va_cwO (x := x) (C := r0.1) (owner := x.cls) np S.2.2.2.2 (gw_cons (pre := [.methodLink own index x, .sameMethod x.cls x.cls x.name x.desc, .instanceMethod x, .selects r0.1 x y, .instanceMethod y, .initialized y.cls]) hcd (List.forall_mem_cons.mpr ⟨hlink, List.forall_mem_cons.mpr ⟨hsame, List.forall_mem_cons.mpr ⟨hinx, List.forall_mem_cons.mpr ⟨hsel, List.forall_mem_cons.mpr ⟨hin, List.forall_mem_cons.mpr ⟨hcd.2.1, fun _ h => absurd h List.not_mem_nil⟩⟩⟩⟩⟩⟩)) rfl rfl rfl h0 ⟨hx.1, hx.2, hnp⟩ hR) ⟨PrC.blind, pk_recv hK hW hb he hc, fun U hU hWm => ⟨rfl, PrC.of hK hW hST hU hWm⟩⟩ rfl hlen hsize hstk (lv_room hcat) hdg hf) hW.2.2 (fun q _ h => hW.sub q h) hW.sub (fun r u t H1 locs1 ht hvm hp hB hz hk hS1 => kk r u.1 u.2 H1 locs1 hp (hW.after (sz := 0) ht hB hS1))
end CKo
theorem c_cor {l : Launch} {D : va_G} {κ : Nat → ClassId} {ζ : Nat → Nat} {L : List Nat} {F : Nat → va_E} {v cap N : Nat} {g : Nat → Int32} (m_v : v ∈ L) (e_v : F v = .inl (κ 1, cap, .inl g)) (hg : ∀ j, fits .byte (.int (g j)) = true) (hle : N ≤ cap) (hcp : cap ≤ 300000) : MtR l D cls (ty5 κ) ζ yJ7_copyOfRange_39247 cJ7_copyOfRange_39247 3 (some (.array .byte)) 3 1 N [.ref v, .int (nI 0), .int (nI N)] L F (fun r L' F' => (∀ x ∈ L, x ∈ L') ∧ r ∈ L' ∧ r ∉ L ∧ (∃ g', (∀ j, fits .byte (.int (g' j)) = true) ∧ F' r = .inl (κ 1, N, .inl g')) ∧ ∀ x ∈ L, F' x = F x) := by
  by_cases h : N < cap
  · exact c_J7_copyOfRange_39247_copy m_v e_v hg h hcp
  · have e : N = cap := by omega
    subst e
    exact c_J7_copyOfRange_39247_clone m_v e_v hg hcp
theorem mc_J0_init_db425 : MCode yJ0_init_db425 cJ0_init_db425 5 none := ⟨wd_950, wd_28, by decide, by decide⟩
theorem np_J0_init_db425 : (parseMethodDescriptor yJ0_init_db425.desc).map (fun d => d.parameters.length) = some 2 := by decide +kernel
set_option maxHeartbeats 4000000 in
set_option maxRecDepth 100000 in
theorem c_J0_init_db425 {l : Launch} {D : va_G} {κ : Nat → ClassId} {ζ : Nat → Nat} {L : List Nat} {F : Nat → va_E} {h b v cap cnt : Nat} {ml : Int32} {g : Nat → Int32} (m_b : b ∈ L) (m_v : v ∈ L) (n_b_v : b ≠ v) (e_b : F b = .inr (1, [.ref v, .int 0, .int ml, .int (nI cnt)])) (e_v : F v = .inl (κ 1, cap, .inl g)) (hg : ∀ j, fits .byte (.int (g j)) = true) (hle : cnt ≤ cap) (hcp : cap ≤ 300000) (m_h : h ∈ L) (e_h : F h = .inr (0, [.null, .int 0, .int 0, .int 0])) (n_h_b : h ≠ b) (n_h_v : h ≠ v) : MtV l D cls (ty5 κ) ζ yJ0_init_db425 cJ0_init_db425 5 none 4 1 cnt ([.ref h, .ref b, .null] : List Value) L F (fun L' F' => (∀ x ∈ L, x ∈ L') ∧ (∃ q g', q ∈ L' ∧ q ∉ L ∧ h ≠ q ∧ F' h = .inr (0, [.ref q, .int 0, .int 0, .int 0]) ∧ F' q = .inl (κ 1, cnt, .inl g') ∧ ∀ j, fits .byte (.int (g' j)) = true) ∧ ∀ x ∈ L, x ≠ h → F' x = F x) := by
  refine MtV.of (by decide) (Nat.le_of_ble_eq_true rfl) ?_
  intro p e s m below meth c S hr hlk hini hK hW hST ls hl
  have hl : lv_has ls 5 [(0, .ref h), (1, .ref b), (2, .null)] := hl
  have hfr : ∀ x ∈ L, x ≠ h → F x = F x := fun _ _ _ => rfl
  refine lv_aload_n S.1 S.2.1 dJ0_init_db425_0 rfl (lv_at hl 0 rfl) ?_
  refine pk_objInit S wd_951 wd_38 wd_39 hl.1 dJ0_init_db425_1 (Nat.le_of_ble_eq_true rfl) (Nat.le_of_ble_eq_true rfl) ?_
  refine lv_aload_n S.1 S.2.1 dJ0_init_db425_4 rfl (lv_at hl 1 rfl) ?_
  refine pk_cUR (As := []) (rest := []) S hK hST hW (c_J5_getValue_6d5f1 m_b e_b) mc_J5_getValue_6d5f1 wd_952 wd_953 wd_955 wd_954 np_J5_getValue_6d5f1 m_b e_b rfl rfl hl.1 rfl (Nat.le_of_ble_eq_true rfl) dJ0_init_db425_5 ⟨Nat.le_of_ble_eq_true rfl, Nat.le_of_ble_eq_true rfl⟩ ⟨Nat.zero_le _, Nat.zero_le _⟩ (fun r L_1 F_2 H_3 l_4 hp hW => ?_)
  obtain ⟨rfl, rfl, rfl⟩ := hp
  refine lv_astore_n (lv' := [(3, .ref v), (0, .ref h), (1, .ref b), (2, .null)]) S.1 S.2.1 dJ0_init_db425_8 rfl hl (Nat.le_of_ble_eq_true rfl) rfl (fun ls hl => ?_)
  refine lv_aload_n S.1 S.2.1 dJ0_init_db425_9 rfl (lv_at hl 2 rfl) ?_
  refine pk_cOI (As := []) (rest := []) S hK hST hW (c_J4_length_8abf5 m_b e_b) mc_J4_length_8abf5 wd_957 wd_961 wd_958 wd_960 wd_959 wd_964 (by decide) np_J5_length_8abf5 m_b e_b rfl rfl hl.1 rfl (Nat.le_of_ble_eq_true rfl) dJ0_init_db425_10 ⟨Nat.le_of_ble_eq_true rfl, Nat.le_of_ble_eq_true rfl⟩ ⟨Nat.zero_le _, Nat.zero_le _⟩ (fun r L_5 F_6 H_7 l_8 hp hW => ?_)
  obtain ⟨rfl, rfl, rfl⟩ := hp
  refine lv_istore (lv' := [(4, .int (nI cnt)), (3, .ref v), (0, .ref h), (1, .ref b), (2, .null)]) S.1 S.2.1 dJ0_init_db425_13 hl (Nat.le_of_ble_eq_true rfl) rfl (fun ls hl => ?_)
  refine lv_aload_n S.1 S.2.1 dJ0_init_db425_15 rfl (lv_at hl 3 rfl) ?_
  refine pk_cUI (As := []) (rest := []) S hK hST hW (c_J5_isLatin1_aae02 m_b e_b) mc_J5_isLatin1_aae02 wd_965 wd_859 wd_861 wd_860 np_J5_isLatin1_aae02 m_b e_b rfl rfl hl.1 rfl (Nat.le_of_ble_eq_true rfl) dJ0_init_db425_16 ⟨Nat.le_of_ble_eq_true rfl, Nat.le_of_ble_eq_true rfl⟩ ⟨Nat.zero_le _, Nat.zero_le _⟩ (fun r L_9 F_10 H_11 l_12 hp hW => ?_)
  obtain ⟨rfl, rfl, rfl⟩ := hp
  refine lv_if_eq (tgt := 41) S.1 S.2.1 dJ0_init_db425_19 (by decide) (fun c1 => absurd c1 (by decide)) (fun _ => ?_)
  refine lv_aload_n S.1 S.2.1 dJ0_init_db425_22 rfl (lv_at hl 2 rfl) ?_
  refine lv_iconst (v := 0) S.1 S.2.1 dJ0_init_db425_23 (by decide) ?_
  refine pk_putF (v := .int 0) S hK hW 1 m_h e_h rfl hinJ0 tyJ0_ok nmJ0 (by decide) wd_1034 rfl (hini rfl) rfl rfl rfl rfl (Nat.le_of_ble_eq_true rfl) dJ0_init_db425_24 (fun H_13 l_14 hW => ?_)
  have e_b : (va_up F h (.inr (0, ([.null, .int 0, .int 0, .int 0] : List Value).set 1 (.int 0)))) b = .inr (1, [.ref v, .int 0, .int ml, .int (nI cnt)]) := (up_ne n_h_b.symm).trans e_b
  have e_v : (va_up F h (.inr (0, ([.null, .int 0, .int 0, .int 0] : List Value).set 1 (.int 0)))) v = .inl (κ 1, cap, .inl g) := (up_ne n_h_v.symm).trans e_v
  have e_h : (va_up F h (.inr (0, ([.null, .int 0, .int 0, .int 0] : List Value).set 1 (.int 0)))) h = .inr (0, [.null, .int 0, .int 0, .int 0]) := up_eq
  have hfr : ∀ x ∈ L, x ≠ h → (va_up F h (.inr (0, ([.null, .int 0, .int 0, .int 0] : List Value).set 1 (.int 0)))) x = F x := fun x hx xh => (up_ne xh).trans (hfr x hx xh)
  generalize va_up F h (.inr (0, ([.null, .int 0, .int 0, .int 0] : List Value).set 1 (.int 0))) = F_15 at hW e_b e_v e_h hfr
  refine lv_aload_n S.1 S.2.1 dJ0_init_db425_27 rfl (lv_at hl 2 rfl) ?_
  refine lv_aload_n S.1 S.2.1 dJ0_init_db425_28 rfl (lv_at hl 1 rfl) ?_
  refine lv_iconst (v := 0) S.1 S.2.1 dJ0_init_db425_29 (by decide) ?_
  refine lv_iload S.1 S.2.1 dJ0_init_db425_30 (lv_at hl 0 rfl) ?_
  refine pk_cSR (As := [.ref v, .int (nI 0), .int (nI cnt)]) (rest := [.ref h]) S hK hST hW (c_cor m_v e_v hg hle hcp) mc_J7_copyOfRange_39247 wd_966 wd_967 np_J7_copyOfRange_39247 rfl hl.1 rfl (Nat.le_of_ble_eq_true rfl) dJ0_init_db425_32 ⟨Nat.le_of_ble_eq_true rfl, Nat.le_of_ble_eq_true rfl⟩ ⟨Nat.le_of_ble_eq_true rfl, by rw [Nat.zero_add]; exact Nat.le_refl _⟩ (fun q L1 F1 H1 l1 hp hW => ?_)
  obtain ⟨hsub1, m_q, hq_q, ⟨g1, hg1, e_q⟩, hfr1⟩ := hp
  have n_h_q : h ≠ q := fun ee => hq_q (ee ▸ m_h)
  have n_b_q : b ≠ q := fun ee => hq_q (ee ▸ m_b)
  have n_v_q : v ≠ q := fun ee => hq_q (ee ▸ m_v)
  have e_b : F1 b = .inr (1, [.ref v, .int 0, .int ml, .int (nI cnt)]) := (hfr1 b m_b).trans e_b
  have e_v : F1 v = .inl (κ 1, cap, .inl g) := (hfr1 v m_v).trans e_v
  have e_h : F1 h = .inr (0, [.null, .int 0, .int 0, .int 0]) := (hfr1 h m_h).trans e_h
  have m_b := hsub1 _ m_b
  have m_v := hsub1 _ m_v
  have m_h := hsub1 _ m_h
  have hfr : ∀ x ∈ L, x ≠ h → F1 x = F x := fun x hx xh => (hfr1 x hx).trans (hfr x hx xh)
  refine pk_putF (v := .ref q) S hK hW 0 m_h e_h rfl hinJ0 tyJ0_ok nmJ0 (by decide) wd_1033 rfl (hini rfl) rfl rfl rfl rfl (Nat.le_of_ble_eq_true rfl) dJ0_init_db425_35 (fun H_16 l_17 hW => ?_)
  have e_b : (va_up F1 h (.inr (0, ([.null, .int 0, .int 0, .int 0] : List Value).set 0 (.ref q)))) b = .inr (1, [.ref v, .int 0, .int ml, .int (nI cnt)]) := (up_ne n_h_b.symm).trans e_b
  have e_v : (va_up F1 h (.inr (0, ([.null, .int 0, .int 0, .int 0] : List Value).set 0 (.ref q)))) v = .inl (κ 1, cap, .inl g) := (up_ne n_h_v.symm).trans e_v
  have e_h : (va_up F1 h (.inr (0, ([.null, .int 0, .int 0, .int 0] : List Value).set 0 (.ref q)))) h = .inr (0, [.ref q, .int 0, .int 0, .int 0]) := up_eq
  have e_q : (va_up F1 h (.inr (0, ([.null, .int 0, .int 0, .int 0] : List Value).set 0 (.ref q)))) q = .inl (κ 1, cnt, .inl g1) := (up_ne n_h_q.symm).trans e_q
  have hfr : ∀ x ∈ L, x ≠ h → (va_up F1 h (.inr (0, ([.null, .int 0, .int 0, .int 0] : List Value).set 0 (.ref q)))) x = F x := fun x hx xh => (up_ne xh).trans (hfr x hx xh)
  generalize va_up F1 h (.inr (0, ([.null, .int 0, .int 0, .int 0] : List Value).set 0 (.ref q))) = F_18 at hW e_b e_v e_h e_q hfr
  refine lv_goto (tgt := 97) S.1 S.2.1 dJ0_init_db425_38 (by decide) ?_
  exact pk_vret S hr hlk hW ⟨hsub1, ⟨q, g1, m_q, hq_q, n_h_q, e_h, e_q, hg1⟩, hfr⟩ (by decide) (by rw [Nat.zero_add]; exact Nat.le_refl _) dJ0_init_db425_97
theorem mc_J0_init_81219 : MCode yJ0_init_81219 cJ0_init_81219 2 none := ⟨wd_947, wd_28, by decide, by decide⟩
theorem np_J0_init_81219 : (parseMethodDescriptor yJ0_init_81219.desc).map (fun d => d.parameters.length) = some 1 := by decide +kernel
set_option maxHeartbeats 4000000 in
set_option maxRecDepth 100000 in
theorem c_J0_init_81219 {l : Launch} {D : va_G} {κ : Nat → ClassId} {ζ : Nat → Nat} {L : List Nat} {F : Nat → va_E} {h b v cap cnt : Nat} {ml : Int32} {g : Nat → Int32} (m_b : b ∈ L) (m_v : v ∈ L) (n_b_v : b ≠ v) (e_b : F b = .inr (1, [.ref v, .int 0, .int ml, .int (nI cnt)])) (e_v : F v = .inl (κ 1, cap, .inl g)) (hg : ∀ j, fits .byte (.int (g j)) = true) (hle : cnt ≤ cap) (hcp : cap ≤ 300000) (m_h : h ∈ L) (e_h : F h = .inr (0, [.null, .int 0, .int 0, .int 0])) (n_h_b : h ≠ b) (n_h_v : h ≠ v) : MtV l D cls (ty5 κ) ζ yJ0_init_81219 cJ0_init_81219 2 none 5 1 cnt ([.ref h, .ref b] : List Value) L F (fun L' F' => (∀ x ∈ L, x ∈ L') ∧ (∃ q g', q ∈ L' ∧ q ∉ L ∧ h ≠ q ∧ F' h = .inr (0, [.ref q, .int 0, .int 0, .int 0]) ∧ F' q = .inl (κ 1, cnt, .inl g') ∧ ∀ j, fits .byte (.int (g' j)) = true) ∧ ∀ x ∈ L, x ≠ h → F' x = F x) := by
  refine MtV.of (by decide) (Nat.le_of_ble_eq_true rfl) ?_
  intro p e s m below meth c S hr hlk hini hK hW hST ls hl
  have hl : lv_has ls 2 [(0, .ref h), (1, .ref b)] := hl
  refine lv_aload_n S.1 S.2.1 dJ0_init_81219_0 rfl (lv_at hl 0 rfl) ?_
  refine lv_aload_n S.1 S.2.1 dJ0_init_81219_1 rfl (lv_at hl 1 rfl) ?_
  refine lv_null S.1 S.2.1 dJ0_init_81219_2 ?_
  refine pk_cIV (As := [.ref b, .null]) (rest := []) S hK hST hW (c_J0_init_db425 m_b m_v n_b_v e_b e_v hg hle hcp m_h e_h n_h_b n_h_v) mc_J0_init_db425 wd_948 wd_949 rfl rfl np_J0_init_db425 rfl hl.1 rfl (Nat.le_of_ble_eq_true rfl) dJ0_init_81219_3 ⟨Nat.le_of_ble_eq_true rfl, Nat.le_of_ble_eq_true rfl⟩ ⟨Nat.le_of_ble_eq_true rfl, by rw [Nat.zero_add]; exact Nat.le_refl _⟩ (fun L_1 F_2 H_3 l_4 hp hW => ?_)
  obtain ⟨hsub1, ⟨q, g1, m_q, hq_q, n_h_q, e_h, e_q, hg1⟩, hfr1⟩ := hp
  exact pk_vret S hr hlk hW ⟨hsub1, ⟨q, g1, m_q, hq_q, n_h_q, e_h, e_q, hg1⟩, hfr1⟩ (by decide) (by rw [Nat.zero_add]; exact Nat.le_refl _) dJ0_init_81219_6
theorem mc_J4_toString_0e30d : MCode yJ4_toString_0e30d cJ4_toString_0e30d 1 (some (.object "java/lang/String")) := ⟨wd_942, wd_27, by decide, by decide⟩
theorem np_J4_toString_0e30d : (parseMethodDescriptor yJ4_toString_0e30d.desc).map (fun d => d.parameters.length) = some 0 := by decide +kernel
set_option maxHeartbeats 4000000 in
set_option maxRecDepth 100000 in
theorem c_J4_toString_0e30d {l : Launch} {D : va_G} {κ : Nat → ClassId} {ζ : Nat → Nat} {L : List Nat} {F : Nat → va_E} {b v cap cnt : Nat} {ml : Int32} {g : Nat → Int32} (m_b : b ∈ L) (m_v : v ∈ L) (n_b_v : b ≠ v) (e_b : F b = .inr (1, [.ref v, .int 0, .int ml, .int (nI cnt)])) (e_v : F v = .inl (κ 1, cap, .inl g)) (hg : ∀ j, fits .byte (.int (g j)) = true) (hle : cnt ≤ cap) (hcp : cap ≤ 300000) : MtR l D cls (ty5 κ) ζ yJ4_toString_0e30d cJ4_toString_0e30d 1 (some (.object "java/lang/String")) 6 2 (4 + cnt) ([.ref b] : List Value) L F (fun r L' F' => (∀ x ∈ L, x ∈ L') ∧ r ∉ L ∧ (∃ q, q ∉ L ∧ SS κ r q cnt L' F') ∧ ∀ x ∈ L, F' x = F x) := by
  refine MtR.of (by decide) (Nat.le_of_ble_eq_true rfl) ?_
  intro p e s m below meth c S hr hlk hini hK hW hST ls hl
  have hl : lv_has ls 1 [(0, .ref b)] := hl
  have hsub : ∀ x ∈ L, x ∈ L := fun x hx => hx
  have hfr : ∀ x ∈ L, True → F x = F x := fun _ _ _ => rfl
  refine pk_new (fs := [.null, .int 0, .int 0, .int 0]) (ci := 0) S hK hW hinJ0 tyJ0_ok wd_943 wd_944 wd_28 rfl (fun j hj => by match j, hj with | 0, _ => rfl | 1, _ => rfl | 2, _ => rfl | 3, _ => rfl | j + 4, hj => exact absurd hj (by omega)) (Nat.le_of_ble_eq_true rfl) (by show 0 + 4 ≤ 4 + cnt; omega) dJ4_toString_0e30d_0 (fun h H_1 hq_h hW => ?_)
  have n_b_h : b ≠ h := fun ee => hq_h (ee ▸ m_b)
  have n_v_h : v ≠ h := fun ee => hq_h (ee ▸ m_v)
  have e_b : (va_up F h (.inr (0, [.null, .int 0, .int 0, .int 0]))) b = .inr (1, [.ref v, .int 0, .int ml, .int (nI cnt)]) := (up_ne n_b_h).trans e_b
  have m_b := List.mem_append_left [h] m_b
  have e_v : (va_up F h (.inr (0, [.null, .int 0, .int 0, .int 0]))) v = .inl (κ 1, cap, .inl g) := (up_ne n_v_h).trans e_v
  have m_v := List.mem_append_left [h] m_v
  have e_h : (va_up F h (.inr (0, [.null, .int 0, .int 0, .int 0]))) h = .inr (0, [.null, .int 0, .int 0, .int 0]) := up_eq
  have m_h : h ∈ L ++ [h] := List.mem_append_right _ (List.mem_singleton.mpr rfl)
  have hnw_h : h ∉ L := fun ee => hq_h (hsub _ ee)
  have hfr : ∀ x ∈ L, True → (va_up F h (.inr (0, [.null, .int 0, .int 0, .int 0]))) x = F x := fun x hx ht => (up_ne (fun (ee : x = h) => hnw_h (ee ▸ hx))).trans (hfr x hx ht)
  have hsub : ∀ x ∈ L, x ∈ L ++ [h] := fun x hx => List.mem_append_left _ (hsub x hx)
  generalize va_up F h (.inr (0, [.null, .int 0, .int 0, .int 0])) = F_2 at hW e_b e_v e_h hfr
  generalize L ++ [h] = L_3 at hW m_b m_v m_h hsub
  refine lv_dup S.1 S.2.1 dJ4_toString_0e30d_3 rfl ?_
  refine lv_aload_n S.1 S.2.1 dJ4_toString_0e30d_4 rfl (lv_at hl 0 rfl) ?_
  refine pk_cIV (As := [.ref b]) (rest := [.ref h]) S hK hST hW (c_J0_init_81219 m_b m_v n_b_v e_b e_v hg hle hcp m_h e_h n_b_h.symm n_v_h.symm) mc_J0_init_81219 wd_945 wd_946 rfl rfl np_J0_init_81219 rfl hl.1 rfl (Nat.le_of_ble_eq_true rfl) dJ4_toString_0e30d_5 ⟨Nat.le_of_ble_eq_true rfl, Nat.le_of_ble_eq_true rfl⟩ ⟨Nat.le_of_ble_eq_true rfl, by show 0 + 4 + cnt ≤ 4 + cnt; omega⟩ (fun L9 F9 H9 l9 hp hW => ?_)
  obtain ⟨hsub1, ⟨q, g1, m_q, hq_q, n_h_q, e_h, e_q, hg1⟩, hfr1⟩ := hp
  exact pk_rret S hr (Or.inl ⟨_, rfl⟩) hlk hW ⟨fun x hx => hsub1 x (hsub x hx), hnw_h, ⟨q, fun hx => hq_q (hsub _ hx), ⟨hsub1 _ m_h, m_q, n_h_q, ⟨0, 0, e_h⟩, g1, hg1, e_q⟩⟩, fun x hx => (hfr1 x (hsub x hx) (fun (ee : x = h) => hnw_h (ee ▸ hx))).trans (hfr x hx trivial)⟩ (by decide) (by show 0 + 4 + cnt ≤ 4 + cnt; omega) dJ4_toString_0e30d_8
section CKz
variable {p : Program} {l : Launch} {e : Env} {R : Room} {s : State} {m : MethodId} {args : Array Value} {below : List Frame} {meth : Method} {c : Code} {cc : ByteArray} {nL : Nat} {own : String} {H : Heap} {locs : List Loc} {cells slots : Nat} {Q : State → Prop} {D : va_G} {cl : List vw_C} {tys : List (ClassId × FieldType)} {ζ : Nat → Nat} {pc : Nat} {ls : Array Slot} {rest st0 : List Value} {L0 L : List Nat} {F : Nat → va_E} {y : MethodName} {bytes : ByteArray} {n d mc ms index np : Nat} {rt : Option FieldType} {As : List Value}
theorem pk_bret0 (S : CallFix p m c cc nL s args Gw own) (hr : meth.sig.returnType = some .byte) (hlk : meth.locks = false) (hW : HW D cl L0 s H locs L F) {post : Int32 → List Nat → (Nat → va_E) → Prop} (hp : post 0 L F) (hc : cells ≤ mc) (hs : slots ≤ ms) (hdg : decode cc pc = .ok (.ireturn, 1)) : W p l e R s m args below meth c H locs cells slots (EnI D cl s below args mc ms L0 post) (F0 m pc ls [.int 0]) :=
  W.widen hc hs (W.zret S.1 S.2.1 hr (show narrow .byte (.int 0) = .int 0 from rfl) (fun t ht hWm => ⟨⟨0, (L, F), rfl, hp, ⟨by rw [ht]; exact hW.1, hW.2.1⟩⟩, hW.2.2.F ht⟩) hW.2.2.2.2 hdg hlk)
end CKz
theorem mc_J0_coder_7d493 : MCode yJ0_coder_7d493 cJ0_coder_7d493 1 (some .byte) := ⟨wd_1001, wd_28, by decide, by decide⟩
theorem np_J0_coder_7d493 : (parseMethodDescriptor yJ0_coder_7d493.desc).map (fun d => d.parameters.length) = some 0 := by decide +kernel
set_option maxHeartbeats 4000000 in
set_option maxRecDepth 100000 in
theorem c_J0_coder_7d493 {l : Launch} {D : va_G} {κ : Nat → ClassId} {ζ : Nat → Nat} {L : List Nat} {F : Nat → va_E} {b v : Nat} {x0 x1 : Int32} (m_b : b ∈ L) (e_b : F b = .inr (0, [.ref v, .int 0, .int x0, .int x1])) : MtI l D cls (ty5 κ) ζ yJ0_coder_7d493 cJ0_coder_7d493 1 (some .byte) 1 0 0 ([.ref b] : List Value) L F (fun r L' F' => L = L' ∧ F = F' ∧ (0 : Int32) = r) := by
  refine MtI.of (by decide) (Nat.le_of_ble_eq_true rfl) ?_
  intro p e s m below meth c S hr hlk hini hK hW hST ls hl
  have hl : lv_has ls 1 [(0, .ref b)] := hl
  refine pk_gets S hW hST.2.zCompact wd_1002 dJ0_coder_7d493_0 ?_
  refine lv_if_eq (tgt := 13) S.1 S.2.1 dJ0_coder_7d493_3 (by decide) (fun c1 => absurd c1 (by decide)) (fun _ => ?_)
  refine lv_aload_n S.1 S.2.1 dJ0_coder_7d493_6 rfl (lv_at hl 0 rfl) ?_
  refine pk_get S hK hW 1 m_b e_b rfl hinJ0 (by decide) wd_1034 rfl dJ0_coder_7d493_7 ?_
  refine lv_goto (tgt := 14) S.1 S.2.1 dJ0_coder_7d493_10 (by decide) ?_
  exact pk_bret0 S hr hlk hW ⟨rfl, rfl, rfl⟩ (by decide) (by decide) dJ0_coder_7d493_14
theorem mc_J0_length_8abf5 : MCode yJ0_length_8abf5 cJ0_length_8abf5 1 (some .int) := ⟨wd_997, wd_28, by decide, by decide⟩
theorem np_J0_length_8abf5 : (parseMethodDescriptor yJ0_length_8abf5.desc).map (fun d => d.parameters.length) = some 0 := by decide +kernel
set_option maxHeartbeats 4000000 in
set_option maxRecDepth 100000 in
theorem c_J0_length_8abf5 {l : Launch} {D : va_G} {κ : Nat → ClassId} {ζ : Nat → Nat} {L : List Nat} {F : Nat → va_E} {b v cnt : Nat} {x0 x1 : Int32} {g : Nat → Int32} (m_b : b ∈ L) (m_v : v ∈ L) (e_b : F b = .inr (0, [.ref v, .int 0, .int x0, .int x1])) (e_v : F v = .inl (κ 1, cnt, .inl g)) : MtI l D cls (ty5 κ) ζ yJ0_length_8abf5 cJ0_length_8abf5 1 (some .int) 2 0 0 ([.ref b] : List Value) L F (fun r L' F' => L = L' ∧ F = F' ∧ nI cnt = r) := by
  refine MtI.of (by decide) (Nat.le_of_ble_eq_true rfl) ?_
  intro p e s m below meth c S hr hlk hini hK hW hST ls hl
  have hl : lv_has ls 1 [(0, .ref b)] := hl
  refine lv_aload_n S.1 S.2.1 dJ0_length_8abf5_0 rfl (lv_at hl 0 rfl) ?_
  refine pk_get S hK hW 0 m_b e_b rfl hinJ0 (by decide) wd_1033 rfl dJ0_length_8abf5_1 ?_
  refine pk_alen S hK hW 1 m_v e_v rfl rfl dJ0_length_8abf5_4 ?_
  refine lv_aload_n S.1 S.2.1 dJ0_length_8abf5_5 rfl (lv_at hl 0 rfl) ?_
  refine pk_cVI (As := []) (rest := [.int (nI cnt)]) S hK hST hW (c_J0_coder_7d493 m_b e_b) mc_J0_coder_7d493 wd_998 wd_999 wd_1000 rfl np_J0_coder_7d493 m_b e_b rfl rfl hl.1 rfl (Nat.le_of_ble_eq_true rfl) dJ0_length_8abf5_6 ⟨Nat.le_of_ble_eq_true rfl, Nat.le_of_ble_eq_true rfl⟩ ⟨Nat.le_of_ble_eq_true rfl, Nat.le_of_ble_eq_true rfl⟩ (fun r L_1 F_2 H_3 l_4 hp hW => ?_)
  obtain ⟨rfl, rfl, rfl⟩ := hp
  refine lv_ishr S.1 S.2.1 dJ0_length_8abf5_9 ?_
  refine lv_topi (fun y_5 ey_5 => ?_)
  have ey_5 : y_5 = (nI cnt) := ey_5.trans (shr0 _)
  subst ey_5
  exact pk_iret S hr hlk hW ⟨rfl, rfl, rfl⟩ (by decide) (by decide) dJ0_length_8abf5_10
theorem len01 {j : Nat} (hj : j < 2) : ([0, 1] : List Nat).getD j 0 = j := by
  match j, hj with
  | 0, _ => rfl
  | 1, _ => rfl
set_option maxHeartbeats 4000000 in
set_option maxRecDepth 100000 in
theorem c_J0_coder_7d493_k {l : Launch} {D : va_G} {κ : Nat → ClassId} {ζ : Nat → Nat} {L : List Nat} {F : Nat → va_E} {j : Nat} (hj : j < 2) : MtI l D cls (ty5 κ) ζ yJ0_coder_7d493 cJ0_coder_7d493 1 (some .byte) 1 0 0 ([.ref (ζ (261 + j))] : List Value) L F (fun r L' F' => L = L' ∧ F = F' ∧ (0 : Int32) = r) := by
  refine MtI.of (by decide) (Nat.le_of_ble_eq_true rfl) ?_
  intro p e s m below meth c S hr hlk hini hK hW hST ls hl
  have hl : lv_has ls 1 [(0, .ref (ζ (261 + j)))] := hl
  refine pk_gets S hW hST.2.zCompact wd_1002 dJ0_coder_7d493_0 ?_
  refine lv_if_eq (tgt := 13) S.1 S.2.1 dJ0_coder_7d493_3 (by decide) (fun c1 => absurd c1 (by decide)) (fun _ => ?_)
  refine lv_aload_n S.1 S.2.1 dJ0_coder_7d493_6 rfl (lv_at hl 0 rfl) ?_
  refine vk_getf S.1 S.2.1 (hST.2.strs.1 j hj).2.1 hW.2.2 S.2.2.2.1 (S.2.2.2.2 _ wd_1034) (fun _ h => h) dJ0_coder_7d493_7 ?_
  refine lv_goto (tgt := 14) S.1 S.2.1 dJ0_coder_7d493_10 (by decide) ?_
  exact pk_bret0 S hr hlk hW ⟨rfl, rfl, rfl⟩ (by decide) (by decide) dJ0_coder_7d493_14
set_option maxHeartbeats 4000000 in
set_option maxRecDepth 100000 in
theorem c_J0_length_8abf5_k {l : Launch} {D : va_G} {κ : Nat → ClassId} {ζ : Nat → Nat} {L : List Nat} {F : Nat → va_E} {j : Nat} (hj : j < 2) : MtI l D cls (ty5 κ) ζ yJ0_length_8abf5 cJ0_length_8abf5 1 (some .int) 2 0 0 ([.ref (ζ (261 + j))] : List Value) L F (fun r L' F' => L = L' ∧ F = F' ∧ nI j = r) := by
  refine MtI.of (by decide) (Nat.le_of_ble_eq_true rfl) ?_
  intro p e s m below meth c S hr hlk hini hK hW hST ls hl
  have hl : lv_has ls 1 [(0, .ref (ζ (261 + j)))] := hl
  refine lv_aload_n S.1 S.2.1 dJ0_length_8abf5_0 rfl (lv_at hl 0 rfl) ?_
  refine vk_getf S.1 S.2.1 (hST.2.strs.1 j hj).2.2.1 hW.2.2 S.2.2.2.1 (S.2.2.2.2 _ wd_1033) (fun _ h => h) dJ0_length_8abf5_1 ?_
  refine va_tlen S.1 S.2.1 (hST.2.strs.1 j hj).2.2.2 hW.2.2 (v := nI j) (congrArg Int32.ofNat (len01 hj)) dJ0_length_8abf5_4 ?_
  refine lv_aload_n S.1 S.2.1 dJ0_length_8abf5_5 rfl (lv_at hl 0 rfl) ?_
  refine pk_cVIr (As := []) (rest := [.int (nI j)]) S hK hST hW (c_J0_coder_7d493_k hj) mc_J0_coder_7d493 wd_998 wd_999 wd_1000 rfl np_J0_coder_7d493 (vk_recv (i := j) (adK := fun i => ζ (261 + i)) hST.2.strs hj hW.2.2) rfl hl.1 rfl (Nat.le_of_ble_eq_true rfl) dJ0_length_8abf5_6 ⟨Nat.le_of_ble_eq_true rfl, Nat.le_of_ble_eq_true rfl⟩ ⟨Nat.le_of_ble_eq_true rfl, Nat.le_of_ble_eq_true rfl⟩ (fun r L_1 F_2 H_3 l_4 hp hW => ?_)
  obtain ⟨rfl, rfl, rfl⟩ := hp
  refine lv_ishr S.1 S.2.1 dJ0_length_8abf5_9 ?_
  refine lv_topi (fun y_5 ey_5 => ?_)
  have ey_5 : y_5 = (nI j) := ey_5.trans (shr0 _)
  subst ey_5
  exact pk_iret S hr hlk hW ⟨rfl, rfl, rfl⟩ (by decide) (by decide) dJ0_length_8abf5_10
