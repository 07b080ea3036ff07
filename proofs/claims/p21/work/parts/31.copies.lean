/-! ArrayList: growing, adding, removing -/
section CQ
variable {p : Program} {l : Launch} {e : Env} {R : Room} {s : State} {m : MethodId} {args : Array Value} {below : List Frame} {meth : Method} {c : Code} {cc : ByteArray} {nL : Nat} {own : String} {H : Heap} {locs : List Loc} {cells slots : Nat} {Q : State → Prop} {D : va_G} {tys : List (ClassId × FieldType)} {pc : Nat} {ls : Array Slot} {rest : List Value} {L0 L : List Nat} {F : Nat → va_E} {ζ : Nat → Nat}
theorem pk_copyq (S : CallFix p m c cc nL s args Gw own) (hK : va_K D cls tys s) (hST : ST ζ (AL L0 s.heap.size) s s.heap) (hW : HW D cls L0 s H locs L F) {index : Nat} (hlink : Cond.methodLink own index arraycopyName ∈ Gw) (hnat : Cond.native arraycopyName ∈ Gw) (hsta : Cond.static arraycopyName ∈ Gw) (hini : Cond.initialized "java/lang/System" ∈ Gw) (hsz : ls.size = nL)
    {a0 a1 n0 n1 : Nat} {c0 : ClassId} {f g : Nat → Option Nat} (t0 : Nat) (ht : tys[t0]? = some (c0, .object "java/lang/Object")) (m0 : a0 ∈ L) (e0 : F a0 = rfA c0 n0 f) (m1 : a1 ∈ L) (e1 : F a1 = rfA c0 n1 g) {sp dp n : Int32} (i j k : Nat) (hsp : sp = nI i) (hdp : dp = nI j) (hn : n = nI k) (h4 : i + k ≤ n0) (h5 : j + k ≤ n1) (hb0 : n0 < 2147483648) (hb1 : n1 < 2147483648) (hel : ∀ q : Nat, q < k → ∀ y : Nat, f (i + q) = some y → ∃ v, bx ζ L F y v)
    (hfr : 1 ≤ R.frames) (hlo : (rest.map fun v => v.category).sum + (nativeFrameWords "java/lang/System" "arraycopy" 5 + 11) ≤ R.locals) (hdg : decode cc pc = .ok (.invokestatic index, 3))
    (kk : ∀ (H1 : Heap) (locs1 : List Loc), HW D cls L0 s H1 locs1 L (va_up F a1 (rfA c0 n1 (va_cpy f g i j k))) → W p l e R s m args below meth c H1 locs1 cells slots Q (F0 m (pc + 3) ls rest)) : W p l e R s m args below meth c H locs cells slots Q (F0 m pc ls (.int n :: .int dp :: .ref a1 :: .int sp :: .ref a0 :: rest)) := by
  obtain ⟨k0, hk0⟩ := pl_get m0 e0
  obtain ⟨k1, hk1⟩ := pl_get (F := F) m1 rfl
  have ci : (nI i).toNatClampNeg = i := nI_clamp (by omega)
  have cj : (nI j).toNatClampNeg = j := nI_clamp (by omega)
  have ck : (nI k).toNatClampNeg = k := nI_clamp (by omega)
  subst hsp hdp hn
  refine va_copyq (C := "java/lang/Integer") S.1 S.2.1 (S.2.2.1.trans hsz.symm) S.2.2.2.1 (S.2.2.2.2 _ hlink) (S.2.2.2.2 _ hnat) (S.2.2.2.2 _ hsta) (S.2.2.2.2 _ hini) hK hW.1 hW.2.1 hW.2.2 k0 k1 t0 t0 hk0 (hk1.trans (congrArg (fun ee => some (a1, ee)) e1)) ht ht (nI_pos (by omega)) (nI_pos (by omega)) (nI_pos (by omega)) (by rw [ci, ck]; exact h4) (by rw [cj, ck]; exact h5) ?_ (vb_asgC (hST.1.1 _ wn_26)) hfr hlo hdg ?_
  · intro q hq y hy
    rw [ck] at hq
    rw [ci] at hy
    obtain ⟨v, hv⟩ := hel q hq y hy
    exact bx_cell hK hW hST hv
  · intro H1 locs1 h1 h2 h3
    rw [ci, cj, ck] at h1 h2
    exact kk H1 locs1 (hW.set (e0 := F a1) m1 _ hk1 h1 h2 h3)
theorem pk_arrC {n : Nat} {f : Nat → Option Nat} {a : Nat} {c0 : ClassId} (hK : va_K D cls tys s) (hW : HW D cls L0 s H locs L F) (t0 : Nat) (ht : tys[t0]? = some (c0, .object "java/lang/Object")) (ha : a ∈ L) (he : F a = rfA c0 n f) : ∃ cell : Cell, H[a]? = some cell ∧ cell.vm.isStatics = false ∧ s.vm.findClass "[Ljava/lang/Object;" = some cell.cls := by
  obtain ⟨k0, hk0⟩ := pl_get ha he
  obtain ⟨_, _, _, _, _, e1⟩ := (hK.2 t0 _ ht).2
  exact ⟨_, hW.1 k0 _ hk0, rfl, e1⟩
end CQ
theorem bx.keep {ζ : Nat → Nat} {L L' : List Nat} {F F' : Nat → va_E} {h : Nat} {w : List Value} {y : Nat} {v : Int32} (hb : bx ζ L F y v) (hh : F h = .inr (4, w)) (hsub : ∀ x ∈ L, x ∈ L') (hfr : ∀ x ∈ L, x ≠ h → F' x = F x) : bx ζ L' F' y v := by
  rcases hb with ⟨h1, h2⟩ | h
  · refine Or.inl ⟨hsub y h1, ?_⟩
    have hne : y ≠ h := fun e => by rw [e, hh] at h2; cases h2
    rw [hfr y h1 hne]; exact h2
  · exact Or.inr h
theorem cl0 : (0 : Int32).toNatClampNeg = 0 := rfl

theorem bx.keep0 {ζ : Nat → Nat} {L L' : List Nat} {F F' : Nat → va_E} {y : Nat} {v : Int32} (hb : bx ζ L F y v) (hsub : ∀ x ∈ L, x ∈ L') (hfr : ∀ x ∈ L, F' x = F x) : bx ζ L' F' y v := by
  rcases hb with ⟨h1, h2⟩ | h
  · exact Or.inl ⟨hsub y h1, by rw [hfr y h1]; exact h2⟩
  · exact Or.inr h
theorem mc_J8_newLength_cabcc : MCode yJ8_newLength_cabcc cJ8_newLength_cabcc 4 (some .int) := ⟨wd_838, wd_10, by decide, by decide⟩
theorem np_J8_newLength_cabcc : (parseMethodDescriptor yJ8_newLength_cabcc.desc).map (fun d => d.parameters.length) = some 3 := by decide +kernel
set_option maxHeartbeats 4000000 in
set_option maxRecDepth 100000 in
theorem c_J8_newLength_cabcc {l : Launch} {D : va_G} {κ : Nat → ClassId} {ζ : Nat → Nat} {L : List Nat} {F : Nat → va_E} {i1 i2 i3 : Int32} (hp1 : ¬ i1 + (if i2 < i3 then i3 else i2) ≤ 0) (hp2 : ¬ 2147483639 < i1 + (if i2 < i3 then i3 else i2)) : MtI l D cls (ty5 κ) ζ yJ8_newLength_cabcc cJ8_newLength_cabcc 4 (some .int) 2 0 0 ([.int i1, .int i2, .int i3] : List Value) L F (fun r L' F' => L = L' ∧ F = F' ∧ i1 + (if i2 < i3 then i3 else i2) = r) := by
  refine MtI.of (by decide) (Nat.le_of_ble_eq_true rfl) ?_
  intro p e s m below meth c S hr hlk hini hK hW hST ls hl
  have hl : lv_has ls 4 [(0, .int i1), (1, .int i2), (2, .int i3)] := hl
  refine lv_iload_n S.1 S.2.1 dJ8_newLength_cabcc_0 rfl (lv_at hl 0 rfl) ?_
  refine lv_iload_n S.1 S.2.1 dJ8_newLength_cabcc_1 rfl (lv_at hl 1 rfl) ?_
  refine lv_iload_n S.1 S.2.1 dJ8_newLength_cabcc_2 rfl (lv_at hl 2 rfl) ?_
  refine va_mmax S.1 S.2.1 (S.2.2.1.trans hl.1.symm) S.2.2.2.1 (S.2.2.2.2 _ wd_839) (S.2.2.2.2 _ wd_301) (S.2.2.2.2 _ wd_11) (S.2.2.2.2 _ wd_302) (by decide) (Nat.le_of_ble_eq_true rfl) (by decide) (by decide) dJ8_newLength_cabcc_3 ?_
  refine lv_topi (fun y_1 ey_1 => ?_)
  have ey_1 : y_1 = if i2 < i3 then i3 else i2 := ey_1.trans (rfl)
  subst ey_1
  refine lv_iadd S.1 S.2.1 dJ8_newLength_cabcc_6 ?_
  refine lv_istore_n (lv' := [(3, .int (i1 + (if i2 < i3 then i3 else i2))), (0, .int i1), (1, .int i2), (2, .int i3)]) S.1 S.2.1 dJ8_newLength_cabcc_7 rfl hl (Nat.le_of_ble_eq_true rfl) rfl (fun ls hl => ?_)
  refine lv_iconst (v := 0) S.1 S.2.1 dJ8_newLength_cabcc_8 (by decide) ?_
  refine lv_iload_n S.1 S.2.1 dJ8_newLength_cabcc_9 rfl (lv_at hl 0 rfl) ?_
  refine lv_icmp_ge (tgt := 21) S.1 S.2.1 dJ8_newLength_cabcc_10 (by decide) (fun c1 => absurd c1 hp1) (fun _ => ?_)
  refine lv_iload_n S.1 S.2.1 dJ8_newLength_cabcc_13 rfl (lv_at hl 0 rfl) ?_
  refine lv_ldc (v := 2147483639) S.1 S.2.1 S.2.2.2.1 (S.2.2.2.2 _ wd_840) dJ8_newLength_cabcc_14 ?_
  refine lv_icmp_gt (tgt := 21) S.1 S.2.1 dJ8_newLength_cabcc_16 (by decide) (fun c1 => absurd c1 hp2) (fun _ => ?_)
  refine lv_iload_n S.1 S.2.1 dJ8_newLength_cabcc_19 rfl (lv_at hl 0 rfl) ?_
  exact pk_iret S hr hlk hW ⟨rfl, rfl, rfl⟩ (by decide) (by decide) dJ8_newLength_cabcc_20
theorem mc_J7_copyOf_6403c : MCode yJ7_copyOf_6403c cJ7_copyOf_6403c 4 (some (.array (.object "java/lang/Object"))) := ⟨wd_1149, wd_12, by decide, by decide⟩
theorem np_J7_copyOf_6403c : (parseMethodDescriptor yJ7_copyOf_6403c.desc).map (fun d => d.parameters.length) = some 3 := by decide +kernel
set_option maxHeartbeats 4000000 in
set_option maxRecDepth 100000 in
theorem c_J7_copyOf_6403c {l : Launch} {D : va_G} {κ : Nat → ClassId} {ζ : Nat → Nat} {L : List Nat} {F : Nat → va_E} {ar n N : Nat} {f : Nat → Option Nat} (m_ar : ar ∈ L) (e_ar : F ar = rfA (κ 3) n f) (hnN : n ≤ N) (hN : N ≤ 32) (hel : ∀ i, i < n → ∀ y, f i = some y → ∃ v, bx ζ L F y v) : MtR l D cls (ty5 κ) ζ yJ7_copyOf_6403c cJ7_copyOf_6403c 4 (some (.array (.object "java/lang/Object"))) 2 1 32 ([.ref ar, .int (nI N), .ref (ζ 260)] : List Value) L F (fun r L' F' => (∀ x ∈ L, x ∈ L') ∧ r ∈ L' ∧ r ∉ L ∧ F' r = rfA (κ 3) N (va_cpy f (fun _ => none) 0 0 n) ∧ ∀ x ∈ L, F' x = F x) := by
  refine MtR.of (by decide) (Nat.le_of_ble_eq_true rfl) ?_
  intro p e s m below meth c S hr hlk hini hK hW hST ls hl
  have hl : lv_has ls 4 [(0, .ref ar), (1, .int (nI N)), (2, .ref (ζ 260))] := hl
  have hsub : ∀ x ∈ L, x ∈ L := fun x hx => hx
  have hfr : ∀ x ∈ L, True → F x = F x := fun _ _ _ => rfl
  refine lv_aload_n S.1 S.2.1 dJ7_copyOf_6403c_0 rfl (lv_at hl 2 rfl) ?_
  refine va_ldcM S.1 S.2.1 S.2.2.2.1 (S.2.2.2.2 _ wd_1150) hST.2.mirror dJ7_copyOf_6403c_1 ?_
  refine lv_acmp_ne (rx := some (ζ 260)) (ry := some (ζ 260)) (tgt := 13) S.1 S.2.1 dJ7_copyOf_6403c_3 (by decide) (fun c1 => absurd rfl c1) (fun _ => ?_)
  refine lv_iload_n S.1 S.2.1 dJ7_copyOf_6403c_6 rfl (lv_at hl 1 rfl) ?_
  refine pk_newq (N' := N) S hK hW 3 rfl wd_1152 hST.2.aoObj (nI_pos (by omega)) (nI_clamp (by omega)) (by omega) (by decide) (by show 0 + N ≤ 32; omega) dJ7_copyOf_6403c_7 (fun q H_1 hq_q hW => ?_)
  have n_ar_q : ar ≠ q := fun ee => hq_q (ee ▸ m_ar)
  have e_ar : (va_up F q (rfA (κ 3) N (fun _ => none))) ar = rfA (κ 3) n f := (up_ne n_ar_q).trans e_ar
  have m_ar := List.mem_append_left [q] m_ar
  have e_q : (va_up F q (rfA (κ 3) N (fun _ => none))) q = rfA (κ 3) N (fun _ => none) := up_eq
  have m_q : q ∈ L ++ [q] := List.mem_append_right _ (List.mem_singleton.mpr rfl)
  have hnw_q : q ∉ L := fun ee => hq_q (hsub _ ee)
  have hfr : ∀ x ∈ L, True → (va_up F q (rfA (κ 3) N (fun _ => none))) x = F x := fun x hx ht => (up_ne (fun (ee : x = q) => hnw_q (ee ▸ hx))).trans (hfr x hx ht)
  have hsub : ∀ x ∈ L, x ∈ L ++ [q] := fun x hx => List.mem_append_left _ (hsub x hx)
  generalize va_up F q (rfA (κ 3) N (fun _ => none)) = F_2 at hW e_ar e_q hfr
  generalize L ++ [q] = L_3 at hW m_ar m_q hsub
  refine lv_goto (tgt := 24) S.1 S.2.1 dJ7_copyOf_6403c_10 (by decide) ?_
  refine lv_astore_n (lv' := [(3, .ref q), (0, .ref ar), (1, .int (nI N)), (2, .ref (ζ 260))]) S.1 S.2.1 dJ7_copyOf_6403c_24 rfl hl (Nat.le_of_ble_eq_true rfl) rfl (fun ls hl => ?_)
  refine lv_aload_n S.1 S.2.1 dJ7_copyOf_6403c_25 rfl (lv_at hl 1 rfl) ?_
  refine lv_iconst (v := 0) S.1 S.2.1 dJ7_copyOf_6403c_26 (by decide) ?_
  refine lv_aload_n S.1 S.2.1 dJ7_copyOf_6403c_27 rfl (lv_at hl 0 rfl) ?_
  refine lv_iconst (v := 0) S.1 S.2.1 dJ7_copyOf_6403c_28 (by decide) ?_
  refine lv_aload_n S.1 S.2.1 dJ7_copyOf_6403c_29 rfl (lv_at hl 1 rfl) ?_
  refine pk_alen S hK hW 3 m_ar e_ar rfl rfl dJ7_copyOf_6403c_30 ?_
  refine lv_iload_n S.1 S.2.1 dJ7_copyOf_6403c_31 rfl (lv_at hl 2 rfl) ?_
  refine va_mmin S.1 S.2.1 (S.2.2.1.trans hl.1.symm) S.2.2.2.1 (S.2.2.2.2 _ wd_854) (S.2.2.2.2 _ wd_648) (S.2.2.2.2 _ wd_11) (S.2.2.2.2 _ wd_649) (by decide) (Nat.le_of_ble_eq_true rfl) (by decide) (by show 0 + N ≤ 32; omega) dJ7_copyOf_6403c_32 ?_
  refine lv_topi (fun y_4 ey_4 => ?_)
  have ey_4 : y_4 = nI n := ey_4.trans (if_neg (nI_nlt hnN (by omega)))
  subst ey_4
  refine pk_copyq S hK hST hW wd_855 wd_857 wd_856 wd_13 hl.1 3 rfl m_ar e_ar m_q e_q 0 0 n rfl rfl rfl (by omega) (by omega) (by omega) (by omega) (fun i hi y hy => by obtain ⟨v, hv⟩ := hel i hi y (by rw [← hy, Nat.zero_add]); exact ⟨v, hv.keep0 hsub (fun x hx => hfr x hx trivial)⟩) (by decide) (Nat.le_of_ble_eq_true rfl) dJ7_copyOf_6403c_35 (fun H_5 l_6 hW => ?_)
  have e_ar : (va_up F_2 q (rfA (κ 3) N (va_cpy f (fun _ => none) 0 0 n))) ar = rfA (κ 3) n f := (up_ne n_ar_q).trans e_ar
  have e_q : (va_up F_2 q (rfA (κ 3) N (va_cpy f (fun _ => none) 0 0 n))) q = rfA (κ 3) N (va_cpy f (fun _ => none) 0 0 n) := up_eq
  have hfr : ∀ x ∈ L, True → (va_up F_2 q (rfA (κ 3) N (va_cpy f (fun _ => none) 0 0 n))) x = F x := fun x hx ht => (up_ne (fun (ee : x = q) => hnw_q (ee ▸ hx))).trans (hfr x hx ht)
  generalize va_up F_2 q (rfA (κ 3) N (va_cpy f (fun _ => none) 0 0 n)) = F_7 at hW e_ar e_q hfr
  refine lv_aload_n S.1 S.2.1 dJ7_copyOf_6403c_38 rfl (lv_at hl 0 rfl) ?_
  exact pk_rret S hr (Or.inr ⟨_, rfl⟩) hlk hW ⟨hsub, m_q, hnw_q, e_q, fun x hx => hfr x hx trivial⟩ (by decide) (by show 0 + N ≤ 32; omega) dJ7_copyOf_6403c_39
theorem mc_J7_copyOf_1904c : MCode yJ7_copyOf_1904c cJ7_copyOf_1904c 2 (some (.array (.object "java/lang/Object"))) := ⟨wd_1127, wd_12, by decide, by decide⟩
theorem np_J7_copyOf_1904c : (parseMethodDescriptor yJ7_copyOf_1904c.desc).map (fun d => d.parameters.length) = some 2 := by decide +kernel
set_option maxHeartbeats 4000000 in
set_option maxRecDepth 100000 in
theorem c_J7_copyOf_1904c {l : Launch} {D : va_G} {κ : Nat → ClassId} {ζ : Nat → Nat} {L : List Nat} {F : Nat → va_E} {ar n N : Nat} {f : Nat → Option Nat} (m_ar : ar ∈ L) (e_ar : F ar = rfA (κ 3) n f) (hnN : n ≤ N) (hN : N ≤ 32) (hel : ∀ i, i < n → ∀ y, f i = some y → ∃ v, bx ζ L F y v) : MtR l D cls (ty5 κ) ζ yJ7_copyOf_1904c cJ7_copyOf_1904c 2 (some (.array (.object "java/lang/Object"))) 3 1 32 ([.ref ar, .int (nI N)] : List Value) L F (fun r L' F' => (∀ x ∈ L, x ∈ L') ∧ r ∈ L' ∧ r ∉ L ∧ F' r = rfA (κ 3) N (va_cpy f (fun _ => none) 0 0 n) ∧ ∀ x ∈ L, F' x = F x) := by
  refine MtR.of (by decide) (Nat.le_of_ble_eq_true rfl) ?_
  intro p e s m below meth c S hr hlk hini hK hW hST ls hl
  have hl : lv_has ls 2 [(0, .ref ar), (1, .int (nI N))] := hl
  refine lv_aload_n S.1 S.2.1 dJ7_copyOf_1904c_0 rfl (lv_at hl 0 rfl) ?_
  refine lv_iload_n S.1 S.2.1 dJ7_copyOf_1904c_1 rfl (lv_at hl 1 rfl) ?_
  refine lv_aload_n S.1 S.2.1 dJ7_copyOf_1904c_2 rfl (lv_at hl 0 rfl) ?_
  refine va_getC S.1 S.2.1 (S.2.2.1.trans hl.1.symm) S.2.2.2.1 (S.2.2.2.2 _ wd_1128) (va_Dc.use hST.2.decl) (S.2.2.2.2 _ wd_1663) (S.2.2.2.2 _ wd_1129) (S.2.2.2.2 _ wd_1146) hST.2.mirror (pk_arrC hK hW 3 rfl m_ar e_ar) (by decide) (Nat.le_of_ble_eq_true rfl) dJ7_copyOf_1904c_3 ?_
  refine pk_cSR (As := [.ref ar, .int (nI N), .ref (ζ 260)]) (rest := []) S hK hST hW (c_J7_copyOf_6403c m_ar e_ar hnN hN hel) mc_J7_copyOf_6403c wd_1147 wd_1148 np_J7_copyOf_6403c rfl hl.1 rfl (Nat.le_of_ble_eq_true rfl) dJ7_copyOf_1904c_6 ⟨by decide, by decide⟩ ⟨by decide, by decide⟩ (fun r L_1 F_2 H_3 l_4 hp hW => ?_)
  obtain ⟨h1, h2, h3, h4, h5⟩ := hp
  exact pk_rret S hr (Or.inr ⟨_, rfl⟩) hlk hW ⟨h1, h2, h3, h4, h5⟩ (by decide) (by decide) dJ7_copyOf_1904c_9
