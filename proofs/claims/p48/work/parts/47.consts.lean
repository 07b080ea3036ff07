section
/-! StringBuilder.append(String) of the constants "" and " ", by their lengths -/
section CKv
variable {p : Program} {l : Launch} {e : Env} {R : Room} {s : State} {m : MethodId} {args : Array Value} {below : List Frame} {meth : Method} {c : Code} {cc : ByteArray} {nL : Nat} {own : String} {H : Heap} {locs : List Loc} {cells slots : Nat} {Q : State → Prop} {D : va_G} {cl : List vw_C} {tys : List (ClassId × FieldType)} {ζ : Nat → Nat} {pc : Nat} {ls : Array Slot} {rest st0 : List Value} {L0 L : List Nat} {F : Nat → va_E} {y : MethodName} {bytes : ByteArray} {n d mc ms index np : Nat} {rt : Option FieldType} {As : List Value}
theorem pk_cVVr (S : CallFix p m c cc nL s args Gw own) (hK : va_K D cl tys s) (hST : ST ζ (AL L0 s.heap.size) s s.heap) (hW : HW D cl L0 s H locs L F) {post : List Nat → (Nat → va_E) → Prop} {b : Nat} {C0 : String} (hM : MtV l D cl tys ζ y bytes n rt d mc ms (.ref b :: As) L F post) (hcd : MCode y bytes n rt) (hlink : Cond.methodLink own index y ∈ Gw) (hin : Cond.instanceMethod y ∈ Gw) (hsel : Cond.selects C0 y y ∈ Gw) (hyc : y.cls = C0) (hnp : (parseMethodDescriptor y.desc).map (fun d => d.parameters.length) = some np) (hrcv : ∃ cellB : Cell, H[b]? = some cellB ∧ cellB.vm.isStatics = false ∧ s.vm.findClass C0 = some cellB.cls) (hlen : As.length = np) (hsize : ls.size = nL) (hstk : st0 = As.reverse ++ .ref b :: rest) (hcat : (rest.map fun v => v.category).sum ≤ 8) (hdg : decode cc pc = .ok (.invokevirtual index, 3)) (hR : d + 1 ≤ R.frames ∧ 8 + (n + 11) + 40 * d ≤ R.locals) (hf : cells + mc ≤ R.cells ∧ slots + ms ≤ R.slots)
    (kk : ∀  (L1 : List Nat) (F1 : Nat → va_E) (H1 : Heap) (locs1 : List Loc), post L1 F1 → HW D cl L0 s H1 locs1 L1 F1 → W p l e R s m args below meth c H1 locs1 (cells + mc) (slots + ms) Q (F0 m (pc + 3) ls (rest))) : W p l e R s m args below meth c H locs cells slots Q (F0 m pc ls st0) := by
  exact va_callv (va_runV (As := As) (rest := rest) S (hM H.size) (cwV np S.2.2.2.2 (gw_cons (pre := [.methodLink own index y, .instanceMethod y, .selects C0 y y, .initialized C0]) hcd (List.forall_mem_cons.mpr ⟨hlink, List.forall_mem_cons.mpr ⟨hin, List.forall_mem_cons.mpr ⟨hsel, List.forall_mem_cons.mpr ⟨hyc ▸ hcd.2.1, fun _ h => absurd h List.not_mem_nil⟩⟩⟩⟩)) rfl rfl rfl ⟨hyc, hcd.2.2.1, hcd.2.2.2, hnp⟩ hR) ⟨PrC.blind, hrcv, fun U hU hWm => ⟨rfl, PrC.of hK hW hST hU hWm⟩⟩ rfl hlen hsize hstk (lv_room hcat) hdg hf) hW.2.2 (fun q _ h => hW.sub q h) hW.sub (fun u t H1 locs1 ht hvm hp hB hz hk hS1 => kk u.1 u.2 H1 locs1 hp (hW.after (sz := 0) ht hB hS1))
end CKv
section CQk
variable {p : Program} {l : Launch} {e : Env} {R : Room} {s : State} {m : MethodId} {args : Array Value} {below : List Frame} {meth : Method} {c : Code} {cc : ByteArray} {nL : Nat} {own : String} {H : Heap} {locs : List Loc} {cells slots : Nat} {Q : State → Prop} {D : va_G} {tys : List (ClassId × FieldType)} {pc : Nat} {ls : Array Slot} {rest : List Value} {L0 L : List Nat} {F : Nat → va_E} {ζ : Nat → Nat}
theorem pk_copyk (S : CallFix p m c cc nL s args Gw own) (hK : va_K D cls tys s) (hW : HW D cls L0 s H locs L F) {index : Nat} (hlink : Cond.methodLink own index arraycopyName ∈ Gw) (hnat : Cond.native arraycopyName ∈ Gw) (hsta : Cond.static arraycopyName ∈ Gw) (hini : Cond.initialized "java/lang/System" ∈ Gw) (hsz : ls.size = nL)
    {b0 n0 : Nat} {f : Nat → Int32} (hX : va_T .byte b0 n0 (fun j => .int (f j)) (AL L0 s.heap.size) s s.heap) {a1 n1 : Nat} {c0 : ClassId} {g : Nat → Int32} (t0 : Nat) (ht : tys[t0]? = some (c0, .byte)) (m1 : a1 ∈ L) (e1 : F a1 = .inl (c0, n1, .inl g)) {sp dp n : Int32} (i j k : Nat) (hsp : sp = nI i) (hdp : dp = nI j) (hn : n = nI k) (h4 : i + k ≤ n0) (h5 : j + k ≤ n1) (hb0 : n0 < 2147483648) (hb1 : n1 < 2147483648) (hf : ∀ q, fits .byte (.int (f q)) = true) (hg : ∀ q, fits .byte (.int (g q)) = true)
    (hfr : 1 ≤ R.frames) (hlo : (rest.map fun v => v.category).sum + (nativeFrameWords "java/lang/System" "arraycopy" 5 + 11) ≤ R.locals) (hdg : decode cc pc = .ok (.invokestatic index, 3))
    (kk : ∀ (g' : Nat → Int32) (H1 : Heap) (locs1 : List Loc), (∀ q, fits .byte (.int (g' q)) = true) → HW D cls L0 s H1 locs1 L (va_up F a1 (.inl (c0, n1, .inl g'))) → W p l e R s m args below meth c H1 locs1 cells slots Q (F0 m (pc + 3) ls rest)) : W p l e R s m args below meth c H locs cells slots Q (F0 m pc ls (.int n :: .int dp :: .ref a1 :: .int sp :: .ref b0 :: rest)) := by
  obtain ⟨k1, hk1⟩ := pl_get (F := F) m1 rfl
  have ci : (nI i).toNatClampNeg = i := nI_clamp (by omega)
  have cj : (nI j).toNatClampNeg = j := nI_clamp (by omega)
  have ck : (nI k).toNatClampNeg = k := nI_clamp (by omega)
  subst hsp hdp hn
  have hgg : ∀ q, fits .byte (.int (va_cpy f g i j k q)) = true := by
    intro q
    rcases Decidable.em (j ≤ q ∧ q < j + k) with h | h
    · have e : va_cpy f g i j k q = f (i + (q - j)) := if_pos h
      rw [e]; exact hf _
    · have e : va_cpy f g i j k q = g q := if_neg h
      rw [e]; exact hg _
  refine vk_copyt S.1 S.2.1 (S.2.2.1.trans hsz.symm) S.2.2.2.1 (S.2.2.2.2 _ hlink) (S.2.2.2.2 _ hnat) (S.2.2.2.2 _ hsta) (S.2.2.2.2 _ hini) hK hW.1 hW.2.1 hW.2.2 hX k1 t0 (hk1.trans (congrArg (fun ee => some (a1, ee)) e1)) ht (nI_pos (by omega)) (nI_pos (by omega)) (nI_pos (by omega)) (by rw [ci, ck]; exact h4) (by rw [cj, ck]; exact h5) (fun x _ => hf _) hfr hlo hdg ?_
  intro H1 locs1 h1 h2 h3
  rw [ci, cj, ck] at h1 h2
  exact kk (va_cpy f g i j k) H1 locs1 hgg (hW.set (e0 := F a1) m1 _ hk1 h1 h2 h3)
end CQk
theorem byt01 {j : Nat} (hj : j < 2) (q : Nat) : fits .byte (.int ((([[], [32]] : List (List Int32)).getD j []).getD q 0)) = true := by
  match j, hj with
  | 0, _ => rfl
  | 1, _ =>
    match q with
    | 0 => rfl
    | q + 1 => rfl
theorem mc_J0_getBytes_840e7 : MCode yJ0_getBytes_840e7 cJ0_getBytes_840e7 4 none := ⟨wd_1015, wd_28, by decide, by decide⟩
theorem np_J0_getBytes_840e7 : (parseMethodDescriptor yJ0_getBytes_840e7.desc).map (fun d => d.parameters.length) = some 3 := by decide +kernel
set_option maxHeartbeats 4000000 in
set_option maxRecDepth 100000 in
theorem c_J0_getBytes_840e7_k {l : Launch} {D : va_G} {κ : Nat → ClassId} {ζ : Nat → Nat} {L : List Nat} {F : Nat → va_E} {v cap k j : Nat} {g : Nat → Int32} (m_v : v ∈ L) (e_v : F v = .inl (κ 1, cap, .inl g)) (hg : ∀ j, fits .byte (.int (g j)) = true) (hj : j < 2) (hkc : k + j ≤ cap) (hcp : cap ≤ 300000) : MtV l D cls (ty5 κ) ζ yJ0_getBytes_840e7 cJ0_getBytes_840e7 4 none 2 0 0 ([.ref (ζ (261 + j)), .ref v, .int (nI k), .int 0] : List Value) L F (fun L' F' => L = L' ∧ (∃ g', F' v = .inl (κ 1, cap, .inl g') ∧ ∀ j, fits .byte (.int (g' j)) = true) ∧ ∀ q, q ≠ v → F' q = F q) := by
  refine MtV.of (by decide) (Nat.le_of_ble_eq_true rfl) ?_
  intro p e s m below meth c S hr hlk hini hK hW hST ls hl
  have hl : lv_has ls 4 [(0, .ref (ζ (261 + j))), (1, .ref v), (2, .int (nI k)), (3, .int 0)] := hl
  have hfr : ∀ q, q ≠ v → F q = F q := fun _ _ => rfl
  refine lv_aload_n S.1 S.2.1 dJ0_getBytes_840e7_0 rfl (lv_at hl 0 rfl) ?_
  refine pk_cVIr (As := []) (rest := []) S hK hST hW (c_J0_coder_7d493_k hj) mc_J0_coder_7d493 wd_998 wd_999 wd_1000 rfl np_J0_coder_7d493 (vk_recv (i := j) (adK := fun i => ζ (261 + i)) hST.2.strs hj hW.2.2) rfl hl.1 rfl (Nat.le_of_ble_eq_true rfl) dJ0_getBytes_840e7_1 ⟨Nat.le_of_ble_eq_true rfl, Nat.le_of_ble_eq_true rfl⟩ ⟨Nat.le_of_ble_eq_true rfl, Nat.le_of_ble_eq_true rfl⟩ (fun r L_1 F_2 H_3 l_4 hp hW => ?_)
  obtain ⟨rfl, rfl, rfl⟩ := hp
  refine lv_iload_n S.1 S.2.1 dJ0_getBytes_840e7_4 rfl (lv_at hl 3 rfl) ?_
  refine lv_icmp_ne (tgt := 28) S.1 S.2.1 dJ0_getBytes_840e7_5 (by decide) (fun c1 => absurd rfl c1) (fun _ => ?_)
  refine lv_aload_n S.1 S.2.1 dJ0_getBytes_840e7_8 rfl (lv_at hl 0 rfl) ?_
  refine vk_getf S.1 S.2.1 (hST.2.strs.1 j hj).2.2.1 hW.2.2 S.2.2.2.1 (S.2.2.2.2 _ wd_1033) (fun _ h => h) dJ0_getBytes_840e7_9 ?_
  refine lv_iconst (v := 0) S.1 S.2.1 dJ0_getBytes_840e7_12 (by decide) ?_
  refine lv_aload_n S.1 S.2.1 dJ0_getBytes_840e7_13 rfl (lv_at hl 1 rfl) ?_
  refine lv_iload_n S.1 S.2.1 dJ0_getBytes_840e7_14 rfl (lv_at hl 2 rfl) ?_
  refine lv_iload_n S.1 S.2.1 dJ0_getBytes_840e7_15 rfl (lv_at hl 3 rfl) ?_
  refine lv_ishl S.1 S.2.1 dJ0_getBytes_840e7_16 ?_
  refine lv_topi (fun y_5 ey_5 => ?_)
  have ey_5 : y_5 = (nI k) := ey_5.trans (shl0 _)
  subst ey_5
  refine lv_aload_n S.1 S.2.1 dJ0_getBytes_840e7_17 rfl (lv_at hl 0 rfl) ?_
  refine vk_getf S.1 S.2.1 (hST.2.strs.1 j hj).2.2.1 hW.2.2 S.2.2.2.1 (S.2.2.2.2 _ wd_1033) (fun _ h => h) dJ0_getBytes_840e7_18 ?_
  refine va_tlen S.1 S.2.1 (hST.2.strs.1 j hj).2.2.2 hW.2.2 (v := nI j) (congrArg Int32.ofNat (len01 hj)) dJ0_getBytes_840e7_21 ?_
  refine pk_copyk S hK hW wd_1016 wd_857 wd_856 wd_13 hl.1 (hST.2.strs.1 j hj).2.2.2 1 rfl m_v e_v 0 k j rfl rfl rfl (by rw [len01 hj, Nat.zero_add]; exact Nat.le_refl _) hkc (by rw [len01 hj]; omega) (by omega) (byt01 hj) hg (Nat.le_of_ble_eq_true rfl) (Nat.le_of_ble_eq_true rfl) dJ0_getBytes_840e7_22 (fun g1 H2 l2 hg1 hW => ?_)
  have e_v : (va_up F v (.inl (κ 1, cap, .inl g1))) v = .inl (κ 1, cap, .inl g1) := up_eq
  have hfr : ∀ q, q ≠ v → (va_up F v (.inl (κ 1, cap, .inl g1))) q = F q := fun q q1 => (up_ne q1).trans (hfr q q1)
  generalize va_up F v (.inl (κ 1, cap, .inl g1)) = F_6 at hW e_v hfr
  refine lv_goto (tgt := 43) S.1 S.2.1 dJ0_getBytes_840e7_25 (by decide) ?_
  exact pk_vret S hr hlk hW ⟨rfl, ⟨g1, e_v, hg1⟩, hfr⟩ (by decide) (by decide) dJ0_getBytes_840e7_43
theorem mc_J5_inflateIfNeededFor_a7421 : MCode yJ5_inflateIfNeededFor_a7421 cJ5_inflateIfNeededFor_a7421 2 none := ⟨wd_1010, wd_26, by decide, by decide⟩
theorem np_J5_inflateIfNeededFor_a7421 : (parseMethodDescriptor yJ5_inflateIfNeededFor_a7421.desc).map (fun d => d.parameters.length) = some 1 := by decide +kernel
set_option maxHeartbeats 4000000 in
set_option maxRecDepth 100000 in
theorem c_J5_inflateIfNeededFor_a7421_k {l : Launch} {D : va_G} {κ : Nat → ClassId} {ζ : Nat → Nat} {L : List Nat} {F : Nat → va_E} {b v cnt j : Nat} {ml : Int32} (m_b : b ∈ L) (e_b : F b = .inr (1, [.ref v, .int 0, .int ml, .int (nI cnt)])) (hj : j < 2) : MtV l D cls (ty5 κ) ζ yJ5_inflateIfNeededFor_a7421 cJ5_inflateIfNeededFor_a7421 2 none 2 0 0 ([.ref b, .ref (ζ (261 + j))] : List Value) L F (fun L' F' => L = L' ∧ F = F') := by
  refine MtV.of (by decide) (Nat.le_of_ble_eq_true rfl) ?_
  intro p e s m below meth c S hr hlk hini hK hW hST ls hl
  have hl : lv_has ls 2 [(0, .ref b), (1, .ref (ζ (261 + j)))] := hl
  refine pk_gets S hW hST.2.zCompact wd_804 dJ5_inflateIfNeededFor_a7421_0 ?_
  refine lv_if_eq (tgt := 21) S.1 S.2.1 dJ5_inflateIfNeededFor_a7421_3 (by decide) (fun c1 => absurd c1 (by decide)) (fun _ => ?_)
  refine lv_aload_n S.1 S.2.1 dJ5_inflateIfNeededFor_a7421_6 rfl (lv_at hl 0 rfl) ?_
  refine pk_get S hK hW 1 m_b e_b rfl hinJ4 (by decide) wd_813 rfl dJ5_inflateIfNeededFor_a7421_7 ?_
  refine lv_aload_n S.1 S.2.1 dJ5_inflateIfNeededFor_a7421_10 rfl (lv_at hl 1 rfl) ?_
  refine pk_cVIr (As := []) (rest := [.int 0]) S hK hST hW (c_J0_coder_7d493_k hj) mc_J0_coder_7d493 wd_1011 wd_999 wd_1000 rfl np_J0_coder_7d493 (vk_recv (i := j) (adK := fun i => ζ (261 + i)) hST.2.strs hj hW.2.2) rfl hl.1 rfl (Nat.le_of_ble_eq_true rfl) dJ5_inflateIfNeededFor_a7421_11 ⟨Nat.le_of_ble_eq_true rfl, Nat.le_of_ble_eq_true rfl⟩ ⟨Nat.le_of_ble_eq_true rfl, Nat.le_of_ble_eq_true rfl⟩ (fun r L_1 F_2 H_3 l_4 hp hW => ?_)
  obtain ⟨rfl, rfl, rfl⟩ := hp
  refine lv_icmp_eq (tgt := 21) S.1 S.2.1 dJ5_inflateIfNeededFor_a7421_14 (by decide) (fun _ => ?_) (fun c1 => absurd rfl c1)
  exact pk_vret S hr hlk hW ⟨rfl, rfl⟩ (by decide) (by decide) dJ5_inflateIfNeededFor_a7421_21
theorem mc_J5_putStringAt_47b60 : MCode yJ5_putStringAt_47b60 cJ5_putStringAt_47b60 3 none := ⟨wd_1006, wd_26, by decide, by decide⟩
theorem np_J5_putStringAt_47b60 : (parseMethodDescriptor yJ5_putStringAt_47b60.desc).map (fun d => d.parameters.length) = some 2 := by decide +kernel
set_option maxHeartbeats 4000000 in
set_option maxRecDepth 100000 in
theorem c_J5_putStringAt_47b60_k {l : Launch} {D : va_G} {κ : Nat → ClassId} {ζ : Nat → Nat} {L : List Nat} {F : Nat → va_E} {b v cap cnt k j : Nat} {ml : Int32} {g : Nat → Int32} (m_b : b ∈ L) (m_v : v ∈ L) (e_b : F b = .inr (1, [.ref v, .int 0, .int ml, .int (nI cnt)])) (e_v : F v = .inl (κ 1, cap, .inl g)) (hg : ∀ j, fits .byte (.int (g j)) = true) (hj : j < 2) (hkc : k + j ≤ cap) (hcp : cap ≤ 300000) : MtV l D cls (ty5 κ) ζ yJ5_putStringAt_47b60 cJ5_putStringAt_47b60 3 none 3 0 0 ([.ref b, .int (nI k), .ref (ζ (261 + j))] : List Value) L F (fun L' F' => L = L' ∧ (∃ g', F' v = .inl (κ 1, cap, .inl g') ∧ ∀ j, fits .byte (.int (g' j)) = true) ∧ ∀ q, q ≠ v → F' q = F q) := by
  refine MtV.of (by decide) (Nat.le_of_ble_eq_true rfl) ?_
  intro p e s m below meth c S hr hlk hini hK hW hST ls hl
  have hl : lv_has ls 3 [(0, .ref b), (1, .int (nI k)), (2, .ref (ζ (261 + j)))] := hl
  refine lv_aload_n S.1 S.2.1 dJ5_putStringAt_47b60_0 rfl (lv_at hl 0 rfl) ?_
  refine lv_aload_n S.1 S.2.1 dJ5_putStringAt_47b60_1 rfl (lv_at hl 2 rfl) ?_
  refine pk_cPV (As := [.ref (ζ (261 + j))]) (rest := []) S hK hST hW (c_J5_inflateIfNeededFor_a7421_k m_b e_b hj) mc_J5_inflateIfNeededFor_a7421 wd_1007 wd_1009 wn_52 wd_1661 np_J5_inflateIfNeededFor_a7421 m_b e_b rfl rfl hl.1 rfl (Nat.le_of_ble_eq_true rfl) dJ5_putStringAt_47b60_2 ⟨Nat.le_of_ble_eq_true rfl, Nat.le_of_ble_eq_true rfl⟩ ⟨Nat.le_of_ble_eq_true rfl, Nat.le_of_ble_eq_true rfl⟩ (fun L_1 F_2 H_3 l_4 hp hW => ?_)
  obtain ⟨rfl, rfl⟩ := hp
  refine lv_aload_n S.1 S.2.1 dJ5_putStringAt_47b60_5 rfl (lv_at hl 2 rfl) ?_
  refine lv_aload_n S.1 S.2.1 dJ5_putStringAt_47b60_6 rfl (lv_at hl 0 rfl) ?_
  refine pk_get S hK hW 0 m_b e_b rfl hinJ4 (by decide) wd_812 rfl dJ5_putStringAt_47b60_7 ?_
  refine lv_iload_n S.1 S.2.1 dJ5_putStringAt_47b60_10 rfl (lv_at hl 1 rfl) ?_
  refine lv_aload_n S.1 S.2.1 dJ5_putStringAt_47b60_11 rfl (lv_at hl 0 rfl) ?_
  refine pk_get S hK hW 1 m_b e_b rfl hinJ4 (by decide) wd_813 rfl dJ5_putStringAt_47b60_12 ?_
  refine pk_cVVr (As := [.ref v, .int (nI k), .int 0]) (rest := []) S hK hST hW (c_J0_getBytes_840e7_k m_v e_v hg hj hkc hcp) mc_J0_getBytes_840e7 wd_1012 wd_1013 wd_1014 rfl np_J0_getBytes_840e7 (vk_recv (i := j) (adK := fun i => ζ (261 + i)) hST.2.strs hj hW.2.2) rfl hl.1 rfl (Nat.le_of_ble_eq_true rfl) dJ5_putStringAt_47b60_15 ⟨Nat.le_of_ble_eq_true rfl, Nat.le_of_ble_eq_true rfl⟩ ⟨Nat.le_of_ble_eq_true rfl, Nat.le_of_ble_eq_true rfl⟩ (fun L9 F9 H9 l9 hp hW => ?_)
  obtain ⟨rfl, ⟨g9, e9, hg9⟩, hf9⟩ := hp
  exact pk_vret S hr hlk hW ⟨rfl, ⟨g9, e9, hg9⟩, hf9⟩ (by decide) (by decide) dJ5_putStringAt_47b60_18
theorem mc_J5_append_cf1ce : MCode yJ5_append_cf1ce cJ5_append_cf1ce 3 (some (.object "java/lang/AbstractStringBuilder")) := ⟨wd_986, wd_26, by decide, by decide⟩
theorem np_J5_append_cf1ce : (parseMethodDescriptor yJ5_append_cf1ce.desc).map (fun d => d.parameters.length) = some 1 := by decide +kernel
set_option maxHeartbeats 4000000 in
set_option maxRecDepth 100000 in
theorem c_J5_append_cf1ce_fit {l : Launch} {D : va_G} {κ : Nat → ClassId} {ζ : Nat → Nat} {L : List Nat} {F : Nat → va_E} {b v cap cnt : Nat} {ml : Int32} {g : Nat → Int32} (m_b : b ∈ L) (m_v : v ∈ L) (n_b_v : b ≠ v) (e_b : F b = .inr (1, [.ref v, .int 0, .int ml, .int (nI cnt)])) (e_v : F v = .inl (κ 1, cap, .inl g)) (hg : ∀ j, fits .byte (.int (g j)) = true) {j : Nat} (hj : j < 2) (hfit : cnt + j ≤ cap) (hcp : cap ≤ 300000) : MtR l D cls (ty5 κ) ζ yJ5_append_cf1ce cJ5_append_cf1ce 3 (some (.object "java/lang/AbstractStringBuilder")) 5 0 0 ([.ref b, .ref (ζ (261 + j))] : List Value) L F (fun r L' F' => b = r ∧ L = L' ∧ F' b = .inr (1, [.ref v, .int 0, .int ml, .int (nI (cnt + j))]) ∧ (∃ g', F' v = .inl (κ 1, cap, .inl g') ∧ ∀ j, fits .byte (.int (g' j)) = true) ∧ ∀ q, q ≠ b → q ≠ v → F' q = F q) := by
  refine MtR.of (by decide) (Nat.le_of_ble_eq_true rfl) ?_
  intro p e s m below meth c S hr hlk hini hK hW hST ls hl
  have hl : lv_has ls 3 [(0, .ref b), (1, .ref (ζ (261 + j)))] := hl
  have hfr : ∀ q, q ≠ b → q ≠ v → F q = F q := fun _ _ _ => rfl
  refine lv_aload_n S.1 S.2.1 dJ5_append_cf1ce_0 rfl (lv_at hl 1 rfl) ?_
  refine lv_ifnonnull (tgt := 9) S.1 S.2.1 dJ5_append_cf1ce_1 (by decide) ?_
  refine lv_aload_n S.1 S.2.1 dJ5_append_cf1ce_9 rfl (lv_at hl 1 rfl) ?_
  refine pk_cVIr (As := []) (rest := []) S hK hST hW (c_J0_length_8abf5_k hj) mc_J0_length_8abf5 wd_994 wd_995 wd_996 rfl np_J0_length_8abf5 (vk_recv (i := j) (adK := fun i => ζ (261 + i)) hST.2.strs hj hW.2.2) rfl hl.1 rfl (Nat.le_of_ble_eq_true rfl) dJ5_append_cf1ce_10 ⟨Nat.le_of_ble_eq_true rfl, Nat.le_of_ble_eq_true rfl⟩ ⟨Nat.le_of_ble_eq_true rfl, Nat.le_of_ble_eq_true rfl⟩ (fun r L_1 F_2 H_3 l_4 hp hW => ?_)
  obtain ⟨rfl, rfl, rfl⟩ := hp
  refine lv_istore_n (lv' := [(2, .int (nI j)), (0, .ref b), (1, .ref (ζ (261 + j)))]) S.1 S.2.1 dJ5_append_cf1ce_13 rfl hl (Nat.le_of_ble_eq_true rfl) rfl (fun ls hl => ?_)
  refine lv_aload_n S.1 S.2.1 dJ5_append_cf1ce_14 rfl (lv_at hl 1 rfl) ?_
  refine lv_aload_n S.1 S.2.1 dJ5_append_cf1ce_15 rfl (lv_at hl 1 rfl) ?_
  refine pk_get S hK hW 3 m_b e_b rfl hinJ4 (by decide) wd_815 rfl dJ5_append_cf1ce_16 ?_
  refine lv_iload_n S.1 S.2.1 dJ5_append_cf1ce_19 rfl (lv_at hl 0 rfl) ?_
  refine lv_iadd S.1 S.2.1 dJ5_append_cf1ce_20 ?_
  refine lv_topi (fun y_5 ey_5 => ?_)
  have ey_5 : y_5 = nI (cnt + j) := ey_5.trans ((nI_add _ _))
  subst ey_5
  refine pk_cPV (As := [.int (nI (cnt + j))]) (rest := []) S hK hST hW (c_J5_ensureCapacityInternal_d00df_fit m_b m_v n_b_v e_b e_v hg hfit hcp) mc_J5_ensureCapacityInternal_d00df wd_828 wd_830 wn_47 wd_1654 np_J5_ensureCapacityInternal_d00df m_b e_b rfl rfl hl.1 rfl (Nat.le_of_ble_eq_true rfl) dJ5_append_cf1ce_21 ⟨Nat.le_of_ble_eq_true rfl, Nat.le_of_ble_eq_true rfl⟩ ⟨Nat.le_of_ble_eq_true rfl, Nat.le_of_ble_eq_true rfl⟩ (fun L_6 F_7 H_8 l_9 hp hW => ?_)
  obtain ⟨rfl, rfl⟩ := hp
  refine lv_aload_n S.1 S.2.1 dJ5_append_cf1ce_24 rfl (lv_at hl 1 rfl) ?_
  refine lv_aload_n S.1 S.2.1 dJ5_append_cf1ce_25 rfl (lv_at hl 1 rfl) ?_
  refine pk_get S hK hW 3 m_b e_b rfl hinJ4 (by decide) wd_815 rfl dJ5_append_cf1ce_26 ?_
  refine lv_aload_n S.1 S.2.1 dJ5_append_cf1ce_29 rfl (lv_at hl 2 rfl) ?_
  refine pk_cPV (As := [.int (nI cnt), .ref (ζ (261 + j))]) (rest := []) S hK hST hW (c_J5_putStringAt_47b60_k m_b m_v e_b e_v hg hj (k := cnt) hfit hcp) mc_J5_putStringAt_47b60 wd_1003 wd_1005 wn_51 wd_1660 np_J5_putStringAt_47b60 m_b e_b rfl rfl hl.1 rfl (Nat.le_of_ble_eq_true rfl) dJ5_append_cf1ce_30 ⟨Nat.le_of_ble_eq_true rfl, Nat.le_of_ble_eq_true rfl⟩ ⟨Nat.le_of_ble_eq_true rfl, Nat.le_of_ble_eq_true rfl⟩ (fun L9 F9 H9 l9 hp hW => ?_)
  obtain ⟨rfl, ⟨g9, e9, hg9⟩, hf9⟩ := hp
  have e_b : F9 b = .inr (1, [.ref v, .int 0, .int ml, .int (nI cnt)]) := (hf9 b n_b_v).trans e_b
  have e_v := e9
  have hfr : ∀ q, q ≠ b → q ≠ v → F9 q = F q := fun q q1 q2 => (hf9 q q2).trans (hfr q q1 q2)
  refine lv_aload_n S.1 S.2.1 dJ5_append_cf1ce_33 rfl (lv_at hl 1 rfl) ?_
  refine lv_dup S.1 S.2.1 dJ5_append_cf1ce_34 rfl ?_
  refine pk_get S hK hW 3 m_b e_b rfl hinJ4 (by decide) wd_815 rfl dJ5_append_cf1ce_35 ?_
  refine lv_iload_n S.1 S.2.1 dJ5_append_cf1ce_38 rfl (lv_at hl 0 rfl) ?_
  refine lv_iadd S.1 S.2.1 dJ5_append_cf1ce_39 ?_
  refine lv_topi (fun y_10 ey_10 => ?_)
  have ey_10 : y_10 = nI (cnt + j) := ey_10.trans ((nI_add _ _))
  subst ey_10
  refine pk_put (v := .int (nI (cnt + j))) S hK hW 3 m_b e_b rfl hinJ4 tyJ4_ok nmJ4 (by decide) wd_815 rfl rfl rfl rfl (Nat.le_of_ble_eq_true rfl) dJ5_append_cf1ce_40 (fun H_11 l_12 hW => ?_)
  have e_b : (va_up F9 b (.inr (1, ([.ref v, .int 0, .int ml, .int (nI cnt)] : List Value).set 3 (.int (nI (cnt + j)))))) b = .inr (1, [.ref v, .int 0, .int ml, .int (nI (cnt + j))]) := up_eq
  have e_v : (va_up F9 b (.inr (1, ([.ref v, .int 0, .int ml, .int (nI cnt)] : List Value).set 3 (.int (nI (cnt + j)))))) v = .inl (κ 1, cap, .inl g9) := (up_ne n_b_v.symm).trans e_v
  have hfr : ∀ q, q ≠ b → q ≠ v → (va_up F9 b (.inr (1, ([.ref v, .int 0, .int ml, .int (nI cnt)] : List Value).set 3 (.int (nI (cnt + j)))))) q = F q := fun q q1 q2 => (up_ne q1).trans (hfr q q1 q2)
  generalize va_up F9 b (.inr (1, ([.ref v, .int 0, .int ml, .int (nI cnt)] : List Value).set 3 (.int (nI (cnt + j))))) = F_13 at hW e_b e_v hfr
  refine lv_aload_n S.1 S.2.1 dJ5_append_cf1ce_43 rfl (lv_at hl 1 rfl) ?_
  exact pk_rret S hr (Or.inl ⟨_, rfl⟩) hlk hW ⟨rfl, rfl, e_b, ⟨g9, e_v, hg9⟩, hfr⟩ (by decide) (by decide) dJ5_append_cf1ce_44
set_option maxHeartbeats 4000000 in
set_option maxRecDepth 100000 in
theorem c_J5_append_cf1ce_grow {l : Launch} {D : va_G} {κ : Nat → ClassId} {ζ : Nat → Nat} {L : List Nat} {F : Nat → va_E} {b v cap cnt : Nat} {ml : Int32} {g : Nat → Int32} (m_b : b ∈ L) (m_v : v ∈ L) (n_b_v : b ≠ v) (e_b : F b = .inr (1, [.ref v, .int 0, .int ml, .int (nI cnt)])) (e_v : F v = .inl (κ 1, cap, .inl g)) (hg : ∀ j, fits .byte (.int (g j)) = true) {j : Nat} (hj : j < 2) (hgr : cap < cnt + j) (hcn : cnt + j ≤ 100000) : MtR l D cls (ty5 κ) ζ yJ5_append_cf1ce cJ5_append_cf1ce 3 (some (.object "java/lang/AbstractStringBuilder")) 5 1 (cap + max (cnt + j - cap) (cap + 2)) ([.ref b, .ref (ζ (261 + j))] : List Value) L F (fun r L' F' => b = r ∧ (∀ x ∈ L, x ∈ L') ∧ (∃ q g', q ∉ L ∧ q ∈ L' ∧ b ≠ q ∧ F' b = .inr (1, [.ref q, .int 0, .int ml, .int (nI (cnt + j))]) ∧ F' q = .inl (κ 1, (cap + max (cnt + j - cap) (cap + 2)), .inl g') ∧ ∀ j, fits .byte (.int (g' j)) = true) ∧ ∀ x ∈ L, x ≠ b → F' x = F x) := by
  refine MtR.of (by decide) (Nat.le_of_ble_eq_true rfl) ?_
  intro p e s m below meth c S hr hlk hini hK hW hST ls hl
  have hl : lv_has ls 3 [(0, .ref b), (1, .ref (ζ (261 + j)))] := hl
  refine lv_aload_n S.1 S.2.1 dJ5_append_cf1ce_0 rfl (lv_at hl 1 rfl) ?_
  refine lv_ifnonnull (tgt := 9) S.1 S.2.1 dJ5_append_cf1ce_1 (by decide) ?_
  refine lv_aload_n S.1 S.2.1 dJ5_append_cf1ce_9 rfl (lv_at hl 1 rfl) ?_
  refine pk_cVIr (As := []) (rest := []) S hK hST hW (c_J0_length_8abf5_k hj) mc_J0_length_8abf5 wd_994 wd_995 wd_996 rfl np_J0_length_8abf5 (vk_recv (i := j) (adK := fun i => ζ (261 + i)) hST.2.strs hj hW.2.2) rfl hl.1 rfl (Nat.le_of_ble_eq_true rfl) dJ5_append_cf1ce_10 ⟨Nat.le_of_ble_eq_true rfl, Nat.le_of_ble_eq_true rfl⟩ ⟨Nat.le_of_ble_eq_true rfl, Nat.le_of_ble_eq_true rfl⟩ (fun r L_1 F_2 H_3 l_4 hp hW => ?_)
  obtain ⟨rfl, rfl, rfl⟩ := hp
  refine lv_istore_n (lv' := [(2, .int (nI j)), (0, .ref b), (1, .ref (ζ (261 + j)))]) S.1 S.2.1 dJ5_append_cf1ce_13 rfl hl (Nat.le_of_ble_eq_true rfl) rfl (fun ls hl => ?_)
  refine lv_aload_n S.1 S.2.1 dJ5_append_cf1ce_14 rfl (lv_at hl 1 rfl) ?_
  refine lv_aload_n S.1 S.2.1 dJ5_append_cf1ce_15 rfl (lv_at hl 1 rfl) ?_
  refine pk_get S hK hW 3 m_b e_b rfl hinJ4 (by decide) wd_815 rfl dJ5_append_cf1ce_16 ?_
  refine lv_iload_n S.1 S.2.1 dJ5_append_cf1ce_19 rfl (lv_at hl 0 rfl) ?_
  refine lv_iadd S.1 S.2.1 dJ5_append_cf1ce_20 ?_
  refine lv_topi (fun y_5 ey_5 => ?_)
  have ey_5 : y_5 = nI (cnt + j) := ey_5.trans ((nI_add _ _))
  subst ey_5
  refine pk_cPV (As := [.int (nI (cnt + j))]) (rest := []) S hK hST hW (c_J5_ensureCapacityInternal_d00df_grow m_b m_v n_b_v e_b e_v hg hgr hcn) mc_J5_ensureCapacityInternal_d00df wd_828 wd_830 wn_47 wd_1654 np_J5_ensureCapacityInternal_d00df m_b e_b rfl rfl hl.1 rfl (Nat.le_of_ble_eq_true rfl) dJ5_append_cf1ce_21 ⟨Nat.le_of_ble_eq_true rfl, Nat.le_of_ble_eq_true rfl⟩ ⟨Nat.le_of_ble_eq_true rfl, by rw [Nat.zero_add]; exact Nat.le_refl _⟩ (fun L1 F1 H1 l1 hp hW => ?_)
  obtain ⟨hsub1, ⟨q, g1, hq_q, m_q, n_b_q, e_b, e_q, hg1⟩, hfr1⟩ := hp
  have m_b := hsub1 _ m_b
  have hfr : ∀ x ∈ L, x ≠ b → F1 x = F x := hfr1
  refine lv_aload_n S.1 S.2.1 dJ5_append_cf1ce_24 rfl (lv_at hl 1 rfl) ?_
  refine lv_aload_n S.1 S.2.1 dJ5_append_cf1ce_25 rfl (lv_at hl 1 rfl) ?_
  refine pk_get S hK hW 3 m_b e_b rfl hinJ4 (by decide) wd_815 rfl dJ5_append_cf1ce_26 ?_
  refine lv_aload_n S.1 S.2.1 dJ5_append_cf1ce_29 rfl (lv_at hl 2 rfl) ?_
  refine pk_cPV (As := [.int (nI cnt), .ref (ζ (261 + j))]) (rest := []) S hK hST hW (c_J5_putStringAt_47b60_k m_b m_q e_b e_q hg1 hj (k := cnt) (by omega) (by omega)) mc_J5_putStringAt_47b60 wd_1003 wd_1005 wn_51 wd_1660 np_J5_putStringAt_47b60 m_b e_b rfl rfl hl.1 rfl (Nat.le_of_ble_eq_true rfl) dJ5_append_cf1ce_30 ⟨Nat.le_of_ble_eq_true rfl, Nat.le_of_ble_eq_true rfl⟩ ⟨Nat.le_of_ble_eq_true rfl, by rw [Nat.add_zero, Nat.zero_add]; exact Nat.le_refl _⟩ (fun L9 F9 H9 l9 hp hW => ?_)
  obtain ⟨rfl, ⟨g9, e9, hg9⟩, hf9⟩ := hp
  have e_b : F9 b = .inr (1, [.ref q, .int 0, .int ml, .int (nI cnt)]) := (hf9 b n_b_q).trans e_b
  have e_q := e9
  have hfr : ∀ x ∈ L, x ≠ b → F9 x = F x := fun x hx xb => (hf9 x (fun (ee : x = q) => hq_q (ee ▸ hx))).trans (hfr x hx xb)
  refine lv_aload_n S.1 S.2.1 dJ5_append_cf1ce_33 rfl (lv_at hl 1 rfl) ?_
  refine lv_dup S.1 S.2.1 dJ5_append_cf1ce_34 rfl ?_
  refine pk_get S hK hW 3 m_b e_b rfl hinJ4 (by decide) wd_815 rfl dJ5_append_cf1ce_35 ?_
  refine lv_iload_n S.1 S.2.1 dJ5_append_cf1ce_38 rfl (lv_at hl 0 rfl) ?_
  refine lv_iadd S.1 S.2.1 dJ5_append_cf1ce_39 ?_
  refine lv_topi (fun y_6 ey_6 => ?_)
  have ey_6 : y_6 = nI (cnt + j) := ey_6.trans ((nI_add _ _))
  subst ey_6
  refine pk_put (v := .int (nI (cnt + j))) S hK hW 3 m_b e_b rfl hinJ4 tyJ4_ok nmJ4 (by decide) wd_815 rfl rfl rfl rfl (Nat.le_of_ble_eq_true rfl) dJ5_append_cf1ce_40 (fun H_7 l_8 hW => ?_)
  have e_b : (va_up F9 b (.inr (1, ([.ref q, .int 0, .int ml, .int (nI cnt)] : List Value).set 3 (.int (nI (cnt + j)))))) b = .inr (1, [.ref q, .int 0, .int ml, .int (nI (cnt + j))]) := up_eq
  have e_q : (va_up F9 b (.inr (1, ([.ref q, .int 0, .int ml, .int (nI cnt)] : List Value).set 3 (.int (nI (cnt + j)))))) q = .inl (κ 1, (cap + max (cnt + j - cap) (cap + 2)), .inl g9) := (up_ne n_b_q.symm).trans e_q
  have hfr : ∀ x ∈ L, x ≠ b → (va_up F9 b (.inr (1, ([.ref q, .int 0, .int ml, .int (nI cnt)] : List Value).set 3 (.int (nI (cnt + j)))))) x = F x := fun x hx xb => (up_ne xb).trans (hfr x hx xb)
  generalize va_up F9 b (.inr (1, ([.ref q, .int 0, .int ml, .int (nI cnt)] : List Value).set 3 (.int (nI (cnt + j))))) = F_9 at hW e_b e_q hfr
  refine lv_aload_n S.1 S.2.1 dJ5_append_cf1ce_43 rfl (lv_at hl 1 rfl) ?_
  exact pk_rret S hr (Or.inl ⟨_, rfl⟩) hlk hW ⟨rfl, hsub1, ⟨q, g9, hq_q, m_q, n_b_q, e_b, e_q, hg9⟩, hfr⟩ (by decide) (by rw [Nat.zero_add]; exact Nat.le_refl _) dJ5_append_cf1ce_44
theorem mc_J4_append_15ec4 : MCode yJ4_append_15ec4 cJ4_append_15ec4 2 (some (.object "java/lang/StringBuilder")) := ⟨wd_983, wd_27, by decide, by decide⟩
theorem np_J4_append_15ec4 : (parseMethodDescriptor yJ4_append_15ec4.desc).map (fun d => d.parameters.length) = some 1 := by decide +kernel
set_option maxHeartbeats 4000000 in
set_option maxRecDepth 100000 in
theorem c_J4_append_15ec4_fit {l : Launch} {D : va_G} {κ : Nat → ClassId} {ζ : Nat → Nat} {L : List Nat} {F : Nat → va_E} {b v cap cnt : Nat} {ml : Int32} {g : Nat → Int32} (m_b : b ∈ L) (m_v : v ∈ L) (n_b_v : b ≠ v) (e_b : F b = .inr (1, [.ref v, .int 0, .int ml, .int (nI cnt)])) (e_v : F v = .inl (κ 1, cap, .inl g)) (hg : ∀ j, fits .byte (.int (g j)) = true) {j : Nat} (hj : j < 2) (hfit : cnt + j ≤ cap) (hcp : cap ≤ 300000) : MtR l D cls (ty5 κ) ζ yJ4_append_15ec4 cJ4_append_15ec4 2 (some (.object "java/lang/StringBuilder")) 6 0 0 ([.ref b, .ref (ζ (261 + j))] : List Value) L F (fun r L' F' => b = r ∧ L = L' ∧ F' b = .inr (1, [.ref v, .int 0, .int ml, .int (nI (cnt + j))]) ∧ (∃ g', F' v = .inl (κ 1, cap, .inl g') ∧ ∀ j, fits .byte (.int (g' j)) = true) ∧ ∀ q, q ≠ b → q ≠ v → F' q = F q) := by
  refine MtR.of (by decide) (Nat.le_of_ble_eq_true rfl) ?_
  intro p e s m below meth c S hr hlk hini hK hW hST ls hl
  have hl : lv_has ls 2 [(0, .ref b), (1, .ref (ζ (261 + j)))] := hl
  refine lv_aload_n S.1 S.2.1 dJ4_append_15ec4_0 rfl (lv_at hl 0 rfl) ?_
  refine lv_aload_n S.1 S.2.1 dJ4_append_15ec4_1 rfl (lv_at hl 1 rfl) ?_
  refine pk_cWR (As := [.ref (ζ (261 + j))]) (rest := []) S hK hST hW (c_J5_append_cf1ce_fit m_b m_v n_b_v e_b e_v hg hj hfit hcp) mc_J5_append_cf1ce wd_984 wd_985 wd_1658 wd_820 (by decide) np_J5_append_cf1ce m_b e_b rfl rfl hl.1 rfl (Nat.le_of_ble_eq_true rfl) dJ4_append_15ec4_2 ⟨Nat.le_of_ble_eq_true rfl, Nat.le_of_ble_eq_true rfl⟩ ⟨Nat.le_of_ble_eq_true rfl, Nat.le_of_ble_eq_true rfl⟩ (fun r L_1 F_2 H_3 l_4 hp hW => ?_)
  obtain ⟨rfl, hp⟩ := hp
  refine lv_pop S.1 S.2.1 dJ4_append_15ec4_5 rfl ?_
  refine lv_aload_n S.1 S.2.1 dJ4_append_15ec4_6 rfl (lv_at hl 0 rfl) ?_
  exact pk_rret S hr (Or.inl ⟨_, rfl⟩) hlk hW ⟨rfl, hp⟩ (by decide) (by decide) dJ4_append_15ec4_7
set_option maxHeartbeats 4000000 in
set_option maxRecDepth 100000 in
theorem c_J4_append_15ec4_grow {l : Launch} {D : va_G} {κ : Nat → ClassId} {ζ : Nat → Nat} {L : List Nat} {F : Nat → va_E} {b v cap cnt : Nat} {ml : Int32} {g : Nat → Int32} (m_b : b ∈ L) (m_v : v ∈ L) (n_b_v : b ≠ v) (e_b : F b = .inr (1, [.ref v, .int 0, .int ml, .int (nI cnt)])) (e_v : F v = .inl (κ 1, cap, .inl g)) (hg : ∀ j, fits .byte (.int (g j)) = true) {j : Nat} (hj : j < 2) (hgr : cap < cnt + j) (hcn : cnt + j ≤ 100000) : MtR l D cls (ty5 κ) ζ yJ4_append_15ec4 cJ4_append_15ec4 2 (some (.object "java/lang/StringBuilder")) 6 1 (cap + max (cnt + j - cap) (cap + 2)) ([.ref b, .ref (ζ (261 + j))] : List Value) L F (fun r L' F' => b = r ∧ (∀ x ∈ L, x ∈ L') ∧ (∃ q g', q ∉ L ∧ q ∈ L' ∧ b ≠ q ∧ F' b = .inr (1, [.ref q, .int 0, .int ml, .int (nI (cnt + j))]) ∧ F' q = .inl (κ 1, (cap + max (cnt + j - cap) (cap + 2)), .inl g') ∧ ∀ j, fits .byte (.int (g' j)) = true) ∧ ∀ x ∈ L, x ≠ b → F' x = F x) := by
  refine MtR.of (by decide) (Nat.le_of_ble_eq_true rfl) ?_
  intro p e s m below meth c S hr hlk hini hK hW hST ls hl
  have hl : lv_has ls 2 [(0, .ref b), (1, .ref (ζ (261 + j)))] := hl
  refine lv_aload_n S.1 S.2.1 dJ4_append_15ec4_0 rfl (lv_at hl 0 rfl) ?_
  refine lv_aload_n S.1 S.2.1 dJ4_append_15ec4_1 rfl (lv_at hl 1 rfl) ?_
  refine pk_cWR (As := [.ref (ζ (261 + j))]) (rest := []) S hK hST hW (c_J5_append_cf1ce_grow m_b m_v n_b_v e_b e_v hg hj hgr hcn) mc_J5_append_cf1ce wd_984 wd_985 wd_1658 wd_820 (by decide) np_J5_append_cf1ce m_b e_b rfl rfl hl.1 rfl (Nat.le_of_ble_eq_true rfl) dJ4_append_15ec4_2 ⟨Nat.le_of_ble_eq_true rfl, Nat.le_of_ble_eq_true rfl⟩ ⟨Nat.le_of_ble_eq_true rfl, by rw [Nat.zero_add]; exact Nat.le_refl _⟩ (fun r L_1 F_2 H_3 l_4 hp hW => ?_)
  obtain ⟨rfl, hp⟩ := hp
  refine lv_pop S.1 S.2.1 dJ4_append_15ec4_5 rfl ?_
  refine lv_aload_n S.1 S.2.1 dJ4_append_15ec4_6 rfl (lv_at hl 0 rfl) ?_
  exact pk_rret S hr (Or.inl ⟨_, rfl⟩) hlk hW ⟨rfl, hp⟩ (by decide) (by rw [Nat.zero_add]; exact Nat.le_refl _) dJ4_append_15ec4_7
/-- append("" or " "), be it that it fits or that it grows -/
theorem c_SBk {l : Launch} {D : va_G} {κ : Nat → ClassId} {ζ : Nat → Nat} {L : List Nat} {F : Nat → va_E} {b v cap cnt : Nat} (h : SB κ b v cap cnt L F) {j : Nat} (hj : j < 2) (hcn : cnt + j ≤ 100000) (hcp : cap ≤ 300000) : MtR l D cls (ty5 κ) ζ yJ4_append_15ec4 cJ4_append_15ec4 2 (some (.object "java/lang/StringBuilder")) 6 (gmc cap (cnt + j)) (gms cap (cnt + j)) [.ref b, .ref (ζ (261 + j))] L F (fun r L' F' => b = r ∧ (∀ x ∈ L, x ∈ L') ∧ (∃ v', (v' = v ∨ v' ∉ L) ∧ SB κ b v' (ncap cap (cnt + j)) (cnt + j) L' F') ∧ ∀ x ∈ L, x ≠ b → x ≠ v → F' x = F x) := by
  obtain ⟨m_b, m_v, n_b_v, hle, ⟨ml, e_b⟩, g, hg, e_v⟩ := h
  by_cases hf : cnt + j ≤ cap
  · rw [show gmc cap (cnt + j) = 0 from if_pos hf, show gms cap (cnt + j) = 0 from if_pos hf, show ncap cap (cnt + j) = cap from if_pos hf]
    refine MtR.imp (c_J4_append_15ec4_fit m_b m_v n_b_v e_b e_v hg hj hf hcp) (fun r L' F' hp => ?_)
    obtain ⟨rfl, rfl, h1, ⟨g', h2, h3⟩, h4⟩ := hp
    exact ⟨rfl, fun x hx => hx, ⟨v, Or.inl rfl, m_b, m_v, n_b_v, hf, ⟨ml, h1⟩, g', h3, h2⟩, fun x _ x1 x2 => h4 x x1 x2⟩
  · rw [show gmc cap (cnt + j) = 1 from if_neg hf, show gms cap (cnt + j) = _ from if_neg hf, show ncap cap (cnt + j) = _ from if_neg hf]
    refine MtR.imp (c_J4_append_15ec4_grow m_b m_v n_b_v e_b e_v hg hj (by omega) hcn) (fun r L' F' hp => ?_)
    obtain ⟨rfl, h0, ⟨q, g', h1, h2, h3, h4, h5, h6⟩, h7⟩ := hp
    exact ⟨rfl, h0, ⟨q, Or.inr h1, h0 _ m_b, h2, h3, by omega, ⟨ml, h4⟩, g', h6, h5⟩, fun x hx x1 _ => h7 x hx x1⟩
end
section
/-! text() -/
theorem CI.keep {κ : Nat → ClassId} {A : Nat → Nat} {σ : CS} {L L' : List Nat} {F F' : Nat → va_E} (hI : CI κ A σ L F) (hsub : ∀ x ∈ L, x ∈ L') (hfr : ∀ x ∈ L, F' x = F x) : CI κ A σ L' F' := by
  obtain ⟨h1, h2, h3, h4, h5, h6⟩ := hI
  have hm : ∀ i, i < 18 → F' (A i) = F (A i) := fun i hi => hfr _ (h1 i hi)
  exact ⟨fun i hi => hsub _ (h1 i hi), h2, (hm 0 (by omega)).trans h3, fun i hi => ⟨(hm _ (by omega)).trans (h4 i hi).1, (hm _ (by omega)).trans (h4 i hi).2⟩, (hm 15 (by omega)).trans h5, fun j hj => (hm _ (by omega)).trans (h6 j hj)⟩
theorem gm34 {cap m : Nat} (h : 16 ≤ cap) : 34 * gmc cap m ≤ gms cap m := by
  unfold gmc gms
  by_cases e : m ≤ cap
  · rw [if_pos e, if_pos e]; omega
  · rw [if_neg e, if_neg e]; omega
theorem rd_code {n : Nat} {ρ : RS} (hn : n < 2147483648) (hc : ∀ j, ∃ v, v < 1000 ∧ ρ.1 j = nI v) (x : Int32) : ∃ v, v < 1000 ∧ f_X0_read n ρ x = some (nI v) := by
  unfold f_X0_read
  by_cases h1 : x < 0
  · exact ⟨0, by omega, by rw [if_pos h1]; rfl⟩
  · rw [if_neg h1]
    by_cases h2 : ρ.2 ≤ x
    · exact ⟨0, by omega, by rw [if_pos h2]; rfl⟩
    · rw [if_neg h2]
      by_cases h3 : nI n ≤ x
      · exact ⟨0, by omega, by rw [if_pos h3]; rfl⟩
      · rw [if_neg h3]
        obtain ⟨j, hj, e⟩ := nI_of h1
        subst e
        have hjn : j < n := Nat.lt_of_not_le (fun q => h3 ((nI_leI (by omega) (by omega)).mpr q))
        rw [if_neg (by rw [nI_clamp hj]; intro q; rcases q with q | q; exact h1 q; omega)]
        obtain ⟨v, hv, e⟩ := hc (nI j).toNatClampNeg
        exact ⟨v, hv, by rw [e]⟩
theorem rdf_code {n : Nat} {ρ : RS} (hn : n < 2147483648) (hc : ∀ j, ∃ v, v < 1000 ∧ ρ.1 j = nI v) (x1 x2 : Int32) : ∃ v, v < 1000 ∧ f_X0_readFrom n ρ x1 x2 = some (nI v) := by
  unfold f_X0_readFrom
  by_cases h1 : x1 = 0
  · obtain ⟨v, hv, e⟩ := rd_code hn hc x2
    exact ⟨v, hv, by rw [if_pos h1]; unfold f_X0_readFrom_17; rw [e]; rfl⟩
  · obtain ⟨v, hv, e⟩ := rd_code hn hc ((ρ.2 - 1) - x2)
    exact ⟨v, hv, by rw [if_neg h1]; unfold f_X0_readFrom_17; rw [e]; rfl⟩
theorem cap_lt (i : Nat) : cap i < 2147483648 := by
  unfold cap
  split
  · decide
  · split <;> decide

theorem mc_X3_text : MCode yX3_text cX3_text 6 (some (.object "java/lang/String")) := ⟨wd_794, wd_1, by decide, by decide⟩
theorem np_X3_text : (parseMethodDescriptor yX3_text.desc).map (fun d => d.parameters.length) = some 2 := by decide +kernel
set_option maxHeartbeats 4000000 in
set_option maxRecDepth 100000 in
theorem c_X3_text {l : Launch} {D : va_G} {κ : Nat → ClassId} {ζ : Nat → Nat} {L : List Nat} {F : Nat → va_E} {σ : CS} {A : Nat → Nat} (hst : l.stackTraces = false) (hI : CI κ A σ L F) (x1 x2 : Int32) (hcn : ∀ i, i < 2 → ∃ k, k ≤ 20 ∧ (σ.1 i).2 = nI k) (hcc : ∀ i, i < 2 → ∀ u p, ∃ v, v < 1000 ∧ f_X0_readFrom (cap i) (σ.1 i) u p = some (nI v)) : MxR l D cls (ty5 κ) ζ yX3_text cX3_text 6 (some (.object "java/lang/String")) 8 13 400 ([.ref (A 0), .int x1, .int x2] : List Value) L F (fun r L' F' => (∀ x ∈ L, x ∈ L') ∧ r ∈ L' ∧ ∀ x ∈ L, F' x = F x) (fun E => ∃ k, f_X3_needTrack x1 = some (.inl k) ∧ E = xName k) := by
  refine MxR.of (by decide) (Nat.le_of_ble_eq_true rfl) ?_
  intro p e s m below meth c S hr hlk hxt hK hW hST ls hl
  have hl : lv_has ls 6 [(0, .ref (A 0)), (1, .int x1), (2, .int x2)] := hl
  refine lv_iload_n S.1 S.2.1 dX3_text_0 rfl (lv_at hl 1 rfl) ?_
  obtain ⟨zt, hzt⟩ : ∃ z, f_X3_needTrack x1 = some z := by
    unfold f_X3_needTrack
    split
    · exact ⟨_, rfl⟩
    · split <;> exact ⟨_, rfl⟩
  refine xk_cSV (As := [.int x1]) (rest := []) S hK hST hW (c_X3_needTrack hst x1 hzt) mc_X3_needTrack wd_359 wd_360 np_X3_needTrack rfl hl.1 rfl (Nat.le_of_ble_eq_true rfl) dX3_text_1 ⟨Nat.le_of_ble_eq_true rfl, Nat.le_of_ble_eq_true rfl⟩ ⟨Nat.le_of_ble_eq_true rfl, Nat.le_of_ble_eq_true rfl⟩ (fun E ce q9 H26 l27 hE hW h1 h2 h3 => ?_) (fun L24 F25 H26 l27 hp hW => ?_)
  · obtain ⟨k, hk1, hk2⟩ := hE
    exact xk_outR hxt hlk hW ⟨k, by rw [hzt, hk1], hk2⟩ h1 h2 h3 (by decide) (by decide)
  obtain ⟨rfl, rfl, _, _⟩ := hp
  refine lv_aload_n S.1 S.2.1 dX3_text_4 rfl (lv_at hl 0 rfl) ?_
  refine lv_iload_n S.1 S.2.1 dX3_text_5 rfl (lv_at hl 1 rfl) ?_
  obtain ⟨i0, hi2, hti⟩ : ∃ i, i < 2 ∧ f_X3_trackOf σ x1 = some i := by
    unfold f_X3_trackOf
    split
    · exact ⟨0, by omega, rfl⟩
    · exact ⟨1, by omega, rfl⟩
  refine pk_cVR (As := [.int x1]) (rest := []) S hK hST hW (c_X3_trackOf hI x1 hti) mc_X3_trackOf wd_130 wd_132 wd_1664 rfl np_X3_trackOf (hI.mem 0 (by decide)) hI.this rfl rfl hl.1 rfl (Nat.le_of_ble_eq_true rfl) dX3_text_6 ⟨Nat.le_of_ble_eq_true rfl, Nat.le_of_ble_eq_true rfl⟩ ⟨Nat.le_of_ble_eq_true rfl, Nat.le_of_ble_eq_true rfl⟩ (fun r L3 F4 H5 l6 hp hW => ?_)
  obtain ⟨rfl, rfl, hi7, rfl⟩ := hp
  have hsub : ∀ x ∈ L, x ∈ L := fun x hx => hx
  have hfr : ∀ x ∈ L, True → F x = F x := fun _ _ _ => rfl
  refine lv_astore_n (lv' := [(3, .ref (A (1 + 2 * i0))), (0, .ref (A 0)), (1, .int x1), (2, .int x2)]) S.1 S.2.1 dX3_text_9 rfl hl (Nat.le_of_ble_eq_true rfl) rfl (fun ls hl => ?_)
  refine pk_new (fs := [.null, .int 0, .int 0, .int 0]) (ci := 1) S hK hW hinJ4 tyJ4_ok wd_795 wd_796 wd_27 rfl (fun j hj => by match j, hj with | 0, _ => rfl | 1, _ => rfl | 2, _ => rfl | 3, _ => rfl | j + 4, hj => exact absurd hj (by omega)) (by decide) (by decide) dX3_text_10 (fun b H_1 hq_b hW => ?_)
  have e_b : (va_up F b (.inr (1, [.null, .int 0, .int 0, .int 0]))) b = .inr (1, [.null, .int 0, .int 0, .int 0]) := up_eq
  have m_b : b ∈ L ++ [b] := List.mem_append_right _ (List.mem_singleton.mpr rfl)
  have hnw_b : b ∉ L := fun ee => hq_b (hsub _ ee)
  have hfr : ∀ x ∈ L, True → (va_up F b (.inr (1, [.null, .int 0, .int 0, .int 0]))) x = F x := fun x hx ht => (up_ne (fun (ee : x = b) => hnw_b (ee ▸ hx))).trans (hfr x hx ht)
  have hsub : ∀ x ∈ L, x ∈ L ++ [b] := fun x hx => List.mem_append_left _ (hsub x hx)
  generalize va_up F b (.inr (1, [.null, .int 0, .int 0, .int 0])) = F_2 at hW e_b hfr
  generalize L ++ [b] = L_3 at hW m_b hsub
  refine lv_dup S.1 S.2.1 dX3_text_13 rfl ?_
  have hsub0 := hsub
  refine pk_cIV (As := []) (rest := [.ref b]) S hK hST hW (c_J4_init_da8c8 m_b e_b) mc_J4_init_da8c8 wd_797 wd_798 rfl rfl np_J4_init_da8c8 rfl hl.1 rfl (Nat.le_of_ble_eq_true rfl) dX3_text_14 ⟨Nat.le_of_ble_eq_true rfl, Nat.le_of_ble_eq_true rfl⟩ ⟨Nat.le_of_ble_eq_true rfl, Nat.le_of_ble_eq_true rfl⟩ (fun L1 F1 H1 l1 hp hW => ?_)
  obtain ⟨hsub1, ⟨q0, g0, hq_q, m_q, n_b_q, e_b, e_q, hg0⟩, hfr1⟩ := hp
  have hbL : b ∉ L := hnw_b
  have hqL : q0 ∉ L := fun hx => hq_q (hsub _ hx)
  have m_b := hsub1 _ m_b
  have hsub : ∀ x ∈ L, x ∈ L1 := fun x hx => hsub1 x (hsub x hx)
  have hfr : ∀ x ∈ L, F1 x = F x := fun x hx => (hfr1 x (hsub0 x hx) (fun (ee : x = b) => hbL (ee ▸ hx))).trans (hfr x hx trivial)
  have hSB : SB κ b q0 16 0 L1 F1 := ⟨m_b, m_q, n_b_q, by omega, ⟨0, e_b⟩, g0, hg0, e_q⟩
  refine lv_astore (lv' := [(4, .ref b), (3, .ref (A (1 + 2 * i0))), (0, .ref (A 0)), (1, .int x1), (2, .int x2)]) S.1 S.2.1 dX3_text_17 hl (Nat.le_of_ble_eq_true rfl) rfl (fun ls hl => ?_)
  refine lv_iconst (v := 0) S.1 S.2.1 dX3_text_19 (by decide) ?_
  refine lv_istore (lv' := [(5, .int 0), (4, .ref b), (3, .ref (A (1 + 2 * i0))), (0, .ref (A 0)), (1, .int x1), (2, .int x2)]) S.1 S.2.1 dX3_text_20 hl (Nat.le_of_ble_eq_true rfl) rfl (fun ls hl => ?_)
  obtain ⟨k0, hk20, hk0e⟩ := hcn i0 hi2
  have B22 : ∀ (N i : Nat), N + i = k0 → ∀ (L9 : List Nat) (F9 : Nat → va_E) (v cap cnt c9 s9 : Nat), (∀ x ∈ L, x ∈ L9) → (∀ x ∈ L, F9 x = F x) → v ∉ L → SB κ b v cap cnt L9 F9 → cnt ≤ 4 * i → 16 ≤ cap → cap ≤ 160 → s9 + 6 ≤ 2 * cap → 34 * c9 ≤ s9 + 76 → ∀ (H9 : Heap) (l9 : List Loc) (ls : Array Slot), HW D cls L s H9 l9 L9 F9 → lv_has ls 6 [(5, .int (nI i)), (4, .ref b), (3, .ref (A (1 + 2 * i0))), (0, .ref (A 0)), (1, .int x1), (2, .int x2)] → W p l e (Rm 8 13 400) s m ([.ref (A 0), .int x1, .int x2] : List Value).toArray below meth c H9 l9 c9 s9 (ExR D cls s below ([.ref (A 0), .int x1, .int x2] : List Value).toArray 13 400 L F (fun r L' F' => (∀ x ∈ L, x ∈ L') ∧ r ∈ L' ∧ ∀ x ∈ L, F' x = F x) (fun E => ∃ k, f_X3_needTrack x1 = some (.inl k) ∧ E = xName k)) (F0 m 22 ls []) := by
    intro N
    induction N with
    | zero =>
      intro i hN L9 F9 v cap cnt c9 s9 hsub hfr hvL hSB hcnt hc16 hc160 hs9 hc9 H9 l9 ls hW hl
      refine lv_iload S.1 S.2.1 dX3_text_22 (lv_at hl 0 rfl) ?_
      refine lv_aload_n S.1 S.2.1 dX3_text_24 rfl (lv_at hl 2 rfl) ?_
      refine pk_cVI (As := []) (rest := [.int (nI i)]) S hK hST hW (c_X0_size ((hI.keep hsub hfr).row (i := i0) (by omega)) (show f_X0_size _ _ = some _ from rfl)) mc_X0_size wd_140 wd_141 wd_142 rfl np_X0_size ((hI.keep hsub hfr).mem _ (by omega)) ((hI.keep hsub hfr).rowH (i := i0) (by omega)) rfl rfl hl.1 rfl (Nat.le_of_ble_eq_true rfl) dX3_text_25 ⟨Nat.le_of_ble_eq_true rfl, Nat.le_of_ble_eq_true rfl⟩ ⟨by show c9 + 0 ≤ 13; omega, by show s9 + 0 ≤ 400; omega⟩ (fun r L8 F8 H8 l8 hp hW => ?_)
      obtain ⟨rfl, rfl, rfl⟩ := hp
      rw [hk0e, Nat.add_zero, Nat.add_zero]
      refine lv_icmp_ge (tgt := 63) S.1 S.2.1 dX3_text_28 (by decide) (fun _ => ?_) (fun c1 => absurd (nI_le (by omega) (by omega)) c1)
      refine lv_aload S.1 S.2.1 dX3_text_63 (lv_at hl 1 rfl) ?_
      obtain ⟨m_b, m_v, n_b_v, hle, ⟨ml, e_b⟩, g, hg, e_v⟩ := hSB
      refine pk_cVR (As := []) (rest := []) S hK hST hW (c_J4_toString_0e30d m_b m_v n_b_v e_b e_v hg hle (by omega)) mc_J4_toString_0e30d wd_939 wd_940 wd_941 rfl np_J4_toString_0e30d m_b e_b rfl rfl hl.1 rfl (Nat.le_of_ble_eq_true rfl) dX3_text_65 ⟨Nat.le_of_ble_eq_true rfl, Nat.le_of_ble_eq_true rfl⟩ ⟨by show c9 + 2 ≤ 13; omega, by show s9 + (4 + cnt) ≤ 400; omega⟩ (fun r L8 F8 H8 l8 hp hW => ?_)
      obtain ⟨hs1, hr1, ⟨q1, hq1, hSS⟩, hf1⟩ := hp
      exact xk_rret S hr (Or.inl ⟨_, rfl⟩) hlk hW ⟨fun x hx => hs1 x (hsub x hx), hSS.1, fun x hx => (hf1 x (hsub x hx)).trans (hfr x hx)⟩ (by show c9 + 2 ≤ 13; omega) (by show s9 + (4 + cnt) ≤ 400; omega) dX3_text_68
    | succ N ih =>
      intro i hN L9 F9 v cap cnt c9 s9 hsub hfr hvL hSB hcnt hc16 hc160 hs9 hc9 H9 l9 ls hW hl
      refine lv_iload S.1 S.2.1 dX3_text_22 (lv_at hl 0 rfl) ?_
      refine lv_aload_n S.1 S.2.1 dX3_text_24 rfl (lv_at hl 2 rfl) ?_
      refine pk_cVI (As := []) (rest := [.int (nI i)]) S hK hST hW (c_X0_size ((hI.keep hsub hfr).row (i := i0) (by omega)) (show f_X0_size _ _ = some _ from rfl)) mc_X0_size wd_140 wd_141 wd_142 rfl np_X0_size ((hI.keep hsub hfr).mem _ (by omega)) ((hI.keep hsub hfr).rowH (i := i0) (by omega)) rfl rfl hl.1 rfl (Nat.le_of_ble_eq_true rfl) dX3_text_25 ⟨Nat.le_of_ble_eq_true rfl, Nat.le_of_ble_eq_true rfl⟩ ⟨by show c9 + 0 ≤ 13; omega, by show s9 + 0 ≤ 400; omega⟩ (fun r L8 F8 H8 l8 hp hW => ?_)
      obtain ⟨rfl, rfl, rfl⟩ := hp
      rw [hk0e, Nat.add_zero, Nat.add_zero]
      refine lv_icmp_ge (tgt := 63) S.1 S.2.1 dX3_text_28 (by decide) (fun c1 => absurd c1 (nI_ge (by omega) (by omega))) (fun _ => ?_)
      have T44 : ∀ (L9 : List Nat) (F9 : Nat → va_E) (v cap cnt c9 s9 : Nat), (∀ x ∈ L, x ∈ L9) → (∀ x ∈ L, F9 x = F x) → v ∉ L → SB κ b v cap cnt L9 F9 → cnt ≤ 4 * i + 1 → 16 ≤ cap → cap ≤ 160 → s9 + 6 ≤ 2 * cap → 34 * c9 ≤ s9 + 76 → ∀ (H9 : Heap) (l9 : List Loc) (ls : Array Slot), HW D cls L s H9 l9 L9 F9 → lv_has ls 6 [(5, .int (nI i)), (4, .ref b), (3, .ref (A (1 + 2 * i0))), (0, .ref (A 0)), (1, .int x1), (2, .int x2)] → W p l e (Rm 8 13 400) s m ([.ref (A 0), .int x1, .int x2] : List Value).toArray below meth c H9 l9 c9 s9 (ExR D cls s below ([.ref (A 0), .int x1, .int x2] : List Value).toArray 13 400 L F (fun r L' F' => (∀ x ∈ L, x ∈ L') ∧ r ∈ L' ∧ ∀ x ∈ L, F' x = F x) (fun E => ∃ k, f_X3_needTrack x1 = some (.inl k) ∧ E = xName k)) (F0 m 44 ls []) := by
        intro L9 F9 v cap cnt c9 s9 hsub hfr hvL hSB hcnt hc16 hc160 hs9 hc9 H9 l9 ls hW hl
        obtain ⟨z, hz, hzr⟩ := hcc i0 hi2 x2 (nI i)
        refine lv_aload S.1 S.2.1 dX3_text_44 (lv_at hl 1 rfl) ?_
        refine lv_aload_n S.1 S.2.1 dX3_text_46 rfl (lv_at hl 2 rfl) ?_
        refine lv_iload_n S.1 S.2.1 dX3_text_47 rfl (lv_at hl 5 rfl) ?_
        refine lv_iload S.1 S.2.1 dX3_text_48 (lv_at hl 0 rfl) ?_
        refine pk_cVI (As := [.int x2, .int (nI i)]) (rest := [.ref b]) S hK hST hW (c_X0_readFrom ((hI.keep hsub hfr).row (i := i0) (by omega)) x2 (nI i) hzr) mc_X0_readFrom wd_225 wd_226 wd_227 rfl np_X0_readFrom ((hI.keep hsub hfr).mem _ (by omega)) ((hI.keep hsub hfr).rowH (i := i0) (by omega)) rfl rfl hl.1 rfl (Nat.le_of_ble_eq_true rfl) dX3_text_50 ⟨Nat.le_of_ble_eq_true rfl, Nat.le_of_ble_eq_true rfl⟩ ⟨by show c9 + 0 ≤ 13; omega, by show s9 + 0 ≤ 400; omega⟩ (fun r L7 F7 H7 l7 hp hW => ?_)
        obtain ⟨rfl, rfl, rfl⟩ := hp
        rw [Nat.add_zero, Nat.add_zero]
        have hp1 := ncap_pot cap (cnt + sdg z)
        have hp2 := gm34 (cap := cap) (m := cnt + sdg z) hc16
        have hp3 := sdg_le z
        obtain ⟨ml, e_b⟩ := hSB.2.2.2.2.1
        refine pk_cVR (As := [.int (nI z)]) (rest := []) S hK hST hW (c_SBi hSB hz (by omega) (by omega)) mc_J4_append_bf812 wd_907 wd_908 wd_909 rfl np_J4_append_bf812 hSB.1 e_b rfl rfl hl.1 rfl (Nat.le_of_ble_eq_true rfl) dX3_text_53 ⟨Nat.le_of_ble_eq_true rfl, Nat.le_of_ble_eq_true rfl⟩ ⟨by show c9 + gmc cap (cnt + sdg z) ≤ 13; omega, by show s9 + gms cap (cnt + sdg z) ≤ 400; omega⟩ (fun r L8 F8 H8 l8 hp hW => ?_)
        obtain ⟨rfl, hs1, ⟨v1, hv1, hSB1⟩, hf1⟩ := hp
        have hsub1 : ∀ x ∈ L, x ∈ L8 := fun x hx => hs1 x (hsub x hx)
        have hfr1 : ∀ x ∈ L, F8 x = F x := fun x hx => (hf1 x (hsub x hx) (fun (ee : x = b) => hbL (ee ▸ hx)) (fun (ee : x = v) => hvL (ee ▸ hx))).trans (hfr x hx)
        have hv1L : v1 ∉ L := fun hx => hv1.elim (fun ee => hvL (ee ▸ hx)) (fun hn => hn (hsub _ hx))
        refine lv_pop S.1 S.2.1 dX3_text_56 rfl ?_
        refine lv_iinc (lv' := [(5, .int (nI (i + 1))), (4, .ref b), (3, .ref (A (1 + 2 * i0))), (0, .ref (A 0)), (1, .int x1), (2, .int x2)]) S.1 S.2.1 dX3_text_57 hl (k := 0) rfl (nI_1 i) (by decide) rfl (fun ls hl => ?_)
        refine lv_goto (tgt := 22) S.1 S.2.1 dX3_text_60 (by decide) ?_
        exact ih (i + 1) (by omega) _ _ v1 _ _ _ _ hsub1 hfr1 hv1L hSB1 (by omega) (by omega) (by omega) (by omega) (by omega) _ _ _ hW hl
      refine lv_iload S.1 S.2.1 dX3_text_31 (lv_at hl 0 rfl) ?_
      refine lv_if_le (tgt := 44) S.1 S.2.1 dX3_text_33 (by decide) (fun _ => T44 _ _ v _ _ _ _ hsub hfr hvL hSB (by omega) hc16 hc160 hs9 hc9 _ _ _ hW hl) (fun c1 => ?_)
      refine lv_aload S.1 S.2.1 dX3_text_36 (lv_at hl 1 rfl) ?_
      refine lv_bipush (v := 32) S.1 S.2.1 dX3_text_38 (by decide) ?_
      have hp1 := ncap_pot cap (cnt + 1)
      have hp2 := gm34 (cap := cap) (m := cnt + 1) hc16
      obtain ⟨ml, e_b⟩ := hSB.2.2.2.2.1
      refine pk_cVR (As := [.int 32]) (rest := []) S hK hST hW (c_SBc hSB (ch := 32) (by decide) (by omega) (by omega)) mc_J4_append_cf468 wd_821 wd_822 wd_823 rfl np_J4_append_cf468 hSB.1 e_b rfl rfl hl.1 rfl (Nat.le_of_ble_eq_true rfl) dX3_text_40 ⟨Nat.le_of_ble_eq_true rfl, Nat.le_of_ble_eq_true rfl⟩ ⟨by show c9 + gmc cap (cnt + 1) ≤ 13; omega, by show s9 + gms cap (cnt + 1) ≤ 400; omega⟩ (fun r L8 F8 H8 l8 hp hW => ?_)
      obtain ⟨rfl, hs1, ⟨v1, hv1, hSB1⟩, hf1⟩ := hp
      have hsub1 : ∀ x ∈ L, x ∈ L8 := fun x hx => hs1 x (hsub x hx)
      have hfr1 : ∀ x ∈ L, F8 x = F x := fun x hx => (hf1 x (hsub x hx) (fun (ee : x = b) => hbL (ee ▸ hx)) (fun (ee : x = v) => hvL (ee ▸ hx))).trans (hfr x hx)
      have hv1L : v1 ∉ L := fun hx => hv1.elim (fun ee => hvL (ee ▸ hx)) (fun hn => hn (hsub _ hx))
      refine lv_pop S.1 S.2.1 dX3_text_43 rfl ?_
      exact T44 _ _ v1 _ _ _ _ hsub1 hfr1 hv1L hSB1 (by omega) (by omega) (by omega) (by omega) (by omega) _ _ _ hW hl
  exact B22 k0 0 (by omega) _ _ q0 _ _ _ _ hsub hfr hqL hSB (by omega) (by omega) (by omega) (by decide) (by decide) _ _ _ hW (show lv_has ls 6 [(5, .int (nI 0)), (4, .ref b), (3, .ref (A (1 + 2 * i0))), (0, .ref (A 0)), (1, .int x1), (2, .int x2)] from hl)
end
section
/-! textOf() and text() of the model -/
theorem lget_in {xs : List Int32} {j : Nat} (h : j < xs.length) (hb : xs.length < 2147483648) : lget xs (nI j) = some (xs.getD j 0) := by
  unfold lget
  have hc : (nI j).toNatClampNeg = j := nI_clamp (by omega)
  rw [hc, if_neg (by intro q; rcases q with q | q; exact nI_pos (by omega) q; omega)]
/-- how long a text is, after i pieces -/
def tlG (xs : List Int32) (x2 : Int32) : Nat → Nat
  | 0 => 0
  | i + 1 => tlG xs x2 i + (if i = 0 then 0 else 1) + sdg ((xs.getD (if x2 = 0 then i else xs.length - 1 - i) 0).toNatClampNeg)
theorem mc_X6_textOf : MCode yX6_textOf cX6_textOf 5 (some (.object "java/lang/String")) := ⟨wd_1557, wd_5, by decide, by decide⟩
theorem np_X6_textOf : (parseMethodDescriptor yX6_textOf.desc).map (fun d => d.parameters.length) = some 2 := by decide +kernel
set_option maxHeartbeats 4000000 in
set_option maxRecDepth 100000 in
theorem c_X6_textOf {l : Launch} {D : va_G} {κ : Nat → ClassId} {ζ : Nat → Nat} {L : List Nat} {F : Nat → va_E} {τ : MS} {B : Nat → Nat} (hI : MI κ ζ B τ L F) (x1 x2 : Int32) {t k0 : Nat} (ht : gtr x1 = some t) (hk0 : k0 = (τ.1 t).length) (hk20 : k0 ≤ 20) (hcc : ∀ j, j < k0 → ∃ v, v < 1000 ∧ (τ.1 t).getD j 0 = nI v) : MtR l D cls (ty5 κ) ζ yX6_textOf cX6_textOf 5 (some (.object "java/lang/String")) 8 13 429 ([.ref (B 0), .int x1, .int x2] : List Value) L F (fun r L' F' => (∀ x ∈ L, x ∈ L') ∧ r ∉ L ∧ (∃ q, q ∉ L ∧ SS κ r q (tlG (τ.1 t) x2 k0) L' F') ∧ ∀ x ∈ L, F' x = F x) := by
  refine MtR.of (by decide) (Nat.le_of_ble_eq_true rfl) ?_
  intro p e s m below meth c S hr hlk hini hK hW hST ls hl
  have hl : lv_has ls 5 [(0, .ref (B 0)), (1, .int x1), (2, .int x2)] := hl
  have hsz : f_X6_size τ x1 = some (nI k0) := by (unfold f_X6_size; rw [ht]; show some (nI (τ.1 t).length) = _; rw [← hk0])
  have hsub : ∀ x ∈ L, x ∈ L := fun x hx => hx
  have hfr : ∀ x ∈ L, True → F x = F x := fun _ _ _ => rfl
  refine pk_new (fs := [.null, .int 0, .int 0, .int 0]) (ci := 1) S hK hW hinJ4 tyJ4_ok wd_1558 wd_796 wd_27 rfl (fun j hj => by match j, hj with | 0, _ => rfl | 1, _ => rfl | 2, _ => rfl | 3, _ => rfl | j + 4, hj => exact absurd hj (by omega)) (by decide) (by decide) dX6_textOf_0 (fun b H_1 hq_b hW => ?_)
  have e_b : (va_up F b (.inr (1, [.null, .int 0, .int 0, .int 0]))) b = .inr (1, [.null, .int 0, .int 0, .int 0]) := up_eq
  have m_b : b ∈ L ++ [b] := List.mem_append_right _ (List.mem_singleton.mpr rfl)
  have hnw_b : b ∉ L := fun ee => hq_b (hsub _ ee)
  have hfr : ∀ x ∈ L, True → (va_up F b (.inr (1, [.null, .int 0, .int 0, .int 0]))) x = F x := fun x hx ht => (up_ne (fun (ee : x = b) => hnw_b (ee ▸ hx))).trans (hfr x hx ht)
  have hsub : ∀ x ∈ L, x ∈ L ++ [b] := fun x hx => List.mem_append_left _ (hsub x hx)
  generalize va_up F b (.inr (1, [.null, .int 0, .int 0, .int 0])) = F_2 at hW e_b hfr
  generalize L ++ [b] = L_3 at hW m_b hsub
  refine lv_dup S.1 S.2.1 dX6_textOf_3 rfl ?_
  have hsub0 := hsub
  refine pk_cIV (As := []) (rest := [.ref b]) S hK hST hW (c_J4_init_da8c8 m_b e_b) mc_J4_init_da8c8 wd_1559 wd_798 rfl rfl np_J4_init_da8c8 rfl hl.1 rfl (Nat.le_of_ble_eq_true rfl) dX6_textOf_4 ⟨Nat.le_of_ble_eq_true rfl, Nat.le_of_ble_eq_true rfl⟩ ⟨Nat.le_of_ble_eq_true rfl, Nat.le_of_ble_eq_true rfl⟩ (fun L1 F1 H1 l1 hp hW => ?_)
  obtain ⟨hsub1, ⟨q0, g0, hq_q, m_q, n_b_q, e_b, e_q, hg0⟩, hfr1⟩ := hp
  have hbL : b ∉ L := hnw_b
  have hqL : q0 ∉ L := fun hx => hq_q (hsub _ hx)
  have m_b := hsub1 _ m_b
  have hsub : ∀ x ∈ L, x ∈ L1 := fun x hx => hsub1 x (hsub x hx)
  have hfr : ∀ x ∈ L, F1 x = F x := fun x hx => (hfr1 x (hsub0 x hx) (fun (ee : x = b) => hbL (ee ▸ hx))).trans (hfr x hx trivial)
  have hSB : SB κ b q0 16 0 L1 F1 := ⟨m_b, m_q, n_b_q, by omega, ⟨0, e_b⟩, g0, hg0, e_q⟩
  refine lv_astore_n (lv' := [(3, .ref b), (0, .ref (B 0)), (1, .int x1), (2, .int x2)]) S.1 S.2.1 dX6_textOf_7 rfl hl (Nat.le_of_ble_eq_true rfl) rfl (fun ls hl => ?_)
  refine lv_iconst (v := 0) S.1 S.2.1 dX6_textOf_8 (by decide) ?_
  refine lv_istore (lv' := [(4, .int 0), (3, .ref b), (0, .ref (B 0)), (1, .int x1), (2, .int x2)]) S.1 S.2.1 dX6_textOf_9 hl (Nat.le_of_ble_eq_true rfl) rfl (fun ls hl => ?_)
  have B11 : ∀ (N i : Nat), N + i = k0 → ∀ (L9 : List Nat) (F9 : Nat → va_E) (v cap cnt c9 s9 : Nat), (∀ x ∈ L, x ∈ L9) → (∀ x ∈ L, F9 x = F x) → v ∉ L → SB κ b v cap cnt L9 F9 → cnt ≤ 4 * i → cnt = tlG (τ.1 t) x2 i → 16 ≤ cap → cap ≤ 160 → s9 + 12 ≤ 2 * cap → 34 * c9 ≤ s9 + 48 → ∀ (H9 : Heap) (l9 : List Loc) (ls : Array Slot), HW D cls L s H9 l9 L9 F9 → lv_has ls 5 [(4, .int (nI i)), (3, .ref b), (0, .ref (B 0)), (1, .int x1), (2, .int x2)] → W p l e (Rm 8 13 429) s m ([.ref (B 0), .int x1, .int x2] : List Value).toArray below meth c H9 l9 c9 s9 (EnR D cls s below ([.ref (B 0), .int x1, .int x2] : List Value).toArray 13 429 L (fun r L' F' => (∀ x ∈ L, x ∈ L') ∧ r ∉ L ∧ (∃ q, q ∉ L ∧ SS κ r q (tlG (τ.1 t) x2 k0) L' F') ∧ ∀ x ∈ L, F' x = F x)) (F0 m 11 ls []) := by
    intro N
    induction N with
    | zero =>
      intro i hN L9 F9 v cap cnt c9 s9 hsub hfr hvL hSB hcnt hct hc16 hc160 hs9 hc9 H9 l9 ls hW hl
      have hI9 := hI.keep0 hsub hfr (noE hW hST)
      refine lv_iload S.1 S.2.1 dX6_textOf_11 (lv_at hl 0 rfl) ?_
      refine lv_aload_n S.1 S.2.1 dX6_textOf_13 rfl (lv_at hl 2 rfl) ?_
      refine lv_iload_n S.1 S.2.1 dX6_textOf_14 rfl (lv_at hl 3 rfl) ?_
      refine pk_cVI (As := [.int x1]) (rest := [.int (nI i)]) S hK hST hW (c_X6_size hI9 x1 hsz) mc_X6_size wd_1199 wd_1201 wd_1703 rfl np_X6_size (hI9.mem (by decide)) hI9.this rfl rfl hl.1 rfl (Nat.le_of_ble_eq_true rfl) dX6_textOf_15 ⟨Nat.le_of_ble_eq_true rfl, Nat.le_of_ble_eq_true rfl⟩ ⟨by show c9 + 0 ≤ 13; omega, by show s9 + 0 ≤ 429; omega⟩ (fun r L8 F8 H8 l8 hp hW => ?_)
      obtain ⟨rfl, rfl, rfl⟩ := hp
      rw [Nat.add_zero, Nat.add_zero]
      refine lv_icmp_ge (tgt := 71) S.1 S.2.1 dX6_textOf_18 (by decide) (fun _ => ?_) (fun c1 => absurd (nI_le (by omega) (by omega)) c1)
      refine lv_aload_n S.1 S.2.1 dX6_textOf_71 rfl (lv_at hl 1 rfl) ?_
      obtain ⟨m_b, m_v, n_b_v, hle, ⟨ml, e_b⟩, g, hg, e_v⟩ := hSB
      refine pk_cVR (As := []) (rest := []) S hK hST hW (c_J4_toString_0e30d m_b m_v n_b_v e_b e_v hg hle (by omega)) mc_J4_toString_0e30d wd_1563 wd_940 wd_941 rfl np_J4_toString_0e30d m_b e_b rfl rfl hl.1 rfl (Nat.le_of_ble_eq_true rfl) dX6_textOf_72 ⟨Nat.le_of_ble_eq_true rfl, Nat.le_of_ble_eq_true rfl⟩ ⟨by show c9 + 2 ≤ 13; omega, by show s9 + (4 + cnt) ≤ 429; omega⟩ (fun r L8 F8 H8 l8 hp hW => ?_)
      obtain ⟨hs1, hr1, ⟨q1, hq1, hSS⟩, hf1⟩ := hp
      exact pk_rret S hr (Or.inl ⟨_, rfl⟩) hlk hW ⟨fun x hx => hs1 x (hsub x hx), fun hx => hr1 (hsub _ hx), ⟨q1, fun hx => hq1 (hsub _ hx), (by rw [hct, show i = k0 by omega] at hSS; exact hSS)⟩, fun x hx => (hf1 x (hsub x hx)).trans (hfr x hx)⟩ (by show c9 + 2 ≤ 13; omega) (by show s9 + (4 + cnt) ≤ 429; omega) dX6_textOf_75
    | succ N ih =>
      intro i hN L9 F9 v cap cnt c9 s9 hsub hfr hvL hSB hcnt hct hc16 hc160 hs9 hc9 H9 l9 ls hW hl
      have hI9 := hI.keep0 hsub hfr (noE hW hST)
      refine lv_iload S.1 S.2.1 dX6_textOf_11 (lv_at hl 0 rfl) ?_
      refine lv_aload_n S.1 S.2.1 dX6_textOf_13 rfl (lv_at hl 2 rfl) ?_
      refine lv_iload_n S.1 S.2.1 dX6_textOf_14 rfl (lv_at hl 3 rfl) ?_
      refine pk_cVI (As := [.int x1]) (rest := [.int (nI i)]) S hK hST hW (c_X6_size hI9 x1 hsz) mc_X6_size wd_1199 wd_1201 wd_1703 rfl np_X6_size (hI9.mem (by decide)) hI9.this rfl rfl hl.1 rfl (Nat.le_of_ble_eq_true rfl) dX6_textOf_15 ⟨Nat.le_of_ble_eq_true rfl, Nat.le_of_ble_eq_true rfl⟩ ⟨by show c9 + 0 ≤ 13; omega, by show s9 + 0 ≤ 429; omega⟩ (fun r L8 F8 H8 l8 hp hW => ?_)
      obtain ⟨rfl, rfl, rfl⟩ := hp
      rw [Nat.add_zero, Nat.add_zero]
      refine lv_icmp_ge (tgt := 71) S.1 S.2.1 dX6_textOf_18 (by decide) (fun c1 => absurd c1 (nI_ge (by omega) (by omega))) (fun _ => ?_)
      have T58 : ∀ (jj : Nat), jj < k0 → ∀ (L9 : List Nat) (F9 : Nat → va_E) (v cap cnt c9 s9 : Nat), (∀ x ∈ L, x ∈ L9) → (∀ x ∈ L, F9 x = F x) → v ∉ L → SB κ b v cap cnt L9 F9 → cnt ≤ 4 * i + 1 → cnt = tlG (τ.1 t) x2 i + (if i = 0 then 0 else 1) → jj = (if x2 = 0 then i else k0 - 1 - i) → 16 ≤ cap → cap ≤ 160 → s9 + 12 ≤ 2 * cap → 34 * c9 ≤ s9 + 48 → ∀ (H9 : Heap) (l9 : List Loc), HW D cls L s H9 l9 L9 F9 → W p l e (Rm 8 13 429) s m ([.ref (B 0), .int x1, .int x2] : List Value).toArray below meth c H9 l9 c9 s9 (EnR D cls s below ([.ref (B 0), .int x1, .int x2] : List Value).toArray 13 429 L (fun r L' F' => (∀ x ∈ L, x ∈ L') ∧ r ∉ L ∧ (∃ q, q ∉ L ∧ SS κ r q (tlG (τ.1 t) x2 k0) L' F') ∧ ∀ x ∈ L, F' x = F x)) (F0 m 58 ls [.int (nI jj), .int x1, .ref (B 0), .ref b]) := by
        intro jj hjj L9 F9 v cap cnt c9 s9 hsub hfr hvL hSB hcnt hct hjx hc16 hc160 hs9 hc9 H9 l9 hW
        have hI9 := hI.keep0 hsub hfr (noE hW hST)
        obtain ⟨z, hz, hzr⟩ := hcc jj (by omega)
        have hget : f_X6_get τ x1 (nI jj) = some (nI z) := by (unfold f_X6_get; rw [ht]; show (lget (τ.1 t) (nI jj)).bind _ = _; rw [lget_in (by omega) (by omega), hzr]; rfl)
        refine pk_cVI (As := [.int x1, .int (nI jj)]) (rest := [.ref b]) S hK hST hW (c_X6_get hI9 x1 (nI jj) hget) mc_X6_get wd_1299 wd_1301 wd_1711 rfl np_X6_get (hI9.mem (by decide)) hI9.this rfl rfl hl.1 rfl (Nat.le_of_ble_eq_true rfl) dX6_textOf_58 ⟨Nat.le_of_ble_eq_true rfl, Nat.le_of_ble_eq_true rfl⟩ ⟨by show c9 + 0 ≤ 13; omega, by show s9 + 0 ≤ 429; omega⟩ (fun r L7 F7 H7 l7 hp hW => ?_)
        obtain ⟨rfl, rfl, rfl⟩ := hp
        rw [Nat.add_zero, Nat.add_zero]
        have hp1 := ncap_pot cap (cnt + sdg z)
        have hp2 := gm34 (cap := cap) (m := cnt + sdg z) hc16
        have hp3 := sdg_le z
        obtain ⟨ml, e_b⟩ := hSB.2.2.2.2.1
        refine pk_cVR (As := [.int (nI z)]) (rest := []) S hK hST hW (c_SBi hSB hz (by omega) (by omega)) mc_J4_append_bf812 wd_1562 wd_908 wd_909 rfl np_J4_append_bf812 hSB.1 e_b rfl rfl hl.1 rfl (Nat.le_of_ble_eq_true rfl) dX6_textOf_61 ⟨Nat.le_of_ble_eq_true rfl, Nat.le_of_ble_eq_true rfl⟩ ⟨by show c9 + gmc cap (cnt + sdg z) ≤ 13; omega, by show s9 + gms cap (cnt + sdg z) ≤ 429; omega⟩ (fun r L8 F8 H8 l8 hp hW => ?_)
        obtain ⟨rfl, hs1, ⟨v1, hv1, hSB1⟩, hf1⟩ := hp
        have hsub1 : ∀ x ∈ L, x ∈ L8 := fun x hx => hs1 x (hsub x hx)
        have hfr1 : ∀ x ∈ L, F8 x = F x := fun x hx => (hf1 x (hsub x hx) (fun (ee : x = b) => hbL (ee ▸ hx)) (fun (ee : x = v) => hvL (ee ▸ hx))).trans (hfr x hx)
        have hv1L : v1 ∉ L := fun hx => hv1.elim (fun ee => hvL (ee ▸ hx)) (fun hn => hn (hsub _ hx))
        refine lv_pop S.1 S.2.1 dX6_textOf_64 rfl ?_
        refine lv_iinc (lv' := [(4, .int (nI (i + 1))), (3, .ref b), (0, .ref (B 0)), (1, .int x1), (2, .int x2)]) S.1 S.2.1 dX6_textOf_65 hl (k := 0) rfl (nI_1 i) (by decide) rfl (fun ls hl => ?_)
        refine lv_goto (tgt := 11) S.1 S.2.1 dX6_textOf_68 (by decide) ?_
        exact ih (i + 1) (by omega) _ _ v1 _ _ _ _ hsub1 hfr1 hv1L hSB1 (by omega) (by show _ = tlG (τ.1 t) x2 i + (if i = 0 then 0 else 1) + sdg (((τ.1 t).getD (if x2 = 0 then i else (τ.1 t).length - 1 - i) 0).toNatClampNeg); rw [← hk0, ← hjx, hzr, nI_clamp (by omega), hct]) (by omega) (by omega) (by omega) (by omega) _ _ _ hW hl
      have T34 : ∀ j : Nat, j < 2 → (j = if i = 0 then 0 else 1) → W p l e (Rm 8 13 429) s m ([.ref (B 0), .int x1, .int x2] : List Value).toArray below meth c H8 l8 c9 s9 (EnR D cls s below ([.ref (B 0), .int x1, .int x2] : List Value).toArray 13 429 L (fun r L' F' => (∀ x ∈ L, x ∈ L') ∧ r ∉ L ∧ (∃ q, q ∉ L ∧ SS κ r q (tlG (τ.1 t) x2 k0) L' F') ∧ ∀ x ∈ L, F' x = F x)) (F0 m 34 ls [.ref (ζ (261 + j)), .ref b]) := by
        intro j hj hjv
        have hp1 := ncap_pot cap (cnt + j)
        have hp2 := gm34 (cap := cap) (m := cnt + j) hc16
        obtain ⟨ml, e_b⟩ := hSB.2.2.2.2.1
        refine pk_cVR (As := [.ref (ζ (261 + j))]) (rest := []) S hK hST hW (c_SBk hSB hj (by omega) (by omega)) mc_J4_append_15ec4 wd_1561 wd_981 wd_982 rfl np_J4_append_15ec4 hSB.1 e_b rfl rfl hl.1 rfl (Nat.le_of_ble_eq_true rfl) dX6_textOf_34 ⟨Nat.le_of_ble_eq_true rfl, Nat.le_of_ble_eq_true rfl⟩ ⟨by show c9 + gmc cap (cnt + j) ≤ 13; omega, by show s9 + gms cap (cnt + j) ≤ 429; omega⟩ (fun r L8 F8 H8 l8 hp hW => ?_)
        obtain ⟨rfl, hs1, ⟨v1, hv1, hSB1⟩, hf1⟩ := hp
        have hsub1 : ∀ x ∈ L, x ∈ L8 := fun x hx => hs1 x (hsub x hx)
        have hfr1 : ∀ x ∈ L, F8 x = F x := fun x hx => (hf1 x (hsub x hx) (fun (ee : x = b) => hbL (ee ▸ hx)) (fun (ee : x = v) => hvL (ee ▸ hx))).trans (hfr x hx)
        have hv1L : v1 ∉ L := fun hx => hv1.elim (fun ee => hvL (ee ▸ hx)) (fun hn => hn (hsub _ hx))
        have hI8 := hI.keep0 hsub1 hfr1 (noE hW hST)
        refine lv_aload_n S.1 S.2.1 dX6_textOf_37 rfl (lv_at hl 2 rfl) ?_
        refine lv_iload_n S.1 S.2.1 dX6_textOf_38 rfl (lv_at hl 3 rfl) ?_
        refine lv_iload_n S.1 S.2.1 dX6_textOf_39 rfl (lv_at hl 4 rfl) ?_
        refine lv_if_eq (tgt := 56) S.1 S.2.1 dX6_textOf_40 (by decide) (fun c2 => ?_) (fun c2 => ?_)
        · refine lv_iload S.1 S.2.1 dX6_textOf_56 (lv_at hl 0 rfl) ?_
          exact T58 i (by omega) _ _ v1 _ _ _ _ hsub1 hfr1 hv1L hSB1 (by omega) (by rw [hct, ← hjv]) (if_pos c2).symm (by omega) (by omega) (by omega) (by omega) _ _ hW
        · refine lv_aload_n S.1 S.2.1 dX6_textOf_43 rfl (lv_at hl 2 rfl) ?_
          refine lv_iload_n S.1 S.2.1 dX6_textOf_44 rfl (lv_at hl 3 rfl) ?_
          refine pk_cVI (As := [.int x1]) (rest := [.int x1, .ref (B 0), .ref b]) S hK hST hW (c_X6_size hI8 x1 hsz) mc_X6_size wd_1199 wd_1201 wd_1703 rfl np_X6_size (hI8.mem (by decide)) hI8.this rfl rfl hl.1 rfl (Nat.le_of_ble_eq_true rfl) dX6_textOf_45 ⟨Nat.le_of_ble_eq_true rfl, Nat.le_of_ble_eq_true rfl⟩ ⟨by show c9 + gmc cap (cnt + j) + 0 ≤ 13; omega, by show s9 + gms cap (cnt + j) + 0 ≤ 429; omega⟩ (fun r L7 F7 H7 l7 hp hW => ?_)
          obtain ⟨rfl, rfl, rfl⟩ := hp
          rw [Nat.add_zero, Nat.add_zero]
          refine lv_iconst (v := 1) S.1 S.2.1 dX6_textOf_48 (by decide) ?_
          refine lv_isub S.1 S.2.1 dX6_textOf_49 ?_
          refine lv_iload S.1 S.2.1 dX6_textOf_50 (lv_at hl 0 rfl) ?_
          refine lv_isub S.1 S.2.1 dX6_textOf_52 ?_
          refine lv_topi (fun y ey => ?_)
          have ey : y = nI (k0 - 1 - i) := ey.trans (by rw [show nI k0 - 1 = nI (k0 - 1) from pk_sub (b := 1) (by omega), pk_sub (by omega)])
          subst ey
          refine lv_goto (tgt := 58) S.1 S.2.1 dX6_textOf_53 (by decide) ?_
          exact T58 (k0 - 1 - i) (by omega) _ _ v1 _ _ _ _ hsub1 hfr1 hv1L hSB1 (by omega) (by rw [hct, ← hjv]) (if_neg c2).symm (by omega) (by omega) (by omega) (by omega) _ _ hW
      refine lv_aload_n S.1 S.2.1 dX6_textOf_21 rfl (lv_at hl 1 rfl) ?_
      refine lv_iload S.1 S.2.1 dX6_textOf_22 (lv_at hl 0 rfl) ?_
      refine lv_if_ne (tgt := 32) S.1 S.2.1 dX6_textOf_24 (by decide) (fun c2 => ?_) (fun c2 => ?_)
      · refine va_ldcS S.1 S.2.1 S.2.2.2.1 hST.2.s1 dX6_textOf_32 ?_
        exact T34 1 (by omega) (by rw [if_neg (fun q => c2 (by rw [q]; rfl))])
      · refine va_ldcS S.1 S.2.1 S.2.2.2.1 hST.2.s0 dX6_textOf_27 ?_
        refine lv_goto (tgt := 34) S.1 S.2.1 dX6_textOf_29 (by decide) ?_
        exact T34 0 (by omega) (by rw [if_pos ((nI_eq (a := i) (b := 0) (by omega) (by omega)).mp c2)])
  exact B11 k0 0 (by omega) _ _ q0 _ _ _ _ hsub hfr hqL hSB (by omega) rfl (by omega) (by omega) (by decide) (by decide) _ _ _ hW (show lv_has ls 5 [(4, .int (nI 0)), (3, .ref b), (0, .ref (B 0)), (1, .int x1), (2, .int x2)] from hl)
theorem mc_X6_text : MCode yX6_text cX6_text 3 (some (.object "java/lang/String")) := ⟨wd_1552, wd_5, by decide, by decide⟩
theorem np_X6_text : (parseMethodDescriptor yX6_text.desc).map (fun d => d.parameters.length) = some 2 := by decide +kernel
set_option maxHeartbeats 4000000 in
set_option maxRecDepth 100000 in
theorem c_X6_text {l : Launch} {D : va_G} {κ : Nat → ClassId} {ζ : Nat → Nat} {L : List Nat} {F : Nat → va_E} {τ : MS} {B : Nat → Nat} (hI : MI κ ζ B τ L F) (x1 x2 : Int32) {zn : Int32} (hzn : f_X6_isNoTrack x1 = some zn) {res : Int32 × MS} (hz : f_X6_start τ zn 1 = some res) (hcc : res.1 = 0 → ∃ t, gtr x1 = some t ∧ (res.2.1 t).length ≤ 20 ∧ ∀ j, j < (res.2.1 t).length → ∃ v, v < 1000 ∧ (res.2.1 t).getD j 0 = nI v) : MtR l D cls (ty5 κ) ζ yX6_text cX6_text 3 (some (.object "java/lang/String")) 9 13 429 ([.ref (B 0), .int x1, .int x2] : List Value) L F (fun r L' F' => MI κ ζ B res.2 L' F' ∧ FrM L F L' F') := by
  refine MtR.of (by decide) (Nat.le_of_ble_eq_true rfl) ?_
  intro p e s m below meth c S hr hlk hini hK hW hST ls hl
  have hl : lv_has ls 3 [(0, .ref (B 0)), (1, .int x1), (2, .int x2)] := hl
  refine lv_aload_n S.1 S.2.1 dX6_text_0 rfl (lv_at hl 0 rfl) ?_
  refine lv_iload_n S.1 S.2.1 dX6_text_1 rfl (lv_at hl 1 rfl) ?_
  refine pk_cSI (As := [.int x1]) (rest := [.ref (B 0)]) S hK hST hW (c_X6_isNoTrack x1 hzn) mc_X6_isNoTrack wd_1182 wd_1183 np_X6_isNoTrack rfl hl.1 rfl (Nat.le_of_ble_eq_true rfl) dX6_text_2 ⟨Nat.le_of_ble_eq_true rfl, Nat.le_of_ble_eq_true rfl⟩ ⟨Nat.le_of_ble_eq_true rfl, Nat.le_of_ble_eq_true rfl⟩ (fun r L7 F7 H7 l7 hp hW => ?_)
  obtain ⟨rfl, rfl, rfl⟩ := hp
  refine lv_iconst (v := 1) S.1 S.2.1 dX6_text_5 (by decide) ?_
  refine pk_cVI (As := [.int zn, .int 1]) (rest := []) S hK hST hW (c_X6_start hI zn 1 hz) mc_X6_start wd_1188 wd_1190 wd_1701 rfl np_X6_start (hI.mem (by decide)) hI.this rfl rfl hl.1 rfl (Nat.le_of_ble_eq_true rfl) dX6_text_6 ⟨Nat.le_of_ble_eq_true rfl, Nat.le_of_ble_eq_true rfl⟩ ⟨Nat.le_of_ble_eq_true rfl, Nat.le_of_ble_eq_true rfl⟩ (fun r L8 F8 H8 l8 hp hW => ?_)
  obtain ⟨hr0, hI8, hFr8⟩ := hp
  refine lv_if_eq (tgt := 17) S.1 S.2.1 dX6_text_9 (by decide) (fun c1 => ?_) (fun c1 => ?_)
  · obtain ⟨t, ht, hk20, hcd⟩ := hcc (hr0.trans c1)
    refine lv_aload_n S.1 S.2.1 dX6_text_17 rfl (lv_at hl 0 rfl) ?_
    refine lv_iload_n S.1 S.2.1 dX6_text_18 rfl (lv_at hl 1 rfl) ?_
    refine lv_iload_n S.1 S.2.1 dX6_text_19 rfl (lv_at hl 2 rfl) ?_
    refine pk_cVR (As := [.int x1, .int x2]) (rest := []) S hK hST hW (c_X6_textOf hI8 x1 x2 ht rfl hk20 hcd) mc_X6_textOf wd_1554 wd_1556 wd_1727 rfl np_X6_textOf (hI8.mem (by decide)) hI8.this rfl rfl hl.1 rfl (Nat.le_of_ble_eq_true rfl) dX6_text_20 ⟨Nat.le_of_ble_eq_true rfl, Nat.le_of_ble_eq_true rfl⟩ ⟨Nat.le_of_ble_eq_true rfl, Nat.le_of_ble_eq_true rfl⟩ (fun r9 L9 F9 H9 l9 hp hW => ?_)
    obtain ⟨hs1, hr1, -, hf1⟩ := hp
    exact pk_rret S hr (Or.inl ⟨_, rfl⟩) hlk hW ⟨hI8.keep0 hs1 hf1 (noE hW hST), hFr8.tr ⟨hs1, fun x hx _ => hf1 x hx⟩⟩ (by decide) (by decide) dX6_text_23
  · refine va_ldcS S.1 S.2.1 S.2.2.2.1 hST.2.s0 dX6_text_12 ?_
    refine lv_goto (tgt := 23) S.1 S.2.1 dX6_text_14 (by decide) ?_
    exact pk_rret S hr (Or.inl ⟨_, rfl⟩) hlk hW ⟨hI8, hFr8⟩ (by decide) (by decide) dX6_text_23
end
section
/-! the constructors of the model, of its walkers, of the law's Out -/
section CKn
variable {p : Program} {l : Launch} {e : Env} {R : Room} {s : State} {m : MethodId} {args : Array Value} {below : List Frame} {meth : Method} {c : Code} {cc : ByteArray} {nL : Nat} {own : String} {H : Heap} {locs : List Loc} {cells slots : Nat} {Q : State → Prop} {D : va_G} {cl : List vw_C} {tys : List (ClassId × FieldType)} {ζ : Nat → Nat} {pc : Nat} {ls : Array Slot} {rest st0 : List Value} {L0 L : List Nat} {F : Nat → va_E} {y : MethodName} {bytes : ByteArray} {n d mc ms index np : Nat} {rt : Option FieldType} {As : List Value}
theorem pk_cJN (S : CallFix p m c cc nL s args Gw own) (hK : va_K D cl tys s) (hST : ST ζ (AL L0 s.heap.size) s s.heap) (hW : HW D cl L0 s H locs L F) {post : List Nat → (Nat → va_E) → Prop} {b : Nat} {host : String} (hM : MtV l D cl tys ζ y bytes n rt d mc ms (.ref b :: As) L F post) (hcd : MCode y bytes n rt) (hlink : Cond.methodLinkNest own index y host ∈ NwL) (hin : Cond.instanceMethod y ∈ Gw) (hy1 : y.name = "<init>") (hrt : rt = none) (hnp : (parseMethodDescriptor y.desc).map (fun d => d.parameters.length) = some np) (hlen : As.length = np) (hsize : ls.size = nL) (hstk : st0 = As.reverse ++ .ref b :: rest) (hcat : (rest.map fun v => v.category).sum ≤ 8) (hdg : decode cc pc = .ok (.invokespecial index, 3)) (hR : d + 1 ≤ R.frames ∧ 8 + (n + 11) + 40 * d ≤ R.locals) (hf : cells + mc ≤ R.cells ∧ slots + ms ≤ R.slots)
    (kk : ∀  (L1 : List Nat) (F1 : Nat → va_E) (H1 : Heap) (locs1 : List Loc), post L1 F1 → HW D cl L0 s H1 locs1 L1 F1 → W p l e R s m args below meth c H1 locs1 (cells + mc) (slots + ms) Q (F0 m (pc + 3) ls (rest))) : W p l e R s m args below meth c H locs cells slots Q (F0 m pc ls st0) := by
  subst hrt
  exact va_callv (va_runIN (As := As) (rest := rest) S (hM H.size) ⟨va_cnB np S.2.2.2.2 (gw_cons (pre := []) hcd (fun _ h => absurd h List.not_mem_nil)) rfl rfl rfl (hST.1.1 _ hlink) (S.2.2.2.2 _ hcd.2.1) ⟨hcd.2.2.1, hcd.2.2.2, hnp⟩ hR, hy1, S.2.2.2.2 _ hin⟩ ⟨PrC.blind, fun U hU hWm => ⟨rfl, PrC.of hK hW hST hU hWm⟩⟩ rfl hlen hsize hstk (lv_room hcat) hdg hf) hW.2.2 (fun q _ h => hW.sub q h) hW.sub (fun u t H1 locs1 ht hvm hp hB hz hk hS1 => kk u.1 u.2 H1 locs1 hp (hW.after (sz := 0) ht hB hS1))
end CKn
theorem mc_X4_init : MCode yX4_init cX4_init 1 none := ⟨wd_341, wd_14, by decide, by decide⟩
theorem np_X4_init : (parseMethodDescriptor yX4_init.desc).map (fun d => d.parameters.length) = some 0 := by decide +kernel
set_option maxHeartbeats 4000000 in
set_option maxRecDepth 100000 in
theorem c_X4_init {l : Launch} {D : va_G} {κ : Nat → ClassId} {ζ : Nat → Nat} {L : List Nat} {F : Nat → va_E} {h : Nat} : MtV l D cls (ty5 κ) ζ yX4_init cX4_init 1 none 2 0 0 ([.ref h] : List Value) L F (fun L' F' => L = L' ∧ F = F') := by
  refine MtV.of (by decide) (Nat.le_of_ble_eq_true rfl) ?_
  intro p e s m below meth c S hr hlk hini hK hW hST ls hl
  have hl : lv_has ls 1 [(0, .ref h)] := hl
  refine lv_aload_n S.1 S.2.1 dX4_init_0 rfl (lv_at hl 0 rfl) ?_
  refine pk_objInit S wd_342 wd_38 wd_39 hl.1 dX4_init_1 (by decide) (by decide) ?_
  exact pk_vret S hr hlk hW ⟨rfl, rfl⟩ (by decide) (by decide) dX4_init_4
theorem mc_X5_init : MCode yX5_init cX5_init 1 none := ⟨wd_1098, wd_9, by decide, by decide⟩
theorem np_X5_init : (parseMethodDescriptor yX5_init.desc).map (fun d => d.parameters.length) = some 0 := by decide +kernel
set_option maxHeartbeats 4000000 in
set_option maxRecDepth 100000 in
theorem c_X5_init {l : Launch} {D : va_G} {κ : Nat → ClassId} {ζ : Nat → Nat} {L : List Nat} {F : Nat → va_E} {h : Nat} (m_h : h ∈ L) (e_h : F h = .inr (10, [.int 0, .int 0, .int 0])) : MtV l D cls (ty5 κ) ζ yX5_init cX5_init 1 none 2 0 0 ([.ref h] : List Value) L F (fun L' F' => L = L' ∧ F' h = .inr (10, [.int 0, .int 0, .int (-1)]) ∧ ∀ q, q ≠ h → F' q = F q) := by
  refine MtV.of (by decide) (Nat.le_of_ble_eq_true rfl) ?_
  intro p e s m below meth c S hr hlk hini hK hW hST ls hl
  have hl : lv_has ls 1 [(0, .ref h)] := hl
  have hfr : ∀ q, q ≠ h → F q = F q := fun _ _ => rfl
  refine lv_aload_n S.1 S.2.1 dX5_init_0 rfl (lv_at hl 0 rfl) ?_
  refine pk_objInit S wd_1099 wd_38 wd_39 hl.1 dX5_init_1 (by decide) (by decide) ?_
  refine lv_aload_n S.1 S.2.1 dX5_init_4 rfl (lv_at hl 0 rfl) ?_
  refine lv_iconst (v := (-1)) S.1 S.2.1 dX5_init_5 (by decide) ?_
  refine pk_put (v := .int (-1)) S hK hW 2 m_h e_h rfl hinX5 tyX5_ok nmX5 (by decide) wd_1102 rfl rfl rfl rfl (Nat.le_of_ble_eq_true rfl) dX5_init_6 (fun H_1 l_2 hW => ?_)
  have e_h : (va_up F h (.inr (10, ([.int 0, .int 0, .int 0] : List Value).set 2 (.int (-1))))) h = .inr (10, [.int 0, .int 0, .int (-1)]) := up_eq
  have hfr : ∀ q, q ≠ h → (va_up F h (.inr (10, ([.int 0, .int 0, .int 0] : List Value).set 2 (.int (-1))))) q = F q := fun q q1 => (up_ne q1).trans (hfr q q1)
  generalize va_up F h (.inr (10, ([.int 0, .int 0, .int 0] : List Value).set 2 (.int (-1)))) = F_3 at hW e_h hfr
  exact pk_vret S hr hlk hW ⟨rfl, e_h, hfr⟩ (by decide) (by decide) dX5_init_9
def τ0 : MS := (fun _ => [], fun q => if q = 3 ∨ q = 7 ∨ q = 10 then -1 else 0)
theorem LI.new {κ : Nat → ClassId} {ζ : Nat → Nat} {h : Nat} {md : Int32} {L : List Nat} {F : Nat → va_E} (m : h ∈ L) (e : F h = .inr (4, [.int md, .ref (ζ 256), .int 0])) : LI κ ζ h (ζ 256) [] L F :=
  ⟨0, fun _ => none, md, m, e, Or.inr ⟨rfl, rfl⟩, Nat.le_refl _, by decide, fun j hj => absurd hj (Nat.not_lt_zero j)⟩
theorem mc_X6_init : MCode yX6_init cX6_init 2 none := ⟨wd_1068, wd_5, by decide, by decide⟩
theorem np_X6_init : (parseMethodDescriptor yX6_init.desc).map (fun d => d.parameters.length) = some 0 := by decide +kernel
set_option maxHeartbeats 4000000 in
set_option maxRecDepth 100000 in
theorem c_X6_init {l : Launch} {D : va_G} {κ : Nat → ClassId} {ζ : Nat → Nat} {L : List Nat} {F : Nat → va_E} {t0 : Nat} (m_t0 : t0 ∈ L) (e_t0 : F t0 = .inr (11, [.int 0, .null, .null, .null, .null, .int 0, .int 0, .int 0, .int 0])) : MtV l D cls (ty5 κ) ζ yX6_init cX6_init 2 none 9 10 96 ([.ref t0] : List Value) L F (fun L' F' => (∀ x ∈ L, x ∈ L') ∧ ∃ B : Nat → Nat, B 0 = t0 ∧ MI κ ζ B τ0 L' F' ∧ (∀ x ∈ L, x ≠ t0 → F' x = F x) ∧ ∀ i, i < 10 → i ≠ 0 → B i ∉ L) := by
  refine MtV.of (by decide) (Nat.le_of_ble_eq_true rfl) ?_
  intro p e s m below meth c S hr hlk hini hK hW hST ls hl
  have hl : lv_has ls 2 [(0, .ref t0)] := hl
  have hsub : ∀ x ∈ L, x ∈ L := fun x hx => hx
  have hfr : ∀ x ∈ L, x ≠ t0 → F x = F x := fun _ _ _ => rfl
  refine lv_aload_n S.1 S.2.1 dX6_init_0 rfl (lv_at hl 0 rfl) ?_
  refine pk_objInit S wd_1069 wd_38 wd_39 hl.1 dX6_init_1 (by decide) (by decide) ?_
  refine lv_aload_n S.1 S.2.1 dX6_init_4 rfl (lv_at hl 0 rfl) ?_
  refine pk_new (fs := [.int 0, .null, .int 0]) (ci := 4) S hK hW hinJx4a65c tyJx4a65c_ok wd_1070 wd_1071 wd_8 rfl (fun j hj => by match j, hj with | 0, _ => rfl | 1, _ => rfl | 2, _ => rfl | j + 3, hj => exact absurd hj (by omega)) (by decide) (by decide) dX6_init_5 (fun tr H_1 hq_tr hW => ?_)
  have n_t0_tr : t0 ≠ tr := fun ee => hq_tr (ee ▸ m_t0)
  have e_t0 : (va_up F tr (.inr (4, [.int 0, .null, .int 0]))) t0 = .inr (11, [.int 0, .null, .null, .null, .null, .int 0, .int 0, .int 0, .int 0]) := (up_ne n_t0_tr).trans e_t0
  have m_t0 := List.mem_append_left [tr] m_t0
  have e_tr : (va_up F tr (.inr (4, [.int 0, .null, .int 0]))) tr = .inr (4, [.int 0, .null, .int 0]) := up_eq
  have m_tr : tr ∈ L ++ [tr] := List.mem_append_right _ (List.mem_singleton.mpr rfl)
  have hnw_tr : tr ∉ L := fun ee => hq_tr (hsub _ ee)
  have hfr : ∀ x ∈ L, x ≠ t0 → (va_up F tr (.inr (4, [.int 0, .null, .int 0]))) x = F x := fun x hx hxt => (up_ne (fun (ee : x = tr) => hnw_tr (ee ▸ hx))).trans (hfr x hx hxt)
  have hsub : ∀ x ∈ L, x ∈ L ++ [tr] := fun x hx => List.mem_append_left _ (hsub x hx)
  generalize va_up F tr (.inr (4, [.int 0, .null, .int 0])) = F_2 at hW e_t0 e_tr hfr
  generalize L ++ [tr] = L_3 at hW m_t0 m_tr hsub
  refine lv_dup S.1 S.2.1 dX6_init_8 rfl ?_
  refine pk_cIV (As := []) (rest := [.ref tr, .ref t0]) S hK hST hW (c_Jx4a65c_init_da8c8 m_tr e_tr) mc_Jx4a65c_init_da8c8 wd_1072 wd_1073 rfl rfl np_Jx4a65c_init_da8c8 rfl hl.1 rfl (Nat.le_of_ble_eq_true rfl) dX6_init_9 ⟨by decide, by decide⟩ ⟨by decide, by decide⟩ (fun L_7 F_4 H_5 l_6 hp hW => ?_)
  obtain ⟨rfl, ⟨_, e9⟩, hf9⟩ := hp
  have e_t0 : F_4 t0 = .inr (11, [.int 0, .null, .null, .null, .null, .int 0, .int 0, .int 0, .int 0]) := (hf9 t0 n_t0_tr).trans e_t0
  have e_tr := e9
  have hfr : ∀ x ∈ L, x ≠ t0 → F_4 x = F x := fun x hx hxt => (hf9 x (fun (ee : x = tr) => hnw_tr (ee ▸ hx))).trans (hfr x hx hxt)
  refine pk_putF (v := .ref tr) S hK hW 1 m_t0 e_t0 rfl hinX6 tyX6_ok nmX6 (by decide) wd_1156 rfl (hini rfl) rfl rfl rfl rfl (Nat.le_of_ble_eq_true rfl) dX6_init_12 (fun H_8 l_9 hW => ?_)
  have e_t0 : (va_up F_4 t0 (.inr (11, ([.int 0, .null, .null, .null, .null, .int 0, .int 0, .int 0, .int 0] : List Value).set 1 (.ref tr)))) t0 = .inr (11, [.int 0, .ref tr, .null, .null, .null, .int 0, .int 0, .int 0, .int 0]) := up_eq
  have e_tr : (va_up F_4 t0 (.inr (11, ([.int 0, .null, .null, .null, .null, .int 0, .int 0, .int 0, .int 0] : List Value).set 1 (.ref tr)))) tr = .inr (4, [.int 0, .ref (ζ 256), .int 0]) := (up_ne n_t0_tr.symm).trans e_tr
  have hfr : ∀ x ∈ L, x ≠ t0 → (va_up F_4 t0 (.inr (11, ([.int 0, .null, .null, .null, .null, .int 0, .int 0, .int 0, .int 0] : List Value).set 1 (.ref tr)))) x = F x := fun x hx hxt => (up_ne hxt).trans (hfr x hx hxt)
  generalize va_up F_4 t0 (.inr (11, ([.int 0, .null, .null, .null, .null, .int 0, .int 0, .int 0, .int 0] : List Value).set 1 (.ref tr))) = F_10 at hW e_t0 e_tr hfr
  refine lv_aload_n S.1 S.2.1 dX6_init_15 rfl (lv_at hl 0 rfl) ?_
  refine pk_new (fs := [.int 0, .null, .int 0]) (ci := 4) S hK hW hinJx4a65c tyJx4a65c_ok wd_1070 wd_1071 wd_8 rfl (fun j hj => by match j, hj with | 0, _ => rfl | 1, _ => rfl | 2, _ => rfl | j + 3, hj => exact absurd hj (by omega)) (by decide) (by decide) dX6_init_16 (fun sl H_11 hq_sl hW => ?_)
  have n_t0_sl : t0 ≠ sl := fun ee => hq_sl (ee ▸ m_t0)
  have n_tr_sl : tr ≠ sl := fun ee => hq_sl (ee ▸ m_tr)
  have e_t0 : (va_up F_10 sl (.inr (4, [.int 0, .null, .int 0]))) t0 = .inr (11, [.int 0, .ref tr, .null, .null, .null, .int 0, .int 0, .int 0, .int 0]) := (up_ne n_t0_sl).trans e_t0
  have m_t0 := List.mem_append_left [sl] m_t0
  have e_tr : (va_up F_10 sl (.inr (4, [.int 0, .null, .int 0]))) tr = .inr (4, [.int 0, .ref (ζ 256), .int 0]) := (up_ne n_tr_sl).trans e_tr
  have m_tr := List.mem_append_left [sl] m_tr
  have e_sl : (va_up F_10 sl (.inr (4, [.int 0, .null, .int 0]))) sl = .inr (4, [.int 0, .null, .int 0]) := up_eq
  have m_sl : sl ∈ L_3 ++ [sl] := List.mem_append_right _ (List.mem_singleton.mpr rfl)
  have hnw_sl : sl ∉ L := fun ee => hq_sl (hsub _ ee)
  have hfr : ∀ x ∈ L, x ≠ t0 → (va_up F_10 sl (.inr (4, [.int 0, .null, .int 0]))) x = F x := fun x hx hxt => (up_ne (fun (ee : x = sl) => hnw_sl (ee ▸ hx))).trans (hfr x hx hxt)
  have hsub : ∀ x ∈ L, x ∈ L_3 ++ [sl] := fun x hx => List.mem_append_left _ (hsub x hx)
  generalize va_up F_10 sl (.inr (4, [.int 0, .null, .int 0])) = F_12 at hW e_t0 e_tr e_sl hfr
  generalize L_3 ++ [sl] = L_13 at hW m_t0 m_tr m_sl hsub
  refine lv_dup S.1 S.2.1 dX6_init_19 rfl ?_
  refine pk_cIV (As := []) (rest := [.ref sl, .ref t0]) S hK hST hW (c_Jx4a65c_init_da8c8 m_sl e_sl) mc_Jx4a65c_init_da8c8 wd_1072 wd_1073 rfl rfl np_Jx4a65c_init_da8c8 rfl hl.1 rfl (Nat.le_of_ble_eq_true rfl) dX6_init_20 ⟨by decide, by decide⟩ ⟨by decide, by decide⟩ (fun L_17 F_14 H_15 l_16 hp hW => ?_)
  obtain ⟨rfl, ⟨_, e9⟩, hf9⟩ := hp
  have e_t0 : F_14 t0 = .inr (11, [.int 0, .ref tr, .null, .null, .null, .int 0, .int 0, .int 0, .int 0]) := (hf9 t0 n_t0_sl).trans e_t0
  have e_tr : F_14 tr = .inr (4, [.int 0, .ref (ζ 256), .int 0]) := (hf9 tr n_tr_sl).trans e_tr
  have e_sl := e9
  have hfr : ∀ x ∈ L, x ≠ t0 → F_14 x = F x := fun x hx hxt => (hf9 x (fun (ee : x = sl) => hnw_sl (ee ▸ hx))).trans (hfr x hx hxt)
  refine pk_putF (v := .ref sl) S hK hW 2 m_t0 e_t0 rfl hinX6 tyX6_ok nmX6 (by decide) wd_1157 rfl (hini rfl) rfl rfl rfl rfl (Nat.le_of_ble_eq_true rfl) dX6_init_23 (fun H_18 l_19 hW => ?_)
  have e_t0 : (va_up F_14 t0 (.inr (11, ([.int 0, .ref tr, .null, .null, .null, .int 0, .int 0, .int 0, .int 0] : List Value).set 2 (.ref sl)))) t0 = .inr (11, [.int 0, .ref tr, .ref sl, .null, .null, .int 0, .int 0, .int 0, .int 0]) := up_eq
  have e_tr : (va_up F_14 t0 (.inr (11, ([.int 0, .ref tr, .null, .null, .null, .int 0, .int 0, .int 0, .int 0] : List Value).set 2 (.ref sl)))) tr = .inr (4, [.int 0, .ref (ζ 256), .int 0]) := (up_ne n_t0_tr.symm).trans e_tr
  have e_sl : (va_up F_14 t0 (.inr (11, ([.int 0, .ref tr, .null, .null, .null, .int 0, .int 0, .int 0, .int 0] : List Value).set 2 (.ref sl)))) sl = .inr (4, [.int 0, .ref (ζ 256), .int 0]) := (up_ne n_t0_sl.symm).trans e_sl
  have hfr : ∀ x ∈ L, x ≠ t0 → (va_up F_14 t0 (.inr (11, ([.int 0, .ref tr, .null, .null, .null, .int 0, .int 0, .int 0, .int 0] : List Value).set 2 (.ref sl)))) x = F x := fun x hx hxt => (up_ne hxt).trans (hfr x hx hxt)
  generalize va_up F_14 t0 (.inr (11, ([.int 0, .ref tr, .null, .null, .null, .int 0, .int 0, .int 0, .int 0] : List Value).set 2 (.ref sl))) = F_20 at hW e_t0 e_tr e_sl hfr
  refine lv_aload_n S.1 S.2.1 dX6_init_26 rfl (lv_at hl 0 rfl) ?_
  refine pk_new (fs := [.int 0, .null, .int 0]) (ci := 4) S hK hW hinJx4a65c tyJx4a65c_ok wd_1070 wd_1071 wd_8 rfl (fun j hj => by match j, hj with | 0, _ => rfl | 1, _ => rfl | 2, _ => rfl | j + 3, hj => exact absurd hj (by omega)) (by decide) (by decide) dX6_init_27 (fun od H_21 hq_od hW => ?_)
  have n_t0_od : t0 ≠ od := fun ee => hq_od (ee ▸ m_t0)
  have n_tr_od : tr ≠ od := fun ee => hq_od (ee ▸ m_tr)
  have n_sl_od : sl ≠ od := fun ee => hq_od (ee ▸ m_sl)
  have e_t0 : (va_up F_20 od (.inr (4, [.int 0, .null, .int 0]))) t0 = .inr (11, [.int 0, .ref tr, .ref sl, .null, .null, .int 0, .int 0, .int 0, .int 0]) := (up_ne n_t0_od).trans e_t0
  have m_t0 := List.mem_append_left [od] m_t0
  have e_tr : (va_up F_20 od (.inr (4, [.int 0, .null, .int 0]))) tr = .inr (4, [.int 0, .ref (ζ 256), .int 0]) := (up_ne n_tr_od).trans e_tr
  have m_tr := List.mem_append_left [od] m_tr
  have e_sl : (va_up F_20 od (.inr (4, [.int 0, .null, .int 0]))) sl = .inr (4, [.int 0, .ref (ζ 256), .int 0]) := (up_ne n_sl_od).trans e_sl
  have m_sl := List.mem_append_left [od] m_sl
  have e_od : (va_up F_20 od (.inr (4, [.int 0, .null, .int 0]))) od = .inr (4, [.int 0, .null, .int 0]) := up_eq
  have m_od : od ∈ L_13 ++ [od] := List.mem_append_right _ (List.mem_singleton.mpr rfl)
  have hnw_od : od ∉ L := fun ee => hq_od (hsub _ ee)
  have hfr : ∀ x ∈ L, x ≠ t0 → (va_up F_20 od (.inr (4, [.int 0, .null, .int 0]))) x = F x := fun x hx hxt => (up_ne (fun (ee : x = od) => hnw_od (ee ▸ hx))).trans (hfr x hx hxt)
  have hsub : ∀ x ∈ L, x ∈ L_13 ++ [od] := fun x hx => List.mem_append_left _ (hsub x hx)
  generalize va_up F_20 od (.inr (4, [.int 0, .null, .int 0])) = F_22 at hW e_t0 e_tr e_sl e_od hfr
  generalize L_13 ++ [od] = L_23 at hW m_t0 m_tr m_sl m_od hsub
  refine lv_dup S.1 S.2.1 dX6_init_30 rfl ?_
  refine pk_cIV (As := []) (rest := [.ref od, .ref t0]) S hK hST hW (c_Jx4a65c_init_da8c8 m_od e_od) mc_Jx4a65c_init_da8c8 wd_1072 wd_1073 rfl rfl np_Jx4a65c_init_da8c8 rfl hl.1 rfl (Nat.le_of_ble_eq_true rfl) dX6_init_31 ⟨by decide, by decide⟩ ⟨by decide, by decide⟩ (fun L_27 F_24 H_25 l_26 hp hW => ?_)
  obtain ⟨rfl, ⟨_, e9⟩, hf9⟩ := hp
  have e_t0 : F_24 t0 = .inr (11, [.int 0, .ref tr, .ref sl, .null, .null, .int 0, .int 0, .int 0, .int 0]) := (hf9 t0 n_t0_od).trans e_t0
  have e_tr : F_24 tr = .inr (4, [.int 0, .ref (ζ 256), .int 0]) := (hf9 tr n_tr_od).trans e_tr
  have e_sl : F_24 sl = .inr (4, [.int 0, .ref (ζ 256), .int 0]) := (hf9 sl n_sl_od).trans e_sl
  have e_od := e9
  have hfr : ∀ x ∈ L, x ≠ t0 → F_24 x = F x := fun x hx hxt => (hf9 x (fun (ee : x = od) => hnw_od (ee ▸ hx))).trans (hfr x hx hxt)
  refine pk_putF (v := .ref od) S hK hW 3 m_t0 e_t0 rfl hinX6 tyX6_ok nmX6 (by decide) wd_1158 rfl (hini rfl) rfl rfl rfl rfl (Nat.le_of_ble_eq_true rfl) dX6_init_34 (fun H_28 l_29 hW => ?_)
  have e_t0 : (va_up F_24 t0 (.inr (11, ([.int 0, .ref tr, .ref sl, .null, .null, .int 0, .int 0, .int 0, .int 0] : List Value).set 3 (.ref od)))) t0 = .inr (11, [.int 0, .ref tr, .ref sl, .ref od, .null, .int 0, .int 0, .int 0, .int 0]) := up_eq
  have e_tr : (va_up F_24 t0 (.inr (11, ([.int 0, .ref tr, .ref sl, .null, .null, .int 0, .int 0, .int 0, .int 0] : List Value).set 3 (.ref od)))) tr = .inr (4, [.int 0, .ref (ζ 256), .int 0]) := (up_ne n_t0_tr.symm).trans e_tr
  have e_sl : (va_up F_24 t0 (.inr (11, ([.int 0, .ref tr, .ref sl, .null, .null, .int 0, .int 0, .int 0, .int 0] : List Value).set 3 (.ref od)))) sl = .inr (4, [.int 0, .ref (ζ 256), .int 0]) := (up_ne n_t0_sl.symm).trans e_sl
  have e_od : (va_up F_24 t0 (.inr (11, ([.int 0, .ref tr, .ref sl, .null, .null, .int 0, .int 0, .int 0, .int 0] : List Value).set 3 (.ref od)))) od = .inr (4, [.int 0, .ref (ζ 256), .int 0]) := (up_ne n_t0_od.symm).trans e_od
  have hfr : ∀ x ∈ L, x ≠ t0 → (va_up F_24 t0 (.inr (11, ([.int 0, .ref tr, .ref sl, .null, .null, .int 0, .int 0, .int 0, .int 0] : List Value).set 3 (.ref od)))) x = F x := fun x hx hxt => (up_ne hxt).trans (hfr x hx hxt)
  generalize va_up F_24 t0 (.inr (11, ([.int 0, .ref tr, .ref sl, .null, .null, .int 0, .int 0, .int 0, .int 0] : List Value).set 3 (.ref od))) = F_30 at hW e_t0 e_tr e_sl e_od hfr
  refine lv_aload_n S.1 S.2.1 dX6_init_37 rfl (lv_at hl 0 rfl) ?_
  refine lv_iconst (v := 2) S.1 S.2.1 dX6_init_38 (by decide) ?_
  refine pk_newq (N' := 2) S hK hW 4 rfl wd_1094 hST.2.aoWk (by decide) (by decide) (by decide) (by decide) (by decide) dX6_init_39 (fun wk Ha hq_wk hW => ?_)
  have n_t0_wk : t0 ≠ wk := fun ee => hq_wk (ee ▸ m_t0)
  have n_tr_wk : tr ≠ wk := fun ee => hq_wk (ee ▸ m_tr)
  have n_sl_wk : sl ≠ wk := fun ee => hq_wk (ee ▸ m_sl)
  have n_od_wk : od ≠ wk := fun ee => hq_wk (ee ▸ m_od)
  have e_t0 : (va_up F_30 wk (rfA (κ 4) 2 (fun _ => none))) t0 = .inr (11, [.int 0, .ref tr, .ref sl, .ref od, .null, .int 0, .int 0, .int 0, .int 0]) := (up_ne n_t0_wk).trans e_t0
  have m_t0 := List.mem_append_left [wk] m_t0
  have e_tr : (va_up F_30 wk (rfA (κ 4) 2 (fun _ => none))) tr = .inr (4, [.int 0, .ref (ζ 256), .int 0]) := (up_ne n_tr_wk).trans e_tr
  have m_tr := List.mem_append_left [wk] m_tr
  have e_sl : (va_up F_30 wk (rfA (κ 4) 2 (fun _ => none))) sl = .inr (4, [.int 0, .ref (ζ 256), .int 0]) := (up_ne n_sl_wk).trans e_sl
  have m_sl := List.mem_append_left [wk] m_sl
  have e_od : (va_up F_30 wk (rfA (κ 4) 2 (fun _ => none))) od = .inr (4, [.int 0, .ref (ζ 256), .int 0]) := (up_ne n_od_wk).trans e_od
  have m_od := List.mem_append_left [wk] m_od
  have e_wk : (va_up F_30 wk (rfA (κ 4) 2 (fun _ => none))) wk = rfA (κ 4) 2 (fun _ => none) := up_eq
  have m_wk : wk ∈ L_23 ++ [wk] := List.mem_append_right _ (List.mem_singleton.mpr rfl)
  have hnw_wk : wk ∉ L := fun ee => hq_wk (hsub _ ee)
  have hfr : ∀ x ∈ L, x ≠ t0 → (va_up F_30 wk (rfA (κ 4) 2 (fun _ => none))) x = F x := fun x hx hxt => (up_ne (fun (ee : x = wk) => hnw_wk (ee ▸ hx))).trans (hfr x hx hxt)
  have hsub : ∀ x ∈ L, x ∈ L_23 ++ [wk] := fun x hx => List.mem_append_left _ (hsub x hx)
  generalize va_up F_30 wk (rfA (κ 4) 2 (fun _ => none)) = F_31 at hW e_t0 e_tr e_sl e_od e_wk hfr
  generalize L_23 ++ [wk] = L_32 at hW m_t0 m_tr m_sl m_od m_wk hsub
  refine lv_dup S.1 S.2.1 dX6_init_42 rfl ?_
  refine lv_iconst (v := 0) S.1 S.2.1 dX6_init_43 (by decide) ?_
  refine pk_new (fs := [.int 0, .int 0, .int 0]) (ci := 10) S hK hW hinX5 tyX5_ok wd_1094 wd_1096 wd_9 rfl (fun j hj => by match j, hj with | 0, _ => rfl | 1, _ => rfl | 2, _ => rfl | j + 3, hj => exact absurd hj (by omega)) (by decide) (by decide) dX6_init_44 (fun w0 H_33 hq_w0 hW => ?_)
  have n_t0_w0 : t0 ≠ w0 := fun ee => hq_w0 (ee ▸ m_t0)
  have n_tr_w0 : tr ≠ w0 := fun ee => hq_w0 (ee ▸ m_tr)
  have n_sl_w0 : sl ≠ w0 := fun ee => hq_w0 (ee ▸ m_sl)
  have n_od_w0 : od ≠ w0 := fun ee => hq_w0 (ee ▸ m_od)
  have n_wk_w0 : wk ≠ w0 := fun ee => hq_w0 (ee ▸ m_wk)
  have e_t0 : (va_up F_31 w0 (.inr (10, [.int 0, .int 0, .int 0]))) t0 = .inr (11, [.int 0, .ref tr, .ref sl, .ref od, .null, .int 0, .int 0, .int 0, .int 0]) := (up_ne n_t0_w0).trans e_t0
  have m_t0 := List.mem_append_left [w0] m_t0
  have e_tr : (va_up F_31 w0 (.inr (10, [.int 0, .int 0, .int 0]))) tr = .inr (4, [.int 0, .ref (ζ 256), .int 0]) := (up_ne n_tr_w0).trans e_tr
  have m_tr := List.mem_append_left [w0] m_tr
  have e_sl : (va_up F_31 w0 (.inr (10, [.int 0, .int 0, .int 0]))) sl = .inr (4, [.int 0, .ref (ζ 256), .int 0]) := (up_ne n_sl_w0).trans e_sl
  have m_sl := List.mem_append_left [w0] m_sl
  have e_od : (va_up F_31 w0 (.inr (10, [.int 0, .int 0, .int 0]))) od = .inr (4, [.int 0, .ref (ζ 256), .int 0]) := (up_ne n_od_w0).trans e_od
  have m_od := List.mem_append_left [w0] m_od
  have e_wk : (va_up F_31 w0 (.inr (10, [.int 0, .int 0, .int 0]))) wk = rfA (κ 4) 2 (fun _ => none) := (up_ne n_wk_w0).trans e_wk
  have m_wk := List.mem_append_left [w0] m_wk
  have e_w0 : (va_up F_31 w0 (.inr (10, [.int 0, .int 0, .int 0]))) w0 = .inr (10, [.int 0, .int 0, .int 0]) := up_eq
  have m_w0 : w0 ∈ L_32 ++ [w0] := List.mem_append_right _ (List.mem_singleton.mpr rfl)
  have hnw_w0 : w0 ∉ L := fun ee => hq_w0 (hsub _ ee)
  have hfr : ∀ x ∈ L, x ≠ t0 → (va_up F_31 w0 (.inr (10, [.int 0, .int 0, .int 0]))) x = F x := fun x hx hxt => (up_ne (fun (ee : x = w0) => hnw_w0 (ee ▸ hx))).trans (hfr x hx hxt)
  have hsub : ∀ x ∈ L, x ∈ L_32 ++ [w0] := fun x hx => List.mem_append_left _ (hsub x hx)
  generalize va_up F_31 w0 (.inr (10, [.int 0, .int 0, .int 0])) = F_34 at hW e_t0 e_tr e_sl e_od e_wk e_w0 hfr
  generalize L_32 ++ [w0] = L_35 at hW m_t0 m_tr m_sl m_od m_wk m_w0 hsub
  refine lv_dup S.1 S.2.1 dX6_init_47 rfl ?_
  refine pk_cJN (As := []) (rest := [.ref w0, .int 0, .ref wk, .ref wk, .ref t0]) S hK hST hW (c_X5_init m_w0 e_w0) mc_X5_init wn_21 wd_1097 rfl rfl np_X5_init rfl hl.1 rfl (Nat.le_of_ble_eq_true rfl) dX6_init_48 ⟨by decide, by decide⟩ ⟨by decide, by decide⟩ (fun L_36 F_37 H_38 l_39 hp hW => ?_)
  obtain ⟨rfl, e9, hf9⟩ := hp
  have e_t0 : F_37 t0 = .inr (11, [.int 0, .ref tr, .ref sl, .ref od, .null, .int 0, .int 0, .int 0, .int 0]) := (hf9 t0 n_t0_w0).trans e_t0
  have e_tr : F_37 tr = .inr (4, [.int 0, .ref (ζ 256), .int 0]) := (hf9 tr n_tr_w0).trans e_tr
  have e_sl : F_37 sl = .inr (4, [.int 0, .ref (ζ 256), .int 0]) := (hf9 sl n_sl_w0).trans e_sl
  have e_od : F_37 od = .inr (4, [.int 0, .ref (ζ 256), .int 0]) := (hf9 od n_od_w0).trans e_od
  have e_wk : F_37 wk = rfA (κ 4) 2 (fun _ => none) := (hf9 wk n_wk_w0).trans e_wk
  have e_w0 := e9
  have hfr : ∀ x ∈ L, x ≠ t0 → F_37 x = F x := fun x hx hxt => (hf9 x (fun (ee : x = w0) => hnw_w0 (ee ▸ hx))).trans (hfr x hx hxt)
  refine pk_aastS S hK hW 4 m_wk e_wk rfl (pk_recv (r := (RX5, TX5, 3)) hK hW m_w0 e_w0 rfl) (show vp_in (nI 0) 2 from vp_in_nI (by omega) (by omega)) dX6_init_51 (fun Hb0 lb0 hW => ?_)
  have e_t0 : (va_up F_37 wk (rfA (κ 4) 2 (va_up (fun _ => none) (0 : Int32).toNatClampNeg (some w0)))) t0 = .inr (11, [.int 0, .ref tr, .ref sl, .ref od, .null, .int 0, .int 0, .int 0, .int 0]) := (up_ne n_t0_wk).trans e_t0
  have e_tr : (va_up F_37 wk (rfA (κ 4) 2 (va_up (fun _ => none) (0 : Int32).toNatClampNeg (some w0)))) tr = .inr (4, [.int 0, .ref (ζ 256), .int 0]) := (up_ne n_tr_wk).trans e_tr
  have e_sl : (va_up F_37 wk (rfA (κ 4) 2 (va_up (fun _ => none) (0 : Int32).toNatClampNeg (some w0)))) sl = .inr (4, [.int 0, .ref (ζ 256), .int 0]) := (up_ne n_sl_wk).trans e_sl
  have e_od : (va_up F_37 wk (rfA (κ 4) 2 (va_up (fun _ => none) (0 : Int32).toNatClampNeg (some w0)))) od = .inr (4, [.int 0, .ref (ζ 256), .int 0]) := (up_ne n_od_wk).trans e_od
  have e_wk : (va_up F_37 wk (rfA (κ 4) 2 (va_up (fun _ => none) (0 : Int32).toNatClampNeg (some w0)))) wk = rfA (κ 4) 2 (va_up (fun _ => none) (0 : Int32).toNatClampNeg (some w0)) := up_eq
  have e_w0 : (va_up F_37 wk (rfA (κ 4) 2 (va_up (fun _ => none) (0 : Int32).toNatClampNeg (some w0)))) w0 = .inr (10, [.int 0, .int 0, .int (-1)]) := (up_ne n_wk_w0.symm).trans e_w0
  have hfr : ∀ x ∈ L, x ≠ t0 → (va_up F_37 wk (rfA (κ 4) 2 (va_up (fun _ => none) (0 : Int32).toNatClampNeg (some w0)))) x = F x := fun x hx hxt => (up_ne (fun (ee : x = wk) => hnw_wk (ee ▸ hx))).trans (hfr x hx hxt)
  generalize va_up F_37 wk (rfA (κ 4) 2 (va_up (fun _ => none) (0 : Int32).toNatClampNeg (some w0))) = F_40 at hW e_t0 e_tr e_sl e_od e_wk e_w0 hfr
  refine lv_dup S.1 S.2.1 dX6_init_52 rfl ?_
  refine lv_iconst (v := 1) S.1 S.2.1 dX6_init_53 (by decide) ?_
  refine pk_new (fs := [.int 0, .int 0, .int 0]) (ci := 10) S hK hW hinX5 tyX5_ok wd_1094 wd_1096 wd_9 rfl (fun j hj => by match j, hj with | 0, _ => rfl | 1, _ => rfl | 2, _ => rfl | j + 3, hj => exact absurd hj (by omega)) (by decide) (by decide) dX6_init_54 (fun w1 H_41 hq_w1 hW => ?_)
  have n_t0_w1 : t0 ≠ w1 := fun ee => hq_w1 (ee ▸ m_t0)
  have n_tr_w1 : tr ≠ w1 := fun ee => hq_w1 (ee ▸ m_tr)
  have n_sl_w1 : sl ≠ w1 := fun ee => hq_w1 (ee ▸ m_sl)
  have n_od_w1 : od ≠ w1 := fun ee => hq_w1 (ee ▸ m_od)
  have n_wk_w1 : wk ≠ w1 := fun ee => hq_w1 (ee ▸ m_wk)
  have n_w0_w1 : w0 ≠ w1 := fun ee => hq_w1 (ee ▸ m_w0)
  have e_t0 : (va_up F_40 w1 (.inr (10, [.int 0, .int 0, .int 0]))) t0 = .inr (11, [.int 0, .ref tr, .ref sl, .ref od, .null, .int 0, .int 0, .int 0, .int 0]) := (up_ne n_t0_w1).trans e_t0
  have m_t0 := List.mem_append_left [w1] m_t0
  have e_tr : (va_up F_40 w1 (.inr (10, [.int 0, .int 0, .int 0]))) tr = .inr (4, [.int 0, .ref (ζ 256), .int 0]) := (up_ne n_tr_w1).trans e_tr
  have m_tr := List.mem_append_left [w1] m_tr
  have e_sl : (va_up F_40 w1 (.inr (10, [.int 0, .int 0, .int 0]))) sl = .inr (4, [.int 0, .ref (ζ 256), .int 0]) := (up_ne n_sl_w1).trans e_sl
  have m_sl := List.mem_append_left [w1] m_sl
  have e_od : (va_up F_40 w1 (.inr (10, [.int 0, .int 0, .int 0]))) od = .inr (4, [.int 0, .ref (ζ 256), .int 0]) := (up_ne n_od_w1).trans e_od
  have m_od := List.mem_append_left [w1] m_od
  have e_wk : (va_up F_40 w1 (.inr (10, [.int 0, .int 0, .int 0]))) wk = rfA (κ 4) 2 (va_up (fun _ => none) (0 : Int32).toNatClampNeg (some w0)) := (up_ne n_wk_w1).trans e_wk
  have m_wk := List.mem_append_left [w1] m_wk
  have e_w0 : (va_up F_40 w1 (.inr (10, [.int 0, .int 0, .int 0]))) w0 = .inr (10, [.int 0, .int 0, .int (-1)]) := (up_ne n_w0_w1).trans e_w0
  have m_w0 := List.mem_append_left [w1] m_w0
  have e_w1 : (va_up F_40 w1 (.inr (10, [.int 0, .int 0, .int 0]))) w1 = .inr (10, [.int 0, .int 0, .int 0]) := up_eq
  have m_w1 : w1 ∈ L_35 ++ [w1] := List.mem_append_right _ (List.mem_singleton.mpr rfl)
  have hnw_w1 : w1 ∉ L := fun ee => hq_w1 (hsub _ ee)
  have hfr : ∀ x ∈ L, x ≠ t0 → (va_up F_40 w1 (.inr (10, [.int 0, .int 0, .int 0]))) x = F x := fun x hx hxt => (up_ne (fun (ee : x = w1) => hnw_w1 (ee ▸ hx))).trans (hfr x hx hxt)
  have hsub : ∀ x ∈ L, x ∈ L_35 ++ [w1] := fun x hx => List.mem_append_left _ (hsub x hx)
  generalize va_up F_40 w1 (.inr (10, [.int 0, .int 0, .int 0])) = F_42 at hW e_t0 e_tr e_sl e_od e_wk e_w0 e_w1 hfr
  generalize L_35 ++ [w1] = L_43 at hW m_t0 m_tr m_sl m_od m_wk m_w0 m_w1 hsub
  refine lv_dup S.1 S.2.1 dX6_init_57 rfl ?_
  refine pk_cJN (As := []) (rest := [.ref w1, .int 1, .ref wk, .ref wk, .ref t0]) S hK hST hW (c_X5_init m_w1 e_w1) mc_X5_init wn_21 wd_1097 rfl rfl np_X5_init rfl hl.1 rfl (Nat.le_of_ble_eq_true rfl) dX6_init_58 ⟨by decide, by decide⟩ ⟨by decide, by decide⟩ (fun L_44 F_45 H_46 l_47 hp hW => ?_)
  obtain ⟨rfl, e9, hf9⟩ := hp
  have e_t0 : F_45 t0 = .inr (11, [.int 0, .ref tr, .ref sl, .ref od, .null, .int 0, .int 0, .int 0, .int 0]) := (hf9 t0 n_t0_w1).trans e_t0
  have e_tr : F_45 tr = .inr (4, [.int 0, .ref (ζ 256), .int 0]) := (hf9 tr n_tr_w1).trans e_tr
  have e_sl : F_45 sl = .inr (4, [.int 0, .ref (ζ 256), .int 0]) := (hf9 sl n_sl_w1).trans e_sl
  have e_od : F_45 od = .inr (4, [.int 0, .ref (ζ 256), .int 0]) := (hf9 od n_od_w1).trans e_od
  have e_wk : F_45 wk = rfA (κ 4) 2 (va_up (fun _ => none) (0 : Int32).toNatClampNeg (some w0)) := (hf9 wk n_wk_w1).trans e_wk
  have e_w0 : F_45 w0 = .inr (10, [.int 0, .int 0, .int (-1)]) := (hf9 w0 n_w0_w1).trans e_w0
  have e_w1 := e9
  have hfr : ∀ x ∈ L, x ≠ t0 → F_45 x = F x := fun x hx hxt => (hf9 x (fun (ee : x = w1) => hnw_w1 (ee ▸ hx))).trans (hfr x hx hxt)
  refine pk_aastS S hK hW 4 m_wk e_wk rfl (pk_recv (r := (RX5, TX5, 3)) hK hW m_w1 e_w1 rfl) (show vp_in (nI 1) 2 from vp_in_nI (by omega) (by omega)) dX6_init_61 (fun Hb1 lb1 hW => ?_)
  have e_t0 : (va_up F_45 wk (rfA (κ 4) 2 (va_up (va_up (fun _ => none) (0 : Int32).toNatClampNeg (some w0)) (1 : Int32).toNatClampNeg (some w1)))) t0 = .inr (11, [.int 0, .ref tr, .ref sl, .ref od, .null, .int 0, .int 0, .int 0, .int 0]) := (up_ne n_t0_wk).trans e_t0
  have e_tr : (va_up F_45 wk (rfA (κ 4) 2 (va_up (va_up (fun _ => none) (0 : Int32).toNatClampNeg (some w0)) (1 : Int32).toNatClampNeg (some w1)))) tr = .inr (4, [.int 0, .ref (ζ 256), .int 0]) := (up_ne n_tr_wk).trans e_tr
  have e_sl : (va_up F_45 wk (rfA (κ 4) 2 (va_up (va_up (fun _ => none) (0 : Int32).toNatClampNeg (some w0)) (1 : Int32).toNatClampNeg (some w1)))) sl = .inr (4, [.int 0, .ref (ζ 256), .int 0]) := (up_ne n_sl_wk).trans e_sl
  have e_od : (va_up F_45 wk (rfA (κ 4) 2 (va_up (va_up (fun _ => none) (0 : Int32).toNatClampNeg (some w0)) (1 : Int32).toNatClampNeg (some w1)))) od = .inr (4, [.int 0, .ref (ζ 256), .int 0]) := (up_ne n_od_wk).trans e_od
  have e_wk : (va_up F_45 wk (rfA (κ 4) 2 (va_up (va_up (fun _ => none) (0 : Int32).toNatClampNeg (some w0)) (1 : Int32).toNatClampNeg (some w1)))) wk = rfA (κ 4) 2 (va_up (va_up (fun _ => none) (0 : Int32).toNatClampNeg (some w0)) (1 : Int32).toNatClampNeg (some w1)) := up_eq
  have e_w0 : (va_up F_45 wk (rfA (κ 4) 2 (va_up (va_up (fun _ => none) (0 : Int32).toNatClampNeg (some w0)) (1 : Int32).toNatClampNeg (some w1)))) w0 = .inr (10, [.int 0, .int 0, .int (-1)]) := (up_ne n_wk_w0.symm).trans e_w0
  have e_w1 : (va_up F_45 wk (rfA (κ 4) 2 (va_up (va_up (fun _ => none) (0 : Int32).toNatClampNeg (some w0)) (1 : Int32).toNatClampNeg (some w1)))) w1 = .inr (10, [.int 0, .int 0, .int (-1)]) := (up_ne n_wk_w1.symm).trans e_w1
  have hfr : ∀ x ∈ L, x ≠ t0 → (va_up F_45 wk (rfA (κ 4) 2 (va_up (va_up (fun _ => none) (0 : Int32).toNatClampNeg (some w0)) (1 : Int32).toNatClampNeg (some w1)))) x = F x := fun x hx hxt => (up_ne (fun (ee : x = wk) => hnw_wk (ee ▸ hx))).trans (hfr x hx hxt)
  generalize va_up F_45 wk (rfA (κ 4) 2 (va_up (va_up (fun _ => none) (0 : Int32).toNatClampNeg (some w0)) (1 : Int32).toNatClampNeg (some w1))) = F_48 at hW e_t0 e_tr e_sl e_od e_wk e_w0 e_w1 hfr
  refine pk_putF (v := .ref wk) S hK hW 4 m_t0 e_t0 rfl hinX6 tyX6_ok nmX6 (by decide) wd_1159 rfl (hini rfl) rfl rfl rfl rfl (Nat.le_of_ble_eq_true rfl) dX6_init_62 (fun H_49 l_50 hW => ?_)
  have e_t0 : (va_up F_48 t0 (.inr (11, ([.int 0, .ref tr, .ref sl, .ref od, .null, .int 0, .int 0, .int 0, .int 0] : List Value).set 4 (.ref wk)))) t0 = .inr (11, [.int 0, .ref tr, .ref sl, .ref od, .ref wk, .int 0, .int 0, .int 0, .int 0]) := up_eq
  have e_tr : (va_up F_48 t0 (.inr (11, ([.int 0, .ref tr, .ref sl, .ref od, .null, .int 0, .int 0, .int 0, .int 0] : List Value).set 4 (.ref wk)))) tr = .inr (4, [.int 0, .ref (ζ 256), .int 0]) := (up_ne n_t0_tr.symm).trans e_tr
  have e_sl : (va_up F_48 t0 (.inr (11, ([.int 0, .ref tr, .ref sl, .ref od, .null, .int 0, .int 0, .int 0, .int 0] : List Value).set 4 (.ref wk)))) sl = .inr (4, [.int 0, .ref (ζ 256), .int 0]) := (up_ne n_t0_sl.symm).trans e_sl
  have e_od : (va_up F_48 t0 (.inr (11, ([.int 0, .ref tr, .ref sl, .ref od, .null, .int 0, .int 0, .int 0, .int 0] : List Value).set 4 (.ref wk)))) od = .inr (4, [.int 0, .ref (ζ 256), .int 0]) := (up_ne n_t0_od.symm).trans e_od
  have e_wk : (va_up F_48 t0 (.inr (11, ([.int 0, .ref tr, .ref sl, .ref od, .null, .int 0, .int 0, .int 0, .int 0] : List Value).set 4 (.ref wk)))) wk = rfA (κ 4) 2 (va_up (va_up (fun _ => none) (0 : Int32).toNatClampNeg (some w0)) (1 : Int32).toNatClampNeg (some w1)) := (up_ne n_t0_wk.symm).trans e_wk
  have e_w0 : (va_up F_48 t0 (.inr (11, ([.int 0, .ref tr, .ref sl, .ref od, .null, .int 0, .int 0, .int 0, .int 0] : List Value).set 4 (.ref wk)))) w0 = .inr (10, [.int 0, .int 0, .int (-1)]) := (up_ne n_t0_w0.symm).trans e_w0
  have e_w1 : (va_up F_48 t0 (.inr (11, ([.int 0, .ref tr, .ref sl, .ref od, .null, .int 0, .int 0, .int 0, .int 0] : List Value).set 4 (.ref wk)))) w1 = .inr (10, [.int 0, .int 0, .int (-1)]) := (up_ne n_t0_w1.symm).trans e_w1
  have hfr : ∀ x ∈ L, x ≠ t0 → (va_up F_48 t0 (.inr (11, ([.int 0, .ref tr, .ref sl, .ref od, .null, .int 0, .int 0, .int 0, .int 0] : List Value).set 4 (.ref wk)))) x = F x := fun x hx hxt => (up_ne hxt).trans (hfr x hx hxt)
  generalize va_up F_48 t0 (.inr (11, ([.int 0, .ref tr, .ref sl, .ref od, .null, .int 0, .int 0, .int 0, .int 0] : List Value).set 4 (.ref wk))) = F_51 at hW e_t0 e_tr e_sl e_od e_wk e_w0 e_w1 hfr
  refine lv_aload_n S.1 S.2.1 dX6_init_65 rfl (lv_at hl 0 rfl) ?_
  refine lv_iconst (v := (-1)) S.1 S.2.1 dX6_init_66 (by decide) ?_
  refine pk_put (v := .int (-1)) S hK hW 7 m_t0 e_t0 rfl hinX6 tyX6_ok nmX6 (by decide) wd_1162 rfl rfl rfl rfl (Nat.le_of_ble_eq_true rfl) dX6_init_67 (fun H_52 l_53 hW => ?_)
  have e_t0 : (va_up F_51 t0 (.inr (11, ([.int 0, .ref tr, .ref sl, .ref od, .ref wk, .int 0, .int 0, .int 0, .int 0] : List Value).set 7 (.int (-1))))) t0 = .inr (11, [.int 0, .ref tr, .ref sl, .ref od, .ref wk, .int 0, .int 0, .int (-1), .int 0]) := up_eq
  have e_tr : (va_up F_51 t0 (.inr (11, ([.int 0, .ref tr, .ref sl, .ref od, .ref wk, .int 0, .int 0, .int 0, .int 0] : List Value).set 7 (.int (-1))))) tr = .inr (4, [.int 0, .ref (ζ 256), .int 0]) := (up_ne n_t0_tr.symm).trans e_tr
  have e_sl : (va_up F_51 t0 (.inr (11, ([.int 0, .ref tr, .ref sl, .ref od, .ref wk, .int 0, .int 0, .int 0, .int 0] : List Value).set 7 (.int (-1))))) sl = .inr (4, [.int 0, .ref (ζ 256), .int 0]) := (up_ne n_t0_sl.symm).trans e_sl
  have e_od : (va_up F_51 t0 (.inr (11, ([.int 0, .ref tr, .ref sl, .ref od, .ref wk, .int 0, .int 0, .int 0, .int 0] : List Value).set 7 (.int (-1))))) od = .inr (4, [.int 0, .ref (ζ 256), .int 0]) := (up_ne n_t0_od.symm).trans e_od
  have e_wk : (va_up F_51 t0 (.inr (11, ([.int 0, .ref tr, .ref sl, .ref od, .ref wk, .int 0, .int 0, .int 0, .int 0] : List Value).set 7 (.int (-1))))) wk = rfA (κ 4) 2 (va_up (va_up (fun _ => none) (0 : Int32).toNatClampNeg (some w0)) (1 : Int32).toNatClampNeg (some w1)) := (up_ne n_t0_wk.symm).trans e_wk
  have e_w0 : (va_up F_51 t0 (.inr (11, ([.int 0, .ref tr, .ref sl, .ref od, .ref wk, .int 0, .int 0, .int 0, .int 0] : List Value).set 7 (.int (-1))))) w0 = .inr (10, [.int 0, .int 0, .int (-1)]) := (up_ne n_t0_w0.symm).trans e_w0
  have e_w1 : (va_up F_51 t0 (.inr (11, ([.int 0, .ref tr, .ref sl, .ref od, .ref wk, .int 0, .int 0, .int 0, .int 0] : List Value).set 7 (.int (-1))))) w1 = .inr (10, [.int 0, .int 0, .int (-1)]) := (up_ne n_t0_w1.symm).trans e_w1
  have hfr : ∀ x ∈ L, x ≠ t0 → (va_up F_51 t0 (.inr (11, ([.int 0, .ref tr, .ref sl, .ref od, .ref wk, .int 0, .int 0, .int 0, .int 0] : List Value).set 7 (.int (-1))))) x = F x := fun x hx hxt => (up_ne hxt).trans (hfr x hx hxt)
  generalize va_up F_51 t0 (.inr (11, ([.int 0, .ref tr, .ref sl, .ref od, .ref wk, .int 0, .int 0, .int 0, .int 0] : List Value).set 7 (.int (-1)))) = F_54 at hW e_t0 e_tr e_sl e_od e_wk e_w0 e_w1 hfr
  refine lv_iconst (v := 0) S.1 S.2.1 dX6_init_70 (by decide) ?_
  refine lv_istore_n (lv' := [(1, .int 0), (0, .ref t0)]) S.1 S.2.1 dX6_init_71 rfl hl (Nat.le_of_ble_eq_true rfl) rfl (fun ls hl => ?_)
  refine lv_iload_n S.1 S.2.1 dX6_init_72 rfl (lv_at hl 0 rfl) ?_
  refine lv_iconst (v := 2) S.1 S.2.1 dX6_init_73 (by decide) ?_
  refine lv_icmp_ge (tgt := 98) S.1 S.2.1 dX6_init_74 (by decide) (fun c1 => absurd c1 (by decide)) (fun _ => ?_)
  refine lv_aload_n S.1 S.2.1 dX6_init_77 rfl (lv_at hl 1 rfl) ?_
  refine pk_get S hK hW 1 m_t0 e_t0 rfl hinX6 (by decide) wd_1156 rfl dX6_init_78 ?_
  refine pk_new (fs := [.int 0, .null, .int 0]) (ci := 4) S hK hW hinJx4a65c tyJx4a65c_ok wd_1070 wd_1071 wd_8 rfl (fun j hj => by match j, hj with | 0, _ => rfl | 1, _ => rfl | 2, _ => rfl | j + 3, hj => exact absurd hj (by omega)) (by decide) (by decide) dX6_init_81 (fun l0 H_55 hq_l0 hW => ?_)
  have n_t0_l0 : t0 ≠ l0 := fun ee => hq_l0 (ee ▸ m_t0)
  have n_tr_l0 : tr ≠ l0 := fun ee => hq_l0 (ee ▸ m_tr)
  have n_sl_l0 : sl ≠ l0 := fun ee => hq_l0 (ee ▸ m_sl)
  have n_od_l0 : od ≠ l0 := fun ee => hq_l0 (ee ▸ m_od)
  have n_wk_l0 : wk ≠ l0 := fun ee => hq_l0 (ee ▸ m_wk)
  have n_w0_l0 : w0 ≠ l0 := fun ee => hq_l0 (ee ▸ m_w0)
  have n_w1_l0 : w1 ≠ l0 := fun ee => hq_l0 (ee ▸ m_w1)
  have e_t0 : (va_up F_54 l0 (.inr (4, [.int 0, .null, .int 0]))) t0 = .inr (11, [.int 0, .ref tr, .ref sl, .ref od, .ref wk, .int 0, .int 0, .int (-1), .int 0]) := (up_ne n_t0_l0).trans e_t0
  have m_t0 := List.mem_append_left [l0] m_t0
  have e_tr : (va_up F_54 l0 (.inr (4, [.int 0, .null, .int 0]))) tr = .inr (4, [.int 0, .ref (ζ 256), .int 0]) := (up_ne n_tr_l0).trans e_tr
  have m_tr := List.mem_append_left [l0] m_tr
  have e_sl : (va_up F_54 l0 (.inr (4, [.int 0, .null, .int 0]))) sl = .inr (4, [.int 0, .ref (ζ 256), .int 0]) := (up_ne n_sl_l0).trans e_sl
  have m_sl := List.mem_append_left [l0] m_sl
  have e_od : (va_up F_54 l0 (.inr (4, [.int 0, .null, .int 0]))) od = .inr (4, [.int 0, .ref (ζ 256), .int 0]) := (up_ne n_od_l0).trans e_od
  have m_od := List.mem_append_left [l0] m_od
  have e_wk : (va_up F_54 l0 (.inr (4, [.int 0, .null, .int 0]))) wk = rfA (κ 4) 2 (va_up (va_up (fun _ => none) (0 : Int32).toNatClampNeg (some w0)) (1 : Int32).toNatClampNeg (some w1)) := (up_ne n_wk_l0).trans e_wk
  have m_wk := List.mem_append_left [l0] m_wk
  have e_w0 : (va_up F_54 l0 (.inr (4, [.int 0, .null, .int 0]))) w0 = .inr (10, [.int 0, .int 0, .int (-1)]) := (up_ne n_w0_l0).trans e_w0
  have m_w0 := List.mem_append_left [l0] m_w0
  have e_w1 : (va_up F_54 l0 (.inr (4, [.int 0, .null, .int 0]))) w1 = .inr (10, [.int 0, .int 0, .int (-1)]) := (up_ne n_w1_l0).trans e_w1
  have m_w1 := List.mem_append_left [l0] m_w1
  have e_l0 : (va_up F_54 l0 (.inr (4, [.int 0, .null, .int 0]))) l0 = .inr (4, [.int 0, .null, .int 0]) := up_eq
  have m_l0 : l0 ∈ L_43 ++ [l0] := List.mem_append_right _ (List.mem_singleton.mpr rfl)
  have hnw_l0 : l0 ∉ L := fun ee => hq_l0 (hsub _ ee)
  have hfr : ∀ x ∈ L, x ≠ t0 → (va_up F_54 l0 (.inr (4, [.int 0, .null, .int 0]))) x = F x := fun x hx hxt => (up_ne (fun (ee : x = l0) => hnw_l0 (ee ▸ hx))).trans (hfr x hx hxt)
  have hsub : ∀ x ∈ L, x ∈ L_43 ++ [l0] := fun x hx => List.mem_append_left _ (hsub x hx)
  generalize va_up F_54 l0 (.inr (4, [.int 0, .null, .int 0])) = F_56 at hW e_t0 e_tr e_sl e_od e_wk e_w0 e_w1 e_l0 hfr
  generalize L_43 ++ [l0] = L_57 at hW m_t0 m_tr m_sl m_od m_wk m_w0 m_w1 m_l0 hsub
  refine lv_dup S.1 S.2.1 dX6_init_84 rfl ?_
  refine pk_cIV (As := []) (rest := [.ref l0, .ref tr]) S hK hST hW (c_Jx4a65c_init_da8c8 m_l0 e_l0) mc_Jx4a65c_init_da8c8 wd_1072 wd_1073 rfl rfl np_Jx4a65c_init_da8c8 rfl hl.1 rfl (Nat.le_of_ble_eq_true rfl) dX6_init_85 ⟨by decide, by decide⟩ ⟨by decide, by decide⟩ (fun L_61 F_58 H_59 l_60 hp hW => ?_)
  obtain ⟨rfl, ⟨_, e9⟩, hf9⟩ := hp
  have e_t0 : F_58 t0 = .inr (11, [.int 0, .ref tr, .ref sl, .ref od, .ref wk, .int 0, .int 0, .int (-1), .int 0]) := (hf9 t0 n_t0_l0).trans e_t0
  have e_tr : F_58 tr = .inr (4, [.int 0, .ref (ζ 256), .int 0]) := (hf9 tr n_tr_l0).trans e_tr
  have e_sl : F_58 sl = .inr (4, [.int 0, .ref (ζ 256), .int 0]) := (hf9 sl n_sl_l0).trans e_sl
  have e_od : F_58 od = .inr (4, [.int 0, .ref (ζ 256), .int 0]) := (hf9 od n_od_l0).trans e_od
  have e_wk : F_58 wk = rfA (κ 4) 2 (va_up (va_up (fun _ => none) (0 : Int32).toNatClampNeg (some w0)) (1 : Int32).toNatClampNeg (some w1)) := (hf9 wk n_wk_l0).trans e_wk
  have e_w0 : F_58 w0 = .inr (10, [.int 0, .int 0, .int (-1)]) := (hf9 w0 n_w0_l0).trans e_w0
  have e_w1 : F_58 w1 = .inr (10, [.int 0, .int 0, .int (-1)]) := (hf9 w1 n_w1_l0).trans e_w1
  have e_l0 := e9
  have hfr : ∀ x ∈ L, x ≠ t0 → F_58 x = F x := fun x hx hxt => (hf9 x (fun (ee : x = l0) => hnw_l0 (ee ▸ hx))).trans (hfr x hx hxt)
  refine pk_cVI (As := [.ref l0]) (rest := []) S hK hST hW (c_Jx4a65c_add_9ea2d_newL (h := tr) ⟨m_tr, e_tr⟩ n_tr_l0.symm ⟨m_l0, e_l0⟩) mc_Jx4a65c_add_9ea2d wd_1108 wd_1109 wd_1110 rfl np_Jx4a65c_add_9ea2d m_tr e_tr rfl rfl hl.1 rfl (Nat.le_of_ble_eq_true rfl) dX6_init_88 ⟨by decide, by decide⟩ ⟨by decide, by decide⟩ (fun r L_62 F_63 H_64 l_65 hp hW => ?_)
  obtain ⟨hsub1, pa, hq_pa, ⟨_, e9, m_pa, n9, e_pa⟩, hf9⟩ := hp
  have hnw_pa : pa ∉ L := fun ee => hq_pa (hsub _ ee)
  have n_t0_pa : t0 ≠ pa := fun ee => hq_pa (ee ▸ m_t0)
  have n_tr_pa : tr ≠ pa := fun ee => hq_pa (ee ▸ m_tr)
  have n_sl_pa : sl ≠ pa := fun ee => hq_pa (ee ▸ m_sl)
  have n_od_pa : od ≠ pa := fun ee => hq_pa (ee ▸ m_od)
  have n_wk_pa : wk ≠ pa := fun ee => hq_pa (ee ▸ m_wk)
  have n_w0_pa : w0 ≠ pa := fun ee => hq_pa (ee ▸ m_w0)
  have n_w1_pa : w1 ≠ pa := fun ee => hq_pa (ee ▸ m_w1)
  have n_l0_pa : l0 ≠ pa := fun ee => hq_pa (ee ▸ m_l0)
  have e_t0 : F_63 t0 = .inr (11, [.int 0, .ref tr, .ref sl, .ref od, .ref wk, .int 0, .int 0, .int (-1), .int 0]) := (hf9 t0 m_t0 n_t0_tr).trans e_t0
  have e_sl : F_63 sl = .inr (4, [.int 0, .ref (ζ 256), .int 0]) := (hf9 sl m_sl n_tr_sl.symm).trans e_sl
  have e_od : F_63 od = .inr (4, [.int 0, .ref (ζ 256), .int 0]) := (hf9 od m_od n_tr_od.symm).trans e_od
  have e_wk : F_63 wk = rfA (κ 4) 2 (va_up (va_up (fun _ => none) (0 : Int32).toNatClampNeg (some w0)) (1 : Int32).toNatClampNeg (some w1)) := (hf9 wk m_wk n_tr_wk.symm).trans e_wk
  have e_w0 : F_63 w0 = .inr (10, [.int 0, .int 0, .int (-1)]) := (hf9 w0 m_w0 n_tr_w0.symm).trans e_w0
  have e_w1 : F_63 w1 = .inr (10, [.int 0, .int 0, .int (-1)]) := (hf9 w1 m_w1 n_tr_w1.symm).trans e_w1
  have e_l0 : F_63 l0 = .inr (4, [.int 0, .ref (ζ 256), .int 0]) := (hf9 l0 m_l0 n_tr_l0.symm).trans e_l0
  have e_tr := e9
  have hfr : ∀ x ∈ L, x ≠ t0 → F_63 x = F x := fun x hx hxt => (hf9 x (hsub x hx) (fun (ee : x = tr) => hnw_tr (ee ▸ hx))).trans (hfr x hx hxt)
  have m_t0 := hsub1 _ m_t0
  have m_tr := hsub1 _ m_tr
  have m_sl := hsub1 _ m_sl
  have m_od := hsub1 _ m_od
  have m_wk := hsub1 _ m_wk
  have m_w0 := hsub1 _ m_w0
  have m_w1 := hsub1 _ m_w1
  have m_l0 := hsub1 _ m_l0
  have hsub : ∀ x ∈ L, x ∈ L_62 := fun x hx => hsub1 x (hsub x hx)
  refine lv_pop S.1 S.2.1 dX6_init_91 rfl ?_
  refine lv_iinc (lv' := [(1, .int 1), (0, .ref t0)]) S.1 S.2.1 dX6_init_92 hl (k := 0) rfl rfl (Nat.le_of_ble_eq_true rfl) rfl (fun ls hl => ?_)
  refine lv_goto (tgt := 72) S.1 S.2.1 dX6_init_95 (by decide) ?_
  refine lv_iload_n S.1 S.2.1 dX6_init_72 rfl (lv_at hl 0 rfl) ?_
  refine lv_iconst (v := 2) S.1 S.2.1 dX6_init_73 (by decide) ?_
  refine lv_icmp_ge (tgt := 98) S.1 S.2.1 dX6_init_74 (by decide) (fun c1 => absurd c1 (by decide)) (fun _ => ?_)
  refine lv_aload_n S.1 S.2.1 dX6_init_77 rfl (lv_at hl 1 rfl) ?_
  refine pk_get S hK hW 1 m_t0 e_t0 rfl hinX6 (by decide) wd_1156 rfl dX6_init_78 ?_
  refine pk_new (fs := [.int 0, .null, .int 0]) (ci := 4) S hK hW hinJx4a65c tyJx4a65c_ok wd_1070 wd_1071 wd_8 rfl (fun j hj => by match j, hj with | 0, _ => rfl | 1, _ => rfl | 2, _ => rfl | j + 3, hj => exact absurd hj (by omega)) (by decide) (by decide) dX6_init_81 (fun l1 H_66 hq_l1 hW => ?_)
  have n_t0_l1 : t0 ≠ l1 := fun ee => hq_l1 (ee ▸ m_t0)
  have n_tr_l1 : tr ≠ l1 := fun ee => hq_l1 (ee ▸ m_tr)
  have n_sl_l1 : sl ≠ l1 := fun ee => hq_l1 (ee ▸ m_sl)
  have n_od_l1 : od ≠ l1 := fun ee => hq_l1 (ee ▸ m_od)
  have n_wk_l1 : wk ≠ l1 := fun ee => hq_l1 (ee ▸ m_wk)
  have n_w0_l1 : w0 ≠ l1 := fun ee => hq_l1 (ee ▸ m_w0)
  have n_w1_l1 : w1 ≠ l1 := fun ee => hq_l1 (ee ▸ m_w1)
  have n_l0_l1 : l0 ≠ l1 := fun ee => hq_l1 (ee ▸ m_l0)
  have n_pa_l1 : pa ≠ l1 := fun ee => hq_l1 (ee ▸ m_pa)
  have e_t0 : (va_up F_63 l1 (.inr (4, [.int 0, .null, .int 0]))) t0 = .inr (11, [.int 0, .ref tr, .ref sl, .ref od, .ref wk, .int 0, .int 0, .int (-1), .int 0]) := (up_ne n_t0_l1).trans e_t0
  have m_t0 := List.mem_append_left [l1] m_t0
  have e_tr : (va_up F_63 l1 (.inr (4, [.int 0, .null, .int 0]))) tr = .inr (4, [.int (0 + 1), .ref pa, .int (nI (0 + 1))]) := (up_ne n_tr_l1).trans e_tr
  have m_tr := List.mem_append_left [l1] m_tr
  have e_sl : (va_up F_63 l1 (.inr (4, [.int 0, .null, .int 0]))) sl = .inr (4, [.int 0, .ref (ζ 256), .int 0]) := (up_ne n_sl_l1).trans e_sl
  have m_sl := List.mem_append_left [l1] m_sl
  have e_od : (va_up F_63 l1 (.inr (4, [.int 0, .null, .int 0]))) od = .inr (4, [.int 0, .ref (ζ 256), .int 0]) := (up_ne n_od_l1).trans e_od
  have m_od := List.mem_append_left [l1] m_od
  have e_wk : (va_up F_63 l1 (.inr (4, [.int 0, .null, .int 0]))) wk = rfA (κ 4) 2 (va_up (va_up (fun _ => none) (0 : Int32).toNatClampNeg (some w0)) (1 : Int32).toNatClampNeg (some w1)) := (up_ne n_wk_l1).trans e_wk
  have m_wk := List.mem_append_left [l1] m_wk
  have e_w0 : (va_up F_63 l1 (.inr (4, [.int 0, .null, .int 0]))) w0 = .inr (10, [.int 0, .int 0, .int (-1)]) := (up_ne n_w0_l1).trans e_w0
  have m_w0 := List.mem_append_left [l1] m_w0
  have e_w1 : (va_up F_63 l1 (.inr (4, [.int 0, .null, .int 0]))) w1 = .inr (10, [.int 0, .int 0, .int (-1)]) := (up_ne n_w1_l1).trans e_w1
  have m_w1 := List.mem_append_left [l1] m_w1
  have e_l0 : (va_up F_63 l1 (.inr (4, [.int 0, .null, .int 0]))) l0 = .inr (4, [.int 0, .ref (ζ 256), .int 0]) := (up_ne n_l0_l1).trans e_l0
  have m_l0 := List.mem_append_left [l1] m_l0
  have e_pa : (va_up F_63 l1 (.inr (4, [.int 0, .null, .int 0]))) pa = rfA (κ 3) 10 (va_up (fun _ => none) 0 (some l0)) := (up_ne n_pa_l1).trans e_pa
  have m_pa := List.mem_append_left [l1] m_pa
  have e_l1 : (va_up F_63 l1 (.inr (4, [.int 0, .null, .int 0]))) l1 = .inr (4, [.int 0, .null, .int 0]) := up_eq
  have m_l1 : l1 ∈ L_62 ++ [l1] := List.mem_append_right _ (List.mem_singleton.mpr rfl)
  have hnw_l1 : l1 ∉ L := fun ee => hq_l1 (hsub _ ee)
  have hfr : ∀ x ∈ L, x ≠ t0 → (va_up F_63 l1 (.inr (4, [.int 0, .null, .int 0]))) x = F x := fun x hx hxt => (up_ne (fun (ee : x = l1) => hnw_l1 (ee ▸ hx))).trans (hfr x hx hxt)
  have hsub : ∀ x ∈ L, x ∈ L_62 ++ [l1] := fun x hx => List.mem_append_left _ (hsub x hx)
  generalize va_up F_63 l1 (.inr (4, [.int 0, .null, .int 0])) = F_67 at hW e_t0 e_tr e_sl e_od e_wk e_w0 e_w1 e_l0 e_pa e_l1 hfr
  generalize L_62 ++ [l1] = L_68 at hW m_t0 m_tr m_sl m_od m_wk m_w0 m_w1 m_l0 m_pa m_l1 hsub
  refine lv_dup S.1 S.2.1 dX6_init_84 rfl ?_
  refine pk_cIV (As := []) (rest := [.ref l1, .ref tr]) S hK hST hW (c_Jx4a65c_init_da8c8 m_l1 e_l1) mc_Jx4a65c_init_da8c8 wd_1072 wd_1073 rfl rfl np_Jx4a65c_init_da8c8 rfl hl.1 rfl (Nat.le_of_ble_eq_true rfl) dX6_init_85 ⟨by decide, by decide⟩ ⟨by decide, by decide⟩ (fun L_72 F_69 H_70 l_71 hp hW => ?_)
  obtain ⟨rfl, ⟨_, e9⟩, hf9⟩ := hp
  have e_t0 : F_69 t0 = .inr (11, [.int 0, .ref tr, .ref sl, .ref od, .ref wk, .int 0, .int 0, .int (-1), .int 0]) := (hf9 t0 n_t0_l1).trans e_t0
  have e_tr : F_69 tr = .inr (4, [.int (0 + 1), .ref pa, .int (nI (0 + 1))]) := (hf9 tr n_tr_l1).trans e_tr
  have e_sl : F_69 sl = .inr (4, [.int 0, .ref (ζ 256), .int 0]) := (hf9 sl n_sl_l1).trans e_sl
  have e_od : F_69 od = .inr (4, [.int 0, .ref (ζ 256), .int 0]) := (hf9 od n_od_l1).trans e_od
  have e_wk : F_69 wk = rfA (κ 4) 2 (va_up (va_up (fun _ => none) (0 : Int32).toNatClampNeg (some w0)) (1 : Int32).toNatClampNeg (some w1)) := (hf9 wk n_wk_l1).trans e_wk
  have e_w0 : F_69 w0 = .inr (10, [.int 0, .int 0, .int (-1)]) := (hf9 w0 n_w0_l1).trans e_w0
  have e_w1 : F_69 w1 = .inr (10, [.int 0, .int 0, .int (-1)]) := (hf9 w1 n_w1_l1).trans e_w1
  have e_l0 : F_69 l0 = .inr (4, [.int 0, .ref (ζ 256), .int 0]) := (hf9 l0 n_l0_l1).trans e_l0
  have e_pa : F_69 pa = rfA (κ 3) 10 (va_up (fun _ => none) 0 (some l0)) := (hf9 pa n_pa_l1).trans e_pa
  have e_l1 := e9
  have hfr : ∀ x ∈ L, x ≠ t0 → F_69 x = F x := fun x hx hxt => (hf9 x (fun (ee : x = l1) => hnw_l1 (ee ▸ hx))).trans (hfr x hx hxt)
  refine pk_cVI (As := [.ref l1]) (rest := []) S hK hST hW (c_Jx4a65c_add_9ea2d_fitL (h := tr) (k := 1) ⟨m_tr, e_tr, m_pa, n_tr_pa, e_pa⟩ (by decide) (by decide) n_tr_l1.symm ⟨m_l1, e_l1⟩) mc_Jx4a65c_add_9ea2d wd_1108 wd_1109 wd_1110 rfl np_Jx4a65c_add_9ea2d m_tr e_tr rfl rfl hl.1 rfl (Nat.le_of_ble_eq_true rfl) dX6_init_88 ⟨by decide, by decide⟩ ⟨by decide, by decide⟩ (fun r L_73 F_74 H_75 l_76 hp hW => ?_)
  obtain ⟨rfl, ⟨_, e9, _, _, e9a⟩, hf9⟩ := hp
  have e_t0 : F_74 t0 = .inr (11, [.int 0, .ref tr, .ref sl, .ref od, .ref wk, .int 0, .int 0, .int (-1), .int 0]) := (hf9 t0 n_t0_tr n_t0_pa).trans e_t0
  have e_sl : F_74 sl = .inr (4, [.int 0, .ref (ζ 256), .int 0]) := (hf9 sl n_tr_sl.symm n_sl_pa).trans e_sl
  have e_od : F_74 od = .inr (4, [.int 0, .ref (ζ 256), .int 0]) := (hf9 od n_tr_od.symm n_od_pa).trans e_od
  have e_wk : F_74 wk = rfA (κ 4) 2 (va_up (va_up (fun _ => none) (0 : Int32).toNatClampNeg (some w0)) (1 : Int32).toNatClampNeg (some w1)) := (hf9 wk n_tr_wk.symm n_wk_pa).trans e_wk
  have e_w0 : F_74 w0 = .inr (10, [.int 0, .int 0, .int (-1)]) := (hf9 w0 n_tr_w0.symm n_w0_pa).trans e_w0
  have e_w1 : F_74 w1 = .inr (10, [.int 0, .int 0, .int (-1)]) := (hf9 w1 n_tr_w1.symm n_w1_pa).trans e_w1
  have e_l0 : F_74 l0 = .inr (4, [.int 0, .ref (ζ 256), .int 0]) := (hf9 l0 n_tr_l0.symm n_l0_pa).trans e_l0
  have e_l1 : F_74 l1 = .inr (4, [.int 0, .ref (ζ 256), .int 0]) := (hf9 l1 n_tr_l1.symm n_pa_l1.symm).trans e_l1
  have e_tr := e9
  have e_pa := e9a
  have hfr : ∀ x ∈ L, x ≠ t0 → F_74 x = F x := fun x hx hxt => (hf9 x (fun (ee : x = tr) => hnw_tr (ee ▸ hx)) (fun (ee : x = pa) => hnw_pa (ee ▸ hx))).trans (hfr x hx hxt)
  refine lv_pop S.1 S.2.1 dX6_init_91 rfl ?_
  refine lv_iinc (lv' := [(1, .int 2), (0, .ref t0)]) S.1 S.2.1 dX6_init_92 hl (k := 0) rfl rfl (Nat.le_of_ble_eq_true rfl) rfl (fun ls hl => ?_)
  refine lv_goto (tgt := 72) S.1 S.2.1 dX6_init_95 (by decide) ?_
  refine lv_iload_n S.1 S.2.1 dX6_init_72 rfl (lv_at hl 0 rfl) ?_
  refine lv_iconst (v := 2) S.1 S.2.1 dX6_init_73 (by decide) ?_
  refine lv_icmp_ge (tgt := 98) S.1 S.2.1 dX6_init_74 (by decide) (fun _ => ?_) (fun c1 => absurd (by decide) c1)
  have hM : apart [l1, pa, l0, w1, w0, wk, od, sl, tr, t0] := by
    simp only [apart, List.mem_cons, List.not_mem_nil, or_false, not_or, not_false_eq_true, and_true]
    exact ⟨⟨Ne.symm (n_pa_l1), Ne.symm (n_l0_l1), Ne.symm (n_w1_l1), Ne.symm (n_w0_l1), Ne.symm (n_wk_l1), Ne.symm (n_od_l1), Ne.symm (n_sl_l1), Ne.symm (n_tr_l1), Ne.symm (n_t0_l1)⟩, ⟨⟨Ne.symm (n_l0_pa), Ne.symm (n_w1_pa), Ne.symm (n_w0_pa), Ne.symm (n_wk_pa), Ne.symm (n_od_pa), Ne.symm (n_sl_pa), Ne.symm (n_tr_pa), Ne.symm (n_t0_pa)⟩, ⟨⟨Ne.symm (n_w1_l0), Ne.symm (n_w0_l0), Ne.symm (n_wk_l0), Ne.symm (n_od_l0), Ne.symm (n_sl_l0), Ne.symm (n_tr_l0), Ne.symm (n_t0_l0)⟩, ⟨⟨Ne.symm (n_w0_w1), Ne.symm (n_wk_w1), Ne.symm (n_od_w1), Ne.symm (n_sl_w1), Ne.symm (n_tr_w1), Ne.symm (n_t0_w1)⟩, ⟨⟨Ne.symm (n_wk_w0), Ne.symm (n_od_w0), Ne.symm (n_sl_w0), Ne.symm (n_tr_w0), Ne.symm (n_t0_w0)⟩, ⟨⟨Ne.symm (n_od_wk), Ne.symm (n_sl_wk), Ne.symm (n_tr_wk), Ne.symm (n_t0_wk)⟩, ⟨⟨Ne.symm (n_sl_od), Ne.symm (n_tr_od), Ne.symm (n_t0_od)⟩, ⟨⟨Ne.symm (n_tr_sl), Ne.symm (n_t0_sl)⟩, (Ne.symm n_t0_tr)⟩⟩⟩⟩⟩⟩⟩⟩
  have hz : ζ 256 ∉ L_68 := noE hW hST
  have hmm : ∀ i, i < 10 → ([t0, tr, pa, l0, l1, sl, od, wk, w0, w1] : List Nat).getD i 0 ∈ L_68 := by
    intro i hi
    match i, hi with | 0, _ => exact m_t0 | 1, _ => exact m_tr | 2, _ => exact m_pa | 3, _ => exact m_l0 | 4, _ => exact m_l1 | 5, _ => exact m_sl | 6, _ => exact m_od | 7, _ => exact m_wk | 8, _ => exact m_w0 | 9, _ => exact m_w1 | i + 10, hi => exact absurd hi (by omega)
  refine pk_vret S hr hlk hW ⟨hsub, fun i => ([t0, tr, pa, l0, l1, sl, od, wk, w0, w1] : List Nat).getD i 0, rfl, ?_, hfr, ?_⟩ (by decide) (by decide) dX6_init_98
  · refine ⟨hmm, ?_, e_t0, ⟨_, e_tr⟩, ⟨_, e_pa, rfl, rfl⟩, ⟨_, e_wk, rfl, rfl⟩, ?_, hz, fun _ => ζ 256, ?_, ?_, ?_⟩
    · intro i j hi hj he
      have hx : ∀ i : Nat, i < 10 → ([t0, tr, pa, l0, l1, sl, od, wk, w0, w1] : List Nat).getD i 0 = ([l1, pa, l0, w1, w0, wk, od, sl, tr, t0] : List Nat).getD ([9, 8, 1, 2, 0, 7, 6, 5, 4, 3].getD i 0) 0 := by
        intro i hi
        match i, hi with | 0, _ => rfl | 1, _ => rfl | 2, _ => rfl | 3, _ => rfl | 4, _ => rfl | 5, _ => rfl | 6, _ => rfl | 7, _ => rfl | 8, _ => rfl | 9, _ => rfl | i + 10, hi => exact absurd hi (by omega)
      have hb : ∀ i : Nat, i < 10 → [9, 8, 1, 2, 0, 7, 6, 5, 4, 3].getD i 0 < 10 := by decide
      have hij : ∀ i : Nat, i < 10 → ∀ j : Nat, j < 10 → [9, 8, 1, 2, 0, 7, 6, 5, 4, 3].getD i 0 = [9, 8, 1, 2, 0, 7, 6, 5, 4, 3].getD j 0 → i = j := by decide
      exact hij i hi j hj (apart_inj hM (hb i hi) (hb j hj) ((hx i hi).symm.trans (he.trans (hx j hj))))
    · intro j hj
      match j, hj with | 0, _ => exact e_w0 | 1, _ => exact e_w1 | j + 2, hj => exact absurd hj (by omega)
    · intro j hj
      match j, hj with | 0, _ => exact LI.new m_l0 e_l0 | 1, _ => exact LI.new m_l1 e_l1 | 2, _ => exact LI.new m_sl e_sl | 3, _ => exact LI.new m_od e_od | j + 4, hj => exact absurd hj (by omega)
    · intro i j _ _ _ ha; exact absurd ha hz
    · intro j hj; exact ⟨fun e => hz ((show ζ 256 = pa from e) ▸ m_pa), fun e => hz ((show ζ 256 = wk from e) ▸ m_wk)⟩
  · intro i hi hi0
    match i, hi with | 0, _ => exact absurd rfl hi0 | 1, _ => exact hnw_tr | 2, _ => exact hnw_pa | 3, _ => exact hnw_l0 | 4, _ => exact hnw_l1 | 5, _ => exact hnw_sl | 6, _ => exact hnw_od | 7, _ => exact hnw_wk | 8, _ => exact hnw_w0 | 9, _ => exact hnw_w1 | i + 10, hi => exact absurd hi (by omega)
end
