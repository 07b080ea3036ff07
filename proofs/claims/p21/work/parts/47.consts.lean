/-! StringBuilder.append(String) of the constants "" and " ", by their lengths -/
section CKv
variable {p : Program} {l : Launch} {e : Env} {R : Room} {s : State} {m : MethodId} {args : Array Value} {below : List Frame} {meth : Method} {c : Code} {cc : ByteArray} {nL : Nat} {own : String} {H : Heap} {locs : List Loc} {cells slots : Nat} {Q : State → Prop} {D : va_G} {cl : List vw_C} {tys : List (ClassId × FieldType)} {ζ : Nat → Nat} {pc : Nat} {ls : Array Slot} {rest st0 : List Value} {L0 L : List Nat} {F : Nat → va_E} {y : MethodName} {bytes : ByteArray} {n d mc ms index np : Nat} {rt : Option FieldType} {As : List Value}
theorem pk_cVVr (S : CallFix p m c cc nL s args Gw own) (hK : va_K D cl tys s) (hST : ST ζ (AL L0 s.heap.size) s s.heap) (hW : HW D cl L0 s H locs L F) {post : List Nat → (Nat → va_E) → Prop} {b : Nat} {C0 : String} (hM : MtV l D cl tys ζ y bytes n rt d mc ms (.ref b :: As) L F post) (hcd : MCode y bytes n rt) (hlink : Cond.methodLink own index y ∈ Gw) (hin : Cond.instanceMethod y ∈ Gw) (hsel : Cond.selects C0 y y ∈ Gw) (hyc : y.cls = C0) (hnp : (parseMethodDescriptor y.desc).map (fun d => d.parameters.length) = some np) (hrcv : ∃ cellB : Cell, H[b]? = some cellB ∧ cellB.vm.isStatics = false ∧ s.vm.findClass C0 = some cellB.cls) (hlen : As.length = np) (hsize : ls.size = nL) (hstk : st0 = As.reverse ++ .ref b :: rest) (hcat : (rest.map fun v => v.category).sum ≤ 8) (hdg : decode cc pc = .ok (.invokevirtual index, 3)) (hR : d + 1 ≤ R.frames ∧ 8 + (n + 11) + 40 * d ≤ R.locals) (hf : cells + mc ≤ R.cells ∧ slots + ms ≤ R.slots)
    (kk : ∀  (L1 : List Nat) (F1 : Nat → va_E) (H1 : Heap) (locs1 : List Loc), post L1 F1 → HW D cl L0 s H1 locs1 L1 F1 → W p l e R s m args below meth c H1 locs1 (cells + mc) (slots + ms) Q (F0 m (pc + 3) ls (rest))) : W p l e R s m args below meth c H locs cells slots Q (F0 m pc ls st0) := by
  exact va_callv (va_runV (As := As) (rest := rest) S (hM H.size) (cwV np S.2.2.2.2 (gw_cons (pre := [.methodLink own index y, .instanceMethod y, .selects C0 y y, .initialized C0]) hcd (List.forall_mem_cons.mpr ⟨hlink, List.forall_mem_cons.mpr ⟨hin, List.forall_mem_cons.mpr ⟨hsel, List.forall_mem_cons.mpr ⟨hyc ▸ hcd.2.1, fun _ h => absurd h List.not_mem_nil⟩⟩⟩⟩)) rfl rfl rfl ⟨hyc, hcd.2.2.1, hcd.2.2.2, hnp⟩ hR) ⟨PrC.blind, hrcv, fun U hU hWm => ⟨rfl, PrC.of hK hW hST hU hWm⟩⟩ rfl hlen hsize hstk (lv_room hcat) hdg hf) hW.2.2 (fun q _ h => hW.sub q h) hW.sub (fun u t H1 locs1 ht hvm hp hB hz hk hS1 => kk u.1 u.2 H1 locs1 hp (hW.after (sz := 0) ht hB hS1))
end CKv
section CQk
variable {p : Program} {l : Launch} {e : Env} {R : Room} {s : State} {m : MethodId} {args : Array Value} {below : List Frame} {meth : Method} {c : Code} {cc : ByteArray} {nL : Nat} {own : String} {H : Heap} {locs : List Loc} {cells slots : Nat} {Q : State → Prop} {D : va_G} {tys : List (ClassId × FieldType)} {pc : Nat} {ls : Array Slot} {rest : List Value} {L0 L : List Nat} {F : Nat → va_E} {ζ : Nat → Nat}
theorem pk_copyk (S : CallFix p m c cc nL s args Gw own) (hK : va_K D cls tys s) (hW : HW D cls L0 s H locs L F) {index : Nat} (hlink : Cond.methodLink own index arraycopyName ∈ Gw) (hnat : Cond.native arraycopyName ∈ Gw) (hsta : Cond.static arraycopyName ∈ Gw) (hini : Cond.initialized "java/lang/System" ∈ Gw) (hsz : ls.size = nL)
    {b0 n0 : Nat} {f : Nat → Int32} (hX : va_T .byte b0 n0 (fun j => .int (f j)) (AL L0 s.heap.size) s s.heap) {a1 n1 : Nat} {c0 : ClassId} {g : Nat → Int32} (t0 : Nat) (ht : tys[t0]? = some (c0, .byte)) (m1 : a1 ∈ L) (e1 : F a1 = .inl (c0, n1, .inl g)) {sp dp n : Int32} (i j k : Nat) (hsp : sp = nI i) (hdp : dp = nI j) (hn : n = nI k) (h4 : i + k ≤ n0) (h5 : j + k ≤ n1) (hb0 : n0 < 2147483648) (hb1 : n1 < 2147483648) (hf : ∀ q, fits .byte (.int (f q)) = true) (hg : ∀ q, fits .byte (.int (g q)) = true)
    (hfr : 1 ≤ R.frames) (hlo : (rest.map fun v => v.category).sum + (nativeFrameWords "java/lang/System" "arraycopy" 5 + 11) ≤ R.locals) (hdg : decode cc pc = .ok (.invokestatic index, 3))
    (kk : ∀ (g' : Nat → Int32) (H1 : Heap) (locs1 : List Loc), (∀ q, fits .byte (.int (g' q)) = true) → HW D cls L0 s H1 locs1 L (va_up F a1 (.inl (c0, n1, .inl g'))) → W p l e R s m args below meth c H1 locs1 cells slots Q (F0 m (pc + 3) ls rest)) : W p l e R s m args below meth c H locs cells slots Q (F0 m pc ls (.int n :: .int dp :: .ref a1 :: .int sp :: .ref b0 :: rest)) := by
  obtain ⟨k1, hk1⟩ := pl_get (F := F) m1 rfl
  have ci : (nI i).toNatClampNeg = i := nI_clamp (by omega)
  have cj : (nI j).toNatClampNeg = j := nI_clamp (by omega)
  have ck : (nI k).toNatClampNeg = k := nI_clamp (by omega)
  subst hsp hdp hn
  have hgg : ∀ q, fits .byte (.int (va_cpy f g i j k q)) = true := by
    intro q
    rcases Decidable.em (j ≤ q ∧ q < j + k) with h | h
    · have e : va_cpy f g i j k q = f (i + (q - j)) := if_pos h
      rw [e]; exact hf _
    · have e : va_cpy f g i j k q = g q := if_neg h
      rw [e]; exact hg _
  refine vk_copyt S.1 S.2.1 (S.2.2.1.trans hsz.symm) S.2.2.2.1 (S.2.2.2.2 _ hlink) (S.2.2.2.2 _ hnat) (S.2.2.2.2 _ hsta) (S.2.2.2.2 _ hini) hK hW.1 hW.2.1 hW.2.2 hX k1 t0 (hk1.trans (congrArg (fun ee => some (a1, ee)) e1)) ht (nI_pos (by omega)) (nI_pos (by omega)) (nI_pos (by omega)) (by rw [ci, ck]; exact h4) (by rw [cj, ck]; exact h5) (fun x _ => hf _) hfr hlo hdg ?_
  intro H1 locs1 h1 h2 h3
  rw [ci, cj, ck] at h1 h2
  exact kk (va_cpy f g i j k) H1 locs1 hgg (hW.set (e0 := F a1) m1 _ hk1 h1 h2 h3)
end CQk
theorem byt01 {j : Nat} (hj : j < 2) (q : Nat) : fits .byte (.int ((([[], [32]] : List (List Int32)).getD j []).getD q 0)) = true := by
  match j, hj with
  | 0, _ => rfl
  | 1, _ =>
    match q with
    | 0 => rfl
    | q + 1 => rfl
theorem mc_J0_getBytes_840e7 : MCode yJ0_getBytes_840e7 cJ0_getBytes_840e7 4 none := ⟨wd_1015, wd_28, by decide, by decide⟩
theorem np_J0_getBytes_840e7 : (parseMethodDescriptor yJ0_getBytes_840e7.desc).map (fun d => d.parameters.length) = some 3 := by decide +kernel
set_option maxHeartbeats 4000000 in
set_option maxRecDepth 100000 in
theorem c_J0_getBytes_840e7_k {l : Launch} {D : va_G} {κ : Nat → ClassId} {ζ : Nat → Nat} {L : List Nat} {F : Nat → va_E} {v cap k j : Nat} {g : Nat → Int32} (m_v : v ∈ L) (e_v : F v = .inl (κ 1, cap, .inl g)) (hg : ∀ j, fits .byte (.int (g j)) = true) (hj : j < 2) (hkc : k + j ≤ cap) (hcp : cap ≤ 300000) : MtV l D cls (ty5 κ) ζ yJ0_getBytes_840e7 cJ0_getBytes_840e7 4 none 2 0 0 ([.ref (ζ (261 + j)), .ref v, .int (nI k), .int 0] : List Value) L F (fun L' F' => L = L' ∧ (∃ g', F' v = .inl (κ 1, cap, .inl g') ∧ ∀ j, fits .byte (.int (g' j)) = true) ∧ ∀ q, q ≠ v → F' q = F q) := by
  refine MtV.of (by decide) (Nat.le_of_ble_eq_true rfl) ?_
  intro p e s m below meth c S hr hlk hini hK hW hST ls hl
  have hl : lv_has ls 4 [(0, .ref (ζ (261 + j))), (1, .ref v), (2, .int (nI k)), (3, .int 0)] := hl
  have hfr : ∀ q, q ≠ v → F q = F q := fun _ _ => rfl
  refine lv_aload_n S.1 S.2.1 dJ0_getBytes_840e7_0 rfl (lv_at hl 0 rfl) ?_
  refine pk_cVIr (As := []) (rest := []) S hK hST hW (c_J0_coder_7d493_k hj) mc_J0_coder_7d493 wd_998 wd_999 wd_1000 rfl np_J0_coder_7d493 (vk_recv (i := j) (adK := fun i => ζ (261 + i)) hST.2.strs hj hW.2.2) rfl hl.1 rfl (Nat.le_of_ble_eq_true rfl) dJ0_getBytes_840e7_1 ⟨Nat.le_of_ble_eq_true rfl, Nat.le_of_ble_eq_true rfl⟩ ⟨Nat.le_of_ble_eq_true rfl, Nat.le_of_ble_eq_true rfl⟩ (fun r L_1 F_2 H_3 l_4 hp hW => ?_)
  obtain ⟨rfl, rfl, rfl⟩ := hp
  refine lv_iload_n S.1 S.2.1 dJ0_getBytes_840e7_4 rfl (lv_at hl 3 rfl) ?_
  refine lv_icmp_ne (tgt := 28) S.1 S.2.1 dJ0_getBytes_840e7_5 (by decide) (fun c1 => absurd rfl c1) (fun _ => ?_)
  refine lv_aload_n S.1 S.2.1 dJ0_getBytes_840e7_8 rfl (lv_at hl 0 rfl) ?_
  refine vk_getf S.1 S.2.1 (hST.2.strs.1 j hj).2.2.1 hW.2.2 S.2.2.2.1 (S.2.2.2.2 _ wd_1033) (fun _ h => h) dJ0_getBytes_840e7_9 ?_
  refine lv_iconst (v := 0) S.1 S.2.1 dJ0_getBytes_840e7_12 (by decide) ?_
  refine lv_aload_n S.1 S.2.1 dJ0_getBytes_840e7_13 rfl (lv_at hl 1 rfl) ?_
  refine lv_iload_n S.1 S.2.1 dJ0_getBytes_840e7_14 rfl (lv_at hl 2 rfl) ?_
  refine lv_iload_n S.1 S.2.1 dJ0_getBytes_840e7_15 rfl (lv_at hl 3 rfl) ?_
  refine lv_ishl S.1 S.2.1 dJ0_getBytes_840e7_16 ?_
  refine lv_topi (fun y_5 ey_5 => ?_)
  have ey_5 : y_5 = (nI k) := ey_5.trans (shl0 _)
  subst ey_5
  refine lv_aload_n S.1 S.2.1 dJ0_getBytes_840e7_17 rfl (lv_at hl 0 rfl) ?_
  refine vk_getf S.1 S.2.1 (hST.2.strs.1 j hj).2.2.1 hW.2.2 S.2.2.2.1 (S.2.2.2.2 _ wd_1033) (fun _ h => h) dJ0_getBytes_840e7_18 ?_
  refine va_tlen S.1 S.2.1 (hST.2.strs.1 j hj).2.2.2 hW.2.2 (v := nI j) (congrArg Int32.ofNat (len01 hj)) dJ0_getBytes_840e7_21 ?_
  refine pk_copyk S hK hW wd_1016 wd_857 wd_856 wd_13 hl.1 (hST.2.strs.1 j hj).2.2.2 1 rfl m_v e_v 0 k j rfl rfl rfl (by rw [len01 hj, Nat.zero_add]; exact Nat.le_refl _) hkc (by rw [len01 hj]; omega) (by omega) (byt01 hj) hg (Nat.le_of_ble_eq_true rfl) (Nat.le_of_ble_eq_true rfl) dJ0_getBytes_840e7_22 (fun g1 H2 l2 hg1 hW => ?_)
  have e_v : (va_up F v (.inl (κ 1, cap, .inl g1))) v = .inl (κ 1, cap, .inl g1) := up_eq
  have hfr : ∀ q, q ≠ v → (va_up F v (.inl (κ 1, cap, .inl g1))) q = F q := fun q q1 => (up_ne q1).trans (hfr q q1)
  generalize va_up F v (.inl (κ 1, cap, .inl g1)) = F_6 at hW e_v hfr
  refine lv_goto (tgt := 43) S.1 S.2.1 dJ0_getBytes_840e7_25 (by decide) ?_
  exact pk_vret S hr hlk hW ⟨rfl, ⟨g1, e_v, hg1⟩, hfr⟩ (by decide) (by decide) dJ0_getBytes_840e7_43
theorem mc_J5_inflateIfNeededFor_a7421 : MCode yJ5_inflateIfNeededFor_a7421 cJ5_inflateIfNeededFor_a7421 2 none := ⟨wd_1010, wd_26, by decide, by decide⟩
theorem np_J5_inflateIfNeededFor_a7421 : (parseMethodDescriptor yJ5_inflateIfNeededFor_a7421.desc).map (fun d => d.parameters.length) = some 1 := by decide +kernel
set_option maxHeartbeats 4000000 in
set_option maxRecDepth 100000 in
theorem c_J5_inflateIfNeededFor_a7421_k {l : Launch} {D : va_G} {κ : Nat → ClassId} {ζ : Nat → Nat} {L : List Nat} {F : Nat → va_E} {b v cnt j : Nat} {ml : Int32} (m_b : b ∈ L) (e_b : F b = .inr (1, [.ref v, .int 0, .int ml, .int (nI cnt)])) (hj : j < 2) : MtV l D cls (ty5 κ) ζ yJ5_inflateIfNeededFor_a7421 cJ5_inflateIfNeededFor_a7421 2 none 2 0 0 ([.ref b, .ref (ζ (261 + j))] : List Value) L F (fun L' F' => L = L' ∧ F = F') := by
  refine MtV.of (by decide) (Nat.le_of_ble_eq_true rfl) ?_
  intro p e s m below meth c S hr hlk hini hK hW hST ls hl
  have hl : lv_has ls 2 [(0, .ref b), (1, .ref (ζ (261 + j)))] := hl
  refine pk_gets S hW hST.2.zCompact wd_804 dJ5_inflateIfNeededFor_a7421_0 ?_
  refine lv_if_eq (tgt := 21) S.1 S.2.1 dJ5_inflateIfNeededFor_a7421_3 (by decide) (fun c1 => absurd c1 (by decide)) (fun _ => ?_)
  refine lv_aload_n S.1 S.2.1 dJ5_inflateIfNeededFor_a7421_6 rfl (lv_at hl 0 rfl) ?_
  refine pk_get S hK hW 1 m_b e_b rfl hinJ4 (by decide) wd_813 rfl dJ5_inflateIfNeededFor_a7421_7 ?_
  refine lv_aload_n S.1 S.2.1 dJ5_inflateIfNeededFor_a7421_10 rfl (lv_at hl 1 rfl) ?_
  refine pk_cVIr (As := []) (rest := [.int 0]) S hK hST hW (c_J0_coder_7d493_k hj) mc_J0_coder_7d493 wd_1011 wd_999 wd_1000 rfl np_J0_coder_7d493 (vk_recv (i := j) (adK := fun i => ζ (261 + i)) hST.2.strs hj hW.2.2) rfl hl.1 rfl (Nat.le_of_ble_eq_true rfl) dJ5_inflateIfNeededFor_a7421_11 ⟨Nat.le_of_ble_eq_true rfl, Nat.le_of_ble_eq_true rfl⟩ ⟨Nat.le_of_ble_eq_true rfl, Nat.le_of_ble_eq_true rfl⟩ (fun r L_1 F_2 H_3 l_4 hp hW => ?_)
  obtain ⟨rfl, rfl, rfl⟩ := hp
  refine lv_icmp_eq (tgt := 21) S.1 S.2.1 dJ5_inflateIfNeededFor_a7421_14 (by decide) (fun _ => ?_) (fun c1 => absurd rfl c1)
  exact pk_vret S hr hlk hW ⟨rfl, rfl⟩ (by decide) (by decide) dJ5_inflateIfNeededFor_a7421_21
theorem mc_J5_putStringAt_47b60 : MCode yJ5_putStringAt_47b60 cJ5_putStringAt_47b60 3 none := ⟨wd_1006, wd_26, by decide, by decide⟩
theorem np_J5_putStringAt_47b60 : (parseMethodDescriptor yJ5_putStringAt_47b60.desc).map (fun d => d.parameters.length) = some 2 := by decide +kernel
set_option maxHeartbeats 4000000 in
set_option maxRecDepth 100000 in
theorem c_J5_putStringAt_47b60_k {l : Launch} {D : va_G} {κ : Nat → ClassId} {ζ : Nat → Nat} {L : List Nat} {F : Nat → va_E} {b v cap cnt k j : Nat} {ml : Int32} {g : Nat → Int32} (m_b : b ∈ L) (m_v : v ∈ L) (e_b : F b = .inr (1, [.ref v, .int 0, .int ml, .int (nI cnt)])) (e_v : F v = .inl (κ 1, cap, .inl g)) (hg : ∀ j, fits .byte (.int (g j)) = true) (hj : j < 2) (hkc : k + j ≤ cap) (hcp : cap ≤ 300000) : MtV l D cls (ty5 κ) ζ yJ5_putStringAt_47b60 cJ5_putStringAt_47b60 3 none 3 0 0 ([.ref b, .int (nI k), .ref (ζ (261 + j))] : List Value) L F (fun L' F' => L = L' ∧ (∃ g', F' v = .inl (κ 1, cap, .inl g') ∧ ∀ j, fits .byte (.int (g' j)) = true) ∧ ∀ q, q ≠ v → F' q = F q) := by
  refine MtV.of (by decide) (Nat.le_of_ble_eq_true rfl) ?_
  intro p e s m below meth c S hr hlk hini hK hW hST ls hl
  have hl : lv_has ls 3 [(0, .ref b), (1, .int (nI k)), (2, .ref (ζ (261 + j)))] := hl
  refine lv_aload_n S.1 S.2.1 dJ5_putStringAt_47b60_0 rfl (lv_at hl 0 rfl) ?_
  refine lv_aload_n S.1 S.2.1 dJ5_putStringAt_47b60_1 rfl (lv_at hl 2 rfl) ?_
  refine pk_cPV (As := [.ref (ζ (261 + j))]) (rest := []) S hK hST hW (c_J5_inflateIfNeededFor_a7421_k m_b e_b hj) mc_J5_inflateIfNeededFor_a7421 wd_1007 wd_1009 wn_52 wd_1661 np_J5_inflateIfNeededFor_a7421 m_b e_b rfl rfl hl.1 rfl (Nat.le_of_ble_eq_true rfl) dJ5_putStringAt_47b60_2 ⟨Nat.le_of_ble_eq_true rfl, Nat.le_of_ble_eq_true rfl⟩ ⟨Nat.le_of_ble_eq_true rfl, Nat.le_of_ble_eq_true rfl⟩ (fun L_1 F_2 H_3 l_4 hp hW => ?_)
  obtain ⟨rfl, rfl⟩ := hp
  refine lv_aload_n S.1 S.2.1 dJ5_putStringAt_47b60_5 rfl (lv_at hl 2 rfl) ?_
  refine lv_aload_n S.1 S.2.1 dJ5_putStringAt_47b60_6 rfl (lv_at hl 0 rfl) ?_
  refine pk_get S hK hW 0 m_b e_b rfl hinJ4 (by decide) wd_812 rfl dJ5_putStringAt_47b60_7 ?_
  refine lv_iload_n S.1 S.2.1 dJ5_putStringAt_47b60_10 rfl (lv_at hl 1 rfl) ?_
  refine lv_aload_n S.1 S.2.1 dJ5_putStringAt_47b60_11 rfl (lv_at hl 0 rfl) ?_
  refine pk_get S hK hW 1 m_b e_b rfl hinJ4 (by decide) wd_813 rfl dJ5_putStringAt_47b60_12 ?_
  refine pk_cVVr (As := [.ref v, .int (nI k), .int 0]) (rest := []) S hK hST hW (c_J0_getBytes_840e7_k m_v e_v hg hj hkc hcp) mc_J0_getBytes_840e7 wd_1012 wd_1013 wd_1014 rfl np_J0_getBytes_840e7 (vk_recv (i := j) (adK := fun i => ζ (261 + i)) hST.2.strs hj hW.2.2) rfl hl.1 rfl (Nat.le_of_ble_eq_true rfl) dJ5_putStringAt_47b60_15 ⟨Nat.le_of_ble_eq_true rfl, Nat.le_of_ble_eq_true rfl⟩ ⟨Nat.le_of_ble_eq_true rfl, Nat.le_of_ble_eq_true rfl⟩ (fun L9 F9 H9 l9 hp hW => ?_)
  obtain ⟨rfl, ⟨g9, e9, hg9⟩, hf9⟩ := hp
  exact pk_vret S hr hlk hW ⟨rfl, ⟨g9, e9, hg9⟩, hf9⟩ (by decide) (by decide) dJ5_putStringAt_47b60_18
theorem mc_J5_append_cf1ce : MCode yJ5_append_cf1ce cJ5_append_cf1ce 3 (some (.object "java/lang/AbstractStringBuilder")) := ⟨wd_986, wd_26, by decide, by decide⟩
theorem np_J5_append_cf1ce : (parseMethodDescriptor yJ5_append_cf1ce.desc).map (fun d => d.parameters.length) = some 1 := by decide +kernel
set_option maxHeartbeats 4000000 in
set_option maxRecDepth 100000 in
theorem c_J5_append_cf1ce_fit {l : Launch} {D : va_G} {κ : Nat → ClassId} {ζ : Nat → Nat} {L : List Nat} {F : Nat → va_E} {b v cap cnt : Nat} {ml : Int32} {g : Nat → Int32} (m_b : b ∈ L) (m_v : v ∈ L) (n_b_v : b ≠ v) (e_b : F b = .inr (1, [.ref v, .int 0, .int ml, .int (nI cnt)])) (e_v : F v = .inl (κ 1, cap, .inl g)) (hg : ∀ j, fits .byte (.int (g j)) = true) {j : Nat} (hj : j < 2) (hfit : cnt + j ≤ cap) (hcp : cap ≤ 300000) : MtR l D cls (ty5 κ) ζ yJ5_append_cf1ce cJ5_append_cf1ce 3 (some (.object "java/lang/AbstractStringBuilder")) 5 0 0 ([.ref b, .ref (ζ (261 + j))] : List Value) L F (fun r L' F' => b = r ∧ L = L' ∧ F' b = .inr (1, [.ref v, .int 0, .int ml, .int (nI (cnt + j))]) ∧ (∃ g', F' v = .inl (κ 1, cap, .inl g') ∧ ∀ j, fits .byte (.int (g' j)) = true) ∧ ∀ q, q ≠ b → q ≠ v → F' q = F q) := by
  refine MtR.of (by decide) (Nat.le_of_ble_eq_true rfl) ?_
  intro p e s m below meth c S hr hlk hini hK hW hST ls hl
  have hl : lv_has ls 3 [(0, .ref b), (1, .ref (ζ (261 + j)))] := hl
  have hfr : ∀ q, q ≠ b → q ≠ v → F q = F q := fun _ _ _ => rfl
  refine lv_aload_n S.1 S.2.1 dJ5_append_cf1ce_0 rfl (lv_at hl 1 rfl) ?_
  refine lv_ifnonnull (tgt := 9) S.1 S.2.1 dJ5_append_cf1ce_1 (by decide) ?_
  refine lv_aload_n S.1 S.2.1 dJ5_append_cf1ce_9 rfl (lv_at hl 1 rfl) ?_
  refine pk_cVIr (As := []) (rest := []) S hK hST hW (c_J0_length_8abf5_k hj) mc_J0_length_8abf5 wd_994 wd_995 wd_996 rfl np_J0_length_8abf5 (vk_recv (i := j) (adK := fun i => ζ (261 + i)) hST.2.strs hj hW.2.2) rfl hl.1 rfl (Nat.le_of_ble_eq_true rfl) dJ5_append_cf1ce_10 ⟨Nat.le_of_ble_eq_true rfl, Nat.le_of_ble_eq_true rfl⟩ ⟨Nat.le_of_ble_eq_true rfl, Nat.le_of_ble_eq_true rfl⟩ (fun r L_1 F_2 H_3 l_4 hp hW => ?_)
  obtain ⟨rfl, rfl, rfl⟩ := hp
  refine lv_istore_n (lv' := [(2, .int (nI j)), (0, .ref b), (1, .ref (ζ (261 + j)))]) S.1 S.2.1 dJ5_append_cf1ce_13 rfl hl (Nat.le_of_ble_eq_true rfl) rfl (fun ls hl => ?_)
  refine lv_aload_n S.1 S.2.1 dJ5_append_cf1ce_14 rfl (lv_at hl 1 rfl) ?_
  refine lv_aload_n S.1 S.2.1 dJ5_append_cf1ce_15 rfl (lv_at hl 1 rfl) ?_
  refine pk_get S hK hW 3 m_b e_b rfl hinJ4 (by decide) wd_815 rfl dJ5_append_cf1ce_16 ?_
  refine lv_iload_n S.1 S.2.1 dJ5_append_cf1ce_19 rfl (lv_at hl 0 rfl) ?_
  refine lv_iadd S.1 S.2.1 dJ5_append_cf1ce_20 ?_
  refine lv_topi (fun y_5 ey_5 => ?_)
  have ey_5 : y_5 = nI (cnt + j) := ey_5.trans ((nI_add _ _))
  subst ey_5
  refine pk_cPV (As := [.int (nI (cnt + j))]) (rest := []) S hK hST hW (c_J5_ensureCapacityInternal_d00df_fit m_b m_v n_b_v e_b e_v hg hfit hcp) mc_J5_ensureCapacityInternal_d00df wd_828 wd_830 wn_47 wd_1654 np_J5_ensureCapacityInternal_d00df m_b e_b rfl rfl hl.1 rfl (Nat.le_of_ble_eq_true rfl) dJ5_append_cf1ce_21 ⟨Nat.le_of_ble_eq_true rfl, Nat.le_of_ble_eq_true rfl⟩ ⟨Nat.le_of_ble_eq_true rfl, Nat.le_of_ble_eq_true rfl⟩ (fun L_6 F_7 H_8 l_9 hp hW => ?_)
  obtain ⟨rfl, rfl⟩ := hp
  refine lv_aload_n S.1 S.2.1 dJ5_append_cf1ce_24 rfl (lv_at hl 1 rfl) ?_
  refine lv_aload_n S.1 S.2.1 dJ5_append_cf1ce_25 rfl (lv_at hl 1 rfl) ?_
  refine pk_get S hK hW 3 m_b e_b rfl hinJ4 (by decide) wd_815 rfl dJ5_append_cf1ce_26 ?_
  refine lv_aload_n S.1 S.2.1 dJ5_append_cf1ce_29 rfl (lv_at hl 2 rfl) ?_
  refine pk_cPV (As := [.int (nI cnt), .ref (ζ (261 + j))]) (rest := []) S hK hST hW (c_J5_putStringAt_47b60_k m_b m_v e_b e_v hg hj (k := cnt) hfit hcp) mc_J5_putStringAt_47b60 wd_1003 wd_1005 wn_51 wd_1660 np_J5_putStringAt_47b60 m_b e_b rfl rfl hl.1 rfl (Nat.le_of_ble_eq_true rfl) dJ5_append_cf1ce_30 ⟨Nat.le_of_ble_eq_true rfl, Nat.le_of_ble_eq_true rfl⟩ ⟨Nat.le_of_ble_eq_true rfl, Nat.le_of_ble_eq_true rfl⟩ (fun L9 F9 H9 l9 hp hW => ?_)
  obtain ⟨rfl, ⟨g9, e9, hg9⟩, hf9⟩ := hp
  have e_b : F9 b = .inr (1, [.ref v, .int 0, .int ml, .int (nI cnt)]) := (hf9 b n_b_v).trans e_b
  have e_v := e9
  have hfr : ∀ q, q ≠ b → q ≠ v → F9 q = F q := fun q q1 q2 => (hf9 q q2).trans (hfr q q1 q2)
  refine lv_aload_n S.1 S.2.1 dJ5_append_cf1ce_33 rfl (lv_at hl 1 rfl) ?_
  refine lv_dup S.1 S.2.1 dJ5_append_cf1ce_34 rfl ?_
  refine pk_get S hK hW 3 m_b e_b rfl hinJ4 (by decide) wd_815 rfl dJ5_append_cf1ce_35 ?_
  refine lv_iload_n S.1 S.2.1 dJ5_append_cf1ce_38 rfl (lv_at hl 0 rfl) ?_
  refine lv_iadd S.1 S.2.1 dJ5_append_cf1ce_39 ?_
  refine lv_topi (fun y_10 ey_10 => ?_)
  have ey_10 : y_10 = nI (cnt + j) := ey_10.trans ((nI_add _ _))
  subst ey_10
  refine pk_put (v := .int (nI (cnt + j))) S hK hW 3 m_b e_b rfl hinJ4 tyJ4_ok nmJ4 (by decide) wd_815 rfl rfl rfl rfl (Nat.le_of_ble_eq_true rfl) dJ5_append_cf1ce_40 (fun H_11 l_12 hW => ?_)
  have e_b : (va_up F9 b (.inr (1, ([.ref v, .int 0, .int ml, .int (nI cnt)] : List Value).set 3 (.int (nI (cnt + j)))))) b = .inr (1, [.ref v, .int 0, .int ml, .int (nI (cnt + j))]) := up_eq
  have e_v : (va_up F9 b (.inr (1, ([.ref v, .int 0, .int ml, .int (nI cnt)] : List Value).set 3 (.int (nI (cnt + j)))))) v = .inl (κ 1, cap, .inl g9) := (up_ne n_b_v.symm).trans e_v
  have hfr : ∀ q, q ≠ b → q ≠ v → (va_up F9 b (.inr (1, ([.ref v, .int 0, .int ml, .int (nI cnt)] : List Value).set 3 (.int (nI (cnt + j)))))) q = F q := fun q q1 q2 => (up_ne q1).trans (hfr q q1 q2)
  generalize va_up F9 b (.inr (1, ([.ref v, .int 0, .int ml, .int (nI cnt)] : List Value).set 3 (.int (nI (cnt + j))))) = F_13 at hW e_b e_v hfr
  refine lv_aload_n S.1 S.2.1 dJ5_append_cf1ce_43 rfl (lv_at hl 1 rfl) ?_
  exact pk_rret S hr (Or.inl ⟨_, rfl⟩) hlk hW ⟨rfl, rfl, e_b, ⟨g9, e_v, hg9⟩, hfr⟩ (by decide) (by decide) dJ5_append_cf1ce_44
set_option maxHeartbeats 4000000 in
set_option maxRecDepth 100000 in
theorem c_J5_append_cf1ce_grow {l : Launch} {D : va_G} {κ : Nat → ClassId} {ζ : Nat → Nat} {L : List Nat} {F : Nat → va_E} {b v cap cnt : Nat} {ml : Int32} {g : Nat → Int32} (m_b : b ∈ L) (m_v : v ∈ L) (n_b_v : b ≠ v) (e_b : F b = .inr (1, [.ref v, .int 0, .int ml, .int (nI cnt)])) (e_v : F v = .inl (κ 1, cap, .inl g)) (hg : ∀ j, fits .byte (.int (g j)) = true) {j : Nat} (hj : j < 2) (hgr : cap < cnt + j) (hcn : cnt + j ≤ 100000) : MtR l D cls (ty5 κ) ζ yJ5_append_cf1ce cJ5_append_cf1ce 3 (some (.object "java/lang/AbstractStringBuilder")) 5 1 (cap + max (cnt + j - cap) (cap + 2)) ([.ref b, .ref (ζ (261 + j))] : List Value) L F (fun r L' F' => b = r ∧ (∀ x ∈ L, x ∈ L') ∧ (∃ q g', q ∉ L ∧ q ∈ L' ∧ b ≠ q ∧ F' b = .inr (1, [.ref q, .int 0, .int ml, .int (nI (cnt + j))]) ∧ F' q = .inl (κ 1, (cap + max (cnt + j - cap) (cap + 2)), .inl g') ∧ ∀ j, fits .byte (.int (g' j)) = true) ∧ ∀ x ∈ L, x ≠ b → F' x = F x) := by
  refine MtR.of (by decide) (Nat.le_of_ble_eq_true rfl) ?_
  intro p e s m below meth c S hr hlk hini hK hW hST ls hl
  have hl : lv_has ls 3 [(0, .ref b), (1, .ref (ζ (261 + j)))] := hl
  refine lv_aload_n S.1 S.2.1 dJ5_append_cf1ce_0 rfl (lv_at hl 1 rfl) ?_
  refine lv_ifnonnull (tgt := 9) S.1 S.2.1 dJ5_append_cf1ce_1 (by decide) ?_
  refine lv_aload_n S.1 S.2.1 dJ5_append_cf1ce_9 rfl (lv_at hl 1 rfl) ?_
  refine pk_cVIr (As := []) (rest := []) S hK hST hW (c_J0_length_8abf5_k hj) mc_J0_length_8abf5 wd_994 wd_995 wd_996 rfl np_J0_length_8abf5 (vk_recv (i := j) (adK := fun i => ζ (261 + i)) hST.2.strs hj hW.2.2) rfl hl.1 rfl (Nat.le_of_ble_eq_true rfl) dJ5_append_cf1ce_10 ⟨Nat.le_of_ble_eq_true rfl, Nat.le_of_ble_eq_true rfl⟩ ⟨Nat.le_of_ble_eq_true rfl, Nat.le_of_ble_eq_true rfl⟩ (fun r L_1 F_2 H_3 l_4 hp hW => ?_)
  obtain ⟨rfl, rfl, rfl⟩ := hp
  refine lv_istore_n (lv' := [(2, .int (nI j)), (0, .ref b), (1, .ref (ζ (261 + j)))]) S.1 S.2.1 dJ5_append_cf1ce_13 rfl hl (Nat.le_of_ble_eq_true rfl) rfl (fun ls hl => ?_)
  refine lv_aload_n S.1 S.2.1 dJ5_append_cf1ce_14 rfl (lv_at hl 1 rfl) ?_
  refine lv_aload_n S.1 S.2.1 dJ5_append_cf1ce_15 rfl (lv_at hl 1 rfl) ?_
  refine pk_get S hK hW 3 m_b e_b rfl hinJ4 (by decide) wd_815 rfl dJ5_append_cf1ce_16 ?_
  refine lv_iload_n S.1 S.2.1 dJ5_append_cf1ce_19 rfl (lv_at hl 0 rfl) ?_
  refine lv_iadd S.1 S.2.1 dJ5_append_cf1ce_20 ?_
  refine lv_topi (fun y_5 ey_5 => ?_)
  have ey_5 : y_5 = nI (cnt + j) := ey_5.trans ((nI_add _ _))
  subst ey_5
  refine pk_cPV (As := [.int (nI (cnt + j))]) (rest := []) S hK hST hW (c_J5_ensureCapacityInternal_d00df_grow m_b m_v n_b_v e_b e_v hg hgr hcn) mc_J5_ensureCapacityInternal_d00df wd_828 wd_830 wn_47 wd_1654 np_J5_ensureCapacityInternal_d00df m_b e_b rfl rfl hl.1 rfl (Nat.le_of_ble_eq_true rfl) dJ5_append_cf1ce_21 ⟨Nat.le_of_ble_eq_true rfl, Nat.le_of_ble_eq_true rfl⟩ ⟨Nat.le_of_ble_eq_true rfl, by rw [Nat.zero_add]; exact Nat.le_refl _⟩ (fun L1 F1 H1 l1 hp hW => ?_)
  obtain ⟨hsub1, ⟨q, g1, hq_q, m_q, n_b_q, e_b, e_q, hg1⟩, hfr1⟩ := hp
  have m_b := hsub1 _ m_b
  have hfr : ∀ x ∈ L, x ≠ b → F1 x = F x := hfr1
  refine lv_aload_n S.1 S.2.1 dJ5_append_cf1ce_24 rfl (lv_at hl 1 rfl) ?_
  refine lv_aload_n S.1 S.2.1 dJ5_append_cf1ce_25 rfl (lv_at hl 1 rfl) ?_
  refine pk_get S hK hW 3 m_b e_b rfl hinJ4 (by decide) wd_815 rfl dJ5_append_cf1ce_26 ?_
  refine lv_aload_n S.1 S.2.1 dJ5_append_cf1ce_29 rfl (lv_at hl 2 rfl) ?_
  refine pk_cPV (As := [.int (nI cnt), .ref (ζ (261 + j))]) (rest := []) S hK hST hW (c_J5_putStringAt_47b60_k m_b m_q e_b e_q hg1 hj (k := cnt) (by omega) (by omega)) mc_J5_putStringAt_47b60 wd_1003 wd_1005 wn_51 wd_1660 np_J5_putStringAt_47b60 m_b e_b rfl rfl hl.1 rfl (Nat.le_of_ble_eq_true rfl) dJ5_append_cf1ce_30 ⟨Nat.le_of_ble_eq_true rfl, Nat.le_of_ble_eq_true rfl⟩ ⟨Nat.le_of_ble_eq_true rfl, by rw [Nat.add_zero, Nat.zero_add]; exact Nat.le_refl _⟩ (fun L9 F9 H9 l9 hp hW => ?_)
  obtain ⟨rfl, ⟨g9, e9, hg9⟩, hf9⟩ := hp
  have e_b : F9 b = .inr (1, [.ref q, .int 0, .int ml, .int (nI cnt)]) := (hf9 b n_b_q).trans e_b
  have e_q := e9
  have hfr : ∀ x ∈ L, x ≠ b → F9 x = F x := fun x hx xb => (hf9 x (fun (ee : x = q) => hq_q (ee ▸ hx))).trans (hfr x hx xb)
  refine lv_aload_n S.1 S.2.1 dJ5_append_cf1ce_33 rfl (lv_at hl 1 rfl) ?_
  refine lv_dup S.1 S.2.1 dJ5_append_cf1ce_34 rfl ?_
  refine pk_get S hK hW 3 m_b e_b rfl hinJ4 (by decide) wd_815 rfl dJ5_append_cf1ce_35 ?_
  refine lv_iload_n S.1 S.2.1 dJ5_append_cf1ce_38 rfl (lv_at hl 0 rfl) ?_
  refine lv_iadd S.1 S.2.1 dJ5_append_cf1ce_39 ?_
  refine lv_topi (fun y_6 ey_6 => ?_)
  have ey_6 : y_6 = nI (cnt + j) := ey_6.trans ((nI_add _ _))
  subst ey_6
  refine pk_put (v := .int (nI (cnt + j))) S hK hW 3 m_b e_b rfl hinJ4 tyJ4_ok nmJ4 (by decide) wd_815 rfl rfl rfl rfl (Nat.le_of_ble_eq_true rfl) dJ5_append_cf1ce_40 (fun H_7 l_8 hW => ?_)
  have e_b : (va_up F9 b (.inr (1, ([.ref q, .int 0, .int ml, .int (nI cnt)] : List Value).set 3 (.int (nI (cnt + j)))))) b = .inr (1, [.ref q, .int 0, .int ml, .int (nI (cnt + j))]) := up_eq
  have e_q : (va_up F9 b (.inr (1, ([.ref q, .int 0, .int ml, .int (nI cnt)] : List Value).set 3 (.int (nI (cnt + j)))))) q = .inl (κ 1, (cap + max (cnt + j - cap) (cap + 2)), .inl g9) := (up_ne n_b_q.symm).trans e_q
  have hfr : ∀ x ∈ L, x ≠ b → (va_up F9 b (.inr (1, ([.ref q, .int 0, .int ml, .int (nI cnt)] : List Value).set 3 (.int (nI (cnt + j)))))) x = F x := fun x hx xb => (up_ne xb).trans (hfr x hx xb)
  generalize va_up F9 b (.inr (1, ([.ref q, .int 0, .int ml, .int (nI cnt)] : List Value).set 3 (.int (nI (cnt + j))))) = F_9 at hW e_b e_q hfr
  refine lv_aload_n S.1 S.2.1 dJ5_append_cf1ce_43 rfl (lv_at hl 1 rfl) ?_
  exact pk_rret S hr (Or.inl ⟨_, rfl⟩) hlk hW ⟨rfl, hsub1, ⟨q, g9, hq_q, m_q, n_b_q, e_b, e_q, hg9⟩, hfr⟩ (by decide) (by rw [Nat.zero_add]; exact Nat.le_refl _) dJ5_append_cf1ce_44
theorem mc_J4_append_15ec4 : MCode yJ4_append_15ec4 cJ4_append_15ec4 2 (some (.object "java/lang/StringBuilder")) := ⟨wd_983, wd_27, by decide, by decide⟩
theorem np_J4_append_15ec4 : (parseMethodDescriptor yJ4_append_15ec4.desc).map (fun d => d.parameters.length) = some 1 := by decide +kernel
set_option maxHeartbeats 4000000 in
set_option maxRecDepth 100000 in
theorem c_J4_append_15ec4_fit {l : Launch} {D : va_G} {κ : Nat → ClassId} {ζ : Nat → Nat} {L : List Nat} {F : Nat → va_E} {b v cap cnt : Nat} {ml : Int32} {g : Nat → Int32} (m_b : b ∈ L) (m_v : v ∈ L) (n_b_v : b ≠ v) (e_b : F b = .inr (1, [.ref v, .int 0, .int ml, .int (nI cnt)])) (e_v : F v = .inl (κ 1, cap, .inl g)) (hg : ∀ j, fits .byte (.int (g j)) = true) {j : Nat} (hj : j < 2) (hfit : cnt + j ≤ cap) (hcp : cap ≤ 300000) : MtR l D cls (ty5 κ) ζ yJ4_append_15ec4 cJ4_append_15ec4 2 (some (.object "java/lang/StringBuilder")) 6 0 0 ([.ref b, .ref (ζ (261 + j))] : List Value) L F (fun r L' F' => b = r ∧ L = L' ∧ F' b = .inr (1, [.ref v, .int 0, .int ml, .int (nI (cnt + j))]) ∧ (∃ g', F' v = .inl (κ 1, cap, .inl g') ∧ ∀ j, fits .byte (.int (g' j)) = true) ∧ ∀ q, q ≠ b → q ≠ v → F' q = F q) := by
  refine MtR.of (by decide) (Nat.le_of_ble_eq_true rfl) ?_
  intro p e s m below meth c S hr hlk hini hK hW hST ls hl
  have hl : lv_has ls 2 [(0, .ref b), (1, .ref (ζ (261 + j)))] := hl
  refine lv_aload_n S.1 S.2.1 dJ4_append_15ec4_0 rfl (lv_at hl 0 rfl) ?_
  refine lv_aload_n S.1 S.2.1 dJ4_append_15ec4_1 rfl (lv_at hl 1 rfl) ?_
  refine pk_cWR (As := [.ref (ζ (261 + j))]) (rest := []) S hK hST hW (c_J5_append_cf1ce_fit m_b m_v n_b_v e_b e_v hg hj hfit hcp) mc_J5_append_cf1ce wd_984 wd_985 wd_1658 wd_820 (by decide) np_J5_append_cf1ce m_b e_b rfl rfl hl.1 rfl (Nat.le_of_ble_eq_true rfl) dJ4_append_15ec4_2 ⟨Nat.le_of_ble_eq_true rfl, Nat.le_of_ble_eq_true rfl⟩ ⟨Nat.le_of_ble_eq_true rfl, Nat.le_of_ble_eq_true rfl⟩ (fun r L_1 F_2 H_3 l_4 hp hW => ?_)
  obtain ⟨rfl, hp⟩ := hp
  refine lv_pop S.1 S.2.1 dJ4_append_15ec4_5 rfl ?_
  refine lv_aload_n S.1 S.2.1 dJ4_append_15ec4_6 rfl (lv_at hl 0 rfl) ?_
  exact pk_rret S hr (Or.inl ⟨_, rfl⟩) hlk hW ⟨rfl, hp⟩ (by decide) (by decide) dJ4_append_15ec4_7
set_option maxHeartbeats 4000000 in
set_option maxRecDepth 100000 in
theorem c_J4_append_15ec4_grow {l : Launch} {D : va_G} {κ : Nat → ClassId} {ζ : Nat → Nat} {L : List Nat} {F : Nat → va_E} {b v cap cnt : Nat} {ml : Int32} {g : Nat → Int32} (m_b : b ∈ L) (m_v : v ∈ L) (n_b_v : b ≠ v) (e_b : F b = .inr (1, [.ref v, .int 0, .int ml, .int (nI cnt)])) (e_v : F v = .inl (κ 1, cap, .inl g)) (hg : ∀ j, fits .byte (.int (g j)) = true) {j : Nat} (hj : j < 2) (hgr : cap < cnt + j) (hcn : cnt + j ≤ 100000) : MtR l D cls (ty5 κ) ζ yJ4_append_15ec4 cJ4_append_15ec4 2 (some (.object "java/lang/StringBuilder")) 6 1 (cap + max (cnt + j - cap) (cap + 2)) ([.ref b, .ref (ζ (261 + j))] : List Value) L F (fun r L' F' => b = r ∧ (∀ x ∈ L, x ∈ L') ∧ (∃ q g', q ∉ L ∧ q ∈ L' ∧ b ≠ q ∧ F' b = .inr (1, [.ref q, .int 0, .int ml, .int (nI (cnt + j))]) ∧ F' q = .inl (κ 1, (cap + max (cnt + j - cap) (cap + 2)), .inl g') ∧ ∀ j, fits .byte (.int (g' j)) = true) ∧ ∀ x ∈ L, x ≠ b → F' x = F x) := by
  refine MtR.of (by decide) (Nat.le_of_ble_eq_true rfl) ?_
  intro p e s m below meth c S hr hlk hini hK hW hST ls hl
  have hl : lv_has ls 2 [(0, .ref b), (1, .ref (ζ (261 + j)))] := hl
  refine lv_aload_n S.1 S.2.1 dJ4_append_15ec4_0 rfl (lv_at hl 0 rfl) ?_
  refine lv_aload_n S.1 S.2.1 dJ4_append_15ec4_1 rfl (lv_at hl 1 rfl) ?_
  refine pk_cWR (As := [.ref (ζ (261 + j))]) (rest := []) S hK hST hW (c_J5_append_cf1ce_grow m_b m_v n_b_v e_b e_v hg hj hgr hcn) mc_J5_append_cf1ce wd_984 wd_985 wd_1658 wd_820 (by decide) np_J5_append_cf1ce m_b e_b rfl rfl hl.1 rfl (Nat.le_of_ble_eq_true rfl) dJ4_append_15ec4_2 ⟨Nat.le_of_ble_eq_true rfl, Nat.le_of_ble_eq_true rfl⟩ ⟨Nat.le_of_ble_eq_true rfl, by rw [Nat.zero_add]; exact Nat.le_refl _⟩ (fun r L_1 F_2 H_3 l_4 hp hW => ?_)
  obtain ⟨rfl, hp⟩ := hp
  refine lv_pop S.1 S.2.1 dJ4_append_15ec4_5 rfl ?_
  refine lv_aload_n S.1 S.2.1 dJ4_append_15ec4_6 rfl (lv_at hl 0 rfl) ?_
  exact pk_rret S hr (Or.inl ⟨_, rfl⟩) hlk hW ⟨rfl, hp⟩ (by decide) (by rw [Nat.zero_add]; exact Nat.le_refl _) dJ4_append_15ec4_7
/-- append("" or " "), be it that it fits or that it grows -/
theorem c_SBk {l : Launch} {D : va_G} {κ : Nat → ClassId} {ζ : Nat → Nat} {L : List Nat} {F : Nat → va_E} {b v cap cnt : Nat} (h : SB κ b v cap cnt L F) {j : Nat} (hj : j < 2) (hcn : cnt + j ≤ 100000) (hcp : cap ≤ 300000) : MtR l D cls (ty5 κ) ζ yJ4_append_15ec4 cJ4_append_15ec4 2 (some (.object "java/lang/StringBuilder")) 6 (gmc cap (cnt + j)) (gms cap (cnt + j)) [.ref b, .ref (ζ (261 + j))] L F (fun r L' F' => b = r ∧ (∀ x ∈ L, x ∈ L') ∧ (∃ v', (v' = v ∨ v' ∉ L) ∧ SB κ b v' (ncap cap (cnt + j)) (cnt + j) L' F') ∧ ∀ x ∈ L, x ≠ b → x ≠ v → F' x = F x) := by
  obtain ⟨m_b, m_v, n_b_v, hle, ⟨ml, e_b⟩, g, hg, e_v⟩ := h
  by_cases hf : cnt + j ≤ cap
  · rw [show gmc cap (cnt + j) = 0 from if_pos hf, show gms cap (cnt + j) = 0 from if_pos hf, show ncap cap (cnt + j) = cap from if_pos hf]
    refine MtR.imp (c_J4_append_15ec4_fit m_b m_v n_b_v e_b e_v hg hj hf hcp) (fun r L' F' hp => ?_)
    obtain ⟨rfl, rfl, h1, ⟨g', h2, h3⟩, h4⟩ := hp
    exact ⟨rfl, fun x hx => hx, ⟨v, Or.inl rfl, m_b, m_v, n_b_v, hf, ⟨ml, h1⟩, g', h3, h2⟩, fun x _ x1 x2 => h4 x x1 x2⟩
  · rw [show gmc cap (cnt + j) = 1 from if_neg hf, show gms cap (cnt + j) = _ from if_neg hf, show ncap cap (cnt + j) = _ from if_neg hf]
    refine MtR.imp (c_J4_append_15ec4_grow m_b m_v n_b_v e_b e_v hg hj (by omega) hcn) (fun r L' F' hp => ?_)
    obtain ⟨rfl, h0, ⟨q, g', h1, h2, h3, h4, h5, h6⟩, h7⟩ := hp
    exact ⟨rfl, h0, ⟨q, Or.inr h1, h0 _ m_b, h2, h3, by omega, ⟨ml, h4⟩, g', h6, h5⟩, fun x hx x1 _ => h7 x hx x1⟩
