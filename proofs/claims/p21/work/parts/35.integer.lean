/-! makers of lists; Integer; the iterator -/
section CKr
variable {p : Program} {l : Launch} {e : Env} {R : Room} {s : State} {m : MethodId} {args : Array Value} {below : List Frame} {meth : Method} {c : Code} {cc : ByteArray} {nL : Nat} {own : String} {H : Heap} {locs : List Loc} {cells slots : Nat} {Q : State → Prop} {D : va_G} {cl : List vw_C} {tys : List (ClassId × FieldType)} {ζ : Nat → Nat} {pc : Nat} {ls : Array Slot} {rest st0 : List Value} {L0 L : List Nat} {F : Nat → va_E} {y : MethodName} {bytes : ByteArray} {n d mc ms index np : Nat} {rt : Option FieldType} {As : List Value}
theorem pk_cVIr (S : CallFix p m c cc nL s args Gw own) (hK : va_K D cl tys s) (hST : ST ζ (AL L0 s.heap.size) s s.heap) (hW : HW D cl L0 s H locs L F) {post : Int32 → List Nat → (Nat → va_E) → Prop} {b : Nat} {C0 : String} (hM : MtI l D cl tys ζ y bytes n rt d mc ms (.ref b :: As) L F post) (hcd : MCode y bytes n rt) (hlink : Cond.methodLink own index y ∈ Gw) (hin : Cond.instanceMethod y ∈ Gw) (hsel : Cond.selects C0 y y ∈ Gw) (hyc : y.cls = C0) (hnp : (parseMethodDescriptor y.desc).map (fun d => d.parameters.length) = some np) (hrcv : ∃ cellB : Cell, H[b]? = some cellB ∧ cellB.vm.isStatics = false ∧ s.vm.findClass C0 = some cellB.cls) (hlen : As.length = np) (hsize : ls.size = nL) (hstk : st0 = As.reverse ++ .ref b :: rest) (hcat : (rest.map fun v => v.category).sum ≤ 8) (hdg : decode cc pc = .ok (.invokevirtual index, 3)) (hR : d + 1 ≤ R.frames ∧ 8 + (n + 11) + 40 * d ≤ R.locals) (hf : cells + mc ≤ R.cells ∧ slots + ms ≤ R.slots)
    (kk : ∀ (r : Int32) (L1 : List Nat) (F1 : Nat → va_E) (H1 : Heap) (locs1 : List Loc), post r L1 F1 → HW D cl L0 s H1 locs1 L1 F1 → W p l e R s m args below meth c H1 locs1 (cells + mc) (slots + ms) Q (F0 m (pc + 3) ls (.int r :: rest))) : W p l e R s m args below meth c H locs cells slots Q (F0 m pc ls st0) := by
  exact va_calli (va_runV (As := As) (rest := rest) S (hM H.size) (cwV np S.2.2.2.2 (gw_cons (pre := [.methodLink own index y, .instanceMethod y, .selects C0 y y, .initialized C0]) hcd (List.forall_mem_cons.mpr ⟨hlink, List.forall_mem_cons.mpr ⟨hin, List.forall_mem_cons.mpr ⟨hsel, List.forall_mem_cons.mpr ⟨hyc ▸ hcd.2.1, fun _ h => absurd h List.not_mem_nil⟩⟩⟩⟩)) rfl rfl rfl ⟨hyc, hcd.2.2.1, hcd.2.2.2, hnp⟩ hR) ⟨PrC.blind, hrcv, fun U hU hWm => ⟨rfl, PrC.of hK hW hST hU hWm⟩⟩ rfl hlen hsize hstk (lv_room hcat) hdg hf) hW.2.2 (fun q _ h => hW.sub q h) hW.sub (fun r u t H1 locs1 ht hvm hp hB hz hk hS1 => kk r u.1 u.2 H1 locs1 hp (hW.after (sz := 0) ht hB hS1))
end CKr
theorem mc_Jxa1e45_init_da8c8 : MCode yJxa1e45_init_da8c8 cJxa1e45_init_da8c8 1 none := ⟨wd_1080, wd_6, by decide, by decide⟩
theorem np_Jxa1e45_init_da8c8 : (parseMethodDescriptor yJxa1e45_init_da8c8.desc).map (fun d => d.parameters.length) = some 0 := by decide +kernel
set_option maxHeartbeats 4000000 in
set_option maxRecDepth 100000 in
theorem c_Jxa1e45_init_da8c8 {l : Launch} {D : va_G} {κ : Nat → ClassId} {ζ : Nat → Nat} {L : List Nat} {F : Nat → va_E} {h : Nat} : MtV l D cls (ty5 κ) ζ yJxa1e45_init_da8c8 cJxa1e45_init_da8c8 1 none 2 0 0 ([.ref h] : List Value) L F (fun L' F' => L = L' ∧ F = F') := by
  refine MtV.of (by decide) (Nat.le_of_ble_eq_true rfl) ?_
  intro p e s m below meth c S hr hlk hini hK hW hST ls hl
  have hl : lv_has ls 1 [(0, .ref h)] := hl
  refine lv_aload_n S.1 S.2.1 dJxa1e45_init_da8c8_0 rfl (lv_at hl 0 rfl) ?_
  refine pk_objInit S wd_1081 wd_38 wd_39 hl.1 dJxa1e45_init_da8c8_1 (by decide) (by decide) ?_
  exact pk_vret S hr hlk hW ⟨rfl, rfl⟩ (by decide) (by decide) dJxa1e45_init_da8c8_4
theorem mc_Jxc12de_init_da8c8 : MCode yJxc12de_init_da8c8 cJxc12de_init_da8c8 1 none := ⟨wd_1077, wd_7, by decide, by decide⟩
theorem np_Jxc12de_init_da8c8 : (parseMethodDescriptor yJxc12de_init_da8c8.desc).map (fun d => d.parameters.length) = some 0 := by decide +kernel
set_option maxHeartbeats 4000000 in
set_option maxRecDepth 100000 in
theorem c_Jxc12de_init_da8c8 {l : Launch} {D : va_G} {κ : Nat → ClassId} {ζ : Nat → Nat} {L : List Nat} {F : Nat → va_E} {h : Nat} (m_h : h ∈ L) (e_h : F h = .inr (4, [.int 0, .null, .int 0])) : MtV l D cls (ty5 κ) ζ yJxc12de_init_da8c8 cJxc12de_init_da8c8 1 none 3 0 0 ([.ref h] : List Value) L F (fun L' F' => L = L' ∧ F' h = .inr (4, [.int 0, .null, .int 0]) ∧ ∀ q, q ≠ h → F' q = F q) := by
  refine MtV.of (by decide) (Nat.le_of_ble_eq_true rfl) ?_
  intro p e s m below meth c S hr hlk hini hK hW hST ls hl
  have hl : lv_has ls 1 [(0, .ref h)] := hl
  have hfr : ∀ q, q ≠ h → F q = F q := fun _ _ => rfl
  refine lv_aload_n S.1 S.2.1 dJxc12de_init_da8c8_0 rfl (lv_at hl 0 rfl) ?_
  refine pk_cIV (As := []) (rest := []) S hK hST hW (c_Jxa1e45_init_da8c8) mc_Jxa1e45_init_da8c8 wd_1078 wd_1079 rfl rfl np_Jxa1e45_init_da8c8 rfl hl.1 rfl (Nat.le_of_ble_eq_true rfl) dJxc12de_init_da8c8_1 ⟨by decide, by decide⟩ ⟨by decide, by decide⟩ (fun L_1 F_2 H_3 l_4 hp hW => ?_)
  obtain ⟨rfl, rfl⟩ := hp
  refine lv_aload_n S.1 S.2.1 dJxc12de_init_da8c8_4 rfl (lv_at hl 0 rfl) ?_
  refine lv_iconst (v := 0) S.1 S.2.1 dJxc12de_init_da8c8_5 (by decide) ?_
  refine pk_put (v := .int 0) S hK hW 0 m_h e_h rfl hinJx4a65c tyJx4a65c_ok nmJx4a65c (by decide) wd_1086 rfl rfl rfl rfl (Nat.le_of_ble_eq_true rfl) dJxc12de_init_da8c8_6 (fun H_5 l_6 hW => ?_)
  have e_h : (va_up F h (.inr (4, ([.int 0, .null, .int 0] : List Value).set 0 (.int 0)))) h = .inr (4, [.int 0, .null, .int 0]) := up_eq
  have hfr : ∀ q, q ≠ h → (va_up F h (.inr (4, ([.int 0, .null, .int 0] : List Value).set 0 (.int 0)))) q = F q := fun q q1 => (up_ne q1).trans (hfr q q1)
  generalize va_up F h (.inr (4, ([.int 0, .null, .int 0] : List Value).set 0 (.int 0))) = F_7 at hW e_h hfr
  exact pk_vret S hr hlk hW ⟨rfl, e_h, hfr⟩ (by decide) (by decide) dJxc12de_init_da8c8_9
theorem mc_Jx4a65c_init_da8c8 : MCode yJx4a65c_init_da8c8 cJx4a65c_init_da8c8 1 none := ⟨wd_1074, wd_8, by decide, by decide⟩
theorem np_Jx4a65c_init_da8c8 : (parseMethodDescriptor yJx4a65c_init_da8c8.desc).map (fun d => d.parameters.length) = some 0 := by decide +kernel
set_option maxHeartbeats 4000000 in
set_option maxRecDepth 100000 in
theorem c_Jx4a65c_init_da8c8 {l : Launch} {D : va_G} {κ : Nat → ClassId} {ζ : Nat → Nat} {L : List Nat} {F : Nat → va_E} {h : Nat} (m_h : h ∈ L) (e_h : F h = .inr (4, [.int 0, .null, .int 0])) : MtV l D cls (ty5 κ) ζ yJx4a65c_init_da8c8 cJx4a65c_init_da8c8 1 none 4 0 0 ([.ref h] : List Value) L F (fun L' F' => L = L' ∧ RE ζ h 0 0 L F' ∧ ∀ q, q ≠ h → F' q = F q) := by
  refine MtV.of (by decide) (Nat.le_of_ble_eq_true rfl) ?_
  intro p e s m below meth c S hr hlk hini hK hW hST ls hl
  have hl : lv_has ls 1 [(0, .ref h)] := hl
  refine lv_aload_n S.1 S.2.1 dJx4a65c_init_da8c8_0 rfl (lv_at hl 0 rfl) ?_
  refine pk_cIV (As := []) (rest := []) S hK hST hW (c_Jxc12de_init_da8c8 m_h e_h) mc_Jxc12de_init_da8c8 wd_1075 wd_1076 rfl rfl np_Jxc12de_init_da8c8 rfl hl.1 rfl (Nat.le_of_ble_eq_true rfl) dJx4a65c_init_da8c8_1 ⟨by decide, by decide⟩ ⟨by decide, by decide⟩ (fun L1 F1 H1 l1 hp hW => ?_)
  obtain ⟨rfl, e_h, hfr⟩ := hp
  refine lv_aload_n S.1 S.2.1 dJx4a65c_init_da8c8_4 rfl (lv_at hl 0 rfl) ?_
  refine pk_gets S hW hST.2.zEmpty wd_1082 dJx4a65c_init_da8c8_5 ?_
  refine pk_put (v := .ref (ζ 256)) S hK hW 1 m_h e_h rfl hinJx4a65c tyJx4a65c_ok nmJx4a65c (by decide) wd_1083 rfl rfl rfl rfl (Nat.le_of_ble_eq_true rfl) dJx4a65c_init_da8c8_8 (fun H_1 l_2 hW => ?_)
  have e_h : (va_up F1 h (.inr (4, ([.int 0, .null, .int 0] : List Value).set 1 (.ref (ζ 256))))) h = .inr (4, [.int 0, .ref (ζ 256), .int 0]) := up_eq
  have hfr : ∀ q, q ≠ h → (va_up F1 h (.inr (4, ([.int 0, .null, .int 0] : List Value).set 1 (.ref (ζ 256))))) q = F q := fun q q1 => (up_ne q1).trans (hfr q q1)
  generalize va_up F1 h (.inr (4, ([.int 0, .null, .int 0] : List Value).set 1 (.ref (ζ 256)))) = F_3 at hW e_h hfr
  exact pk_vret S hr hlk hW ⟨rfl, ⟨m_h, e_h⟩, hfr⟩ (by decide) (by decide) dJx4a65c_init_da8c8_11
theorem mc_Jxd2413_init_da8c8 : MCode yJxd2413_init_da8c8 cJxd2413_init_da8c8 1 none := ⟨wd_1245, wd_23, by decide, by decide⟩
theorem np_Jxd2413_init_da8c8 : (parseMethodDescriptor yJxd2413_init_da8c8.desc).map (fun d => d.parameters.length) = some 0 := by decide +kernel
set_option maxHeartbeats 4000000 in
set_option maxRecDepth 100000 in
theorem c_Jxd2413_init_da8c8 {l : Launch} {D : va_G} {κ : Nat → ClassId} {ζ : Nat → Nat} {L : List Nat} {F : Nat → va_E} {h : Nat} : MtV l D cls (ty5 κ) ζ yJxd2413_init_da8c8 cJxd2413_init_da8c8 1 none 2 0 0 ([.ref h] : List Value) L F (fun L' F' => L = L' ∧ F = F') := by
  refine MtV.of (by decide) (Nat.le_of_ble_eq_true rfl) ?_
  intro p e s m below meth c S hr hlk hini hK hW hST ls hl
  have hl : lv_has ls 1 [(0, .ref h)] := hl
  refine lv_aload_n S.1 S.2.1 dJxd2413_init_da8c8_0 rfl (lv_at hl 0 rfl) ?_
  refine pk_objInit S wd_1246 wd_38 wd_39 hl.1 dJxd2413_init_da8c8_1 (by decide) (by decide) ?_
  exact pk_vret S hr hlk hW ⟨rfl, rfl⟩ (by decide) (by decide) dJxd2413_init_da8c8_4
theorem mc_J6_init_d00df : MCode yJ6_init_d00df cJ6_init_d00df 2 none := ⟨wd_1242, wd_24, by decide, by decide⟩
theorem np_J6_init_d00df : (parseMethodDescriptor yJ6_init_d00df.desc).map (fun d => d.parameters.length) = some 1 := by decide +kernel
set_option maxHeartbeats 4000000 in
set_option maxRecDepth 100000 in
theorem c_J6_init_d00df {l : Launch} {D : va_G} {κ : Nat → ClassId} {ζ : Nat → Nat} {L : List Nat} {F : Nat → va_E} {h : Nat} {v : Int32} (m_h : h ∈ L) (e_h : F h = .inr (2, [.int 0])) : MtV l D cls (ty5 κ) ζ yJ6_init_d00df cJ6_init_d00df 2 none 3 0 0 ([.ref h, .int v] : List Value) L F (fun L' F' => L = L' ∧ F' h = .inr (2, [.int v]) ∧ ∀ q, q ≠ h → F' q = F q) := by
  refine MtV.of (by decide) (Nat.le_of_ble_eq_true rfl) ?_
  intro p e s m below meth c S hr hlk hini hK hW hST ls hl
  have hl : lv_has ls 2 [(0, .ref h), (1, .int v)] := hl
  have hfr : ∀ q, q ≠ h → F q = F q := fun _ _ => rfl
  refine lv_aload_n S.1 S.2.1 dJ6_init_d00df_0 rfl (lv_at hl 0 rfl) ?_
  refine pk_cIV (As := []) (rest := []) S hK hST hW (c_Jxd2413_init_da8c8) mc_Jxd2413_init_da8c8 wd_1243 wd_1244 rfl rfl np_Jxd2413_init_da8c8 rfl hl.1 rfl (Nat.le_of_ble_eq_true rfl) dJ6_init_d00df_1 ⟨by decide, by decide⟩ ⟨by decide, by decide⟩ (fun L_1 F_2 H_3 l_4 hp hW => ?_)
  obtain ⟨rfl, rfl⟩ := hp
  refine lv_aload_n S.1 S.2.1 dJ6_init_d00df_4 rfl (lv_at hl 0 rfl) ?_
  refine lv_iload_n S.1 S.2.1 dJ6_init_d00df_5 rfl (lv_at hl 1 rfl) ?_
  refine pk_putF (v := .int v) S hK hW 0 m_h e_h rfl hinJ6 tyJ6_ok nmJ6 (by decide) wd_1247 rfl (hini rfl) rfl rfl rfl rfl (Nat.le_of_ble_eq_true rfl) dJ6_init_d00df_6 (fun H_5 l_6 hW => ?_)
  have e_h : (va_up F h (.inr (2, ([.int 0] : List Value).set 0 (.int v)))) h = .inr (2, [.int v]) := up_eq
  have hfr : ∀ q, q ≠ h → (va_up F h (.inr (2, ([.int 0] : List Value).set 0 (.int v)))) q = F q := fun q q1 => (up_ne q1).trans (hfr q q1)
  generalize va_up F h (.inr (2, ([.int 0] : List Value).set 0 (.int v))) = F_7 at hW e_h hfr
  exact pk_vret S hr hlk hW ⟨rfl, e_h, hfr⟩ (by decide) (by decide) dJ6_init_d00df_9
theorem mc_J6_valueOf_2dffe : MCode yJ6_valueOf_2dffe cJ6_valueOf_2dffe 1 (some (.object "java/lang/Integer")) := ⟨wd_1235, wd_24, by decide, by decide⟩
theorem np_J6_valueOf_2dffe : (parseMethodDescriptor yJ6_valueOf_2dffe.desc).map (fun d => d.parameters.length) = some 1 := by decide +kernel
set_option maxHeartbeats 4000000 in
set_option maxRecDepth 100000 in
theorem c_J6_valueOf_2dffe {l : Launch} {D : va_G} {κ : Nat → ClassId} {ζ : Nat → Nat} {L : List Nat} {F : Nat → va_E} {v : Int32} : MtR l D cls (ty5 κ) ζ yJ6_valueOf_2dffe cJ6_valueOf_2dffe 1 (some (.object "java/lang/Integer")) 4 1 1 ([.int v] : List Value) L F (fun r L' F' => (∀ x ∈ L, x ∈ L') ∧ bx ζ L' F' r v ∧ ∀ x ∈ L, F' x = F x) := by
  refine MtR.of (by decide) (Nat.le_of_ble_eq_true rfl) ?_
  intro p e s m below meth c S hr hlk hini hK hW hST ls hl
  have hl : lv_has ls 1 [(0, .int v)] := hl
  refine lv_iload_n S.1 S.2.1 dJ6_valueOf_2dffe_0 rfl (lv_at hl 0 rfl) ?_
  refine lv_bipush (v := (-128)) S.1 S.2.1 dJ6_valueOf_2dffe_1 (by decide) ?_
  refine lv_icmp_lt (tgt := 23) S.1 S.2.1 dJ6_valueOf_2dffe_3 (by decide) (fun _ => ?_) (fun c1 => ?_)
  · skip
    have hsub : ∀ x ∈ L, x ∈ L := fun x hx => hx
    have hfr : ∀ x ∈ L, True → F x = F x := fun _ _ _ => rfl
    refine pk_new (fs := [.int 0]) (ci := 2) S hK hW hinJ6 tyJ6_ok wd_1238 wd_1239 wd_24 rfl (fun j hj => by match j, hj with | 0, _ => rfl | j + 1, hj => exact absurd hj (by omega)) (by decide) (by decide) dJ6_valueOf_2dffe_23 (fun q H_1 hq_q hW => ?_)
    have e_q : (va_up F q (.inr (2, [.int 0]))) q = .inr (2, [.int 0]) := up_eq
    have m_q : q ∈ L ++ [q] := List.mem_append_right _ (List.mem_singleton.mpr rfl)
    have hnw_q : q ∉ L := fun ee => hq_q (hsub _ ee)
    have hfr : ∀ x ∈ L, True → (va_up F q (.inr (2, [.int 0]))) x = F x := fun x hx ht => (up_ne (fun (ee : x = q) => hnw_q (ee ▸ hx))).trans (hfr x hx ht)
    have hsub : ∀ x ∈ L, x ∈ L ++ [q] := fun x hx => List.mem_append_left _ (hsub x hx)
    generalize va_up F q (.inr (2, [.int 0])) = F_2 at hW e_q hfr
    generalize L ++ [q] = L_3 at hW m_q hsub
    refine lv_dup S.1 S.2.1 dJ6_valueOf_2dffe_26 rfl ?_
    refine lv_iload_n S.1 S.2.1 dJ6_valueOf_2dffe_27 rfl (lv_at hl 0 rfl) ?_
    refine pk_cIV (As := [.int v]) (rest := [.ref q]) S hK hST hW (c_J6_init_d00df m_q e_q) mc_J6_init_d00df wd_1240 wd_1241 rfl rfl np_J6_init_d00df rfl hl.1 rfl (Nat.le_of_ble_eq_true rfl) dJ6_valueOf_2dffe_28 ⟨by decide, by decide⟩ ⟨by decide, by decide⟩ (fun L9 F1 H1 l1 hp hW => ?_)
    obtain ⟨rfl, e_q, hfr1⟩ := hp
    have hfr : ∀ x ∈ L, True → F1 x = F x := fun x hx ht => (hfr1 x (fun (ee : x = q) => hnw_q (ee ▸ hx))).trans (hfr x hx ht)
    exact pk_rret S hr (Or.inl ⟨_, rfl⟩) hlk hW ⟨hsub, Or.inl ⟨m_q, e_q⟩, fun x hx => hfr x hx trivial⟩ (by decide) (by decide) dJ6_valueOf_2dffe_31
  · skip
    refine lv_iload_n S.1 S.2.1 dJ6_valueOf_2dffe_6 rfl (lv_at hl 0 rfl) ?_
    refine pk_gets S hW hST.2.zHigh wd_1236 dJ6_valueOf_2dffe_7 ?_
    refine lv_icmp_gt (tgt := 23) S.1 S.2.1 dJ6_valueOf_2dffe_10 (by decide) (fun _ => ?_) (fun c2 => ?_)
    · skip
      have hsub : ∀ x ∈ L, x ∈ L := fun x hx => hx
      have hfr : ∀ x ∈ L, True → F x = F x := fun _ _ _ => rfl
      refine pk_new (fs := [.int 0]) (ci := 2) S hK hW hinJ6 tyJ6_ok wd_1238 wd_1239 wd_24 rfl (fun j hj => by match j, hj with | 0, _ => rfl | j + 1, hj => exact absurd hj (by omega)) (by decide) (by decide) dJ6_valueOf_2dffe_23 (fun q H_4 hq_q hW => ?_)
      have e_q : (va_up F q (.inr (2, [.int 0]))) q = .inr (2, [.int 0]) := up_eq
      have m_q : q ∈ L ++ [q] := List.mem_append_right _ (List.mem_singleton.mpr rfl)
      have hnw_q : q ∉ L := fun ee => hq_q (hsub _ ee)
      have hfr : ∀ x ∈ L, True → (va_up F q (.inr (2, [.int 0]))) x = F x := fun x hx ht => (up_ne (fun (ee : x = q) => hnw_q (ee ▸ hx))).trans (hfr x hx ht)
      have hsub : ∀ x ∈ L, x ∈ L ++ [q] := fun x hx => List.mem_append_left _ (hsub x hx)
      generalize va_up F q (.inr (2, [.int 0])) = F_5 at hW e_q hfr
      generalize L ++ [q] = L_6 at hW m_q hsub
      refine lv_dup S.1 S.2.1 dJ6_valueOf_2dffe_26 rfl ?_
      refine lv_iload_n S.1 S.2.1 dJ6_valueOf_2dffe_27 rfl (lv_at hl 0 rfl) ?_
      refine pk_cIV (As := [.int v]) (rest := [.ref q]) S hK hST hW (c_J6_init_d00df m_q e_q) mc_J6_init_d00df wd_1240 wd_1241 rfl rfl np_J6_init_d00df rfl hl.1 rfl (Nat.le_of_ble_eq_true rfl) dJ6_valueOf_2dffe_28 ⟨by decide, by decide⟩ ⟨by decide, by decide⟩ (fun L9 F1 H1 l1 hp hW => ?_)
      obtain ⟨rfl, e_q, hfr1⟩ := hp
      have hfr : ∀ x ∈ L, True → F1 x = F x := fun x hx ht => (hfr1 x (fun (ee : x = q) => hnw_q (ee ▸ hx))).trans (hfr x hx ht)
      exact pk_rret S hr (Or.inl ⟨_, rfl⟩) hlk hW ⟨hsub, Or.inl ⟨m_q, e_q⟩, fun x hx => hfr x hx trivial⟩ (by decide) (by decide) dJ6_valueOf_2dffe_31
    · obtain ⟨j, hj, ej, ev⟩ := bx_small c1 c2
      refine pk_gets S hW hST.2.zCache wd_1237 dJ6_valueOf_2dffe_13 ?_
      refine lv_iload_n S.1 S.2.1 dJ6_valueOf_2dffe_16 rfl (lv_at hl 0 rfl) ?_
      refine lv_sipush (v := 128) S.1 S.2.1 dJ6_valueOf_2dffe_17 (by decide) ?_
      refine lv_iadd S.1 S.2.1 dJ6_valueOf_2dffe_20 ?_
      rw [ej]
      refine vb_tq S.1 S.2.1 hST.2.tCache hW.2.2 (vp_in_nI hj (by decide)) rfl dJ6_valueOf_2dffe_21 ?_
      rw [nI_clamp (by omega)]
      exact W.widen (k := 1) (n := 1) (by decide) (by decide) (pk_rret S hr (Or.inl ⟨_, rfl⟩) hlk hW ⟨fun x hx => hx, Or.inr ⟨j, hj, rfl, ev⟩, fun x hx => rfl⟩ (by decide) (by decide) dJ6_valueOf_2dffe_22)
theorem mc_J6_intValue_8abf5 : MCode yJ6_intValue_8abf5 cJ6_intValue_8abf5 1 (some .int) := ⟨wd_1307, wd_24, by decide, by decide⟩
theorem np_J6_intValue_8abf5 : (parseMethodDescriptor yJ6_intValue_8abf5.desc).map (fun d => d.parameters.length) = some 0 := by decide +kernel
set_option maxHeartbeats 4000000 in
set_option maxRecDepth 100000 in
theorem c_J6_intValue_8abf5 {l : Launch} {D : va_G} {κ : Nat → ClassId} {ζ : Nat → Nat} {L : List Nat} {F : Nat → va_E} {y : Nat} {v : Int32} (hb : bx ζ L F y v) : MtI l D cls (ty5 κ) ζ yJ6_intValue_8abf5 cJ6_intValue_8abf5 1 (some .int) 1 0 0 ([.ref y] : List Value) L F (fun r L' F' => L = L' ∧ F = F' ∧ v = r) := by
  refine MtI.of (by decide) (Nat.le_of_ble_eq_true rfl) ?_
  intro p e s m below meth c S hr hlk hini hK hW hST ls hl
  have hl : lv_has ls 1 [(0, .ref y)] := hl
  refine lv_aload_n S.1 S.2.1 dJ6_intValue_8abf5_0 rfl (lv_at hl 0 rfl) ?_
  rcases hb with ⟨b1, b2⟩ | ⟨k, hk, rfl, rfl⟩
  · refine pk_get S hK hW 0 b1 b2 rfl hinJ6 (by decide) wd_1247 rfl dJ6_intValue_8abf5_1 ?_
    exact pk_iret S hr hlk hW ⟨rfl, rfl, rfl⟩ (by decide) (by decide) dJ6_intValue_8abf5_4
  · refine vk_getf S.1 S.2.1 (hST.2.cache.2 k hk) hW.2.2 S.2.2.2.1 (S.2.2.2.2 _ wd_1247) (fun _ h => h) dJ6_intValue_8abf5_1 ?_
    exact pk_iret S hr hlk hW ⟨rfl, rfl, rfl⟩ (by decide) (by decide) dJ6_intValue_8abf5_4
theorem mc_Jx35411_init_45d68 : MCode yJx35411_init_45d68 cJx35411_init_45d68 2 none := ⟨wd_1613, wd_31, by decide, by decide⟩
theorem np_Jx35411_init_45d68 : (parseMethodDescriptor yJx35411_init_45d68.desc).map (fun d => d.parameters.length) = some 1 := by decide +kernel
set_option maxHeartbeats 4000000 in
set_option maxRecDepth 100000 in
theorem c_Jx35411_init_45d68 {l : Launch} {D : va_G} {κ : Nat → ClassId} {ζ : Nat → Nat} {L : List Nat} {F : Nat → va_E} {t h rr : Nat} {md sz : Int32} (m_t : t ∈ L) (e_t : F t = .inr (3, [.int 0, .int 0, .int 0, .null])) (m_h : h ∈ L) (e_h : F h = .inr (4, [.int md, .ref rr, .int sz])) (hne : h ≠ t) : MtV l D cls (ty5 κ) ζ yJx35411_init_45d68 cJx35411_init_45d68 2 none 2 0 0 ([.ref t, .ref h] : List Value) L F (fun L' F' => L = L' ∧ F' t = .inr (3, [.int 0, .int (-1), .int md, .ref h]) ∧ ∀ q, q ≠ t → F' q = F q) := by
  refine MtV.of (by decide) (Nat.le_of_ble_eq_true rfl) ?_
  intro p e s m below meth c S hr hlk hini hK hW hST ls hl
  have hl : lv_has ls 2 [(0, .ref t), (1, .ref h)] := hl
  have hfr : ∀ q, q ≠ t → F q = F q := fun _ _ => rfl
  have n_h_t : h ≠ t := hne
  refine lv_aload_n S.1 S.2.1 dJx35411_init_45d68_0 rfl (lv_at hl 0 rfl) ?_
  refine lv_aload_n S.1 S.2.1 dJx35411_init_45d68_1 rfl (lv_at hl 1 rfl) ?_
  refine pk_putF (v := .ref h) S hK hW 3 m_t e_t rfl hinJx35411 tyJx35411_ok nmJx35411 (by decide) wd_1618 rfl (hini rfl) rfl rfl rfl rfl (Nat.le_of_ble_eq_true rfl) dJx35411_init_45d68_2 (fun H_1 l_2 hW => ?_)
  have e_t : (va_up F t (.inr (3, ([.int 0, .int 0, .int 0, .null] : List Value).set 3 (.ref h)))) t = .inr (3, [.int 0, .int 0, .int 0, .ref h]) := up_eq
  have e_h : (va_up F t (.inr (3, ([.int 0, .int 0, .int 0, .null] : List Value).set 3 (.ref h)))) h = .inr (4, [.int md, .ref rr, .int sz]) := (up_ne n_h_t).trans e_h
  have hfr : ∀ q, q ≠ t → (va_up F t (.inr (3, ([.int 0, .int 0, .int 0, .null] : List Value).set 3 (.ref h)))) q = F q := fun q q1 => (up_ne q1).trans (hfr q q1)
  generalize va_up F t (.inr (3, ([.int 0, .int 0, .int 0, .null] : List Value).set 3 (.ref h))) = F_3 at hW e_t e_h hfr
  refine lv_aload_n S.1 S.2.1 dJx35411_init_45d68_5 rfl (lv_at hl 0 rfl) ?_
  refine pk_objInit S wd_1614 wd_38 wd_39 hl.1 dJx35411_init_45d68_6 (by decide) (by decide) ?_
  refine lv_aload_n S.1 S.2.1 dJx35411_init_45d68_9 rfl (lv_at hl 0 rfl) ?_
  refine lv_iconst (v := (-1)) S.1 S.2.1 dJx35411_init_45d68_10 (by decide) ?_
  refine pk_put (v := .int (-1)) S hK hW 1 m_t e_t rfl hinJx35411 tyJx35411_ok nmJx35411 (by decide) wd_1616 rfl rfl rfl rfl (Nat.le_of_ble_eq_true rfl) dJx35411_init_45d68_11 (fun H_4 l_5 hW => ?_)
  have e_t : (va_up F_3 t (.inr (3, ([.int 0, .int 0, .int 0, .ref h] : List Value).set 1 (.int (-1))))) t = .inr (3, [.int 0, .int (-1), .int 0, .ref h]) := up_eq
  have e_h : (va_up F_3 t (.inr (3, ([.int 0, .int 0, .int 0, .ref h] : List Value).set 1 (.int (-1))))) h = .inr (4, [.int md, .ref rr, .int sz]) := (up_ne n_h_t).trans e_h
  have hfr : ∀ q, q ≠ t → (va_up F_3 t (.inr (3, ([.int 0, .int 0, .int 0, .ref h] : List Value).set 1 (.int (-1))))) q = F q := fun q q1 => (up_ne q1).trans (hfr q q1)
  generalize va_up F_3 t (.inr (3, ([.int 0, .int 0, .int 0, .ref h] : List Value).set 1 (.int (-1)))) = F_6 at hW e_t e_h hfr
  refine lv_aload_n S.1 S.2.1 dJx35411_init_45d68_14 rfl (lv_at hl 0 rfl) ?_
  refine lv_aload_n S.1 S.2.1 dJx35411_init_45d68_15 rfl (lv_at hl 0 rfl) ?_
  refine pk_get S hK hW 3 m_t e_t rfl hinJx35411 (by decide) wd_1618 rfl dJx35411_init_45d68_16 ?_
  refine pk_getU S hK hW 0 m_h e_h rfl hinJx4a65c (by decide) wd_1087 wd_1088 rfl dJx35411_init_45d68_19 ?_
  refine pk_put (v := .int md) S hK hW 2 m_t e_t rfl hinJx35411 tyJx35411_ok nmJx35411 (by decide) wd_1617 rfl rfl rfl rfl (Nat.le_of_ble_eq_true rfl) dJx35411_init_45d68_22 (fun H_7 l_8 hW => ?_)
  have e_t : (va_up F_6 t (.inr (3, ([.int 0, .int (-1), .int 0, .ref h] : List Value).set 2 (.int md)))) t = .inr (3, [.int 0, .int (-1), .int md, .ref h]) := up_eq
  have e_h : (va_up F_6 t (.inr (3, ([.int 0, .int (-1), .int 0, .ref h] : List Value).set 2 (.int md)))) h = .inr (4, [.int md, .ref rr, .int sz]) := (up_ne n_h_t).trans e_h
  have hfr : ∀ q, q ≠ t → (va_up F_6 t (.inr (3, ([.int 0, .int (-1), .int 0, .ref h] : List Value).set 2 (.int md)))) q = F q := fun q q1 => (up_ne q1).trans (hfr q q1)
  generalize va_up F_6 t (.inr (3, ([.int 0, .int (-1), .int 0, .ref h] : List Value).set 2 (.int md))) = F_9 at hW e_t e_h hfr
  exact pk_vret S hr hlk hW ⟨rfl, e_t, hfr⟩ (by decide) (by decide) dJx35411_init_45d68_25
theorem mc_Jx4a65c_iterator_32c93 : MCode yJx4a65c_iterator_32c93 cJx4a65c_iterator_32c93 1 (some (.object "java/util/Iterator")) := ⟨wd_1608, wd_8, by decide, by decide⟩
theorem np_Jx4a65c_iterator_32c93 : (parseMethodDescriptor yJx4a65c_iterator_32c93.desc).map (fun d => d.parameters.length) = some 0 := by decide +kernel
set_option maxHeartbeats 4000000 in
set_option maxRecDepth 100000 in
theorem c_Jx4a65c_iterator_32c93 {l : Launch} {D : va_G} {κ : Nat → ClassId} {ζ : Nat → Nat} {L : List Nat} {F : Nat → va_E} {h rr : Nat} {md sz : Int32} (m_h : h ∈ L) (e_h : F h = .inr (4, [.int md, .ref rr, .int sz])) : MtR l D cls (ty5 κ) ζ yJx4a65c_iterator_32c93 cJx4a65c_iterator_32c93 1 (some (.object "java/util/Iterator")) 3 1 4 ([.ref h] : List Value) L F (fun r L' F' => (∀ x ∈ L, x ∈ L') ∧ r ∈ L' ∧ r ∉ L ∧ F' r = .inr (3, [.int 0, .int (-1), .int md, .ref h]) ∧ ∀ x ∈ L, F' x = F x) := by
  refine MtR.of (by decide) (Nat.le_of_ble_eq_true rfl) ?_
  intro p e s m below meth c S hr hlk hini hK hW hST ls hl
  have hl : lv_has ls 1 [(0, .ref h)] := hl
  have hsub : ∀ x ∈ L, x ∈ L := fun x hx => hx
  have hfr : ∀ x ∈ L, True → F x = F x := fun _ _ _ => rfl
  refine pk_new (fs := [.int 0, .int 0, .int 0, .null]) (ci := 3) S hK hW hinJx35411 tyJx35411_ok wd_1609 wd_1610 wd_31 rfl (fun j hj => by match j, hj with | 0, _ => rfl | 1, _ => rfl | 2, _ => rfl | 3, _ => rfl | j + 4, hj => exact absurd hj (by omega)) (by decide) (by decide) dJx4a65c_iterator_32c93_0 (fun q H_1 hq_q hW => ?_)
  have n_h_q : h ≠ q := fun ee => hq_q (ee ▸ m_h)
  have e_h : (va_up F q (.inr (3, [.int 0, .int 0, .int 0, .null]))) h = .inr (4, [.int md, .ref rr, .int sz]) := (up_ne n_h_q).trans e_h
  have m_h := List.mem_append_left [q] m_h
  have e_q : (va_up F q (.inr (3, [.int 0, .int 0, .int 0, .null]))) q = .inr (3, [.int 0, .int 0, .int 0, .null]) := up_eq
  have m_q : q ∈ L ++ [q] := List.mem_append_right _ (List.mem_singleton.mpr rfl)
  have hnw_q : q ∉ L := fun ee => hq_q (hsub _ ee)
  have hfr : ∀ x ∈ L, True → (va_up F q (.inr (3, [.int 0, .int 0, .int 0, .null]))) x = F x := fun x hx ht => (up_ne (fun (ee : x = q) => hnw_q (ee ▸ hx))).trans (hfr x hx ht)
  have hsub : ∀ x ∈ L, x ∈ L ++ [q] := fun x hx => List.mem_append_left _ (hsub x hx)
  generalize va_up F q (.inr (3, [.int 0, .int 0, .int 0, .null])) = F_2 at hW e_h e_q hfr
  generalize L ++ [q] = L_3 at hW m_h m_q hsub
  refine lv_dup S.1 S.2.1 dJx4a65c_iterator_32c93_3 rfl ?_
  refine lv_aload_n S.1 S.2.1 dJx4a65c_iterator_32c93_4 rfl (lv_at hl 0 rfl) ?_
  refine pk_cIV (As := [.ref h]) (rest := [.ref q]) S hK hST hW (c_Jx35411_init_45d68 m_q e_q m_h e_h n_h_q) mc_Jx35411_init_45d68 wd_1611 wd_1612 rfl rfl np_Jx35411_init_45d68 rfl hl.1 rfl (Nat.le_of_ble_eq_true rfl) dJx4a65c_iterator_32c93_5 ⟨by decide, by decide⟩ ⟨by decide, by decide⟩ (fun L9 F1 H1 l1 hp hW => ?_)
  obtain ⟨rfl, e_q, hfr1⟩ := hp
  have hfr : ∀ x ∈ L, True → F1 x = F x := fun x hx ht => (hfr1 x (fun (ee : x = q) => hnw_q (ee ▸ hx))).trans (hfr x hx ht)
  exact pk_rret S hr (Or.inl ⟨_, rfl⟩) hlk hW ⟨hsub, m_q, hnw_q, e_q, fun x hx => hfr x hx trivial⟩ (by decide) (by decide) dJx4a65c_iterator_32c93_8
theorem mc_Jx35411_hasNext_aae02 : MCode yJx35411_hasNext_aae02 cJx35411_hasNext_aae02 1 (some .boolean) := ⟨wd_1630, wd_31, by decide, by decide⟩
theorem np_Jx35411_hasNext_aae02 : (parseMethodDescriptor yJx35411_hasNext_aae02.desc).map (fun d => d.parameters.length) = some 0 := by decide +kernel
set_option maxHeartbeats 4000000 in
set_option maxRecDepth 100000 in
theorem c_Jx35411_hasNext_aae02 {l : Launch} {D : va_G} {κ : Nat → ClassId} {ζ : Nat → Nat} {L : List Nat} {F : Nat → va_E} {t h rr : Nat} {md sz cu la em : Int32} (m_t : t ∈ L) (e_t : F t = .inr (3, [.int cu, .int la, .int em, .ref h])) (m_h : h ∈ L) (e_h : F h = .inr (4, [.int md, .ref rr, .int sz])) : MtI l D cls (ty5 κ) ζ yJx35411_hasNext_aae02 cJx35411_hasNext_aae02 1 (some .boolean) 1 0 0 ([.ref t] : List Value) L F (fun r L' F' => L = L' ∧ F = F' ∧ (if cu = sz then (0 : Int32) else 1) = r) := by
  refine MtI.of (by decide) (Nat.le_of_ble_eq_true rfl) ?_
  intro p e s m below meth c S hr hlk hini hK hW hST ls hl
  have hl : lv_has ls 1 [(0, .ref t)] := hl
  refine lv_aload_n S.1 S.2.1 dJx35411_hasNext_aae02_0 rfl (lv_at hl 0 rfl) ?_
  refine pk_get S hK hW 0 m_t e_t rfl hinJx35411 (by decide) wd_1615 rfl dJx35411_hasNext_aae02_1 ?_
  refine lv_aload_n S.1 S.2.1 dJx35411_hasNext_aae02_4 rfl (lv_at hl 0 rfl) ?_
  refine pk_get S hK hW 3 m_t e_t rfl hinJx35411 (by decide) wd_1618 rfl dJx35411_hasNext_aae02_5 ?_
  refine pk_getN S hK hW 2 m_h e_h rfl hinJx4a65c (by decide) (va_Nw.use rfl (hST.1.1 _ wn_20)) rfl dJx35411_hasNext_aae02_8 ?_
  refine lv_icmp_eq (tgt := 18) S.1 S.2.1 dJx35411_hasNext_aae02_11 (by decide) (fun c1 => ?_) (fun c1 => ?_)
  · refine lv_iconst (v := 0) S.1 S.2.1 dJx35411_hasNext_aae02_18 (by decide) ?_
    exact pk_zret S hr hlk hW (by decide) ⟨rfl, rfl, by rw [if_pos c1]⟩ (by decide) (by decide) dJx35411_hasNext_aae02_19
  · refine lv_iconst (v := 1) S.1 S.2.1 dJx35411_hasNext_aae02_14 (by decide) ?_
    refine lv_goto (tgt := 19) S.1 S.2.1 dJx35411_hasNext_aae02_15 (by decide) ?_
    exact pk_zret S hr hlk hW (by decide) ⟨rfl, rfl, by rw [if_neg c1]⟩ (by decide) (by decide) dJx35411_hasNext_aae02_19
theorem mc_Jx35411_checkForComodification_da8c8 : MCode yJx35411_checkForComodification_da8c8 cJx35411_checkForComodification_da8c8 1 none := ⟨wd_1641, wd_31, by decide, by decide⟩
theorem np_Jx35411_checkForComodification_da8c8 : (parseMethodDescriptor yJx35411_checkForComodification_da8c8.desc).map (fun d => d.parameters.length) = some 0 := by decide +kernel
set_option maxHeartbeats 4000000 in
set_option maxRecDepth 100000 in
theorem c_Jx35411_checkForComodification_da8c8 {l : Launch} {D : va_G} {κ : Nat → ClassId} {ζ : Nat → Nat} {L : List Nat} {F : Nat → va_E} {t h rr : Nat} {md sz cu la em : Int32} (m_t : t ∈ L) (e_t : F t = .inr (3, [.int cu, .int la, .int em, .ref h])) (m_h : h ∈ L) (e_h : F h = .inr (4, [.int md, .ref rr, .int sz])) (hmd : md = em) : MtV l D cls (ty5 κ) ζ yJx35411_checkForComodification_da8c8 cJx35411_checkForComodification_da8c8 1 none 1 0 0 ([.ref t] : List Value) L F (fun L' F' => L = L' ∧ F = F') := by
  refine MtV.of (by decide) (Nat.le_of_ble_eq_true rfl) ?_
  intro p e s m below meth c S hr hlk hini hK hW hST ls hl
  have hl : lv_has ls 1 [(0, .ref t)] := hl
  refine lv_aload_n S.1 S.2.1 dJx35411_checkForComodification_da8c8_0 rfl (lv_at hl 0 rfl) ?_
  refine pk_get S hK hW 3 m_t e_t rfl hinJx35411 (by decide) wd_1618 rfl dJx35411_checkForComodification_da8c8_1 ?_
  refine pk_getU S hK hW 0 m_h e_h rfl hinJx4a65c (by decide) wd_1087 wd_1088 rfl dJx35411_checkForComodification_da8c8_4 ?_
  refine lv_aload_n S.1 S.2.1 dJx35411_checkForComodification_da8c8_7 rfl (lv_at hl 0 rfl) ?_
  refine pk_get S hK hW 2 m_t e_t rfl hinJx35411 (by decide) wd_1617 rfl dJx35411_checkForComodification_da8c8_8 ?_
  refine lv_icmp_eq (tgt := 22) S.1 S.2.1 dJx35411_checkForComodification_da8c8_11 (by decide) (fun _ => ?_) (fun c1 => absurd hmd c1)
  exact pk_vret S hr hlk hW ⟨rfl, rfl⟩ (by decide) (by decide) dJx35411_checkForComodification_da8c8_22
theorem mc_Jx35411_next_0502b : MCode yJx35411_next_0502b cJx35411_next_0502b 3 (some (.object "java/lang/Object")) := ⟨wd_1637, wd_31, by decide, by decide⟩
theorem np_Jx35411_next_0502b : (parseMethodDescriptor yJx35411_next_0502b.desc).map (fun d => d.parameters.length) = some 0 := by decide +kernel
set_option maxHeartbeats 4000000 in
set_option maxRecDepth 100000 in
theorem c_Jx35411_next_0502b {l : Launch} {D : va_G} {κ : Nat → ClassId} {ζ : Nat → Nat} {L : List Nat} {F : Nat → va_E} {t h ar n j k y : Nat} {f : Nat → Option Nat} {md la : Int32} (m_t : t ∈ L) (e_t : F t = .inr (3, [.int (nI j), .int la, .int md, .ref h])) (hR : RA κ h ar n f md (nI k) L F) (hjk : j < k) (hk : k ≤ n) (hn : n ≤ 32) (hv : f j = some y) : MtR l D cls (ty5 κ) ζ yJx35411_next_0502b cJx35411_next_0502b 3 (some (.object "java/lang/Object")) 2 0 0 ([.ref t] : List Value) L F (fun r L' F' => L = L' ∧ y = r ∧ F' t = .inr (3, [.int (nI (j + 1)), .int (nI j), .int md, .ref h]) ∧ ∀ q, q ≠ t → F' q = F q) := by
  refine MtR.of (by decide) (Nat.le_of_ble_eq_true rfl) ?_
  intro p e s m below meth c S hr hlk hini hK hW hST ls hl
  have hl : lv_has ls 3 [(0, .ref t)] := hl
  obtain ⟨m_h, e_h, m_ar, n_h_ar, e_ar⟩ := hR
  have n_h_t : h ≠ t := fun ee => by rw [ee, e_t] at e_h; cases e_h
  have n_ar_t : ar ≠ t := fun ee => by rw [ee, e_t] at e_ar; cases e_ar
  have hfr : ∀ q, q ≠ t → F q = F q := fun _ _ => rfl
  refine lv_aload_n S.1 S.2.1 dJx35411_next_0502b_0 rfl (lv_at hl 0 rfl) ?_
  refine pk_cVV (As := []) (rest := []) S hK hST hW (c_Jx35411_checkForComodification_da8c8 m_t e_t m_h e_h rfl) mc_Jx35411_checkForComodification_da8c8 wd_1638 wd_1639 wd_1640 rfl np_Jx35411_checkForComodification_da8c8 m_t e_t rfl rfl hl.1 rfl (Nat.le_of_ble_eq_true rfl) dJx35411_next_0502b_1 ⟨by decide, by decide⟩ ⟨by decide, by decide⟩ (fun L_1 F_2 H_3 l_4 hp hW => ?_)
  obtain ⟨rfl, rfl⟩ := hp
  refine lv_aload_n S.1 S.2.1 dJx35411_next_0502b_4 rfl (lv_at hl 0 rfl) ?_
  refine pk_get S hK hW 0 m_t e_t rfl hinJx35411 (by decide) wd_1615 rfl dJx35411_next_0502b_5 ?_
  refine lv_istore_n (lv' := [(1, .int (nI j)), (0, .ref t)]) S.1 S.2.1 dJx35411_next_0502b_8 rfl hl (Nat.le_of_ble_eq_true rfl) rfl (fun ls hl => ?_)
  refine lv_iload_n S.1 S.2.1 dJx35411_next_0502b_9 rfl (lv_at hl 0 rfl) ?_
  refine lv_aload_n S.1 S.2.1 dJx35411_next_0502b_10 rfl (lv_at hl 1 rfl) ?_
  refine pk_get S hK hW 3 m_t e_t rfl hinJx35411 (by decide) wd_1618 rfl dJx35411_next_0502b_11 ?_
  refine pk_getN S hK hW 2 m_h e_h rfl hinJx4a65c (by decide) (va_Nw.use rfl (hST.1.1 _ wn_20)) rfl dJx35411_next_0502b_14 ?_
  refine lv_icmp_lt (tgt := 28) S.1 S.2.1 dJx35411_next_0502b_17 (by decide) (fun _ => ?_) (fun c1 => absurd (nI_lt hjk (by omega)) c1)
  refine lv_aload_n S.1 S.2.1 dJx35411_next_0502b_28 rfl (lv_at hl 1 rfl) ?_
  refine pk_get S hK hW 3 m_t e_t rfl hinJx35411 (by decide) wd_1618 rfl dJx35411_next_0502b_29 ?_
  refine pk_get S hK hW 1 m_h e_h rfl hinJx4a65c (by decide) wd_1084 rfl dJx35411_next_0502b_32 ?_
  refine lv_astore_n (lv' := [(2, .ref ar), (1, .int (nI j)), (0, .ref t)]) S.1 S.2.1 dJx35411_next_0502b_35 rfl hl (Nat.le_of_ble_eq_true rfl) rfl (fun ls hl => ?_)
  refine lv_iload_n S.1 S.2.1 dJx35411_next_0502b_36 rfl (lv_at hl 1 rfl) ?_
  refine lv_aload_n S.1 S.2.1 dJx35411_next_0502b_37 rfl (lv_at hl 0 rfl) ?_
  refine pk_alen S hK hW 3 m_ar e_ar rfl rfl dJx35411_next_0502b_38 ?_
  refine lv_icmp_lt (tgt := 50) S.1 S.2.1 dJx35411_next_0502b_39 (by decide) (fun _ => ?_) (fun c1 => absurd (nI_lt (Nat.lt_of_lt_of_le hjk hk) (by omega)) c1)
  refine lv_aload_n S.1 S.2.1 dJx35411_next_0502b_50 rfl (lv_at hl 2 rfl) ?_
  refine lv_iload_n S.1 S.2.1 dJx35411_next_0502b_51 rfl (lv_at hl 1 rfl) ?_
  refine lv_iconst (v := 1) S.1 S.2.1 dJx35411_next_0502b_52 (by decide) ?_
  refine lv_iadd S.1 S.2.1 dJx35411_next_0502b_53 ?_
  refine lv_topi (fun y_5 ey_5 => ?_)
  have ey_5 : y_5 = nI (j + 1) := ey_5.trans (nI_1 j)
  subst ey_5
  refine pk_put (v := .int (nI (j + 1))) S hK hW 0 m_t e_t rfl hinJx35411 tyJx35411_ok nmJx35411 (by decide) wd_1615 rfl rfl rfl rfl (Nat.le_of_ble_eq_true rfl) dJx35411_next_0502b_54 (fun H_6 l_7 hW => ?_)
  have e_t : (va_up F t (.inr (3, ([.int (nI j), .int la, .int md, .ref h] : List Value).set 0 (.int (nI (j + 1)))))) t = .inr (3, [.int (nI (j + 1)), .int la, .int md, .ref h]) := up_eq
  have e_h : (va_up F t (.inr (3, ([.int (nI j), .int la, .int md, .ref h] : List Value).set 0 (.int (nI (j + 1)))))) h = .inr (4, [.int md, .ref ar, .int (nI k)]) := (up_ne n_h_t).trans e_h
  have e_ar : (va_up F t (.inr (3, ([.int (nI j), .int la, .int md, .ref h] : List Value).set 0 (.int (nI (j + 1)))))) ar = rfA (κ 3) n f := (up_ne n_ar_t).trans e_ar
  have hfr : ∀ q, q ≠ t → (va_up F t (.inr (3, ([.int (nI j), .int la, .int md, .ref h] : List Value).set 0 (.int (nI (j + 1)))))) q = F q := fun q q1 => (up_ne q1).trans (hfr q q1)
  generalize va_up F t (.inr (3, ([.int (nI j), .int la, .int md, .ref h] : List Value).set 0 (.int (nI (j + 1))))) = F_8 at hW e_t e_h e_ar hfr
  refine lv_aload_n S.1 S.2.1 dJx35411_next_0502b_57 rfl (lv_at hl 0 rfl) ?_
  refine lv_aload_n S.1 S.2.1 dJx35411_next_0502b_58 rfl (lv_at hl 2 rfl) ?_
  refine lv_iload_n S.1 S.2.1 dJx35411_next_0502b_59 rfl (lv_at hl 1 rfl) ?_
  refine lv_dup_x1 S.1 S.2.1 dJx35411_next_0502b_60 rfl rfl ?_
  refine pk_put (v := .int (nI j)) S hK hW 1 m_t e_t rfl hinJx35411 tyJx35411_ok nmJx35411 (by decide) wd_1616 rfl rfl rfl rfl (Nat.le_of_ble_eq_true rfl) dJx35411_next_0502b_61 (fun H_9 l_10 hW => ?_)
  have e_t : (va_up F_8 t (.inr (3, ([.int (nI (j + 1)), .int la, .int md, .ref h] : List Value).set 1 (.int (nI j))))) t = .inr (3, [.int (nI (j + 1)), .int (nI j), .int md, .ref h]) := up_eq
  have e_h : (va_up F_8 t (.inr (3, ([.int (nI (j + 1)), .int la, .int md, .ref h] : List Value).set 1 (.int (nI j))))) h = .inr (4, [.int md, .ref ar, .int (nI k)]) := (up_ne n_h_t).trans e_h
  have e_ar : (va_up F_8 t (.inr (3, ([.int (nI (j + 1)), .int la, .int md, .ref h] : List Value).set 1 (.int (nI j))))) ar = rfA (κ 3) n f := (up_ne n_ar_t).trans e_ar
  have hfr : ∀ q, q ≠ t → (va_up F_8 t (.inr (3, ([.int (nI (j + 1)), .int la, .int md, .ref h] : List Value).set 1 (.int (nI j))))) q = F q := fun q q1 => (up_ne q1).trans (hfr q q1)
  generalize va_up F_8 t (.inr (3, ([.int (nI (j + 1)), .int la, .int md, .ref h] : List Value).set 1 (.int (nI j)))) = F_11 at hW e_t e_h e_ar hfr
  refine pk_aald S hK hW 3 m_ar e_ar rfl (vp_in_nI (by omega) (by omega)) (show f (nI j).toNatClampNeg = some y by rw [nI_clamp (by omega)]; exact hv) dJx35411_next_0502b_64 ?_
  exact pk_rret S hr (Or.inl ⟨_, rfl⟩) hlk hW ⟨rfl, rfl, e_t, hfr⟩ (by decide) (by decide) dJx35411_next_0502b_65
