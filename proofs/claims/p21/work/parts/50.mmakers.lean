/-! the constructors of the model, of its walkers, of the law's Out -/
section CKn
variable {p : Program} {l : Launch} {e : Env} {R : Room} {s : State} {m : MethodId} {args : Array Value} {below : List Frame} {meth : Method} {c : Code} {cc : ByteArray} {nL : Nat} {own : String} {H : Heap} {locs : List Loc} {cells slots : Nat} {Q : State → Prop} {D : va_G} {cl : List vw_C} {tys : List (ClassId × FieldType)} {ζ : Nat → Nat} {pc : Nat} {ls : Array Slot} {rest st0 : List Value} {L0 L : List Nat} {F : Nat → va_E} {y : MethodName} {bytes : ByteArray} {n d mc ms index np : Nat} {rt : Option FieldType} {As : List Value}
theorem pk_cJN (S : CallFix p m c cc nL s args Gw own) (hK : va_K D cl tys s) (hST : ST ζ (AL L0 s.heap.size) s s.heap) (hW : HW D cl L0 s H locs L F) {post : List Nat → (Nat → va_E) → Prop} {b : Nat} {host : String} (hM : MtV l D cl tys ζ y bytes n rt d mc ms (.ref b :: As) L F post) (hcd : MCode y bytes n rt) (hlink : Cond.methodLinkNest own index y host ∈ NwL) (hin : Cond.instanceMethod y ∈ Gw) (hy1 : y.name = "<init>") (hrt : rt = none) (hnp : (parseMethodDescriptor y.desc).map (fun d => d.parameters.length) = some np) (hlen : As.length = np) (hsize : ls.size = nL) (hstk : st0 = As.reverse ++ .ref b :: rest) (hcat : (rest.map fun v => v.category).sum ≤ 8) (hdg : decode cc pc = .ok (.invokespecial index, 3)) (hR : d + 1 ≤ R.frames ∧ 8 + (n + 11) + 40 * d ≤ R.locals) (hf : cells + mc ≤ R.cells ∧ slots + ms ≤ R.slots)
    (kk : ∀  (L1 : List Nat) (F1 : Nat → va_E) (H1 : Heap) (locs1 : List Loc), post L1 F1 → HW D cl L0 s H1 locs1 L1 F1 → W p l e R s m args below meth c H1 locs1 (cells + mc) (slots + ms) Q (F0 m (pc + 3) ls (rest))) : W p l e R s m args below meth c H locs cells slots Q (F0 m pc ls st0) := by
  subst hrt
  exact va_callv (va_runIN (As := As) (rest := rest) S (hM H.size) ⟨va_cnB np S.2.2.2.2 (gw_cons (pre := []) hcd (fun _ h => absurd h List.not_mem_nil)) rfl rfl rfl (hST.1.1 _ hlink) (S.2.2.2.2 _ hcd.2.1) ⟨hcd.2.2.1, hcd.2.2.2, hnp⟩ hR, hy1, S.2.2.2.2 _ hin⟩ ⟨PrC.blind, fun U hU hWm => ⟨rfl, PrC.of hK hW hST hU hWm⟩⟩ rfl hlen hsize hstk (lv_room hcat) hdg hf) hW.2.2 (fun q _ h => hW.sub q h) hW.sub (fun u t H1 locs1 ht hvm hp hB hz hk hS1 => kk u.1 u.2 H1 locs1 hp (hW.after (sz := 0) ht hB hS1))
end CKn
theorem mc_X4_init : MCode yX4_init cX4_init 1 none := ⟨wd_341, wd_14, by decide, by decide⟩
theorem np_X4_init : (parseMethodDescriptor yX4_init.desc).map (fun d => d.parameters.length) = some 0 := by decide +kernel
set_option maxHeartbeats 4000000 in
set_option maxRecDepth 100000 in
theorem c_X4_init {l : Launch} {D : va_G} {κ : Nat → ClassId} {ζ : Nat → Nat} {L : List Nat} {F : Nat → va_E} {h : Nat} : MtV l D cls (ty5 κ) ζ yX4_init cX4_init 1 none 2 0 0 ([.ref h] : List Value) L F (fun L' F' => L = L' ∧ F = F') := by
  refine MtV.of (by decide) (Nat.le_of_ble_eq_true rfl) ?_
  intro p e s m below meth c S hr hlk hini hK hW hST ls hl
  have hl : lv_has ls 1 [(0, .ref h)] := hl
  refine lv_aload_n S.1 S.2.1 dX4_init_0 rfl (lv_at hl 0 rfl) ?_
  refine pk_objInit S wd_342 wd_38 wd_39 hl.1 dX4_init_1 (by decide) (by decide) ?_
  exact pk_vret S hr hlk hW ⟨rfl, rfl⟩ (by decide) (by decide) dX4_init_4
theorem mc_X5_init : MCode yX5_init cX5_init 1 none := ⟨wd_1098, wd_9, by decide, by decide⟩
theorem np_X5_init : (parseMethodDescriptor yX5_init.desc).map (fun d => d.parameters.length) = some 0 := by decide +kernel
set_option maxHeartbeats 4000000 in
set_option maxRecDepth 100000 in
theorem c_X5_init {l : Launch} {D : va_G} {κ : Nat → ClassId} {ζ : Nat → Nat} {L : List Nat} {F : Nat → va_E} {h : Nat} (m_h : h ∈ L) (e_h : F h = .inr (10, [.int 0, .int 0, .int 0])) : MtV l D cls (ty5 κ) ζ yX5_init cX5_init 1 none 2 0 0 ([.ref h] : List Value) L F (fun L' F' => L = L' ∧ F' h = .inr (10, [.int 0, .int 0, .int (-1)]) ∧ ∀ q, q ≠ h → F' q = F q) := by
  refine MtV.of (by decide) (Nat.le_of_ble_eq_true rfl) ?_
  intro p e s m below meth c S hr hlk hini hK hW hST ls hl
  have hl : lv_has ls 1 [(0, .ref h)] := hl
  have hfr : ∀ q, q ≠ h → F q = F q := fun _ _ => rfl
  refine lv_aload_n S.1 S.2.1 dX5_init_0 rfl (lv_at hl 0 rfl) ?_
  refine pk_objInit S wd_1099 wd_38 wd_39 hl.1 dX5_init_1 (by decide) (by decide) ?_
  refine lv_aload_n S.1 S.2.1 dX5_init_4 rfl (lv_at hl 0 rfl) ?_
  refine lv_iconst (v := (-1)) S.1 S.2.1 dX5_init_5 (by decide) ?_
  refine pk_put (v := .int (-1)) S hK hW 2 m_h e_h rfl hinX5 tyX5_ok nmX5 (by decide) wd_1102 rfl rfl rfl rfl (Nat.le_of_ble_eq_true rfl) dX5_init_6 (fun H_1 l_2 hW => ?_)
  have e_h : (va_up F h (.inr (10, ([.int 0, .int 0, .int 0] : List Value).set 2 (.int (-1))))) h = .inr (10, [.int 0, .int 0, .int (-1)]) := up_eq
  have hfr : ∀ q, q ≠ h → (va_up F h (.inr (10, ([.int 0, .int 0, .int 0] : List Value).set 2 (.int (-1))))) q = F q := fun q q1 => (up_ne q1).trans (hfr q q1)
  generalize va_up F h (.inr (10, ([.int 0, .int 0, .int 0] : List Value).set 2 (.int (-1)))) = F_3 at hW e_h hfr
  exact pk_vret S hr hlk hW ⟨rfl, e_h, hfr⟩ (by decide) (by decide) dX5_init_9
def τ0 : MS := (fun _ => [], fun q => if q = 3 ∨ q = 7 ∨ q = 10 then -1 else 0)
theorem LI.new {κ : Nat → ClassId} {ζ : Nat → Nat} {h : Nat} {md : Int32} {L : List Nat} {F : Nat → va_E} (m : h ∈ L) (e : F h = .inr (4, [.int md, .ref (ζ 256), .int 0])) : LI κ ζ h (ζ 256) [] L F :=
  ⟨0, fun _ => none, md, m, e, Or.inr ⟨rfl, rfl⟩, Nat.le_refl _, by decide, fun j hj => absurd hj (Nat.not_lt_zero j)⟩
theorem mc_X6_init : MCode yX6_init cX6_init 2 none := ⟨wd_1068, wd_5, by decide, by decide⟩
theorem np_X6_init : (parseMethodDescriptor yX6_init.desc).map (fun d => d.parameters.length) = some 0 := by decide +kernel
set_option maxHeartbeats 4000000 in
set_option maxRecDepth 100000 in
theorem c_X6_init {l : Launch} {D : va_G} {κ : Nat → ClassId} {ζ : Nat → Nat} {L : List Nat} {F : Nat → va_E} {t0 : Nat} (m_t0 : t0 ∈ L) (e_t0 : F t0 = .inr (11, [.int 0, .null, .null, .null, .null, .int 0, .int 0, .int 0, .int 0])) : MtV l D cls (ty5 κ) ζ yX6_init cX6_init 2 none 9 10 96 ([.ref t0] : List Value) L F (fun L' F' => (∀ x ∈ L, x ∈ L') ∧ ∃ B : Nat → Nat, B 0 = t0 ∧ MI κ ζ B τ0 L' F' ∧ (∀ x ∈ L, x ≠ t0 → F' x = F x) ∧ ∀ i, i < 10 → i ≠ 0 → B i ∉ L) := by
  refine MtV.of (by decide) (Nat.le_of_ble_eq_true rfl) ?_
  intro p e s m below meth c S hr hlk hini hK hW hST ls hl
  have hl : lv_has ls 2 [(0, .ref t0)] := hl
  have hsub : ∀ x ∈ L, x ∈ L := fun x hx => hx
  have hfr : ∀ x ∈ L, x ≠ t0 → F x = F x := fun _ _ _ => rfl
  refine lv_aload_n S.1 S.2.1 dX6_init_0 rfl (lv_at hl 0 rfl) ?_
  refine pk_objInit S wd_1069 wd_38 wd_39 hl.1 dX6_init_1 (by decide) (by decide) ?_
  refine lv_aload_n S.1 S.2.1 dX6_init_4 rfl (lv_at hl 0 rfl) ?_
  refine pk_new (fs := [.int 0, .null, .int 0]) (ci := 4) S hK hW hinJx4a65c tyJx4a65c_ok wd_1070 wd_1071 wd_8 rfl (fun j hj => by match j, hj with | 0, _ => rfl | 1, _ => rfl | 2, _ => rfl | j + 3, hj => exact absurd hj (by omega)) (by decide) (by decide) dX6_init_5 (fun tr H_1 hq_tr hW => ?_)
  have n_t0_tr : t0 ≠ tr := fun ee => hq_tr (ee ▸ m_t0)
  have e_t0 : (va_up F tr (.inr (4, [.int 0, .null, .int 0]))) t0 = .inr (11, [.int 0, .null, .null, .null, .null, .int 0, .int 0, .int 0, .int 0]) := (up_ne n_t0_tr).trans e_t0
  have m_t0 := List.mem_append_left [tr] m_t0
  have e_tr : (va_up F tr (.inr (4, [.int 0, .null, .int 0]))) tr = .inr (4, [.int 0, .null, .int 0]) := up_eq
  have m_tr : tr ∈ L ++ [tr] := List.mem_append_right _ (List.mem_singleton.mpr rfl)
  have hnw_tr : tr ∉ L := fun ee => hq_tr (hsub _ ee)
  have hfr : ∀ x ∈ L, x ≠ t0 → (va_up F tr (.inr (4, [.int 0, .null, .int 0]))) x = F x := fun x hx hxt => (up_ne (fun (ee : x = tr) => hnw_tr (ee ▸ hx))).trans (hfr x hx hxt)
  have hsub : ∀ x ∈ L, x ∈ L ++ [tr] := fun x hx => List.mem_append_left _ (hsub x hx)
  generalize va_up F tr (.inr (4, [.int 0, .null, .int 0])) = F_2 at hW e_t0 e_tr hfr
  generalize L ++ [tr] = L_3 at hW m_t0 m_tr hsub
  refine lv_dup S.1 S.2.1 dX6_init_8 rfl ?_
  refine pk_cIV (As := []) (rest := [.ref tr, .ref t0]) S hK hST hW (c_Jx4a65c_init_da8c8 m_tr e_tr) mc_Jx4a65c_init_da8c8 wd_1072 wd_1073 rfl rfl np_Jx4a65c_init_da8c8 rfl hl.1 rfl (Nat.le_of_ble_eq_true rfl) dX6_init_9 ⟨by decide, by decide⟩ ⟨by decide, by decide⟩ (fun L_7 F_4 H_5 l_6 hp hW => ?_)
  obtain ⟨rfl, ⟨_, e9⟩, hf9⟩ := hp
  have e_t0 : F_4 t0 = .inr (11, [.int 0, .null, .null, .null, .null, .int 0, .int 0, .int 0, .int 0]) := (hf9 t0 n_t0_tr).trans e_t0
  have e_tr := e9
  have hfr : ∀ x ∈ L, x ≠ t0 → F_4 x = F x := fun x hx hxt => (hf9 x (fun (ee : x = tr) => hnw_tr (ee ▸ hx))).trans (hfr x hx hxt)
  refine pk_putF (v := .ref tr) S hK hW 1 m_t0 e_t0 rfl hinX6 tyX6_ok nmX6 (by decide) wd_1156 rfl (hini rfl) rfl rfl rfl rfl (Nat.le_of_ble_eq_true rfl) dX6_init_12 (fun H_8 l_9 hW => ?_)
  have e_t0 : (va_up F_4 t0 (.inr (11, ([.int 0, .null, .null, .null, .null, .int 0, .int 0, .int 0, .int 0] : List Value).set 1 (.ref tr)))) t0 = .inr (11, [.int 0, .ref tr, .null, .null, .null, .int 0, .int 0, .int 0, .int 0]) := up_eq
  have e_tr : (va_up F_4 t0 (.inr (11, ([.int 0, .null, .null, .null, .null, .int 0, .int 0, .int 0, .int 0] : List Value).set 1 (.ref tr)))) tr = .inr (4, [.int 0, .ref (ζ 256), .int 0]) := (up_ne n_t0_tr.symm).trans e_tr
  have hfr : ∀ x ∈ L, x ≠ t0 → (va_up F_4 t0 (.inr (11, ([.int 0, .null, .null, .null, .null, .int 0, .int 0, .int 0, .int 0] : List Value).set 1 (.ref tr)))) x = F x := fun x hx hxt => (up_ne hxt).trans (hfr x hx hxt)
  generalize va_up F_4 t0 (.inr (11, ([.int 0, .null, .null, .null, .null, .int 0, .int 0, .int 0, .int 0] : List Value).set 1 (.ref tr))) = F_10 at hW e_t0 e_tr hfr
  refine lv_aload_n S.1 S.2.1 dX6_init_15 rfl (lv_at hl 0 rfl) ?_
  refine pk_new (fs := [.int 0, .null, .int 0]) (ci := 4) S hK hW hinJx4a65c tyJx4a65c_ok wd_1070 wd_1071 wd_8 rfl (fun j hj => by match j, hj with | 0, _ => rfl | 1, _ => rfl | 2, _ => rfl | j + 3, hj => exact absurd hj (by omega)) (by decide) (by decide) dX6_init_16 (fun sl H_11 hq_sl hW => ?_)
  have n_t0_sl : t0 ≠ sl := fun ee => hq_sl (ee ▸ m_t0)
  have n_tr_sl : tr ≠ sl := fun ee => hq_sl (ee ▸ m_tr)
  have e_t0 : (va_up F_10 sl (.inr (4, [.int 0, .null, .int 0]))) t0 = .inr (11, [.int 0, .ref tr, .null, .null, .null, .int 0, .int 0, .int 0, .int 0]) := (up_ne n_t0_sl).trans e_t0
  have m_t0 := List.mem_append_left [sl] m_t0
  have e_tr : (va_up F_10 sl (.inr (4, [.int 0, .null, .int 0]))) tr = .inr (4, [.int 0, .ref (ζ 256), .int 0]) := (up_ne n_tr_sl).trans e_tr
  have m_tr := List.mem_append_left [sl] m_tr
  have e_sl : (va_up F_10 sl (.inr (4, [.int 0, .null, .int 0]))) sl = .inr (4, [.int 0, .null, .int 0]) := up_eq
  have m_sl : sl ∈ L_3 ++ [sl] := List.mem_append_right _ (List.mem_singleton.mpr rfl)
  have hnw_sl : sl ∉ L := fun ee => hq_sl (hsub _ ee)
  have hfr : ∀ x ∈ L, x ≠ t0 → (va_up F_10 sl (.inr (4, [.int 0, .null, .int 0]))) x = F x := fun x hx hxt => (up_ne (fun (ee : x = sl) => hnw_sl (ee ▸ hx))).trans (hfr x hx hxt)
  have hsub : ∀ x ∈ L, x ∈ L_3 ++ [sl] := fun x hx => List.mem_append_left _ (hsub x hx)
  generalize va_up F_10 sl (.inr (4, [.int 0, .null, .int 0])) = F_12 at hW e_t0 e_tr e_sl hfr
  generalize L_3 ++ [sl] = L_13 at hW m_t0 m_tr m_sl hsub
  refine lv_dup S.1 S.2.1 dX6_init_19 rfl ?_
  refine pk_cIV (As := []) (rest := [.ref sl, .ref t0]) S hK hST hW (c_Jx4a65c_init_da8c8 m_sl e_sl) mc_Jx4a65c_init_da8c8 wd_1072 wd_1073 rfl rfl np_Jx4a65c_init_da8c8 rfl hl.1 rfl (Nat.le_of_ble_eq_true rfl) dX6_init_20 ⟨by decide, by decide⟩ ⟨by decide, by decide⟩ (fun L_17 F_14 H_15 l_16 hp hW => ?_)
  obtain ⟨rfl, ⟨_, e9⟩, hf9⟩ := hp
  have e_t0 : F_14 t0 = .inr (11, [.int 0, .ref tr, .null, .null, .null, .int 0, .int 0, .int 0, .int 0]) := (hf9 t0 n_t0_sl).trans e_t0
  have e_tr : F_14 tr = .inr (4, [.int 0, .ref (ζ 256), .int 0]) := (hf9 tr n_tr_sl).trans e_tr
  have e_sl := e9
  have hfr : ∀ x ∈ L, x ≠ t0 → F_14 x = F x := fun x hx hxt => (hf9 x (fun (ee : x = sl) => hnw_sl (ee ▸ hx))).trans (hfr x hx hxt)
  refine pk_putF (v := .ref sl) S hK hW 2 m_t0 e_t0 rfl hinX6 tyX6_ok nmX6 (by decide) wd_1157 rfl (hini rfl) rfl rfl rfl rfl (Nat.le_of_ble_eq_true rfl) dX6_init_23 (fun H_18 l_19 hW => ?_)
  have e_t0 : (va_up F_14 t0 (.inr (11, ([.int 0, .ref tr, .null, .null, .null, .int 0, .int 0, .int 0, .int 0] : List Value).set 2 (.ref sl)))) t0 = .inr (11, [.int 0, .ref tr, .ref sl, .null, .null, .int 0, .int 0, .int 0, .int 0]) := up_eq
  have e_tr : (va_up F_14 t0 (.inr (11, ([.int 0, .ref tr, .null, .null, .null, .int 0, .int 0, .int 0, .int 0] : List Value).set 2 (.ref sl)))) tr = .inr (4, [.int 0, .ref (ζ 256), .int 0]) := (up_ne n_t0_tr.symm).trans e_tr
  have e_sl : (va_up F_14 t0 (.inr (11, ([.int 0, .ref tr, .null, .null, .null, .int 0, .int 0, .int 0, .int 0] : List Value).set 2 (.ref sl)))) sl = .inr (4, [.int 0, .ref (ζ 256), .int 0]) := (up_ne n_t0_sl.symm).trans e_sl
  have hfr : ∀ x ∈ L, x ≠ t0 → (va_up F_14 t0 (.inr (11, ([.int 0, .ref tr, .null, .null, .null, .int 0, .int 0, .int 0, .int 0] : List Value).set 2 (.ref sl)))) x = F x := fun x hx hxt => (up_ne hxt).trans (hfr x hx hxt)
  generalize va_up F_14 t0 (.inr (11, ([.int 0, .ref tr, .null, .null, .null, .int 0, .int 0, .int 0, .int 0] : List Value).set 2 (.ref sl))) = F_20 at hW e_t0 e_tr e_sl hfr
  refine lv_aload_n S.1 S.2.1 dX6_init_26 rfl (lv_at hl 0 rfl) ?_
  refine pk_new (fs := [.int 0, .null, .int 0]) (ci := 4) S hK hW hinJx4a65c tyJx4a65c_ok wd_1070 wd_1071 wd_8 rfl (fun j hj => by match j, hj with | 0, _ => rfl | 1, _ => rfl | 2, _ => rfl | j + 3, hj => exact absurd hj (by omega)) (by decide) (by decide) dX6_init_27 (fun od H_21 hq_od hW => ?_)
  have n_t0_od : t0 ≠ od := fun ee => hq_od (ee ▸ m_t0)
  have n_tr_od : tr ≠ od := fun ee => hq_od (ee ▸ m_tr)
  have n_sl_od : sl ≠ od := fun ee => hq_od (ee ▸ m_sl)
  have e_t0 : (va_up F_20 od (.inr (4, [.int 0, .null, .int 0]))) t0 = .inr (11, [.int 0, .ref tr, .ref sl, .null, .null, .int 0, .int 0, .int 0, .int 0]) := (up_ne n_t0_od).trans e_t0
  have m_t0 := List.mem_append_left [od] m_t0
  have e_tr : (va_up F_20 od (.inr (4, [.int 0, .null, .int 0]))) tr = .inr (4, [.int 0, .ref (ζ 256), .int 0]) := (up_ne n_tr_od).trans e_tr
  have m_tr := List.mem_append_left [od] m_tr
  have e_sl : (va_up F_20 od (.inr (4, [.int 0, .null, .int 0]))) sl = .inr (4, [.int 0, .ref (ζ 256), .int 0]) := (up_ne n_sl_od).trans e_sl
  have m_sl := List.mem_append_left [od] m_sl
  have e_od : (va_up F_20 od (.inr (4, [.int 0, .null, .int 0]))) od = .inr (4, [.int 0, .null, .int 0]) := up_eq
  have m_od : od ∈ L_13 ++ [od] := List.mem_append_right _ (List.mem_singleton.mpr rfl)
  have hnw_od : od ∉ L := fun ee => hq_od (hsub _ ee)
  have hfr : ∀ x ∈ L, x ≠ t0 → (va_up F_20 od (.inr (4, [.int 0, .null, .int 0]))) x = F x := fun x hx hxt => (up_ne (fun (ee : x = od) => hnw_od (ee ▸ hx))).trans (hfr x hx hxt)
  have hsub : ∀ x ∈ L, x ∈ L_13 ++ [od] := fun x hx => List.mem_append_left _ (hsub x hx)
  generalize va_up F_20 od (.inr (4, [.int 0, .null, .int 0])) = F_22 at hW e_t0 e_tr e_sl e_od hfr
  generalize L_13 ++ [od] = L_23 at hW m_t0 m_tr m_sl m_od hsub
  refine lv_dup S.1 S.2.1 dX6_init_30 rfl ?_
  refine pk_cIV (As := []) (rest := [.ref od, .ref t0]) S hK hST hW (c_Jx4a65c_init_da8c8 m_od e_od) mc_Jx4a65c_init_da8c8 wd_1072 wd_1073 rfl rfl np_Jx4a65c_init_da8c8 rfl hl.1 rfl (Nat.le_of_ble_eq_true rfl) dX6_init_31 ⟨by decide, by decide⟩ ⟨by decide, by decide⟩ (fun L_27 F_24 H_25 l_26 hp hW => ?_)
  obtain ⟨rfl, ⟨_, e9⟩, hf9⟩ := hp
  have e_t0 : F_24 t0 = .inr (11, [.int 0, .ref tr, .ref sl, .null, .null, .int 0, .int 0, .int 0, .int 0]) := (hf9 t0 n_t0_od).trans e_t0
  have e_tr : F_24 tr = .inr (4, [.int 0, .ref (ζ 256), .int 0]) := (hf9 tr n_tr_od).trans e_tr
  have e_sl : F_24 sl = .inr (4, [.int 0, .ref (ζ 256), .int 0]) := (hf9 sl n_sl_od).trans e_sl
  have e_od := e9
  have hfr : ∀ x ∈ L, x ≠ t0 → F_24 x = F x := fun x hx hxt => (hf9 x (fun (ee : x = od) => hnw_od (ee ▸ hx))).trans (hfr x hx hxt)
  refine pk_putF (v := .ref od) S hK hW 3 m_t0 e_t0 rfl hinX6 tyX6_ok nmX6 (by decide) wd_1158 rfl (hini rfl) rfl rfl rfl rfl (Nat.le_of_ble_eq_true rfl) dX6_init_34 (fun H_28 l_29 hW => ?_)
  have e_t0 : (va_up F_24 t0 (.inr (11, ([.int 0, .ref tr, .ref sl, .null, .null, .int 0, .int 0, .int 0, .int 0] : List Value).set 3 (.ref od)))) t0 = .inr (11, [.int 0, .ref tr, .ref sl, .ref od, .null, .int 0, .int 0, .int 0, .int 0]) := up_eq
  have e_tr : (va_up F_24 t0 (.inr (11, ([.int 0, .ref tr, .ref sl, .null, .null, .int 0, .int 0, .int 0, .int 0] : List Value).set 3 (.ref od)))) tr = .inr (4, [.int 0, .ref (ζ 256), .int 0]) := (up_ne n_t0_tr.symm).trans e_tr
  have e_sl : (va_up F_24 t0 (.inr (11, ([.int 0, .ref tr, .ref sl, .null, .null, .int 0, .int 0, .int 0, .int 0] : List Value).set 3 (.ref od)))) sl = .inr (4, [.int 0, .ref (ζ 256), .int 0]) := (up_ne n_t0_sl.symm).trans e_sl
  have e_od : (va_up F_24 t0 (.inr (11, ([.int 0, .ref tr, .ref sl, .null, .null, .int 0, .int 0, .int 0, .int 0] : List Value).set 3 (.ref od)))) od = .inr (4, [.int 0, .ref (ζ 256), .int 0]) := (up_ne n_t0_od.symm).trans e_od
  have hfr : ∀ x ∈ L, x ≠ t0 → (va_up F_24 t0 (.inr (11, ([.int 0, .ref tr, .ref sl, .null, .null, .int 0, .int 0, .int 0, .int 0] : List Value).set 3 (.ref od)))) x = F x := fun x hx hxt => (up_ne hxt).trans (hfr x hx hxt)
  generalize va_up F_24 t0 (.inr (11, ([.int 0, .ref tr, .ref sl, .null, .null, .int 0, .int 0, .int 0, .int 0] : List Value).set 3 (.ref od))) = F_30 at hW e_t0 e_tr e_sl e_od hfr
  refine lv_aload_n S.1 S.2.1 dX6_init_37 rfl (lv_at hl 0 rfl) ?_
  refine lv_iconst (v := 2) S.1 S.2.1 dX6_init_38 (by decide) ?_
  refine pk_newq (N' := 2) S hK hW 4 rfl wd_1094 hST.2.aoWk (by decide) (by decide) (by decide) (by decide) (by decide) dX6_init_39 (fun wk Ha hq_wk hW => ?_)
  have n_t0_wk : t0 ≠ wk := fun ee => hq_wk (ee ▸ m_t0)
  have n_tr_wk : tr ≠ wk := fun ee => hq_wk (ee ▸ m_tr)
  have n_sl_wk : sl ≠ wk := fun ee => hq_wk (ee ▸ m_sl)
  have n_od_wk : od ≠ wk := fun ee => hq_wk (ee ▸ m_od)
  have e_t0 : (va_up F_30 wk (rfA (κ 4) 2 (fun _ => none))) t0 = .inr (11, [.int 0, .ref tr, .ref sl, .ref od, .null, .int 0, .int 0, .int 0, .int 0]) := (up_ne n_t0_wk).trans e_t0
  have m_t0 := List.mem_append_left [wk] m_t0
  have e_tr : (va_up F_30 wk (rfA (κ 4) 2 (fun _ => none))) tr = .inr (4, [.int 0, .ref (ζ 256), .int 0]) := (up_ne n_tr_wk).trans e_tr
  have m_tr := List.mem_append_left [wk] m_tr
  have e_sl : (va_up F_30 wk (rfA (κ 4) 2 (fun _ => none))) sl = .inr (4, [.int 0, .ref (ζ 256), .int 0]) := (up_ne n_sl_wk).trans e_sl
  have m_sl := List.mem_append_left [wk] m_sl
  have e_od : (va_up F_30 wk (rfA (κ 4) 2 (fun _ => none))) od = .inr (4, [.int 0, .ref (ζ 256), .int 0]) := (up_ne n_od_wk).trans e_od
  have m_od := List.mem_append_left [wk] m_od
  have e_wk : (va_up F_30 wk (rfA (κ 4) 2 (fun _ => none))) wk = rfA (κ 4) 2 (fun _ => none) := up_eq
  have m_wk : wk ∈ L_23 ++ [wk] := List.mem_append_right _ (List.mem_singleton.mpr rfl)
  have hnw_wk : wk ∉ L := fun ee => hq_wk (hsub _ ee)
  have hfr : ∀ x ∈ L, x ≠ t0 → (va_up F_30 wk (rfA (κ 4) 2 (fun _ => none))) x = F x := fun x hx hxt => (up_ne (fun (ee : x = wk) => hnw_wk (ee ▸ hx))).trans (hfr x hx hxt)
  have hsub : ∀ x ∈ L, x ∈ L_23 ++ [wk] := fun x hx => List.mem_append_left _ (hsub x hx)
  generalize va_up F_30 wk (rfA (κ 4) 2 (fun _ => none)) = F_31 at hW e_t0 e_tr e_sl e_od e_wk hfr
  generalize L_23 ++ [wk] = L_32 at hW m_t0 m_tr m_sl m_od m_wk hsub
  refine lv_dup S.1 S.2.1 dX6_init_42 rfl ?_
  refine lv_iconst (v := 0) S.1 S.2.1 dX6_init_43 (by decide) ?_
  refine pk_new (fs := [.int 0, .int 0, .int 0]) (ci := 10) S hK hW hinX5 tyX5_ok wd_1094 wd_1096 wd_9 rfl (fun j hj => by match j, hj with | 0, _ => rfl | 1, _ => rfl | 2, _ => rfl | j + 3, hj => exact absurd hj (by omega)) (by decide) (by decide) dX6_init_44 (fun w0 H_33 hq_w0 hW => ?_)
  have n_t0_w0 : t0 ≠ w0 := fun ee => hq_w0 (ee ▸ m_t0)
  have n_tr_w0 : tr ≠ w0 := fun ee => hq_w0 (ee ▸ m_tr)
  have n_sl_w0 : sl ≠ w0 := fun ee => hq_w0 (ee ▸ m_sl)
  have n_od_w0 : od ≠ w0 := fun ee => hq_w0 (ee ▸ m_od)
  have n_wk_w0 : wk ≠ w0 := fun ee => hq_w0 (ee ▸ m_wk)
  have e_t0 : (va_up F_31 w0 (.inr (10, [.int 0, .int 0, .int 0]))) t0 = .inr (11, [.int 0, .ref tr, .ref sl, .ref od, .null, .int 0, .int 0, .int 0, .int 0]) := (up_ne n_t0_w0).trans e_t0
  have m_t0 := List.mem_append_left [w0] m_t0
  have e_tr : (va_up F_31 w0 (.inr (10, [.int 0, .int 0, .int 0]))) tr = .inr (4, [.int 0, .ref (ζ 256), .int 0]) := (up_ne n_tr_w0).trans e_tr
  have m_tr := List.mem_append_left [w0] m_tr
  have e_sl : (va_up F_31 w0 (.inr (10, [.int 0, .int 0, .int 0]))) sl = .inr (4, [.int 0, .ref (ζ 256), .int 0]) := (up_ne n_sl_w0).trans e_sl
  have m_sl := List.mem_append_left [w0] m_sl
  have e_od : (va_up F_31 w0 (.inr (10, [.int 0, .int 0, .int 0]))) od = .inr (4, [.int 0, .ref (ζ 256), .int 0]) := (up_ne n_od_w0).trans e_od
  have m_od := List.mem_append_left [w0] m_od
  have e_wk : (va_up F_31 w0 (.inr (10, [.int 0, .int 0, .int 0]))) wk = rfA (κ 4) 2 (fun _ => none) := (up_ne n_wk_w0).trans e_wk
  have m_wk := List.mem_append_left [w0] m_wk
  have e_w0 : (va_up F_31 w0 (.inr (10, [.int 0, .int 0, .int 0]))) w0 = .inr (10, [.int 0, .int 0, .int 0]) := up_eq
  have m_w0 : w0 ∈ L_32 ++ [w0] := List.mem_append_right _ (List.mem_singleton.mpr rfl)
  have hnw_w0 : w0 ∉ L := fun ee => hq_w0 (hsub _ ee)
  have hfr : ∀ x ∈ L, x ≠ t0 → (va_up F_31 w0 (.inr (10, [.int 0, .int 0, .int 0]))) x = F x := fun x hx hxt => (up_ne (fun (ee : x = w0) => hnw_w0 (ee ▸ hx))).trans (hfr x hx hxt)
  have hsub : ∀ x ∈ L, x ∈ L_32 ++ [w0] := fun x hx => List.mem_append_left _ (hsub x hx)
  generalize va_up F_31 w0 (.inr (10, [.int 0, .int 0, .int 0])) = F_34 at hW e_t0 e_tr e_sl e_od e_wk e_w0 hfr
  generalize L_32 ++ [w0] = L_35 at hW m_t0 m_tr m_sl m_od m_wk m_w0 hsub
  refine lv_dup S.1 S.2.1 dX6_init_47 rfl ?_
  refine pk_cJN (As := []) (rest := [.ref w0, .int 0, .ref wk, .ref wk, .ref t0]) S hK hST hW (c_X5_init m_w0 e_w0) mc_X5_init wn_21 wd_1097 rfl rfl np_X5_init rfl hl.1 rfl (Nat.le_of_ble_eq_true rfl) dX6_init_48 ⟨by decide, by decide⟩ ⟨by decide, by decide⟩ (fun L_36 F_37 H_38 l_39 hp hW => ?_)
  obtain ⟨rfl, e9, hf9⟩ := hp
  have e_t0 : F_37 t0 = .inr (11, [.int 0, .ref tr, .ref sl, .ref od, .null, .int 0, .int 0, .int 0, .int 0]) := (hf9 t0 n_t0_w0).trans e_t0
  have e_tr : F_37 tr = .inr (4, [.int 0, .ref (ζ 256), .int 0]) := (hf9 tr n_tr_w0).trans e_tr
  have e_sl : F_37 sl = .inr (4, [.int 0, .ref (ζ 256), .int 0]) := (hf9 sl n_sl_w0).trans e_sl
  have e_od : F_37 od = .inr (4, [.int 0, .ref (ζ 256), .int 0]) := (hf9 od n_od_w0).trans e_od
  have e_wk : F_37 wk = rfA (κ 4) 2 (fun _ => none) := (hf9 wk n_wk_w0).trans e_wk
  have e_w0 := e9
  have hfr : ∀ x ∈ L, x ≠ t0 → F_37 x = F x := fun x hx hxt => (hf9 x (fun (ee : x = w0) => hnw_w0 (ee ▸ hx))).trans (hfr x hx hxt)
  refine pk_aastS S hK hW 4 m_wk e_wk rfl (pk_recv (r := (RX5, TX5, 3)) hK hW m_w0 e_w0 rfl) (show vp_in (nI 0) 2 from vp_in_nI (by omega) (by omega)) dX6_init_51 (fun Hb0 lb0 hW => ?_)
  have e_t0 : (va_up F_37 wk (rfA (κ 4) 2 (va_up (fun _ => none) (0 : Int32).toNatClampNeg (some w0)))) t0 = .inr (11, [.int 0, .ref tr, .ref sl, .ref od, .null, .int 0, .int 0, .int 0, .int 0]) := (up_ne n_t0_wk).trans e_t0
  have e_tr : (va_up F_37 wk (rfA (κ 4) 2 (va_up (fun _ => none) (0 : Int32).toNatClampNeg (some w0)))) tr = .inr (4, [.int 0, .ref (ζ 256), .int 0]) := (up_ne n_tr_wk).trans e_tr
  have e_sl : (va_up F_37 wk (rfA (κ 4) 2 (va_up (fun _ => none) (0 : Int32).toNatClampNeg (some w0)))) sl = .inr (4, [.int 0, .ref (ζ 256), .int 0]) := (up_ne n_sl_wk).trans e_sl
  have e_od : (va_up F_37 wk (rfA (κ 4) 2 (va_up (fun _ => none) (0 : Int32).toNatClampNeg (some w0)))) od = .inr (4, [.int 0, .ref (ζ 256), .int 0]) := (up_ne n_od_wk).trans e_od
  have e_wk : (va_up F_37 wk (rfA (κ 4) 2 (va_up (fun _ => none) (0 : Int32).toNatClampNeg (some w0)))) wk = rfA (κ 4) 2 (va_up (fun _ => none) (0 : Int32).toNatClampNeg (some w0)) := up_eq
  have e_w0 : (va_up F_37 wk (rfA (κ 4) 2 (va_up (fun _ => none) (0 : Int32).toNatClampNeg (some w0)))) w0 = .inr (10, [.int 0, .int 0, .int (-1)]) := (up_ne n_wk_w0.symm).trans e_w0
  have hfr : ∀ x ∈ L, x ≠ t0 → (va_up F_37 wk (rfA (κ 4) 2 (va_up (fun _ => none) (0 : Int32).toNatClampNeg (some w0)))) x = F x := fun x hx hxt => (up_ne (fun (ee : x = wk) => hnw_wk (ee ▸ hx))).trans (hfr x hx hxt)
  generalize va_up F_37 wk (rfA (κ 4) 2 (va_up (fun _ => none) (0 : Int32).toNatClampNeg (some w0))) = F_40 at hW e_t0 e_tr e_sl e_od e_wk e_w0 hfr
  refine lv_dup S.1 S.2.1 dX6_init_52 rfl ?_
  refine lv_iconst (v := 1) S.1 S.2.1 dX6_init_53 (by decide) ?_
  refine pk_new (fs := [.int 0, .int 0, .int 0]) (ci := 10) S hK hW hinX5 tyX5_ok wd_1094 wd_1096 wd_9 rfl (fun j hj => by match j, hj with | 0, _ => rfl | 1, _ => rfl | 2, _ => rfl | j + 3, hj => exact absurd hj (by omega)) (by decide) (by decide) dX6_init_54 (fun w1 H_41 hq_w1 hW => ?_)
  have n_t0_w1 : t0 ≠ w1 := fun ee => hq_w1 (ee ▸ m_t0)
  have n_tr_w1 : tr ≠ w1 := fun ee => hq_w1 (ee ▸ m_tr)
  have n_sl_w1 : sl ≠ w1 := fun ee => hq_w1 (ee ▸ m_sl)
  have n_od_w1 : od ≠ w1 := fun ee => hq_w1 (ee ▸ m_od)
  have n_wk_w1 : wk ≠ w1 := fun ee => hq_w1 (ee ▸ m_wk)
  have n_w0_w1 : w0 ≠ w1 := fun ee => hq_w1 (ee ▸ m_w0)
  have e_t0 : (va_up F_40 w1 (.inr (10, [.int 0, .int 0, .int 0]))) t0 = .inr (11, [.int 0, .ref tr, .ref sl, .ref od, .null, .int 0, .int 0, .int 0, .int 0]) := (up_ne n_t0_w1).trans e_t0
  have m_t0 := List.mem_append_left [w1] m_t0
  have e_tr : (va_up F_40 w1 (.inr (10, [.int 0, .int 0, .int 0]))) tr = .inr (4, [.int 0, .ref (ζ 256), .int 0]) := (up_ne n_tr_w1).trans e_tr
  have m_tr := List.mem_append_left [w1] m_tr
  have e_sl : (va_up F_40 w1 (.inr (10, [.int 0, .int 0, .int 0]))) sl = .inr (4, [.int 0, .ref (ζ 256), .int 0]) := (up_ne n_sl_w1).trans e_sl
  have m_sl := List.mem_append_left [w1] m_sl
  have e_od : (va_up F_40 w1 (.inr (10, [.int 0, .int 0, .int 0]))) od = .inr (4, [.int 0, .ref (ζ 256), .int 0]) := (up_ne n_od_w1).trans e_od
  have m_od := List.mem_append_left [w1] m_od
  have e_wk : (va_up F_40 w1 (.inr (10, [.int 0, .int 0, .int 0]))) wk = rfA (κ 4) 2 (va_up (fun _ => none) (0 : Int32).toNatClampNeg (some w0)) := (up_ne n_wk_w1).trans e_wk
  have m_wk := List.mem_append_left [w1] m_wk
  have e_w0 : (va_up F_40 w1 (.inr (10, [.int 0, .int 0, .int 0]))) w0 = .inr (10, [.int 0, .int 0, .int (-1)]) := (up_ne n_w0_w1).trans e_w0
  have m_w0 := List.mem_append_left [w1] m_w0
  have e_w1 : (va_up F_40 w1 (.inr (10, [.int 0, .int 0, .int 0]))) w1 = .inr (10, [.int 0, .int 0, .int 0]) := up_eq
  have m_w1 : w1 ∈ L_35 ++ [w1] := List.mem_append_right _ (List.mem_singleton.mpr rfl)
  have hnw_w1 : w1 ∉ L := fun ee => hq_w1 (hsub _ ee)
  have hfr : ∀ x ∈ L, x ≠ t0 → (va_up F_40 w1 (.inr (10, [.int 0, .int 0, .int 0]))) x = F x := fun x hx hxt => (up_ne (fun (ee : x = w1) => hnw_w1 (ee ▸ hx))).trans (hfr x hx hxt)
  have hsub : ∀ x ∈ L, x ∈ L_35 ++ [w1] := fun x hx => List.mem_append_left _ (hsub x hx)
  generalize va_up F_40 w1 (.inr (10, [.int 0, .int 0, .int 0])) = F_42 at hW e_t0 e_tr e_sl e_od e_wk e_w0 e_w1 hfr
  generalize L_35 ++ [w1] = L_43 at hW m_t0 m_tr m_sl m_od m_wk m_w0 m_w1 hsub
  refine lv_dup S.1 S.2.1 dX6_init_57 rfl ?_
  refine pk_cJN (As := []) (rest := [.ref w1, .int 1, .ref wk, .ref wk, .ref t0]) S hK hST hW (c_X5_init m_w1 e_w1) mc_X5_init wn_21 wd_1097 rfl rfl np_X5_init rfl hl.1 rfl (Nat.le_of_ble_eq_true rfl) dX6_init_58 ⟨by decide, by decide⟩ ⟨by decide, by decide⟩ (fun L_44 F_45 H_46 l_47 hp hW => ?_)
  obtain ⟨rfl, e9, hf9⟩ := hp
  have e_t0 : F_45 t0 = .inr (11, [.int 0, .ref tr, .ref sl, .ref od, .null, .int 0, .int 0, .int 0, .int 0]) := (hf9 t0 n_t0_w1).trans e_t0
  have e_tr : F_45 tr = .inr (4, [.int 0, .ref (ζ 256), .int 0]) := (hf9 tr n_tr_w1).trans e_tr
  have e_sl : F_45 sl = .inr (4, [.int 0, .ref (ζ 256), .int 0]) := (hf9 sl n_sl_w1).trans e_sl
  have e_od : F_45 od = .inr (4, [.int 0, .ref (ζ 256), .int 0]) := (hf9 od n_od_w1).trans e_od
  have e_wk : F_45 wk = rfA (κ 4) 2 (va_up (fun _ => none) (0 : Int32).toNatClampNeg (some w0)) := (hf9 wk n_wk_w1).trans e_wk
  have e_w0 : F_45 w0 = .inr (10, [.int 0, .int 0, .int (-1)]) := (hf9 w0 n_w0_w1).trans e_w0
  have e_w1 := e9
  have hfr : ∀ x ∈ L, x ≠ t0 → F_45 x = F x := fun x hx hxt => (hf9 x (fun (ee : x = w1) => hnw_w1 (ee ▸ hx))).trans (hfr x hx hxt)
  refine pk_aastS S hK hW 4 m_wk e_wk rfl (pk_recv (r := (RX5, TX5, 3)) hK hW m_w1 e_w1 rfl) (show vp_in (nI 1) 2 from vp_in_nI (by omega) (by omega)) dX6_init_61 (fun Hb1 lb1 hW => ?_)
  have e_t0 : (va_up F_45 wk (rfA (κ 4) 2 (va_up (va_up (fun _ => none) (0 : Int32).toNatClampNeg (some w0)) (1 : Int32).toNatClampNeg (some w1)))) t0 = .inr (11, [.int 0, .ref tr, .ref sl, .ref od, .null, .int 0, .int 0, .int 0, .int 0]) := (up_ne n_t0_wk).trans e_t0
  have e_tr : (va_up F_45 wk (rfA (κ 4) 2 (va_up (va_up (fun _ => none) (0 : Int32).toNatClampNeg (some w0)) (1 : Int32).toNatClampNeg (some w1)))) tr = .inr (4, [.int 0, .ref (ζ 256), .int 0]) := (up_ne n_tr_wk).trans e_tr
  have e_sl : (va_up F_45 wk (rfA (κ 4) 2 (va_up (va_up (fun _ => none) (0 : Int32).toNatClampNeg (some w0)) (1 : Int32).toNatClampNeg (some w1)))) sl = .inr (4, [.int 0, .ref (ζ 256), .int 0]) := (up_ne n_sl_wk).trans e_sl
  have e_od : (va_up F_45 wk (rfA (κ 4) 2 (va_up (va_up (fun _ => none) (0 : Int32).toNatClampNeg (some w0)) (1 : Int32).toNatClampNeg (some w1)))) od = .inr (4, [.int 0, .ref (ζ 256), .int 0]) := (up_ne n_od_wk).trans e_od
  have e_wk : (va_up F_45 wk (rfA (κ 4) 2 (va_up (va_up (fun _ => none) (0 : Int32).toNatClampNeg (some w0)) (1 : Int32).toNatClampNeg (some w1)))) wk = rfA (κ 4) 2 (va_up (va_up (fun _ => none) (0 : Int32).toNatClampNeg (some w0)) (1 : Int32).toNatClampNeg (some w1)) := up_eq
  have e_w0 : (va_up F_45 wk (rfA (κ 4) 2 (va_up (va_up (fun _ => none) (0 : Int32).toNatClampNeg (some w0)) (1 : Int32).toNatClampNeg (some w1)))) w0 = .inr (10, [.int 0, .int 0, .int (-1)]) := (up_ne n_wk_w0.symm).trans e_w0
  have e_w1 : (va_up F_45 wk (rfA (κ 4) 2 (va_up (va_up (fun _ => none) (0 : Int32).toNatClampNeg (some w0)) (1 : Int32).toNatClampNeg (some w1)))) w1 = .inr (10, [.int 0, .int 0, .int (-1)]) := (up_ne n_wk_w1.symm).trans e_w1
  have hfr : ∀ x ∈ L, x ≠ t0 → (va_up F_45 wk (rfA (κ 4) 2 (va_up (va_up (fun _ => none) (0 : Int32).toNatClampNeg (some w0)) (1 : Int32).toNatClampNeg (some w1)))) x = F x := fun x hx hxt => (up_ne (fun (ee : x = wk) => hnw_wk (ee ▸ hx))).trans (hfr x hx hxt)
  generalize va_up F_45 wk (rfA (κ 4) 2 (va_up (va_up (fun _ => none) (0 : Int32).toNatClampNeg (some w0)) (1 : Int32).toNatClampNeg (some w1))) = F_48 at hW e_t0 e_tr e_sl e_od e_wk e_w0 e_w1 hfr
  refine pk_putF (v := .ref wk) S hK hW 4 m_t0 e_t0 rfl hinX6 tyX6_ok nmX6 (by decide) wd_1159 rfl (hini rfl) rfl rfl rfl rfl (Nat.le_of_ble_eq_true rfl) dX6_init_62 (fun H_49 l_50 hW => ?_)
  have e_t0 : (va_up F_48 t0 (.inr (11, ([.int 0, .ref tr, .ref sl, .ref od, .null, .int 0, .int 0, .int 0, .int 0] : List Value).set 4 (.ref wk)))) t0 = .inr (11, [.int 0, .ref tr, .ref sl, .ref od, .ref wk, .int 0, .int 0, .int 0, .int 0]) := up_eq
  have e_tr : (va_up F_48 t0 (.inr (11, ([.int 0, .ref tr, .ref sl, .ref od, .null, .int 0, .int 0, .int 0, .int 0] : List Value).set 4 (.ref wk)))) tr = .inr (4, [.int 0, .ref (ζ 256), .int 0]) := (up_ne n_t0_tr.symm).trans e_tr
  have e_sl : (va_up F_48 t0 (.inr (11, ([.int 0, .ref tr, .ref sl, .ref od, .null, .int 0, .int 0, .int 0, .int 0] : List Value).set 4 (.ref wk)))) sl = .inr (4, [.int 0, .ref (ζ 256), .int 0]) := (up_ne n_t0_sl.symm).trans e_sl
  have e_od : (va_up F_48 t0 (.inr (11, ([.int 0, .ref tr, .ref sl, .ref od, .null, .int 0, .int 0, .int 0, .int 0] : List Value).set 4 (.ref wk)))) od = .inr (4, [.int 0, .ref (ζ 256), .int 0]) := (up_ne n_t0_od.symm).trans e_od
  have e_wk : (va_up F_48 t0 (.inr (11, ([.int 0, .ref tr, .ref sl, .ref od, .null, .int 0, .int 0, .int 0, .int 0] : List Value).set 4 (.ref wk)))) wk = rfA (κ 4) 2 (va_up (va_up (fun _ => none) (0 : Int32).toNatClampNeg (some w0)) (1 : Int32).toNatClampNeg (some w1)) := (up_ne n_t0_wk.symm).trans e_wk
  have e_w0 : (va_up F_48 t0 (.inr (11, ([.int 0, .ref tr, .ref sl, .ref od, .null, .int 0, .int 0, .int 0, .int 0] : List Value).set 4 (.ref wk)))) w0 = .inr (10, [.int 0, .int 0, .int (-1)]) := (up_ne n_t0_w0.symm).trans e_w0
  have e_w1 : (va_up F_48 t0 (.inr (11, ([.int 0, .ref tr, .ref sl, .ref od, .null, .int 0, .int 0, .int 0, .int 0] : List Value).set 4 (.ref wk)))) w1 = .inr (10, [.int 0, .int 0, .int (-1)]) := (up_ne n_t0_w1.symm).trans e_w1
  have hfr : ∀ x ∈ L, x ≠ t0 → (va_up F_48 t0 (.inr (11, ([.int 0, .ref tr, .ref sl, .ref od, .null, .int 0, .int 0, .int 0, .int 0] : List Value).set 4 (.ref wk)))) x = F x := fun x hx hxt => (up_ne hxt).trans (hfr x hx hxt)
  generalize va_up F_48 t0 (.inr (11, ([.int 0, .ref tr, .ref sl, .ref od, .null, .int 0, .int 0, .int 0, .int 0] : List Value).set 4 (.ref wk))) = F_51 at hW e_t0 e_tr e_sl e_od e_wk e_w0 e_w1 hfr
  refine lv_aload_n S.1 S.2.1 dX6_init_65 rfl (lv_at hl 0 rfl) ?_
  refine lv_iconst (v := (-1)) S.1 S.2.1 dX6_init_66 (by decide) ?_
  refine pk_put (v := .int (-1)) S hK hW 7 m_t0 e_t0 rfl hinX6 tyX6_ok nmX6 (by decide) wd_1162 rfl rfl rfl rfl (Nat.le_of_ble_eq_true rfl) dX6_init_67 (fun H_52 l_53 hW => ?_)
  have e_t0 : (va_up F_51 t0 (.inr (11, ([.int 0, .ref tr, .ref sl, .ref od, .ref wk, .int 0, .int 0, .int 0, .int 0] : List Value).set 7 (.int (-1))))) t0 = .inr (11, [.int 0, .ref tr, .ref sl, .ref od, .ref wk, .int 0, .int 0, .int (-1), .int 0]) := up_eq
  have e_tr : (va_up F_51 t0 (.inr (11, ([.int 0, .ref tr, .ref sl, .ref od, .ref wk, .int 0, .int 0, .int 0, .int 0] : List Value).set 7 (.int (-1))))) tr = .inr (4, [.int 0, .ref (ζ 256), .int 0]) := (up_ne n_t0_tr.symm).trans e_tr
  have e_sl : (va_up F_51 t0 (.inr (11, ([.int 0, .ref tr, .ref sl, .ref od, .ref wk, .int 0, .int 0, .int 0, .int 0] : List Value).set 7 (.int (-1))))) sl = .inr (4, [.int 0, .ref (ζ 256), .int 0]) := (up_ne n_t0_sl.symm).trans e_sl
  have e_od : (va_up F_51 t0 (.inr (11, ([.int 0, .ref tr, .ref sl, .ref od, .ref wk, .int 0, .int 0, .int 0, .int 0] : List Value).set 7 (.int (-1))))) od = .inr (4, [.int 0, .ref (ζ 256), .int 0]) := (up_ne n_t0_od.symm).trans e_od
  have e_wk : (va_up F_51 t0 (.inr (11, ([.int 0, .ref tr, .ref sl, .ref od, .ref wk, .int 0, .int 0, .int 0, .int 0] : List Value).set 7 (.int (-1))))) wk = rfA (κ 4) 2 (va_up (va_up (fun _ => none) (0 : Int32).toNatClampNeg (some w0)) (1 : Int32).toNatClampNeg (some w1)) := (up_ne n_t0_wk.symm).trans e_wk
  have e_w0 : (va_up F_51 t0 (.inr (11, ([.int 0, .ref tr, .ref sl, .ref od, .ref wk, .int 0, .int 0, .int 0, .int 0] : List Value).set 7 (.int (-1))))) w0 = .inr (10, [.int 0, .int 0, .int (-1)]) := (up_ne n_t0_w0.symm).trans e_w0
  have e_w1 : (va_up F_51 t0 (.inr (11, ([.int 0, .ref tr, .ref sl, .ref od, .ref wk, .int 0, .int 0, .int 0, .int 0] : List Value).set 7 (.int (-1))))) w1 = .inr (10, [.int 0, .int 0, .int (-1)]) := (up_ne n_t0_w1.symm).trans e_w1
  have hfr : ∀ x ∈ L, x ≠ t0 → (va_up F_51 t0 (.inr (11, ([.int 0, .ref tr, .ref sl, .ref od, .ref wk, .int 0, .int 0, .int 0, .int 0] : List Value).set 7 (.int (-1))))) x = F x := fun x hx hxt => (up_ne hxt).trans (hfr x hx hxt)
  generalize va_up F_51 t0 (.inr (11, ([.int 0, .ref tr, .ref sl, .ref od, .ref wk, .int 0, .int 0, .int 0, .int 0] : List Value).set 7 (.int (-1)))) = F_54 at hW e_t0 e_tr e_sl e_od e_wk e_w0 e_w1 hfr
  refine lv_iconst (v := 0) S.1 S.2.1 dX6_init_70 (by decide) ?_
  refine lv_istore_n (lv' := [(1, .int 0), (0, .ref t0)]) S.1 S.2.1 dX6_init_71 rfl hl (Nat.le_of_ble_eq_true rfl) rfl (fun ls hl => ?_)
  refine lv_iload_n S.1 S.2.1 dX6_init_72 rfl (lv_at hl 0 rfl) ?_
  refine lv_iconst (v := 2) S.1 S.2.1 dX6_init_73 (by decide) ?_
  refine lv_icmp_ge (tgt := 98) S.1 S.2.1 dX6_init_74 (by decide) (fun c1 => absurd c1 (by decide)) (fun _ => ?_)
  refine lv_aload_n S.1 S.2.1 dX6_init_77 rfl (lv_at hl 1 rfl) ?_
  refine pk_get S hK hW 1 m_t0 e_t0 rfl hinX6 (by decide) wd_1156 rfl dX6_init_78 ?_
  refine pk_new (fs := [.int 0, .null, .int 0]) (ci := 4) S hK hW hinJx4a65c tyJx4a65c_ok wd_1070 wd_1071 wd_8 rfl (fun j hj => by match j, hj with | 0, _ => rfl | 1, _ => rfl | 2, _ => rfl | j + 3, hj => exact absurd hj (by omega)) (by decide) (by decide) dX6_init_81 (fun l0 H_55 hq_l0 hW => ?_)
  have n_t0_l0 : t0 ≠ l0 := fun ee => hq_l0 (ee ▸ m_t0)
  have n_tr_l0 : tr ≠ l0 := fun ee => hq_l0 (ee ▸ m_tr)
  have n_sl_l0 : sl ≠ l0 := fun ee => hq_l0 (ee ▸ m_sl)
  have n_od_l0 : od ≠ l0 := fun ee => hq_l0 (ee ▸ m_od)
  have n_wk_l0 : wk ≠ l0 := fun ee => hq_l0 (ee ▸ m_wk)
  have n_w0_l0 : w0 ≠ l0 := fun ee => hq_l0 (ee ▸ m_w0)
  have n_w1_l0 : w1 ≠ l0 := fun ee => hq_l0 (ee ▸ m_w1)
  have e_t0 : (va_up F_54 l0 (.inr (4, [.int 0, .null, .int 0]))) t0 = .inr (11, [.int 0, .ref tr, .ref sl, .ref od, .ref wk, .int 0, .int 0, .int (-1), .int 0]) := (up_ne n_t0_l0).trans e_t0
  have m_t0 := List.mem_append_left [l0] m_t0
  have e_tr : (va_up F_54 l0 (.inr (4, [.int 0, .null, .int 0]))) tr = .inr (4, [.int 0, .ref (ζ 256), .int 0]) := (up_ne n_tr_l0).trans e_tr
  have m_tr := List.mem_append_left [l0] m_tr
  have e_sl : (va_up F_54 l0 (.inr (4, [.int 0, .null, .int 0]))) sl = .inr (4, [.int 0, .ref (ζ 256), .int 0]) := (up_ne n_sl_l0).trans e_sl
  have m_sl := List.mem_append_left [l0] m_sl
  have e_od : (va_up F_54 l0 (.inr (4, [.int 0, .null, .int 0]))) od = .inr (4, [.int 0, .ref (ζ 256), .int 0]) := (up_ne n_od_l0).trans e_od
  have m_od := List.mem_append_left [l0] m_od
  have e_wk : (va_up F_54 l0 (.inr (4, [.int 0, .null, .int 0]))) wk = rfA (κ 4) 2 (va_up (va_up (fun _ => none) (0 : Int32).toNatClampNeg (some w0)) (1 : Int32).toNatClampNeg (some w1)) := (up_ne n_wk_l0).trans e_wk
  have m_wk := List.mem_append_left [l0] m_wk
  have e_w0 : (va_up F_54 l0 (.inr (4, [.int 0, .null, .int 0]))) w0 = .inr (10, [.int 0, .int 0, .int (-1)]) := (up_ne n_w0_l0).trans e_w0
  have m_w0 := List.mem_append_left [l0] m_w0
  have e_w1 : (va_up F_54 l0 (.inr (4, [.int 0, .null, .int 0]))) w1 = .inr (10, [.int 0, .int 0, .int (-1)]) := (up_ne n_w1_l0).trans e_w1
  have m_w1 := List.mem_append_left [l0] m_w1
  have e_l0 : (va_up F_54 l0 (.inr (4, [.int 0, .null, .int 0]))) l0 = .inr (4, [.int 0, .null, .int 0]) := up_eq
  have m_l0 : l0 ∈ L_43 ++ [l0] := List.mem_append_right _ (List.mem_singleton.mpr rfl)
  have hnw_l0 : l0 ∉ L := fun ee => hq_l0 (hsub _ ee)
  have hfr : ∀ x ∈ L, x ≠ t0 → (va_up F_54 l0 (.inr (4, [.int 0, .null, .int 0]))) x = F x := fun x hx hxt => (up_ne (fun (ee : x = l0) => hnw_l0 (ee ▸ hx))).trans (hfr x hx hxt)
  have hsub : ∀ x ∈ L, x ∈ L_43 ++ [l0] := fun x hx => List.mem_append_left _ (hsub x hx)
  generalize va_up F_54 l0 (.inr (4, [.int 0, .null, .int 0])) = F_56 at hW e_t0 e_tr e_sl e_od e_wk e_w0 e_w1 e_l0 hfr
  generalize L_43 ++ [l0] = L_57 at hW m_t0 m_tr m_sl m_od m_wk m_w0 m_w1 m_l0 hsub
  refine lv_dup S.1 S.2.1 dX6_init_84 rfl ?_
  refine pk_cIV (As := []) (rest := [.ref l0, .ref tr]) S hK hST hW (c_Jx4a65c_init_da8c8 m_l0 e_l0) mc_Jx4a65c_init_da8c8 wd_1072 wd_1073 rfl rfl np_Jx4a65c_init_da8c8 rfl hl.1 rfl (Nat.le_of_ble_eq_true rfl) dX6_init_85 ⟨by decide, by decide⟩ ⟨by decide, by decide⟩ (fun L_61 F_58 H_59 l_60 hp hW => ?_)
  obtain ⟨rfl, ⟨_, e9⟩, hf9⟩ := hp
  have e_t0 : F_58 t0 = .inr (11, [.int 0, .ref tr, .ref sl, .ref od, .ref wk, .int 0, .int 0, .int (-1), .int 0]) := (hf9 t0 n_t0_l0).trans e_t0
  have e_tr : F_58 tr = .inr (4, [.int 0, .ref (ζ 256), .int 0]) := (hf9 tr n_tr_l0).trans e_tr
  have e_sl : F_58 sl = .inr (4, [.int 0, .ref (ζ 256), .int 0]) := (hf9 sl n_sl_l0).trans e_sl
  have e_od : F_58 od = .inr (4, [.int 0, .ref (ζ 256), .int 0]) := (hf9 od n_od_l0).trans e_od
  have e_wk : F_58 wk = rfA (κ 4) 2 (va_up (va_up (fun _ => none) (0 : Int32).toNatClampNeg (some w0)) (1 : Int32).toNatClampNeg (some w1)) := (hf9 wk n_wk_l0).trans e_wk
  have e_w0 : F_58 w0 = .inr (10, [.int 0, .int 0, .int (-1)]) := (hf9 w0 n_w0_l0).trans e_w0
  have e_w1 : F_58 w1 = .inr (10, [.int 0, .int 0, .int (-1)]) := (hf9 w1 n_w1_l0).trans e_w1
  have e_l0 := e9
  have hfr : ∀ x ∈ L, x ≠ t0 → F_58 x = F x := fun x hx hxt => (hf9 x (fun (ee : x = l0) => hnw_l0 (ee ▸ hx))).trans (hfr x hx hxt)
  refine pk_cVI (As := [.ref l0]) (rest := []) S hK hST hW (c_Jx4a65c_add_9ea2d_newL (h := tr) ⟨m_tr, e_tr⟩ n_tr_l0.symm ⟨m_l0, e_l0⟩) mc_Jx4a65c_add_9ea2d wd_1108 wd_1109 wd_1110 rfl np_Jx4a65c_add_9ea2d m_tr e_tr rfl rfl hl.1 rfl (Nat.le_of_ble_eq_true rfl) dX6_init_88 ⟨by decide, by decide⟩ ⟨by decide, by decide⟩ (fun r L_62 F_63 H_64 l_65 hp hW => ?_)
  obtain ⟨hsub1, pa, hq_pa, ⟨_, e9, m_pa, n9, e_pa⟩, hf9⟩ := hp
  have hnw_pa : pa ∉ L := fun ee => hq_pa (hsub _ ee)
  have n_t0_pa : t0 ≠ pa := fun ee => hq_pa (ee ▸ m_t0)
  have n_tr_pa : tr ≠ pa := fun ee => hq_pa (ee ▸ m_tr)
  have n_sl_pa : sl ≠ pa := fun ee => hq_pa (ee ▸ m_sl)
  have n_od_pa : od ≠ pa := fun ee => hq_pa (ee ▸ m_od)
  have n_wk_pa : wk ≠ pa := fun ee => hq_pa (ee ▸ m_wk)
  have n_w0_pa : w0 ≠ pa := fun ee => hq_pa (ee ▸ m_w0)
  have n_w1_pa : w1 ≠ pa := fun ee => hq_pa (ee ▸ m_w1)
  have n_l0_pa : l0 ≠ pa := fun ee => hq_pa (ee ▸ m_l0)
  have e_t0 : F_63 t0 = .inr (11, [.int 0, .ref tr, .ref sl, .ref od, .ref wk, .int 0, .int 0, .int (-1), .int 0]) := (hf9 t0 m_t0 n_t0_tr).trans e_t0
  have e_sl : F_63 sl = .inr (4, [.int 0, .ref (ζ 256), .int 0]) := (hf9 sl m_sl n_tr_sl.symm).trans e_sl
  have e_od : F_63 od = .inr (4, [.int 0, .ref (ζ 256), .int 0]) := (hf9 od m_od n_tr_od.symm).trans e_od
  have e_wk : F_63 wk = rfA (κ 4) 2 (va_up (va_up (fun _ => none) (0 : Int32).toNatClampNeg (some w0)) (1 : Int32).toNatClampNeg (some w1)) := (hf9 wk m_wk n_tr_wk.symm).trans e_wk
  have e_w0 : F_63 w0 = .inr (10, [.int 0, .int 0, .int (-1)]) := (hf9 w0 m_w0 n_tr_w0.symm).trans e_w0
  have e_w1 : F_63 w1 = .inr (10, [.int 0, .int 0, .int (-1)]) := (hf9 w1 m_w1 n_tr_w1.symm).trans e_w1
  have e_l0 : F_63 l0 = .inr (4, [.int 0, .ref (ζ 256), .int 0]) := (hf9 l0 m_l0 n_tr_l0.symm).trans e_l0
  have e_tr := e9
  have hfr : ∀ x ∈ L, x ≠ t0 → F_63 x = F x := fun x hx hxt => (hf9 x (hsub x hx) (fun (ee : x = tr) => hnw_tr (ee ▸ hx))).trans (hfr x hx hxt)
  have m_t0 := hsub1 _ m_t0
  have m_tr := hsub1 _ m_tr
  have m_sl := hsub1 _ m_sl
  have m_od := hsub1 _ m_od
  have m_wk := hsub1 _ m_wk
  have m_w0 := hsub1 _ m_w0
  have m_w1 := hsub1 _ m_w1
  have m_l0 := hsub1 _ m_l0
  have hsub : ∀ x ∈ L, x ∈ L_62 := fun x hx => hsub1 x (hsub x hx)
  refine lv_pop S.1 S.2.1 dX6_init_91 rfl ?_
  refine lv_iinc (lv' := [(1, .int 1), (0, .ref t0)]) S.1 S.2.1 dX6_init_92 hl (k := 0) rfl rfl (Nat.le_of_ble_eq_true rfl) rfl (fun ls hl => ?_)
  refine lv_goto (tgt := 72) S.1 S.2.1 dX6_init_95 (by decide) ?_
  refine lv_iload_n S.1 S.2.1 dX6_init_72 rfl (lv_at hl 0 rfl) ?_
  refine lv_iconst (v := 2) S.1 S.2.1 dX6_init_73 (by decide) ?_
  refine lv_icmp_ge (tgt := 98) S.1 S.2.1 dX6_init_74 (by decide) (fun c1 => absurd c1 (by decide)) (fun _ => ?_)
  refine lv_aload_n S.1 S.2.1 dX6_init_77 rfl (lv_at hl 1 rfl) ?_
  refine pk_get S hK hW 1 m_t0 e_t0 rfl hinX6 (by decide) wd_1156 rfl dX6_init_78 ?_
  refine pk_new (fs := [.int 0, .null, .int 0]) (ci := 4) S hK hW hinJx4a65c tyJx4a65c_ok wd_1070 wd_1071 wd_8 rfl (fun j hj => by match j, hj with | 0, _ => rfl | 1, _ => rfl | 2, _ => rfl | j + 3, hj => exact absurd hj (by omega)) (by decide) (by decide) dX6_init_81 (fun l1 H_66 hq_l1 hW => ?_)
  have n_t0_l1 : t0 ≠ l1 := fun ee => hq_l1 (ee ▸ m_t0)
  have n_tr_l1 : tr ≠ l1 := fun ee => hq_l1 (ee ▸ m_tr)
  have n_sl_l1 : sl ≠ l1 := fun ee => hq_l1 (ee ▸ m_sl)
  have n_od_l1 : od ≠ l1 := fun ee => hq_l1 (ee ▸ m_od)
  have n_wk_l1 : wk ≠ l1 := fun ee => hq_l1 (ee ▸ m_wk)
  have n_w0_l1 : w0 ≠ l1 := fun ee => hq_l1 (ee ▸ m_w0)
  have n_w1_l1 : w1 ≠ l1 := fun ee => hq_l1 (ee ▸ m_w1)
  have n_l0_l1 : l0 ≠ l1 := fun ee => hq_l1 (ee ▸ m_l0)
  have n_pa_l1 : pa ≠ l1 := fun ee => hq_l1 (ee ▸ m_pa)
  have e_t0 : (va_up F_63 l1 (.inr (4, [.int 0, .null, .int 0]))) t0 = .inr (11, [.int 0, .ref tr, .ref sl, .ref od, .ref wk, .int 0, .int 0, .int (-1), .int 0]) := (up_ne n_t0_l1).trans e_t0
  have m_t0 := List.mem_append_left [l1] m_t0
  have e_tr : (va_up F_63 l1 (.inr (4, [.int 0, .null, .int 0]))) tr = .inr (4, [.int (0 + 1), .ref pa, .int (nI (0 + 1))]) := (up_ne n_tr_l1).trans e_tr
  have m_tr := List.mem_append_left [l1] m_tr
  have e_sl : (va_up F_63 l1 (.inr (4, [.int 0, .null, .int 0]))) sl = .inr (4, [.int 0, .ref (ζ 256), .int 0]) := (up_ne n_sl_l1).trans e_sl
  have m_sl := List.mem_append_left [l1] m_sl
  have e_od : (va_up F_63 l1 (.inr (4, [.int 0, .null, .int 0]))) od = .inr (4, [.int 0, .ref (ζ 256), .int 0]) := (up_ne n_od_l1).trans e_od
  have m_od := List.mem_append_left [l1] m_od
  have e_wk : (va_up F_63 l1 (.inr (4, [.int 0, .null, .int 0]))) wk = rfA (κ 4) 2 (va_up (va_up (fun _ => none) (0 : Int32).toNatClampNeg (some w0)) (1 : Int32).toNatClampNeg (some w1)) := (up_ne n_wk_l1).trans e_wk
  have m_wk := List.mem_append_left [l1] m_wk
  have e_w0 : (va_up F_63 l1 (.inr (4, [.int 0, .null, .int 0]))) w0 = .inr (10, [.int 0, .int 0, .int (-1)]) := (up_ne n_w0_l1).trans e_w0
  have m_w0 := List.mem_append_left [l1] m_w0
  have e_w1 : (va_up F_63 l1 (.inr (4, [.int 0, .null, .int 0]))) w1 = .inr (10, [.int 0, .int 0, .int (-1)]) := (up_ne n_w1_l1).trans e_w1
  have m_w1 := List.mem_append_left [l1] m_w1
  have e_l0 : (va_up F_63 l1 (.inr (4, [.int 0, .null, .int 0]))) l0 = .inr (4, [.int 0, .ref (ζ 256), .int 0]) := (up_ne n_l0_l1).trans e_l0
  have m_l0 := List.mem_append_left [l1] m_l0
  have e_pa : (va_up F_63 l1 (.inr (4, [.int 0, .null, .int 0]))) pa = rfA (κ 3) 10 (va_up (fun _ => none) 0 (some l0)) := (up_ne n_pa_l1).trans e_pa
  have m_pa := List.mem_append_left [l1] m_pa
  have e_l1 : (va_up F_63 l1 (.inr (4, [.int 0, .null, .int 0]))) l1 = .inr (4, [.int 0, .null, .int 0]) := up_eq
  have m_l1 : l1 ∈ L_62 ++ [l1] := List.mem_append_right _ (List.mem_singleton.mpr rfl)
  have hnw_l1 : l1 ∉ L := fun ee => hq_l1 (hsub _ ee)
  have hfr : ∀ x ∈ L, x ≠ t0 → (va_up F_63 l1 (.inr (4, [.int 0, .null, .int 0]))) x = F x := fun x hx hxt => (up_ne (fun (ee : x = l1) => hnw_l1 (ee ▸ hx))).trans (hfr x hx hxt)
  have hsub : ∀ x ∈ L, x ∈ L_62 ++ [l1] := fun x hx => List.mem_append_left _ (hsub x hx)
  generalize va_up F_63 l1 (.inr (4, [.int 0, .null, .int 0])) = F_67 at hW e_t0 e_tr e_sl e_od e_wk e_w0 e_w1 e_l0 e_pa e_l1 hfr
  generalize L_62 ++ [l1] = L_68 at hW m_t0 m_tr m_sl m_od m_wk m_w0 m_w1 m_l0 m_pa m_l1 hsub
  refine lv_dup S.1 S.2.1 dX6_init_84 rfl ?_
  refine pk_cIV (As := []) (rest := [.ref l1, .ref tr]) S hK hST hW (c_Jx4a65c_init_da8c8 m_l1 e_l1) mc_Jx4a65c_init_da8c8 wd_1072 wd_1073 rfl rfl np_Jx4a65c_init_da8c8 rfl hl.1 rfl (Nat.le_of_ble_eq_true rfl) dX6_init_85 ⟨by decide, by decide⟩ ⟨by decide, by decide⟩ (fun L_72 F_69 H_70 l_71 hp hW => ?_)
  obtain ⟨rfl, ⟨_, e9⟩, hf9⟩ := hp
  have e_t0 : F_69 t0 = .inr (11, [.int 0, .ref tr, .ref sl, .ref od, .ref wk, .int 0, .int 0, .int (-1), .int 0]) := (hf9 t0 n_t0_l1).trans e_t0
  have e_tr : F_69 tr = .inr (4, [.int (0 + 1), .ref pa, .int (nI (0 + 1))]) := (hf9 tr n_tr_l1).trans e_tr
  have e_sl : F_69 sl = .inr (4, [.int 0, .ref (ζ 256), .int 0]) := (hf9 sl n_sl_l1).trans e_sl
  have e_od : F_69 od = .inr (4, [.int 0, .ref (ζ 256), .int 0]) := (hf9 od n_od_l1).trans e_od
  have e_wk : F_69 wk = rfA (κ 4) 2 (va_up (va_up (fun _ => none) (0 : Int32).toNatClampNeg (some w0)) (1 : Int32).toNatClampNeg (some w1)) := (hf9 wk n_wk_l1).trans e_wk
  have e_w0 : F_69 w0 = .inr (10, [.int 0, .int 0, .int (-1)]) := (hf9 w0 n_w0_l1).trans e_w0
  have e_w1 : F_69 w1 = .inr (10, [.int 0, .int 0, .int (-1)]) := (hf9 w1 n_w1_l1).trans e_w1
  have e_l0 : F_69 l0 = .inr (4, [.int 0, .ref (ζ 256), .int 0]) := (hf9 l0 n_l0_l1).trans e_l0
  have e_pa : F_69 pa = rfA (κ 3) 10 (va_up (fun _ => none) 0 (some l0)) := (hf9 pa n_pa_l1).trans e_pa
  have e_l1 := e9
  have hfr : ∀ x ∈ L, x ≠ t0 → F_69 x = F x := fun x hx hxt => (hf9 x (fun (ee : x = l1) => hnw_l1 (ee ▸ hx))).trans (hfr x hx hxt)
  refine pk_cVI (As := [.ref l1]) (rest := []) S hK hST hW (c_Jx4a65c_add_9ea2d_fitL (h := tr) (k := 1) ⟨m_tr, e_tr, m_pa, n_tr_pa, e_pa⟩ (by decide) (by decide) n_tr_l1.symm ⟨m_l1, e_l1⟩) mc_Jx4a65c_add_9ea2d wd_1108 wd_1109 wd_1110 rfl np_Jx4a65c_add_9ea2d m_tr e_tr rfl rfl hl.1 rfl (Nat.le_of_ble_eq_true rfl) dX6_init_88 ⟨by decide, by decide⟩ ⟨by decide, by decide⟩ (fun r L_73 F_74 H_75 l_76 hp hW => ?_)
  obtain ⟨rfl, ⟨_, e9, _, _, e9a⟩, hf9⟩ := hp
  have e_t0 : F_74 t0 = .inr (11, [.int 0, .ref tr, .ref sl, .ref od, .ref wk, .int 0, .int 0, .int (-1), .int 0]) := (hf9 t0 n_t0_tr n_t0_pa).trans e_t0
  have e_sl : F_74 sl = .inr (4, [.int 0, .ref (ζ 256), .int 0]) := (hf9 sl n_tr_sl.symm n_sl_pa).trans e_sl
  have e_od : F_74 od = .inr (4, [.int 0, .ref (ζ 256), .int 0]) := (hf9 od n_tr_od.symm n_od_pa).trans e_od
  have e_wk : F_74 wk = rfA (κ 4) 2 (va_up (va_up (fun _ => none) (0 : Int32).toNatClampNeg (some w0)) (1 : Int32).toNatClampNeg (some w1)) := (hf9 wk n_tr_wk.symm n_wk_pa).trans e_wk
  have e_w0 : F_74 w0 = .inr (10, [.int 0, .int 0, .int (-1)]) := (hf9 w0 n_tr_w0.symm n_w0_pa).trans e_w0
  have e_w1 : F_74 w1 = .inr (10, [.int 0, .int 0, .int (-1)]) := (hf9 w1 n_tr_w1.symm n_w1_pa).trans e_w1
  have e_l0 : F_74 l0 = .inr (4, [.int 0, .ref (ζ 256), .int 0]) := (hf9 l0 n_tr_l0.symm n_l0_pa).trans e_l0
  have e_l1 : F_74 l1 = .inr (4, [.int 0, .ref (ζ 256), .int 0]) := (hf9 l1 n_tr_l1.symm n_pa_l1.symm).trans e_l1
  have e_tr := e9
  have e_pa := e9a
  have hfr : ∀ x ∈ L, x ≠ t0 → F_74 x = F x := fun x hx hxt => (hf9 x (fun (ee : x = tr) => hnw_tr (ee ▸ hx)) (fun (ee : x = pa) => hnw_pa (ee ▸ hx))).trans (hfr x hx hxt)
  refine lv_pop S.1 S.2.1 dX6_init_91 rfl ?_
  refine lv_iinc (lv' := [(1, .int 2), (0, .ref t0)]) S.1 S.2.1 dX6_init_92 hl (k := 0) rfl rfl (Nat.le_of_ble_eq_true rfl) rfl (fun ls hl => ?_)
  refine lv_goto (tgt := 72) S.1 S.2.1 dX6_init_95 (by decide) ?_
  refine lv_iload_n S.1 S.2.1 dX6_init_72 rfl (lv_at hl 0 rfl) ?_
  refine lv_iconst (v := 2) S.1 S.2.1 dX6_init_73 (by decide) ?_
  refine lv_icmp_ge (tgt := 98) S.1 S.2.1 dX6_init_74 (by decide) (fun _ => ?_) (fun c1 => absurd (by decide) c1)
  have hM : apart [l1, pa, l0, w1, w0, wk, od, sl, tr, t0] := by
    simp only [apart, List.mem_cons, List.not_mem_nil, or_false, not_or, not_false_eq_true, and_true]
    exact ⟨⟨Ne.symm (n_pa_l1), Ne.symm (n_l0_l1), Ne.symm (n_w1_l1), Ne.symm (n_w0_l1), Ne.symm (n_wk_l1), Ne.symm (n_od_l1), Ne.symm (n_sl_l1), Ne.symm (n_tr_l1), Ne.symm (n_t0_l1)⟩, ⟨⟨Ne.symm (n_l0_pa), Ne.symm (n_w1_pa), Ne.symm (n_w0_pa), Ne.symm (n_wk_pa), Ne.symm (n_od_pa), Ne.symm (n_sl_pa), Ne.symm (n_tr_pa), Ne.symm (n_t0_pa)⟩, ⟨⟨Ne.symm (n_w1_l0), Ne.symm (n_w0_l0), Ne.symm (n_wk_l0), Ne.symm (n_od_l0), Ne.symm (n_sl_l0), Ne.symm (n_tr_l0), Ne.symm (n_t0_l0)⟩, ⟨⟨Ne.symm (n_w0_w1), Ne.symm (n_wk_w1), Ne.symm (n_od_w1), Ne.symm (n_sl_w1), Ne.symm (n_tr_w1), Ne.symm (n_t0_w1)⟩, ⟨⟨Ne.symm (n_wk_w0), Ne.symm (n_od_w0), Ne.symm (n_sl_w0), Ne.symm (n_tr_w0), Ne.symm (n_t0_w0)⟩, ⟨⟨Ne.symm (n_od_wk), Ne.symm (n_sl_wk), Ne.symm (n_tr_wk), Ne.symm (n_t0_wk)⟩, ⟨⟨Ne.symm (n_sl_od), Ne.symm (n_tr_od), Ne.symm (n_t0_od)⟩, ⟨⟨Ne.symm (n_tr_sl), Ne.symm (n_t0_sl)⟩, (Ne.symm n_t0_tr)⟩⟩⟩⟩⟩⟩⟩⟩
  have hz : ζ 256 ∉ L_68 := noE hW hST
  have hmm : ∀ i, i < 10 → ([t0, tr, pa, l0, l1, sl, od, wk, w0, w1] : List Nat).getD i 0 ∈ L_68 := by
    intro i hi
    match i, hi with | 0, _ => exact m_t0 | 1, _ => exact m_tr | 2, _ => exact m_pa | 3, _ => exact m_l0 | 4, _ => exact m_l1 | 5, _ => exact m_sl | 6, _ => exact m_od | 7, _ => exact m_wk | 8, _ => exact m_w0 | 9, _ => exact m_w1 | i + 10, hi => exact absurd hi (by omega)
  refine pk_vret S hr hlk hW ⟨hsub, fun i => ([t0, tr, pa, l0, l1, sl, od, wk, w0, w1] : List Nat).getD i 0, rfl, ?_, hfr, ?_⟩ (by decide) (by decide) dX6_init_98
  · refine ⟨hmm, ?_, e_t0, ⟨_, e_tr⟩, ⟨_, e_pa, rfl, rfl⟩, ⟨_, e_wk, rfl, rfl⟩, ?_, hz, fun _ => ζ 256, ?_, ?_, ?_⟩
    · intro i j hi hj he
      have hx : ∀ i : Nat, i < 10 → ([t0, tr, pa, l0, l1, sl, od, wk, w0, w1] : List Nat).getD i 0 = ([l1, pa, l0, w1, w0, wk, od, sl, tr, t0] : List Nat).getD ([9, 8, 1, 2, 0, 7, 6, 5, 4, 3].getD i 0) 0 := by
        intro i hi
        match i, hi with | 0, _ => rfl | 1, _ => rfl | 2, _ => rfl | 3, _ => rfl | 4, _ => rfl | 5, _ => rfl | 6, _ => rfl | 7, _ => rfl | 8, _ => rfl | 9, _ => rfl | i + 10, hi => exact absurd hi (by omega)
      have hb : ∀ i : Nat, i < 10 → [9, 8, 1, 2, 0, 7, 6, 5, 4, 3].getD i 0 < 10 := by decide
      have hij : ∀ i : Nat, i < 10 → ∀ j : Nat, j < 10 → [9, 8, 1, 2, 0, 7, 6, 5, 4, 3].getD i 0 = [9, 8, 1, 2, 0, 7, 6, 5, 4, 3].getD j 0 → i = j := by decide
      exact hij i hi j hj (apart_inj hM (hb i hi) (hb j hj) ((hx i hi).symm.trans (he.trans (hx j hj))))
    · intro j hj
      match j, hj with | 0, _ => exact e_w0 | 1, _ => exact e_w1 | j + 2, hj => exact absurd hj (by omega)
    · intro j hj
      match j, hj with | 0, _ => exact LI.new m_l0 e_l0 | 1, _ => exact LI.new m_l1 e_l1 | 2, _ => exact LI.new m_sl e_sl | 3, _ => exact LI.new m_od e_od | j + 4, hj => exact absurd hj (by omega)
    · intro i j _ _ _ ha; exact absurd ha hz
    · intro j hj; exact ⟨fun e => hz ((show ζ 256 = pa from e) ▸ m_pa), fun e => hz ((show ζ 256 = wk from e) ▸ m_wk)⟩
  · intro i hi hi0
    match i, hi with | 0, _ => exact absurd rfl hi0 | 1, _ => exact hnw_tr | 2, _ => exact hnw_pa | 3, _ => exact hnw_l0 | 4, _ => exact hnw_l1 | 5, _ => exact hnw_sl | 6, _ => exact hnw_od | 7, _ => exact hnw_wk | 8, _ => exact hnw_w0 | 9, _ => exact hnw_w1 | i + 10, hi => exact absurd hi (by omega)
