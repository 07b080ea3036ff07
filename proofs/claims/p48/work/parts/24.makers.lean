/-! the constructors of the class -/
theorem mc_X0_init : MCode yX0_init cX0_init 2 none := ⟨wd_44, wd_2, by decide, by decide⟩
theorem np_X0_init : (parseMethodDescriptor yX0_init.desc).map (fun d => d.parameters.length) = some 1 := by decide +kernel
set_option maxHeartbeats 4000000 in
set_option maxRecDepth 100000 in
theorem c_X0_init {l : Launch} {D : va_G} {κ : Nat → ClassId} {ζ : Nat → Nat} {L : List Nat} {F : Nat → va_E} {h N : Nat} (m_h : h ∈ L) (e_h : F h = .inr (5, [.null, .int 0])) (x1 : Int32) (hx0 : ¬ x1 ≤ 0) (hx1 : ¬ x1 < 0) (hx2 : x1.toNatClampNeg = N) (hN : N ≤ 20) : MtV l D cls (ty5 κ) ζ yX0_init cX0_init 2 none 2 1 20 ([.ref h, .int x1] : List Value) L F (fun L' F' => (∀ x ∈ L, x ∈ L') ∧ ∃ a, a ∈ L' ∧ a ∉ L ∧ h ∈ L' ∧ F' h = .inr (5, [.ref a, .int 0]) ∧ F' a = .inl (κ 0, N, .inl (fun _ => 0)) ∧ ∀ x ∈ L, x ≠ h → F' x = F x) := by
  refine MtV.of (by decide) (Nat.le_of_ble_eq_true rfl) ?_
  intro p e s m below meth c S hr hlk hini hK hW hST ls hl
  have hl : lv_has ls 2 [(0, .ref h), (1, .int x1)] := hl
  have hsub : ∀ x ∈ L, x ∈ L := fun x hx => hx
  have hfr : ∀ x ∈ L, x ≠ h → F x = F x := fun _ _ _ => rfl
  refine lv_aload_n S.1 S.2.1 dX0_init_0 rfl (lv_at hl 0 rfl) ?_
  refine pk_objInit S wd_45 wd_38 wd_39 hl.1 dX0_init_1 (by decide) (by decide) ?_
  refine lv_aload_n S.1 S.2.1 dX0_init_4 rfl (lv_at hl 0 rfl) ?_
  refine lv_iload_n S.1 S.2.1 dX0_init_5 rfl (lv_at hl 1 rfl) ?_
  refine lv_if_le (tgt := 13) S.1 S.2.1 dX0_init_6 (by decide) (fun cc1 => absurd cc1 hx0) (fun _ => ?_)
  refine lv_iload_n S.1 S.2.1 dX0_init_9 rfl (lv_at hl 1 rfl) ?_
  refine lv_goto (tgt := 14) S.1 S.2.1 dX0_init_10 (by decide) ?_
  refine pk_newI (N' := N) S hK hW 0 rfl wd_51 hx1 hx2 (by omega) (by decide) (by show 0 + N ≤ 20; omega) dX0_init_14 (fun a H_1 hq_a hW => ?_)
  have n_h_a : h ≠ a := fun ee => hq_a (ee ▸ m_h)
  have e_h : (va_up F a (.inl (κ 0, N, .inl (fun _ => 0)))) h = .inr (5, [.null, .int 0]) := (up_ne n_h_a).trans e_h
  have m_h := List.mem_append_left [a] m_h
  have e_a : (va_up F a (.inl (κ 0, N, .inl (fun _ => 0)))) a = .inl (κ 0, N, .inl (fun _ => 0)) := up_eq
  have m_a : a ∈ L ++ [a] := List.mem_append_right _ (List.mem_singleton.mpr rfl)
  have hnw_a : a ∉ L := fun ee => hq_a (hsub _ ee)
  have hfr : ∀ x ∈ L, x ≠ h → (va_up F a (.inl (κ 0, N, .inl (fun _ => 0)))) x = F x := fun x hx hxh => (up_ne (fun (ee : x = a) => hnw_a (ee ▸ hx))).trans (hfr x hx hxh)
  have hsub : ∀ x ∈ L, x ∈ L ++ [a] := fun x hx => List.mem_append_left _ (hsub x hx)
  generalize va_up F a (.inl (κ 0, N, .inl (fun _ => 0))) = F_2 at hW e_h e_a hfr
  generalize L ++ [a] = L_3 at hW m_h m_a hsub
  refine pk_putF (v := .ref a) S hK hW 0 m_h e_h rfl hinX0 tyX0_ok nmX0 (by decide) wd_46 rfl (hini rfl) rfl rfl rfl rfl (Nat.le_of_ble_eq_true rfl) dX0_init_16 (fun H_4 l_5 hW => ?_)
  have e_h : (va_up F_2 h (.inr (5, ([.null, .int 0] : List Value).set 0 (.ref a)))) h = .inr (5, [.ref a, .int 0]) := up_eq
  have e_a : (va_up F_2 h (.inr (5, ([.null, .int 0] : List Value).set 0 (.ref a)))) a = .inl (κ 0, N, .inl (fun _ => 0)) := (up_ne n_h_a.symm).trans e_a
  have hfr : ∀ x ∈ L, x ≠ h → (va_up F_2 h (.inr (5, ([.null, .int 0] : List Value).set 0 (.ref a)))) x = F x := fun x hx hxh => (up_ne hxh).trans (hfr x hx hxh)
  generalize va_up F_2 h (.inr (5, ([.null, .int 0] : List Value).set 0 (.ref a))) = F_6 at hW e_h e_a hfr
  refine lv_aload_n S.1 S.2.1 dX0_init_19 rfl (lv_at hl 0 rfl) ?_
  refine lv_iconst (v := 0) S.1 S.2.1 dX0_init_20 (by decide) ?_
  refine pk_put (v := .int 0) S hK hW 1 m_h e_h rfl hinX0 tyX0_ok nmX0 (by decide) wd_47 rfl rfl rfl rfl (Nat.le_of_ble_eq_true rfl) dX0_init_21 (fun H_7 l_8 hW => ?_)
  have e_h : (va_up F_6 h (.inr (5, ([.ref a, .int 0] : List Value).set 1 (.int 0)))) h = .inr (5, [.ref a, .int 0]) := up_eq
  have e_a : (va_up F_6 h (.inr (5, ([.ref a, .int 0] : List Value).set 1 (.int 0)))) a = .inl (κ 0, N, .inl (fun _ => 0)) := (up_ne n_h_a.symm).trans e_a
  have hfr : ∀ x ∈ L, x ≠ h → (va_up F_6 h (.inr (5, ([.ref a, .int 0] : List Value).set 1 (.int 0)))) x = F x := fun x hx hxh => (up_ne hxh).trans (hfr x hx hxh)
  generalize va_up F_6 h (.inr (5, ([.ref a, .int 0] : List Value).set 1 (.int 0))) = F_9 at hW e_h e_a hfr
  exact pk_vret S hr hlk hW ⟨hsub, a, m_a, hnw_a, m_h, e_h, e_a, fun x hx hxh => hfr x hx hxh⟩ (by decide) (by show 0 + N ≤ 20; omega) dX0_init_24
theorem mc_X1_init : MCode yX1_init cX1_init 1 none := ⟨wd_56, wd_3, by decide, by decide⟩
theorem np_X1_init : (parseMethodDescriptor yX1_init.desc).map (fun d => d.parameters.length) = some 0 := by decide +kernel
set_option maxHeartbeats 4000000 in
set_option maxRecDepth 100000 in
theorem c_X1_init {l : Launch} {D : va_G} {κ : Nat → ClassId} {ζ : Nat → Nat} {L : List Nat} {F : Nat → va_E} {h : Nat} (m_h : h ∈ L) (e_h : F h = .inr (6, [.int 0, .int 0, .int 0, .int 0])) : MtV l D cls (ty5 κ) ζ yX1_init cX1_init 1 none 2 0 0 ([.ref h] : List Value) L F (fun L' F' => (∀ x ∈ L, x ∈ L') ∧ h ∈ L' ∧ F' h = .inr (6, [.int 0, .int 0, .int 0, .int (-1)]) ∧ ∀ x ∈ L, x ≠ h → F' x = F x) := by
  refine MtV.of (by decide) (Nat.le_of_ble_eq_true rfl) ?_
  intro p e s m below meth c S hr hlk hini hK hW hST ls hl
  have hl : lv_has ls 1 [(0, .ref h)] := hl
  have hsub : ∀ x ∈ L, x ∈ L := fun x hx => hx
  have hfr : ∀ x ∈ L, x ≠ h → F x = F x := fun _ _ _ => rfl
  refine lv_aload_n S.1 S.2.1 dX1_init_0 rfl (lv_at hl 0 rfl) ?_
  refine pk_objInit S wd_57 wd_38 wd_39 hl.1 dX1_init_1 (by decide) (by decide) ?_
  refine lv_aload_n S.1 S.2.1 dX1_init_4 rfl (lv_at hl 0 rfl) ?_
  refine lv_iconst (v := 0) S.1 S.2.1 dX1_init_5 (by decide) ?_
  refine pk_put (v := .int 0) S hK hW 0 m_h e_h rfl hinX1 tyX1_ok nmX1 (by decide) wd_58 rfl rfl rfl rfl (Nat.le_of_ble_eq_true rfl) dX1_init_6 (fun H_1 l_2 hW => ?_)
  have e_h : (va_up F h (.inr (6, ([.int 0, .int 0, .int 0, .int 0] : List Value).set 0 (.int 0)))) h = .inr (6, [.int 0, .int 0, .int 0, .int 0]) := up_eq
  have hfr : ∀ x ∈ L, x ≠ h → (va_up F h (.inr (6, ([.int 0, .int 0, .int 0, .int 0] : List Value).set 0 (.int 0)))) x = F x := fun x hx hxh => (up_ne hxh).trans (hfr x hx hxh)
  generalize va_up F h (.inr (6, ([.int 0, .int 0, .int 0, .int 0] : List Value).set 0 (.int 0))) = F_3 at hW e_h hfr
  refine lv_aload_n S.1 S.2.1 dX1_init_9 rfl (lv_at hl 0 rfl) ?_
  refine lv_iconst (v := 0) S.1 S.2.1 dX1_init_10 (by decide) ?_
  refine pk_put (v := .int 0) S hK hW 1 m_h e_h rfl hinX1 tyX1_ok nmX1 (by decide) wd_59 rfl rfl rfl rfl (Nat.le_of_ble_eq_true rfl) dX1_init_11 (fun H_4 l_5 hW => ?_)
  have e_h : (va_up F_3 h (.inr (6, ([.int 0, .int 0, .int 0, .int 0] : List Value).set 1 (.int 0)))) h = .inr (6, [.int 0, .int 0, .int 0, .int 0]) := up_eq
  have hfr : ∀ x ∈ L, x ≠ h → (va_up F_3 h (.inr (6, ([.int 0, .int 0, .int 0, .int 0] : List Value).set 1 (.int 0)))) x = F x := fun x hx hxh => (up_ne hxh).trans (hfr x hx hxh)
  generalize va_up F_3 h (.inr (6, ([.int 0, .int 0, .int 0, .int 0] : List Value).set 1 (.int 0))) = F_6 at hW e_h hfr
  refine lv_aload_n S.1 S.2.1 dX1_init_14 rfl (lv_at hl 0 rfl) ?_
  refine lv_iconst (v := 0) S.1 S.2.1 dX1_init_15 (by decide) ?_
  refine pk_put (v := .int 0) S hK hW 2 m_h e_h rfl hinX1 tyX1_ok nmX1 (by decide) wd_60 rfl rfl rfl rfl (Nat.le_of_ble_eq_true rfl) dX1_init_16 (fun H_7 l_8 hW => ?_)
  have e_h : (va_up F_6 h (.inr (6, ([.int 0, .int 0, .int 0, .int 0] : List Value).set 2 (.int 0)))) h = .inr (6, [.int 0, .int 0, .int 0, .int 0]) := up_eq
  have hfr : ∀ x ∈ L, x ≠ h → (va_up F_6 h (.inr (6, ([.int 0, .int 0, .int 0, .int 0] : List Value).set 2 (.int 0)))) x = F x := fun x hx hxh => (up_ne hxh).trans (hfr x hx hxh)
  generalize va_up F_6 h (.inr (6, ([.int 0, .int 0, .int 0, .int 0] : List Value).set 2 (.int 0))) = F_9 at hW e_h hfr
  refine lv_aload_n S.1 S.2.1 dX1_init_19 rfl (lv_at hl 0 rfl) ?_
  refine lv_iconst (v := (-1)) S.1 S.2.1 dX1_init_20 (by decide) ?_
  refine pk_put (v := .int (-1)) S hK hW 3 m_h e_h rfl hinX1 tyX1_ok nmX1 (by decide) wd_61 rfl rfl rfl rfl (Nat.le_of_ble_eq_true rfl) dX1_init_21 (fun H_10 l_11 hW => ?_)
  have e_h : (va_up F_9 h (.inr (6, ([.int 0, .int 0, .int 0, .int 0] : List Value).set 3 (.int (-1))))) h = .inr (6, [.int 0, .int 0, .int 0, .int (-1)]) := up_eq
  have hfr : ∀ x ∈ L, x ≠ h → (va_up F_9 h (.inr (6, ([.int 0, .int 0, .int 0, .int 0] : List Value).set 3 (.int (-1))))) x = F x := fun x hx hxh => (up_ne hxh).trans (hfr x hx hxh)
  generalize va_up F_9 h (.inr (6, ([.int 0, .int 0, .int 0, .int 0] : List Value).set 3 (.int (-1)))) = F_12 at hW e_h hfr
  exact pk_vret S hr hlk hW ⟨hsub, m_h, e_h, fun x hx hxh => hfr x hx hxh⟩ (by decide) (by decide) dX1_init_24
theorem mc_X2_init : MCode yX2_init cX2_init 1 none := ⟨wd_71, wd_4, by decide, by decide⟩
theorem np_X2_init : (parseMethodDescriptor yX2_init.desc).map (fun d => d.parameters.length) = some 0 := by decide +kernel
set_option maxHeartbeats 4000000 in
set_option maxRecDepth 100000 in
theorem c_X2_init {l : Launch} {D : va_G} {κ : Nat → ClassId} {ζ : Nat → Nat} {L : List Nat} {F : Nat → va_E} {h : Nat} (m_h : h ∈ L) (e_h : F h = .inr (7, [.int 0, .int 0, .int 0])) : MtV l D cls (ty5 κ) ζ yX2_init cX2_init 1 none 2 0 0 ([.ref h] : List Value) L F (fun L' F' => (∀ x ∈ L, x ∈ L') ∧ h ∈ L' ∧ F' h = .inr (7, [.int 0, .int 0, .int (-1)]) ∧ ∀ x ∈ L, x ≠ h → F' x = F x) := by
  refine MtV.of (by decide) (Nat.le_of_ble_eq_true rfl) ?_
  intro p e s m below meth c S hr hlk hini hK hW hST ls hl
  have hl : lv_has ls 1 [(0, .ref h)] := hl
  have hsub : ∀ x ∈ L, x ∈ L := fun x hx => hx
  have hfr : ∀ x ∈ L, x ≠ h → F x = F x := fun _ _ _ => rfl
  refine lv_aload_n S.1 S.2.1 dX2_init_0 rfl (lv_at hl 0 rfl) ?_
  refine pk_objInit S wd_72 wd_38 wd_39 hl.1 dX2_init_1 (by decide) (by decide) ?_
  refine lv_aload_n S.1 S.2.1 dX2_init_4 rfl (lv_at hl 0 rfl) ?_
  refine lv_iconst (v := 0) S.1 S.2.1 dX2_init_5 (by decide) ?_
  refine pk_put (v := .int 0) S hK hW 0 m_h e_h rfl hinX2 tyX2_ok nmX2 (by decide) wd_73 rfl rfl rfl rfl (Nat.le_of_ble_eq_true rfl) dX2_init_6 (fun H_1 l_2 hW => ?_)
  have e_h : (va_up F h (.inr (7, ([.int 0, .int 0, .int 0] : List Value).set 0 (.int 0)))) h = .inr (7, [.int 0, .int 0, .int 0]) := up_eq
  have hfr : ∀ x ∈ L, x ≠ h → (va_up F h (.inr (7, ([.int 0, .int 0, .int 0] : List Value).set 0 (.int 0)))) x = F x := fun x hx hxh => (up_ne hxh).trans (hfr x hx hxh)
  generalize va_up F h (.inr (7, ([.int 0, .int 0, .int 0] : List Value).set 0 (.int 0))) = F_3 at hW e_h hfr
  refine lv_aload_n S.1 S.2.1 dX2_init_9 rfl (lv_at hl 0 rfl) ?_
  refine lv_iconst (v := 0) S.1 S.2.1 dX2_init_10 (by decide) ?_
  refine pk_put (v := .int 0) S hK hW 1 m_h e_h rfl hinX2 tyX2_ok nmX2 (by decide) wd_74 rfl rfl rfl rfl (Nat.le_of_ble_eq_true rfl) dX2_init_11 (fun H_4 l_5 hW => ?_)
  have e_h : (va_up F_3 h (.inr (7, ([.int 0, .int 0, .int 0] : List Value).set 1 (.int 0)))) h = .inr (7, [.int 0, .int 0, .int 0]) := up_eq
  have hfr : ∀ x ∈ L, x ≠ h → (va_up F_3 h (.inr (7, ([.int 0, .int 0, .int 0] : List Value).set 1 (.int 0)))) x = F x := fun x hx hxh => (up_ne hxh).trans (hfr x hx hxh)
  generalize va_up F_3 h (.inr (7, ([.int 0, .int 0, .int 0] : List Value).set 1 (.int 0))) = F_6 at hW e_h hfr
  refine lv_aload_n S.1 S.2.1 dX2_init_14 rfl (lv_at hl 0 rfl) ?_
  refine lv_iconst (v := (-1)) S.1 S.2.1 dX2_init_15 (by decide) ?_
  refine pk_put (v := .int (-1)) S hK hW 2 m_h e_h rfl hinX2 tyX2_ok nmX2 (by decide) wd_75 rfl rfl rfl rfl (Nat.le_of_ble_eq_true rfl) dX2_init_16 (fun H_7 l_8 hW => ?_)
  have e_h : (va_up F_6 h (.inr (7, ([.int 0, .int 0, .int 0] : List Value).set 2 (.int (-1))))) h = .inr (7, [.int 0, .int 0, .int (-1)]) := up_eq
  have hfr : ∀ x ∈ L, x ≠ h → (va_up F_6 h (.inr (7, ([.int 0, .int 0, .int 0] : List Value).set 2 (.int (-1))))) x = F x := fun x hx hxh => (up_ne hxh).trans (hfr x hx hxh)
  generalize va_up F_6 h (.inr (7, ([.int 0, .int 0, .int 0] : List Value).set 2 (.int (-1)))) = F_9 at hW e_h hfr
  exact pk_vret S hr hlk hW ⟨hsub, m_h, e_h, fun x hx hxh => hfr x hx hxh⟩ (by decide) (by decide) dX2_init_19
def apart : List Nat → Prop
  | [] => True
  | a :: l => a ∉ l ∧ apart l
theorem apart_inj : ∀ {l : List Nat}, apart l → ∀ {i j : Nat}, i < l.length → j < l.length → l.getD i 0 = l.getD j 0 → i = j
  | [], _, i, _, hi, _, _ => absurd hi (Nat.not_lt_zero i)
  | a :: l, h, 0, 0, _, _, _ => rfl
  | a :: l, h, 0, j + 1, _, hj, e => by
    exfalso
    have hj' : j < l.length := Nat.lt_of_succ_lt_succ hj
    have e' : a = l.getD j 0 := e
    apply h.1
    rw [e', List.getD_eq_getElem?_getD, List.getElem?_eq_getElem hj']
    exact List.getElem_mem hj'
  | a :: l, h, i + 1, 0, hi, _, e => by
    exfalso
    have hi' : i < l.length := Nat.lt_of_succ_lt_succ hi
    have e' : l.getD i 0 = a := e
    apply h.1
    rw [← e', List.getD_eq_getElem?_getD, List.getElem?_eq_getElem hi']
    exact List.getElem_mem hi'
  | a :: l, h, i + 1, j + 1, hi, hj, e => congrArg (· + 1) (apart_inj h.2 (Nat.lt_of_succ_lt_succ hi) (Nat.lt_of_succ_lt_succ hj) e)
def σ0 : CS := (fun _ => (fun _ => 0, 0), fun q => if q = 4 ∨ q = 7 ∨ q = 10 then -1 else 0)
def ixA (i : Nat) : Nat := [17, 16, 15, 14, 13, 12, 11, 10, 9, 5, 4, 3, 2, 1, 0, 8, 7, 6].getD i 0
theorem mc_X3_init : MCode yX3_init cX3_init 1 none := ⟨wd_36, wd_1, by decide, by decide⟩
theorem np_X3_init : (parseMethodDescriptor yX3_init.desc).map (fun d => d.parameters.length) = some 0 := by decide +kernel
set_option maxHeartbeats 4000000 in
set_option maxRecDepth 100000 in
theorem c_X3_init {l : Launch} {D : va_G} {κ : Nat → ClassId} {ζ : Nat → Nat} {L : List Nat} {F : Nat → va_E} {t0 : Nat} (m_t0 : t0 ∈ L) (e_t0 : F t0 = .inr (8, [.null, .null, .null, .null, .null, .null, .null, .int 0, .null, .null, .null])) : MtV l D cls (ty5 κ) ζ yX3_init cX3_init 1 none 3 17 164 ([.ref t0] : List Value) L F (fun L' F' => (∀ x ∈ L, x ∈ L') ∧ ∃ A : Nat → Nat, A 0 = t0 ∧ CI κ A σ0 L' F' ∧ (∀ x ∈ L, x ≠ t0 → F' x = F x) ∧ ∀ i, i < 18 → i ≠ 0 → A i ∉ L) := by
  refine MtV.of (by decide) (Nat.le_of_ble_eq_true rfl) ?_
  intro p e s m below meth c S hr hlk hini hK hW hST ls hl
  have hl : lv_has ls 1 [(0, .ref t0)] := hl
  have hsub : ∀ x ∈ L, x ∈ L := fun x hx => hx
  have hfr : ∀ x ∈ L, x ≠ t0 → F x = F x := fun _ _ _ => rfl
  refine lv_aload_n S.1 S.2.1 dX3_init_0 rfl (lv_at hl 0 rfl) ?_
  refine pk_objInit S wd_37 wd_38 wd_39 hl.1 dX3_init_1 (by decide) (by decide) ?_
  refine lv_aload_n S.1 S.2.1 dX3_init_4 rfl (lv_at hl 0 rfl) ?_
  refine pk_new (fs := [.null, .int 0]) (ci := 5) S hK hW hinX0 tyX0_ok wd_40 wd_41 wd_2 rfl (fun j hj => by match j, hj with | 0, _ => rfl | 1, _ => rfl | j + 2, hj => exact absurd hj (by omega)) (by decide) (by decide) dX3_init_5 (fun r0 H_1 hq_r0 hW => ?_)
  have n_t0_r0 : t0 ≠ r0 := fun ee => hq_r0 (ee ▸ m_t0)
  have e_t0 : (va_up F r0 (.inr (5, [.null, .int 0]))) t0 = .inr (8, [.null, .null, .null, .null, .null, .null, .null, .int 0, .null, .null, .null]) := (up_ne n_t0_r0).trans e_t0
  have m_t0 := List.mem_append_left [r0] m_t0
  have e_r0 : (va_up F r0 (.inr (5, [.null, .int 0]))) r0 = .inr (5, [.null, .int 0]) := up_eq
  have m_r0 : r0 ∈ L ++ [r0] := List.mem_append_right _ (List.mem_singleton.mpr rfl)
  have hnw_r0 : r0 ∉ L := fun ee => hq_r0 (hsub _ ee)
  have hfr : ∀ x ∈ L, x ≠ t0 → (va_up F r0 (.inr (5, [.null, .int 0]))) x = F x := fun x hx hxt => (up_ne (fun (ee : x = r0) => hnw_r0 (ee ▸ hx))).trans (hfr x hx hxt)
  have hsub : ∀ x ∈ L, x ∈ L ++ [r0] := fun x hx => List.mem_append_left _ (hsub x hx)
  generalize va_up F r0 (.inr (5, [.null, .int 0])) = F_2 at hW e_t0 e_r0 hfr
  generalize L ++ [r0] = L_3 at hW m_t0 m_r0 hsub
  refine lv_dup S.1 S.2.1 dX3_init_8 rfl ?_
  refine lv_bipush (v := 20) S.1 S.2.1 dX3_init_9 (by decide) ?_
  refine pk_cIV (As := [.int 20]) (rest := [.ref r0, .ref t0]) S hK hST hW (c_X0_init m_r0 e_r0 20 (by decide) (by decide) (N := 20) (by decide) (by decide)) mc_X0_init wd_42 wd_43 rfl rfl np_X0_init rfl hl.1 rfl (Nat.le_of_ble_eq_true rfl) dX3_init_11 ⟨by decide, by decide⟩ ⟨by decide, by decide⟩ (fun L_4 F_5 H_6 l_7 hp hW => ?_)
  obtain ⟨hsub1, ar0, m_ar0, hq_ar0, m9, e9, e_ar0, hfr1⟩ := hp
  have n_t0_ar0 : t0 ≠ ar0 := fun ee => hq_ar0 (ee ▸ m_t0)
  have n_r0_ar0 : r0 ≠ ar0 := fun ee => hq_ar0 (ee ▸ m_r0)
  have e_t0 : F_5 t0 = .inr (8, [.null, .null, .null, .null, .null, .null, .null, .int 0, .null, .null, .null]) := (hfr1 t0 m_t0 n_t0_r0).trans e_t0
  have e_r0 := e9
  have hfr : ∀ x ∈ L, x ≠ t0 → F_5 x = F x := fun x hx hxt => (hfr1 x (hsub x hx) (fun (ee : x = r0) => hnw_r0 (ee ▸ hx))).trans (hfr x hx hxt)
  have hnw_ar0 : ar0 ∉ L := fun ee => hq_ar0 (hsub _ ee)
  have m_t0 := hsub1 _ m_t0
  have m_r0 := hsub1 _ m_r0
  have hsub : ∀ x ∈ L, x ∈ L_4 := fun x hx => hsub1 x (hsub x hx)
  refine pk_putF (v := .ref r0) S hK hW 0 m_t0 e_t0 rfl hinX3 tyX3_ok nmX3 (by decide) wd_80 rfl (hini rfl) rfl rfl rfl rfl (Nat.le_of_ble_eq_true rfl) dX3_init_14 (fun H_8 l_9 hW => ?_)
  have e_t0 : (va_up F_5 t0 (.inr (8, ([.null, .null, .null, .null, .null, .null, .null, .int 0, .null, .null, .null] : List Value).set 0 (.ref r0)))) t0 = .inr (8, [.ref r0, .null, .null, .null, .null, .null, .null, .int 0, .null, .null, .null]) := up_eq
  have e_r0 : (va_up F_5 t0 (.inr (8, ([.null, .null, .null, .null, .null, .null, .null, .int 0, .null, .null, .null] : List Value).set 0 (.ref r0)))) r0 = .inr (5, [.ref ar0, .int 0]) := (up_ne n_t0_r0.symm).trans e_r0
  have e_ar0 : (va_up F_5 t0 (.inr (8, ([.null, .null, .null, .null, .null, .null, .null, .int 0, .null, .null, .null] : List Value).set 0 (.ref r0)))) ar0 = .inl (κ 0, 20, .inl (fun _ => 0)) := (up_ne n_t0_ar0.symm).trans e_ar0
  have hfr : ∀ x ∈ L, x ≠ t0 → (va_up F_5 t0 (.inr (8, ([.null, .null, .null, .null, .null, .null, .null, .int 0, .null, .null, .null] : List Value).set 0 (.ref r0)))) x = F x := fun x hx hxt => (up_ne hxt).trans (hfr x hx hxt)
  generalize va_up F_5 t0 (.inr (8, ([.null, .null, .null, .null, .null, .null, .null, .int 0, .null, .null, .null] : List Value).set 0 (.ref r0))) = F_10 at hW e_t0 e_r0 e_ar0 hfr
  refine lv_aload_n S.1 S.2.1 dX3_init_17 rfl (lv_at hl 0 rfl) ?_
  refine pk_new (fs := [.null, .int 0]) (ci := 5) S hK hW hinX0 tyX0_ok wd_40 wd_41 wd_2 rfl (fun j hj => by match j, hj with | 0, _ => rfl | 1, _ => rfl | j + 2, hj => exact absurd hj (by omega)) (by decide) (by decide) dX3_init_18 (fun r1 H_11 hq_r1 hW => ?_)
  have n_t0_r1 : t0 ≠ r1 := fun ee => hq_r1 (ee ▸ m_t0)
  have n_r0_r1 : r0 ≠ r1 := fun ee => hq_r1 (ee ▸ m_r0)
  have n_ar0_r1 : ar0 ≠ r1 := fun ee => hq_r1 (ee ▸ m_ar0)
  have e_t0 : (va_up F_10 r1 (.inr (5, [.null, .int 0]))) t0 = .inr (8, [.ref r0, .null, .null, .null, .null, .null, .null, .int 0, .null, .null, .null]) := (up_ne n_t0_r1).trans e_t0
  have m_t0 := List.mem_append_left [r1] m_t0
  have e_r0 : (va_up F_10 r1 (.inr (5, [.null, .int 0]))) r0 = .inr (5, [.ref ar0, .int 0]) := (up_ne n_r0_r1).trans e_r0
  have m_r0 := List.mem_append_left [r1] m_r0
  have e_ar0 : (va_up F_10 r1 (.inr (5, [.null, .int 0]))) ar0 = .inl (κ 0, 20, .inl (fun _ => 0)) := (up_ne n_ar0_r1).trans e_ar0
  have m_ar0 := List.mem_append_left [r1] m_ar0
  have e_r1 : (va_up F_10 r1 (.inr (5, [.null, .int 0]))) r1 = .inr (5, [.null, .int 0]) := up_eq
  have m_r1 : r1 ∈ L_4 ++ [r1] := List.mem_append_right _ (List.mem_singleton.mpr rfl)
  have hnw_r1 : r1 ∉ L := fun ee => hq_r1 (hsub _ ee)
  have hfr : ∀ x ∈ L, x ≠ t0 → (va_up F_10 r1 (.inr (5, [.null, .int 0]))) x = F x := fun x hx hxt => (up_ne (fun (ee : x = r1) => hnw_r1 (ee ▸ hx))).trans (hfr x hx hxt)
  have hsub : ∀ x ∈ L, x ∈ L_4 ++ [r1] := fun x hx => List.mem_append_left _ (hsub x hx)
  generalize va_up F_10 r1 (.inr (5, [.null, .int 0])) = F_12 at hW e_t0 e_r0 e_ar0 e_r1 hfr
  generalize L_4 ++ [r1] = L_13 at hW m_t0 m_r0 m_ar0 m_r1 hsub
  refine lv_dup S.1 S.2.1 dX3_init_21 rfl ?_
  refine lv_bipush (v := 20) S.1 S.2.1 dX3_init_22 (by decide) ?_
  refine pk_cIV (As := [.int 20]) (rest := [.ref r1, .ref t0]) S hK hST hW (c_X0_init m_r1 e_r1 20 (by decide) (by decide) (N := 20) (by decide) (by decide)) mc_X0_init wd_42 wd_43 rfl rfl np_X0_init rfl hl.1 rfl (Nat.le_of_ble_eq_true rfl) dX3_init_24 ⟨by decide, by decide⟩ ⟨by decide, by decide⟩ (fun L_14 F_15 H_16 l_17 hp hW => ?_)
  obtain ⟨hsub1, ar1, m_ar1, hq_ar1, m9, e9, e_ar1, hfr1⟩ := hp
  have n_t0_ar1 : t0 ≠ ar1 := fun ee => hq_ar1 (ee ▸ m_t0)
  have n_r0_ar1 : r0 ≠ ar1 := fun ee => hq_ar1 (ee ▸ m_r0)
  have n_ar0_ar1 : ar0 ≠ ar1 := fun ee => hq_ar1 (ee ▸ m_ar0)
  have n_r1_ar1 : r1 ≠ ar1 := fun ee => hq_ar1 (ee ▸ m_r1)
  have e_t0 : F_15 t0 = .inr (8, [.ref r0, .null, .null, .null, .null, .null, .null, .int 0, .null, .null, .null]) := (hfr1 t0 m_t0 n_t0_r1).trans e_t0
  have e_r0 : F_15 r0 = .inr (5, [.ref ar0, .int 0]) := (hfr1 r0 m_r0 n_r0_r1).trans e_r0
  have e_ar0 : F_15 ar0 = .inl (κ 0, 20, .inl (fun _ => 0)) := (hfr1 ar0 m_ar0 n_ar0_r1).trans e_ar0
  have e_r1 := e9
  have hfr : ∀ x ∈ L, x ≠ t0 → F_15 x = F x := fun x hx hxt => (hfr1 x (hsub x hx) (fun (ee : x = r1) => hnw_r1 (ee ▸ hx))).trans (hfr x hx hxt)
  have hnw_ar1 : ar1 ∉ L := fun ee => hq_ar1 (hsub _ ee)
  have m_t0 := hsub1 _ m_t0
  have m_r0 := hsub1 _ m_r0
  have m_ar0 := hsub1 _ m_ar0
  have m_r1 := hsub1 _ m_r1
  have hsub : ∀ x ∈ L, x ∈ L_14 := fun x hx => hsub1 x (hsub x hx)
  refine pk_putF (v := .ref r1) S hK hW 1 m_t0 e_t0 rfl hinX3 tyX3_ok nmX3 (by decide) wd_81 rfl (hini rfl) rfl rfl rfl rfl (Nat.le_of_ble_eq_true rfl) dX3_init_27 (fun H_18 l_19 hW => ?_)
  have e_t0 : (va_up F_15 t0 (.inr (8, ([.ref r0, .null, .null, .null, .null, .null, .null, .int 0, .null, .null, .null] : List Value).set 1 (.ref r1)))) t0 = .inr (8, [.ref r0, .ref r1, .null, .null, .null, .null, .null, .int 0, .null, .null, .null]) := up_eq
  have e_r0 : (va_up F_15 t0 (.inr (8, ([.ref r0, .null, .null, .null, .null, .null, .null, .int 0, .null, .null, .null] : List Value).set 1 (.ref r1)))) r0 = .inr (5, [.ref ar0, .int 0]) := (up_ne n_t0_r0.symm).trans e_r0
  have e_ar0 : (va_up F_15 t0 (.inr (8, ([.ref r0, .null, .null, .null, .null, .null, .null, .int 0, .null, .null, .null] : List Value).set 1 (.ref r1)))) ar0 = .inl (κ 0, 20, .inl (fun _ => 0)) := (up_ne n_t0_ar0.symm).trans e_ar0
  have e_r1 : (va_up F_15 t0 (.inr (8, ([.ref r0, .null, .null, .null, .null, .null, .null, .int 0, .null, .null, .null] : List Value).set 1 (.ref r1)))) r1 = .inr (5, [.ref ar1, .int 0]) := (up_ne n_t0_r1.symm).trans e_r1
  have e_ar1 : (va_up F_15 t0 (.inr (8, ([.ref r0, .null, .null, .null, .null, .null, .null, .int 0, .null, .null, .null] : List Value).set 1 (.ref r1)))) ar1 = .inl (κ 0, 20, .inl (fun _ => 0)) := (up_ne n_t0_ar1.symm).trans e_ar1
  have hfr : ∀ x ∈ L, x ≠ t0 → (va_up F_15 t0 (.inr (8, ([.ref r0, .null, .null, .null, .null, .null, .null, .int 0, .null, .null, .null] : List Value).set 1 (.ref r1)))) x = F x := fun x hx hxt => (up_ne hxt).trans (hfr x hx hxt)
  generalize va_up F_15 t0 (.inr (8, ([.ref r0, .null, .null, .null, .null, .null, .null, .int 0, .null, .null, .null] : List Value).set 1 (.ref r1))) = F_20 at hW e_t0 e_r0 e_ar0 e_r1 e_ar1 hfr
  refine lv_aload_n S.1 S.2.1 dX3_init_30 rfl (lv_at hl 0 rfl) ?_
  refine pk_new (fs := [.null, .int 0]) (ci := 5) S hK hW hinX0 tyX0_ok wd_40 wd_41 wd_2 rfl (fun j hj => by match j, hj with | 0, _ => rfl | 1, _ => rfl | j + 2, hj => exact absurd hj (by omega)) (by decide) (by decide) dX3_init_31 (fun r2 H_21 hq_r2 hW => ?_)
  have n_t0_r2 : t0 ≠ r2 := fun ee => hq_r2 (ee ▸ m_t0)
  have n_r0_r2 : r0 ≠ r2 := fun ee => hq_r2 (ee ▸ m_r0)
  have n_ar0_r2 : ar0 ≠ r2 := fun ee => hq_r2 (ee ▸ m_ar0)
  have n_r1_r2 : r1 ≠ r2 := fun ee => hq_r2 (ee ▸ m_r1)
  have n_ar1_r2 : ar1 ≠ r2 := fun ee => hq_r2 (ee ▸ m_ar1)
  have e_t0 : (va_up F_20 r2 (.inr (5, [.null, .int 0]))) t0 = .inr (8, [.ref r0, .ref r1, .null, .null, .null, .null, .null, .int 0, .null, .null, .null]) := (up_ne n_t0_r2).trans e_t0
  have m_t0 := List.mem_append_left [r2] m_t0
  have e_r0 : (va_up F_20 r2 (.inr (5, [.null, .int 0]))) r0 = .inr (5, [.ref ar0, .int 0]) := (up_ne n_r0_r2).trans e_r0
  have m_r0 := List.mem_append_left [r2] m_r0
  have e_ar0 : (va_up F_20 r2 (.inr (5, [.null, .int 0]))) ar0 = .inl (κ 0, 20, .inl (fun _ => 0)) := (up_ne n_ar0_r2).trans e_ar0
  have m_ar0 := List.mem_append_left [r2] m_ar0
  have e_r1 : (va_up F_20 r2 (.inr (5, [.null, .int 0]))) r1 = .inr (5, [.ref ar1, .int 0]) := (up_ne n_r1_r2).trans e_r1
  have m_r1 := List.mem_append_left [r2] m_r1
  have e_ar1 : (va_up F_20 r2 (.inr (5, [.null, .int 0]))) ar1 = .inl (κ 0, 20, .inl (fun _ => 0)) := (up_ne n_ar1_r2).trans e_ar1
  have m_ar1 := List.mem_append_left [r2] m_ar1
  have e_r2 : (va_up F_20 r2 (.inr (5, [.null, .int 0]))) r2 = .inr (5, [.null, .int 0]) := up_eq
  have m_r2 : r2 ∈ L_14 ++ [r2] := List.mem_append_right _ (List.mem_singleton.mpr rfl)
  have hnw_r2 : r2 ∉ L := fun ee => hq_r2 (hsub _ ee)
  have hfr : ∀ x ∈ L, x ≠ t0 → (va_up F_20 r2 (.inr (5, [.null, .int 0]))) x = F x := fun x hx hxt => (up_ne (fun (ee : x = r2) => hnw_r2 (ee ▸ hx))).trans (hfr x hx hxt)
  have hsub : ∀ x ∈ L, x ∈ L_14 ++ [r2] := fun x hx => List.mem_append_left _ (hsub x hx)
  generalize va_up F_20 r2 (.inr (5, [.null, .int 0])) = F_22 at hW e_t0 e_r0 e_ar0 e_r1 e_ar1 e_r2 hfr
  generalize L_14 ++ [r2] = L_23 at hW m_t0 m_r0 m_ar0 m_r1 m_ar1 m_r2 hsub
  refine lv_dup S.1 S.2.1 dX3_init_34 rfl ?_
  refine lv_bipush (v := 12) S.1 S.2.1 dX3_init_35 (by decide) ?_
  refine pk_cIV (As := [.int 12]) (rest := [.ref r2, .ref t0]) S hK hST hW (c_X0_init m_r2 e_r2 12 (by decide) (by decide) (N := 12) (by decide) (by decide)) mc_X0_init wd_42 wd_43 rfl rfl np_X0_init rfl hl.1 rfl (Nat.le_of_ble_eq_true rfl) dX3_init_37 ⟨by decide, by decide⟩ ⟨by decide, by decide⟩ (fun L_24 F_25 H_26 l_27 hp hW => ?_)
  obtain ⟨hsub1, ar2, m_ar2, hq_ar2, m9, e9, e_ar2, hfr1⟩ := hp
  have n_t0_ar2 : t0 ≠ ar2 := fun ee => hq_ar2 (ee ▸ m_t0)
  have n_r0_ar2 : r0 ≠ ar2 := fun ee => hq_ar2 (ee ▸ m_r0)
  have n_ar0_ar2 : ar0 ≠ ar2 := fun ee => hq_ar2 (ee ▸ m_ar0)
  have n_r1_ar2 : r1 ≠ ar2 := fun ee => hq_ar2 (ee ▸ m_r1)
  have n_ar1_ar2 : ar1 ≠ ar2 := fun ee => hq_ar2 (ee ▸ m_ar1)
  have n_r2_ar2 : r2 ≠ ar2 := fun ee => hq_ar2 (ee ▸ m_r2)
  have e_t0 : F_25 t0 = .inr (8, [.ref r0, .ref r1, .null, .null, .null, .null, .null, .int 0, .null, .null, .null]) := (hfr1 t0 m_t0 n_t0_r2).trans e_t0
  have e_r0 : F_25 r0 = .inr (5, [.ref ar0, .int 0]) := (hfr1 r0 m_r0 n_r0_r2).trans e_r0
  have e_ar0 : F_25 ar0 = .inl (κ 0, 20, .inl (fun _ => 0)) := (hfr1 ar0 m_ar0 n_ar0_r2).trans e_ar0
  have e_r1 : F_25 r1 = .inr (5, [.ref ar1, .int 0]) := (hfr1 r1 m_r1 n_r1_r2).trans e_r1
  have e_ar1 : F_25 ar1 = .inl (κ 0, 20, .inl (fun _ => 0)) := (hfr1 ar1 m_ar1 n_ar1_r2).trans e_ar1
  have e_r2 := e9
  have hfr : ∀ x ∈ L, x ≠ t0 → F_25 x = F x := fun x hx hxt => (hfr1 x (hsub x hx) (fun (ee : x = r2) => hnw_r2 (ee ▸ hx))).trans (hfr x hx hxt)
  have hnw_ar2 : ar2 ∉ L := fun ee => hq_ar2 (hsub _ ee)
  have m_t0 := hsub1 _ m_t0
  have m_r0 := hsub1 _ m_r0
  have m_ar0 := hsub1 _ m_ar0
  have m_r1 := hsub1 _ m_r1
  have m_ar1 := hsub1 _ m_ar1
  have m_r2 := hsub1 _ m_r2
  have hsub : ∀ x ∈ L, x ∈ L_24 := fun x hx => hsub1 x (hsub x hx)
  refine pk_putF (v := .ref r2) S hK hW 2 m_t0 e_t0 rfl hinX3 tyX3_ok nmX3 (by decide) wd_82 rfl (hini rfl) rfl rfl rfl rfl (Nat.le_of_ble_eq_true rfl) dX3_init_40 (fun H_28 l_29 hW => ?_)
  have e_t0 : (va_up F_25 t0 (.inr (8, ([.ref r0, .ref r1, .null, .null, .null, .null, .null, .int 0, .null, .null, .null] : List Value).set 2 (.ref r2)))) t0 = .inr (8, [.ref r0, .ref r1, .ref r2, .null, .null, .null, .null, .int 0, .null, .null, .null]) := up_eq
  have e_r0 : (va_up F_25 t0 (.inr (8, ([.ref r0, .ref r1, .null, .null, .null, .null, .null, .int 0, .null, .null, .null] : List Value).set 2 (.ref r2)))) r0 = .inr (5, [.ref ar0, .int 0]) := (up_ne n_t0_r0.symm).trans e_r0
  have e_ar0 : (va_up F_25 t0 (.inr (8, ([.ref r0, .ref r1, .null, .null, .null, .null, .null, .int 0, .null, .null, .null] : List Value).set 2 (.ref r2)))) ar0 = .inl (κ 0, 20, .inl (fun _ => 0)) := (up_ne n_t0_ar0.symm).trans e_ar0
  have e_r1 : (va_up F_25 t0 (.inr (8, ([.ref r0, .ref r1, .null, .null, .null, .null, .null, .int 0, .null, .null, .null] : List Value).set 2 (.ref r2)))) r1 = .inr (5, [.ref ar1, .int 0]) := (up_ne n_t0_r1.symm).trans e_r1
  have e_ar1 : (va_up F_25 t0 (.inr (8, ([.ref r0, .ref r1, .null, .null, .null, .null, .null, .int 0, .null, .null, .null] : List Value).set 2 (.ref r2)))) ar1 = .inl (κ 0, 20, .inl (fun _ => 0)) := (up_ne n_t0_ar1.symm).trans e_ar1
  have e_r2 : (va_up F_25 t0 (.inr (8, ([.ref r0, .ref r1, .null, .null, .null, .null, .null, .int 0, .null, .null, .null] : List Value).set 2 (.ref r2)))) r2 = .inr (5, [.ref ar2, .int 0]) := (up_ne n_t0_r2.symm).trans e_r2
  have e_ar2 : (va_up F_25 t0 (.inr (8, ([.ref r0, .ref r1, .null, .null, .null, .null, .null, .int 0, .null, .null, .null] : List Value).set 2 (.ref r2)))) ar2 = .inl (κ 0, 12, .inl (fun _ => 0)) := (up_ne n_t0_ar2.symm).trans e_ar2
  have hfr : ∀ x ∈ L, x ≠ t0 → (va_up F_25 t0 (.inr (8, ([.ref r0, .ref r1, .null, .null, .null, .null, .null, .int 0, .null, .null, .null] : List Value).set 2 (.ref r2)))) x = F x := fun x hx hxt => (up_ne hxt).trans (hfr x hx hxt)
  generalize va_up F_25 t0 (.inr (8, ([.ref r0, .ref r1, .null, .null, .null, .null, .null, .int 0, .null, .null, .null] : List Value).set 2 (.ref r2))) = F_30 at hW e_t0 e_r0 e_ar0 e_r1 e_ar1 e_r2 e_ar2 hfr
  refine lv_aload_n S.1 S.2.1 dX3_init_43 rfl (lv_at hl 0 rfl) ?_
  refine pk_new (fs := [.null, .int 0]) (ci := 5) S hK hW hinX0 tyX0_ok wd_40 wd_41 wd_2 rfl (fun j hj => by match j, hj with | 0, _ => rfl | 1, _ => rfl | j + 2, hj => exact absurd hj (by omega)) (by decide) (by decide) dX3_init_44 (fun r3 H_31 hq_r3 hW => ?_)
  have n_t0_r3 : t0 ≠ r3 := fun ee => hq_r3 (ee ▸ m_t0)
  have n_r0_r3 : r0 ≠ r3 := fun ee => hq_r3 (ee ▸ m_r0)
  have n_ar0_r3 : ar0 ≠ r3 := fun ee => hq_r3 (ee ▸ m_ar0)
  have n_r1_r3 : r1 ≠ r3 := fun ee => hq_r3 (ee ▸ m_r1)
  have n_ar1_r3 : ar1 ≠ r3 := fun ee => hq_r3 (ee ▸ m_ar1)
  have n_r2_r3 : r2 ≠ r3 := fun ee => hq_r3 (ee ▸ m_r2)
  have n_ar2_r3 : ar2 ≠ r3 := fun ee => hq_r3 (ee ▸ m_ar2)
  have e_t0 : (va_up F_30 r3 (.inr (5, [.null, .int 0]))) t0 = .inr (8, [.ref r0, .ref r1, .ref r2, .null, .null, .null, .null, .int 0, .null, .null, .null]) := (up_ne n_t0_r3).trans e_t0
  have m_t0 := List.mem_append_left [r3] m_t0
  have e_r0 : (va_up F_30 r3 (.inr (5, [.null, .int 0]))) r0 = .inr (5, [.ref ar0, .int 0]) := (up_ne n_r0_r3).trans e_r0
  have m_r0 := List.mem_append_left [r3] m_r0
  have e_ar0 : (va_up F_30 r3 (.inr (5, [.null, .int 0]))) ar0 = .inl (κ 0, 20, .inl (fun _ => 0)) := (up_ne n_ar0_r3).trans e_ar0
  have m_ar0 := List.mem_append_left [r3] m_ar0
  have e_r1 : (va_up F_30 r3 (.inr (5, [.null, .int 0]))) r1 = .inr (5, [.ref ar1, .int 0]) := (up_ne n_r1_r3).trans e_r1
  have m_r1 := List.mem_append_left [r3] m_r1
  have e_ar1 : (va_up F_30 r3 (.inr (5, [.null, .int 0]))) ar1 = .inl (κ 0, 20, .inl (fun _ => 0)) := (up_ne n_ar1_r3).trans e_ar1
  have m_ar1 := List.mem_append_left [r3] m_ar1
  have e_r2 : (va_up F_30 r3 (.inr (5, [.null, .int 0]))) r2 = .inr (5, [.ref ar2, .int 0]) := (up_ne n_r2_r3).trans e_r2
  have m_r2 := List.mem_append_left [r3] m_r2
  have e_ar2 : (va_up F_30 r3 (.inr (5, [.null, .int 0]))) ar2 = .inl (κ 0, 12, .inl (fun _ => 0)) := (up_ne n_ar2_r3).trans e_ar2
  have m_ar2 := List.mem_append_left [r3] m_ar2
  have e_r3 : (va_up F_30 r3 (.inr (5, [.null, .int 0]))) r3 = .inr (5, [.null, .int 0]) := up_eq
  have m_r3 : r3 ∈ L_24 ++ [r3] := List.mem_append_right _ (List.mem_singleton.mpr rfl)
  have hnw_r3 : r3 ∉ L := fun ee => hq_r3 (hsub _ ee)
  have hfr : ∀ x ∈ L, x ≠ t0 → (va_up F_30 r3 (.inr (5, [.null, .int 0]))) x = F x := fun x hx hxt => (up_ne (fun (ee : x = r3) => hnw_r3 (ee ▸ hx))).trans (hfr x hx hxt)
  have hsub : ∀ x ∈ L, x ∈ L_24 ++ [r3] := fun x hx => List.mem_append_left _ (hsub x hx)
  generalize va_up F_30 r3 (.inr (5, [.null, .int 0])) = F_32 at hW e_t0 e_r0 e_ar0 e_r1 e_ar1 e_r2 e_ar2 e_r3 hfr
  generalize L_24 ++ [r3] = L_33 at hW m_t0 m_r0 m_ar0 m_r1 m_ar1 m_r2 m_ar2 m_r3 hsub
  refine lv_dup S.1 S.2.1 dX3_init_47 rfl ?_
  refine lv_bipush (v := 10) S.1 S.2.1 dX3_init_48 (by decide) ?_
  refine pk_cIV (As := [.int 10]) (rest := [.ref r3, .ref t0]) S hK hST hW (c_X0_init m_r3 e_r3 10 (by decide) (by decide) (N := 10) (by decide) (by decide)) mc_X0_init wd_42 wd_43 rfl rfl np_X0_init rfl hl.1 rfl (Nat.le_of_ble_eq_true rfl) dX3_init_50 ⟨by decide, by decide⟩ ⟨by decide, by decide⟩ (fun L_34 F_35 H_36 l_37 hp hW => ?_)
  obtain ⟨hsub1, ar3, m_ar3, hq_ar3, m9, e9, e_ar3, hfr1⟩ := hp
  have n_t0_ar3 : t0 ≠ ar3 := fun ee => hq_ar3 (ee ▸ m_t0)
  have n_r0_ar3 : r0 ≠ ar3 := fun ee => hq_ar3 (ee ▸ m_r0)
  have n_ar0_ar3 : ar0 ≠ ar3 := fun ee => hq_ar3 (ee ▸ m_ar0)
  have n_r1_ar3 : r1 ≠ ar3 := fun ee => hq_ar3 (ee ▸ m_r1)
  have n_ar1_ar3 : ar1 ≠ ar3 := fun ee => hq_ar3 (ee ▸ m_ar1)
  have n_r2_ar3 : r2 ≠ ar3 := fun ee => hq_ar3 (ee ▸ m_r2)
  have n_ar2_ar3 : ar2 ≠ ar3 := fun ee => hq_ar3 (ee ▸ m_ar2)
  have n_r3_ar3 : r3 ≠ ar3 := fun ee => hq_ar3 (ee ▸ m_r3)
  have e_t0 : F_35 t0 = .inr (8, [.ref r0, .ref r1, .ref r2, .null, .null, .null, .null, .int 0, .null, .null, .null]) := (hfr1 t0 m_t0 n_t0_r3).trans e_t0
  have e_r0 : F_35 r0 = .inr (5, [.ref ar0, .int 0]) := (hfr1 r0 m_r0 n_r0_r3).trans e_r0
  have e_ar0 : F_35 ar0 = .inl (κ 0, 20, .inl (fun _ => 0)) := (hfr1 ar0 m_ar0 n_ar0_r3).trans e_ar0
  have e_r1 : F_35 r1 = .inr (5, [.ref ar1, .int 0]) := (hfr1 r1 m_r1 n_r1_r3).trans e_r1
  have e_ar1 : F_35 ar1 = .inl (κ 0, 20, .inl (fun _ => 0)) := (hfr1 ar1 m_ar1 n_ar1_r3).trans e_ar1
  have e_r2 : F_35 r2 = .inr (5, [.ref ar2, .int 0]) := (hfr1 r2 m_r2 n_r2_r3).trans e_r2
  have e_ar2 : F_35 ar2 = .inl (κ 0, 12, .inl (fun _ => 0)) := (hfr1 ar2 m_ar2 n_ar2_r3).trans e_ar2
  have e_r3 := e9
  have hfr : ∀ x ∈ L, x ≠ t0 → F_35 x = F x := fun x hx hxt => (hfr1 x (hsub x hx) (fun (ee : x = r3) => hnw_r3 (ee ▸ hx))).trans (hfr x hx hxt)
  have hnw_ar3 : ar3 ∉ L := fun ee => hq_ar3 (hsub _ ee)
  have m_t0 := hsub1 _ m_t0
  have m_r0 := hsub1 _ m_r0
  have m_ar0 := hsub1 _ m_ar0
  have m_r1 := hsub1 _ m_r1
  have m_ar1 := hsub1 _ m_ar1
  have m_r2 := hsub1 _ m_r2
  have m_ar2 := hsub1 _ m_ar2
  have m_r3 := hsub1 _ m_r3
  have hsub : ∀ x ∈ L, x ∈ L_34 := fun x hx => hsub1 x (hsub x hx)
  refine pk_putF (v := .ref r3) S hK hW 3 m_t0 e_t0 rfl hinX3 tyX3_ok nmX3 (by decide) wd_83 rfl (hini rfl) rfl rfl rfl rfl (Nat.le_of_ble_eq_true rfl) dX3_init_53 (fun H_38 l_39 hW => ?_)
  have e_t0 : (va_up F_35 t0 (.inr (8, ([.ref r0, .ref r1, .ref r2, .null, .null, .null, .null, .int 0, .null, .null, .null] : List Value).set 3 (.ref r3)))) t0 = .inr (8, [.ref r0, .ref r1, .ref r2, .ref r3, .null, .null, .null, .int 0, .null, .null, .null]) := up_eq
  have e_r0 : (va_up F_35 t0 (.inr (8, ([.ref r0, .ref r1, .ref r2, .null, .null, .null, .null, .int 0, .null, .null, .null] : List Value).set 3 (.ref r3)))) r0 = .inr (5, [.ref ar0, .int 0]) := (up_ne n_t0_r0.symm).trans e_r0
  have e_ar0 : (va_up F_35 t0 (.inr (8, ([.ref r0, .ref r1, .ref r2, .null, .null, .null, .null, .int 0, .null, .null, .null] : List Value).set 3 (.ref r3)))) ar0 = .inl (κ 0, 20, .inl (fun _ => 0)) := (up_ne n_t0_ar0.symm).trans e_ar0
  have e_r1 : (va_up F_35 t0 (.inr (8, ([.ref r0, .ref r1, .ref r2, .null, .null, .null, .null, .int 0, .null, .null, .null] : List Value).set 3 (.ref r3)))) r1 = .inr (5, [.ref ar1, .int 0]) := (up_ne n_t0_r1.symm).trans e_r1
  have e_ar1 : (va_up F_35 t0 (.inr (8, ([.ref r0, .ref r1, .ref r2, .null, .null, .null, .null, .int 0, .null, .null, .null] : List Value).set 3 (.ref r3)))) ar1 = .inl (κ 0, 20, .inl (fun _ => 0)) := (up_ne n_t0_ar1.symm).trans e_ar1
  have e_r2 : (va_up F_35 t0 (.inr (8, ([.ref r0, .ref r1, .ref r2, .null, .null, .null, .null, .int 0, .null, .null, .null] : List Value).set 3 (.ref r3)))) r2 = .inr (5, [.ref ar2, .int 0]) := (up_ne n_t0_r2.symm).trans e_r2
  have e_ar2 : (va_up F_35 t0 (.inr (8, ([.ref r0, .ref r1, .ref r2, .null, .null, .null, .null, .int 0, .null, .null, .null] : List Value).set 3 (.ref r3)))) ar2 = .inl (κ 0, 12, .inl (fun _ => 0)) := (up_ne n_t0_ar2.symm).trans e_ar2
  have e_r3 : (va_up F_35 t0 (.inr (8, ([.ref r0, .ref r1, .ref r2, .null, .null, .null, .null, .int 0, .null, .null, .null] : List Value).set 3 (.ref r3)))) r3 = .inr (5, [.ref ar3, .int 0]) := (up_ne n_t0_r3.symm).trans e_r3
  have e_ar3 : (va_up F_35 t0 (.inr (8, ([.ref r0, .ref r1, .ref r2, .null, .null, .null, .null, .int 0, .null, .null, .null] : List Value).set 3 (.ref r3)))) ar3 = .inl (κ 0, 10, .inl (fun _ => 0)) := (up_ne n_t0_ar3.symm).trans e_ar3
  have hfr : ∀ x ∈ L, x ≠ t0 → (va_up F_35 t0 (.inr (8, ([.ref r0, .ref r1, .ref r2, .null, .null, .null, .null, .int 0, .null, .null, .null] : List Value).set 3 (.ref r3)))) x = F x := fun x hx hxt => (up_ne hxt).trans (hfr x hx hxt)
  generalize va_up F_35 t0 (.inr (8, ([.ref r0, .ref r1, .ref r2, .null, .null, .null, .null, .int 0, .null, .null, .null] : List Value).set 3 (.ref r3))) = F_40 at hW e_t0 e_r0 e_ar0 e_r1 e_ar1 e_r2 e_ar2 e_r3 e_ar3 hfr
  refine lv_aload_n S.1 S.2.1 dX3_init_56 rfl (lv_at hl 0 rfl) ?_
  refine pk_new (fs := [.int 0, .int 0, .int 0, .int 0]) (ci := 6) S hK hW hinX1 tyX1_ok wd_52 wd_53 wd_3 rfl (fun j hj => by match j, hj with | 0, _ => rfl | 1, _ => rfl | 2, _ => rfl | 3, _ => rfl | j + 4, hj => exact absurd hj (by omega)) (by decide) (by decide) dX3_init_57 (fun w H_41 hq_w hW => ?_)
  have n_t0_w : t0 ≠ w := fun ee => hq_w (ee ▸ m_t0)
  have n_r0_w : r0 ≠ w := fun ee => hq_w (ee ▸ m_r0)
  have n_ar0_w : ar0 ≠ w := fun ee => hq_w (ee ▸ m_ar0)
  have n_r1_w : r1 ≠ w := fun ee => hq_w (ee ▸ m_r1)
  have n_ar1_w : ar1 ≠ w := fun ee => hq_w (ee ▸ m_ar1)
  have n_r2_w : r2 ≠ w := fun ee => hq_w (ee ▸ m_r2)
  have n_ar2_w : ar2 ≠ w := fun ee => hq_w (ee ▸ m_ar2)
  have n_r3_w : r3 ≠ w := fun ee => hq_w (ee ▸ m_r3)
  have n_ar3_w : ar3 ≠ w := fun ee => hq_w (ee ▸ m_ar3)
  have e_t0 : (va_up F_40 w (.inr (6, [.int 0, .int 0, .int 0, .int 0]))) t0 = .inr (8, [.ref r0, .ref r1, .ref r2, .ref r3, .null, .null, .null, .int 0, .null, .null, .null]) := (up_ne n_t0_w).trans e_t0
  have m_t0 := List.mem_append_left [w] m_t0
  have e_r0 : (va_up F_40 w (.inr (6, [.int 0, .int 0, .int 0, .int 0]))) r0 = .inr (5, [.ref ar0, .int 0]) := (up_ne n_r0_w).trans e_r0
  have m_r0 := List.mem_append_left [w] m_r0
  have e_ar0 : (va_up F_40 w (.inr (6, [.int 0, .int 0, .int 0, .int 0]))) ar0 = .inl (κ 0, 20, .inl (fun _ => 0)) := (up_ne n_ar0_w).trans e_ar0
  have m_ar0 := List.mem_append_left [w] m_ar0
  have e_r1 : (va_up F_40 w (.inr (6, [.int 0, .int 0, .int 0, .int 0]))) r1 = .inr (5, [.ref ar1, .int 0]) := (up_ne n_r1_w).trans e_r1
  have m_r1 := List.mem_append_left [w] m_r1
  have e_ar1 : (va_up F_40 w (.inr (6, [.int 0, .int 0, .int 0, .int 0]))) ar1 = .inl (κ 0, 20, .inl (fun _ => 0)) := (up_ne n_ar1_w).trans e_ar1
  have m_ar1 := List.mem_append_left [w] m_ar1
  have e_r2 : (va_up F_40 w (.inr (6, [.int 0, .int 0, .int 0, .int 0]))) r2 = .inr (5, [.ref ar2, .int 0]) := (up_ne n_r2_w).trans e_r2
  have m_r2 := List.mem_append_left [w] m_r2
  have e_ar2 : (va_up F_40 w (.inr (6, [.int 0, .int 0, .int 0, .int 0]))) ar2 = .inl (κ 0, 12, .inl (fun _ => 0)) := (up_ne n_ar2_w).trans e_ar2
  have m_ar2 := List.mem_append_left [w] m_ar2
  have e_r3 : (va_up F_40 w (.inr (6, [.int 0, .int 0, .int 0, .int 0]))) r3 = .inr (5, [.ref ar3, .int 0]) := (up_ne n_r3_w).trans e_r3
  have m_r3 := List.mem_append_left [w] m_r3
  have e_ar3 : (va_up F_40 w (.inr (6, [.int 0, .int 0, .int 0, .int 0]))) ar3 = .inl (κ 0, 10, .inl (fun _ => 0)) := (up_ne n_ar3_w).trans e_ar3
  have m_ar3 := List.mem_append_left [w] m_ar3
  have e_w : (va_up F_40 w (.inr (6, [.int 0, .int 0, .int 0, .int 0]))) w = .inr (6, [.int 0, .int 0, .int 0, .int 0]) := up_eq
  have m_w : w ∈ L_34 ++ [w] := List.mem_append_right _ (List.mem_singleton.mpr rfl)
  have hnw_w : w ∉ L := fun ee => hq_w (hsub _ ee)
  have hfr : ∀ x ∈ L, x ≠ t0 → (va_up F_40 w (.inr (6, [.int 0, .int 0, .int 0, .int 0]))) x = F x := fun x hx hxt => (up_ne (fun (ee : x = w) => hnw_w (ee ▸ hx))).trans (hfr x hx hxt)
  have hsub : ∀ x ∈ L, x ∈ L_34 ++ [w] := fun x hx => List.mem_append_left _ (hsub x hx)
  generalize va_up F_40 w (.inr (6, [.int 0, .int 0, .int 0, .int 0])) = F_42 at hW e_t0 e_r0 e_ar0 e_r1 e_ar1 e_r2 e_ar2 e_r3 e_ar3 e_w hfr
  generalize L_34 ++ [w] = L_43 at hW m_t0 m_r0 m_ar0 m_r1 m_ar1 m_r2 m_ar2 m_r3 m_ar3 m_w hsub
  refine lv_dup S.1 S.2.1 dX3_init_60 rfl ?_
  refine pk_cIV (As := []) (rest := [.ref w, .ref t0]) S hK hST hW (c_X1_init m_w e_w) mc_X1_init wd_54 wd_55 rfl rfl np_X1_init rfl hl.1 rfl (Nat.le_of_ble_eq_true rfl) dX3_init_61 ⟨by decide, by decide⟩ ⟨by decide, by decide⟩ (fun L_44 F_45 H_46 l_47 hp hW => ?_)
  obtain ⟨hsub1, m9, e9, hfr1⟩ := hp
  have e_t0 : F_45 t0 = .inr (8, [.ref r0, .ref r1, .ref r2, .ref r3, .null, .null, .null, .int 0, .null, .null, .null]) := (hfr1 t0 m_t0 n_t0_w).trans e_t0
  have e_r0 : F_45 r0 = .inr (5, [.ref ar0, .int 0]) := (hfr1 r0 m_r0 n_r0_w).trans e_r0
  have e_ar0 : F_45 ar0 = .inl (κ 0, 20, .inl (fun _ => 0)) := (hfr1 ar0 m_ar0 n_ar0_w).trans e_ar0
  have e_r1 : F_45 r1 = .inr (5, [.ref ar1, .int 0]) := (hfr1 r1 m_r1 n_r1_w).trans e_r1
  have e_ar1 : F_45 ar1 = .inl (κ 0, 20, .inl (fun _ => 0)) := (hfr1 ar1 m_ar1 n_ar1_w).trans e_ar1
  have e_r2 : F_45 r2 = .inr (5, [.ref ar2, .int 0]) := (hfr1 r2 m_r2 n_r2_w).trans e_r2
  have e_ar2 : F_45 ar2 = .inl (κ 0, 12, .inl (fun _ => 0)) := (hfr1 ar2 m_ar2 n_ar2_w).trans e_ar2
  have e_r3 : F_45 r3 = .inr (5, [.ref ar3, .int 0]) := (hfr1 r3 m_r3 n_r3_w).trans e_r3
  have e_ar3 : F_45 ar3 = .inl (κ 0, 10, .inl (fun _ => 0)) := (hfr1 ar3 m_ar3 n_ar3_w).trans e_ar3
  have e_w := e9
  have hfr : ∀ x ∈ L, x ≠ t0 → F_45 x = F x := fun x hx hxt => (hfr1 x (hsub x hx) (fun (ee : x = w) => hnw_w (ee ▸ hx))).trans (hfr x hx hxt)
  have m_t0 := hsub1 _ m_t0
  have m_r0 := hsub1 _ m_r0
  have m_ar0 := hsub1 _ m_ar0
  have m_r1 := hsub1 _ m_r1
  have m_ar1 := hsub1 _ m_ar1
  have m_r2 := hsub1 _ m_r2
  have m_ar2 := hsub1 _ m_ar2
  have m_r3 := hsub1 _ m_r3
  have m_ar3 := hsub1 _ m_ar3
  have m_w := hsub1 _ m_w
  have hsub : ∀ x ∈ L, x ∈ L_44 := fun x hx => hsub1 x (hsub x hx)
  refine pk_putF (v := .ref w) S hK hW 4 m_t0 e_t0 rfl hinX3 tyX3_ok nmX3 (by decide) wd_84 rfl (hini rfl) rfl rfl rfl rfl (Nat.le_of_ble_eq_true rfl) dX3_init_64 (fun H_48 l_49 hW => ?_)
  have e_t0 : (va_up F_45 t0 (.inr (8, ([.ref r0, .ref r1, .ref r2, .ref r3, .null, .null, .null, .int 0, .null, .null, .null] : List Value).set 4 (.ref w)))) t0 = .inr (8, [.ref r0, .ref r1, .ref r2, .ref r3, .ref w, .null, .null, .int 0, .null, .null, .null]) := up_eq
  have e_r0 : (va_up F_45 t0 (.inr (8, ([.ref r0, .ref r1, .ref r2, .ref r3, .null, .null, .null, .int 0, .null, .null, .null] : List Value).set 4 (.ref w)))) r0 = .inr (5, [.ref ar0, .int 0]) := (up_ne n_t0_r0.symm).trans e_r0
  have e_ar0 : (va_up F_45 t0 (.inr (8, ([.ref r0, .ref r1, .ref r2, .ref r3, .null, .null, .null, .int 0, .null, .null, .null] : List Value).set 4 (.ref w)))) ar0 = .inl (κ 0, 20, .inl (fun _ => 0)) := (up_ne n_t0_ar0.symm).trans e_ar0
  have e_r1 : (va_up F_45 t0 (.inr (8, ([.ref r0, .ref r1, .ref r2, .ref r3, .null, .null, .null, .int 0, .null, .null, .null] : List Value).set 4 (.ref w)))) r1 = .inr (5, [.ref ar1, .int 0]) := (up_ne n_t0_r1.symm).trans e_r1
  have e_ar1 : (va_up F_45 t0 (.inr (8, ([.ref r0, .ref r1, .ref r2, .ref r3, .null, .null, .null, .int 0, .null, .null, .null] : List Value).set 4 (.ref w)))) ar1 = .inl (κ 0, 20, .inl (fun _ => 0)) := (up_ne n_t0_ar1.symm).trans e_ar1
  have e_r2 : (va_up F_45 t0 (.inr (8, ([.ref r0, .ref r1, .ref r2, .ref r3, .null, .null, .null, .int 0, .null, .null, .null] : List Value).set 4 (.ref w)))) r2 = .inr (5, [.ref ar2, .int 0]) := (up_ne n_t0_r2.symm).trans e_r2
  have e_ar2 : (va_up F_45 t0 (.inr (8, ([.ref r0, .ref r1, .ref r2, .ref r3, .null, .null, .null, .int 0, .null, .null, .null] : List Value).set 4 (.ref w)))) ar2 = .inl (κ 0, 12, .inl (fun _ => 0)) := (up_ne n_t0_ar2.symm).trans e_ar2
  have e_r3 : (va_up F_45 t0 (.inr (8, ([.ref r0, .ref r1, .ref r2, .ref r3, .null, .null, .null, .int 0, .null, .null, .null] : List Value).set 4 (.ref w)))) r3 = .inr (5, [.ref ar3, .int 0]) := (up_ne n_t0_r3.symm).trans e_r3
  have e_ar3 : (va_up F_45 t0 (.inr (8, ([.ref r0, .ref r1, .ref r2, .ref r3, .null, .null, .null, .int 0, .null, .null, .null] : List Value).set 4 (.ref w)))) ar3 = .inl (κ 0, 10, .inl (fun _ => 0)) := (up_ne n_t0_ar3.symm).trans e_ar3
  have e_w : (va_up F_45 t0 (.inr (8, ([.ref r0, .ref r1, .ref r2, .ref r3, .null, .null, .null, .int 0, .null, .null, .null] : List Value).set 4 (.ref w)))) w = .inr (6, [.int 0, .int 0, .int 0, .int (-1)]) := (up_ne n_t0_w.symm).trans e_w
  have hfr : ∀ x ∈ L, x ≠ t0 → (va_up F_45 t0 (.inr (8, ([.ref r0, .ref r1, .ref r2, .ref r3, .null, .null, .null, .int 0, .null, .null, .null] : List Value).set 4 (.ref w)))) x = F x := fun x hx hxt => (up_ne hxt).trans (hfr x hx hxt)
  generalize va_up F_45 t0 (.inr (8, ([.ref r0, .ref r1, .ref r2, .ref r3, .null, .null, .null, .int 0, .null, .null, .null] : List Value).set 4 (.ref w))) = F_50 at hW e_t0 e_r0 e_ar0 e_r1 e_ar1 e_r2 e_ar2 e_r3 e_ar3 e_w hfr
  refine lv_aload_n S.1 S.2.1 dX3_init_67 rfl (lv_at hl 0 rfl) ?_
  refine pk_new (fs := [.int 0, .int 0, .int 0]) (ci := 7) S hK hW hinX2 tyX2_ok wd_67 wd_68 wd_4 rfl (fun j hj => by match j, hj with | 0, _ => rfl | 1, _ => rfl | 2, _ => rfl | j + 3, hj => exact absurd hj (by omega)) (by decide) (by decide) dX3_init_68 (fun k0 H_51 hq_k0 hW => ?_)
  have n_t0_k0 : t0 ≠ k0 := fun ee => hq_k0 (ee ▸ m_t0)
  have n_r0_k0 : r0 ≠ k0 := fun ee => hq_k0 (ee ▸ m_r0)
  have n_ar0_k0 : ar0 ≠ k0 := fun ee => hq_k0 (ee ▸ m_ar0)
  have n_r1_k0 : r1 ≠ k0 := fun ee => hq_k0 (ee ▸ m_r1)
  have n_ar1_k0 : ar1 ≠ k0 := fun ee => hq_k0 (ee ▸ m_ar1)
  have n_r2_k0 : r2 ≠ k0 := fun ee => hq_k0 (ee ▸ m_r2)
  have n_ar2_k0 : ar2 ≠ k0 := fun ee => hq_k0 (ee ▸ m_ar2)
  have n_r3_k0 : r3 ≠ k0 := fun ee => hq_k0 (ee ▸ m_r3)
  have n_ar3_k0 : ar3 ≠ k0 := fun ee => hq_k0 (ee ▸ m_ar3)
  have n_w_k0 : w ≠ k0 := fun ee => hq_k0 (ee ▸ m_w)
  have e_t0 : (va_up F_50 k0 (.inr (7, [.int 0, .int 0, .int 0]))) t0 = .inr (8, [.ref r0, .ref r1, .ref r2, .ref r3, .ref w, .null, .null, .int 0, .null, .null, .null]) := (up_ne n_t0_k0).trans e_t0
  have m_t0 := List.mem_append_left [k0] m_t0
  have e_r0 : (va_up F_50 k0 (.inr (7, [.int 0, .int 0, .int 0]))) r0 = .inr (5, [.ref ar0, .int 0]) := (up_ne n_r0_k0).trans e_r0
  have m_r0 := List.mem_append_left [k0] m_r0
  have e_ar0 : (va_up F_50 k0 (.inr (7, [.int 0, .int 0, .int 0]))) ar0 = .inl (κ 0, 20, .inl (fun _ => 0)) := (up_ne n_ar0_k0).trans e_ar0
  have m_ar0 := List.mem_append_left [k0] m_ar0
  have e_r1 : (va_up F_50 k0 (.inr (7, [.int 0, .int 0, .int 0]))) r1 = .inr (5, [.ref ar1, .int 0]) := (up_ne n_r1_k0).trans e_r1
  have m_r1 := List.mem_append_left [k0] m_r1
  have e_ar1 : (va_up F_50 k0 (.inr (7, [.int 0, .int 0, .int 0]))) ar1 = .inl (κ 0, 20, .inl (fun _ => 0)) := (up_ne n_ar1_k0).trans e_ar1
  have m_ar1 := List.mem_append_left [k0] m_ar1
  have e_r2 : (va_up F_50 k0 (.inr (7, [.int 0, .int 0, .int 0]))) r2 = .inr (5, [.ref ar2, .int 0]) := (up_ne n_r2_k0).trans e_r2
  have m_r2 := List.mem_append_left [k0] m_r2
  have e_ar2 : (va_up F_50 k0 (.inr (7, [.int 0, .int 0, .int 0]))) ar2 = .inl (κ 0, 12, .inl (fun _ => 0)) := (up_ne n_ar2_k0).trans e_ar2
  have m_ar2 := List.mem_append_left [k0] m_ar2
  have e_r3 : (va_up F_50 k0 (.inr (7, [.int 0, .int 0, .int 0]))) r3 = .inr (5, [.ref ar3, .int 0]) := (up_ne n_r3_k0).trans e_r3
  have m_r3 := List.mem_append_left [k0] m_r3
  have e_ar3 : (va_up F_50 k0 (.inr (7, [.int 0, .int 0, .int 0]))) ar3 = .inl (κ 0, 10, .inl (fun _ => 0)) := (up_ne n_ar3_k0).trans e_ar3
  have m_ar3 := List.mem_append_left [k0] m_ar3
  have e_w : (va_up F_50 k0 (.inr (7, [.int 0, .int 0, .int 0]))) w = .inr (6, [.int 0, .int 0, .int 0, .int (-1)]) := (up_ne n_w_k0).trans e_w
  have m_w := List.mem_append_left [k0] m_w
  have e_k0 : (va_up F_50 k0 (.inr (7, [.int 0, .int 0, .int 0]))) k0 = .inr (7, [.int 0, .int 0, .int 0]) := up_eq
  have m_k0 : k0 ∈ L_44 ++ [k0] := List.mem_append_right _ (List.mem_singleton.mpr rfl)
  have hnw_k0 : k0 ∉ L := fun ee => hq_k0 (hsub _ ee)
  have hfr : ∀ x ∈ L, x ≠ t0 → (va_up F_50 k0 (.inr (7, [.int 0, .int 0, .int 0]))) x = F x := fun x hx hxt => (up_ne (fun (ee : x = k0) => hnw_k0 (ee ▸ hx))).trans (hfr x hx hxt)
  have hsub : ∀ x ∈ L, x ∈ L_44 ++ [k0] := fun x hx => List.mem_append_left _ (hsub x hx)
  generalize va_up F_50 k0 (.inr (7, [.int 0, .int 0, .int 0])) = F_52 at hW e_t0 e_r0 e_ar0 e_r1 e_ar1 e_r2 e_ar2 e_r3 e_ar3 e_w e_k0 hfr
  generalize L_44 ++ [k0] = L_53 at hW m_t0 m_r0 m_ar0 m_r1 m_ar1 m_r2 m_ar2 m_r3 m_ar3 m_w m_k0 hsub
  refine lv_dup S.1 S.2.1 dX3_init_71 rfl ?_
  refine pk_cIV (As := []) (rest := [.ref k0, .ref t0]) S hK hST hW (c_X2_init m_k0 e_k0) mc_X2_init wd_69 wd_70 rfl rfl np_X2_init rfl hl.1 rfl (Nat.le_of_ble_eq_true rfl) dX3_init_72 ⟨by decide, by decide⟩ ⟨by decide, by decide⟩ (fun L_54 F_55 H_56 l_57 hp hW => ?_)
  obtain ⟨hsub1, m9, e9, hfr1⟩ := hp
  have e_t0 : F_55 t0 = .inr (8, [.ref r0, .ref r1, .ref r2, .ref r3, .ref w, .null, .null, .int 0, .null, .null, .null]) := (hfr1 t0 m_t0 n_t0_k0).trans e_t0
  have e_r0 : F_55 r0 = .inr (5, [.ref ar0, .int 0]) := (hfr1 r0 m_r0 n_r0_k0).trans e_r0
  have e_ar0 : F_55 ar0 = .inl (κ 0, 20, .inl (fun _ => 0)) := (hfr1 ar0 m_ar0 n_ar0_k0).trans e_ar0
  have e_r1 : F_55 r1 = .inr (5, [.ref ar1, .int 0]) := (hfr1 r1 m_r1 n_r1_k0).trans e_r1
  have e_ar1 : F_55 ar1 = .inl (κ 0, 20, .inl (fun _ => 0)) := (hfr1 ar1 m_ar1 n_ar1_k0).trans e_ar1
  have e_r2 : F_55 r2 = .inr (5, [.ref ar2, .int 0]) := (hfr1 r2 m_r2 n_r2_k0).trans e_r2
  have e_ar2 : F_55 ar2 = .inl (κ 0, 12, .inl (fun _ => 0)) := (hfr1 ar2 m_ar2 n_ar2_k0).trans e_ar2
  have e_r3 : F_55 r3 = .inr (5, [.ref ar3, .int 0]) := (hfr1 r3 m_r3 n_r3_k0).trans e_r3
  have e_ar3 : F_55 ar3 = .inl (κ 0, 10, .inl (fun _ => 0)) := (hfr1 ar3 m_ar3 n_ar3_k0).trans e_ar3
  have e_w : F_55 w = .inr (6, [.int 0, .int 0, .int 0, .int (-1)]) := (hfr1 w m_w n_w_k0).trans e_w
  have e_k0 := e9
  have hfr : ∀ x ∈ L, x ≠ t0 → F_55 x = F x := fun x hx hxt => (hfr1 x (hsub x hx) (fun (ee : x = k0) => hnw_k0 (ee ▸ hx))).trans (hfr x hx hxt)
  have m_t0 := hsub1 _ m_t0
  have m_r0 := hsub1 _ m_r0
  have m_ar0 := hsub1 _ m_ar0
  have m_r1 := hsub1 _ m_r1
  have m_ar1 := hsub1 _ m_ar1
  have m_r2 := hsub1 _ m_r2
  have m_ar2 := hsub1 _ m_ar2
  have m_r3 := hsub1 _ m_r3
  have m_ar3 := hsub1 _ m_ar3
  have m_w := hsub1 _ m_w
  have m_k0 := hsub1 _ m_k0
  have hsub : ∀ x ∈ L, x ∈ L_54 := fun x hx => hsub1 x (hsub x hx)
  refine pk_putF (v := .ref k0) S hK hW 5 m_t0 e_t0 rfl hinX3 tyX3_ok nmX3 (by decide) wd_85 rfl (hini rfl) rfl rfl rfl rfl (Nat.le_of_ble_eq_true rfl) dX3_init_75 (fun H_58 l_59 hW => ?_)
  have e_t0 : (va_up F_55 t0 (.inr (8, ([.ref r0, .ref r1, .ref r2, .ref r3, .ref w, .null, .null, .int 0, .null, .null, .null] : List Value).set 5 (.ref k0)))) t0 = .inr (8, [.ref r0, .ref r1, .ref r2, .ref r3, .ref w, .ref k0, .null, .int 0, .null, .null, .null]) := up_eq
  have e_r0 : (va_up F_55 t0 (.inr (8, ([.ref r0, .ref r1, .ref r2, .ref r3, .ref w, .null, .null, .int 0, .null, .null, .null] : List Value).set 5 (.ref k0)))) r0 = .inr (5, [.ref ar0, .int 0]) := (up_ne n_t0_r0.symm).trans e_r0
  have e_ar0 : (va_up F_55 t0 (.inr (8, ([.ref r0, .ref r1, .ref r2, .ref r3, .ref w, .null, .null, .int 0, .null, .null, .null] : List Value).set 5 (.ref k0)))) ar0 = .inl (κ 0, 20, .inl (fun _ => 0)) := (up_ne n_t0_ar0.symm).trans e_ar0
  have e_r1 : (va_up F_55 t0 (.inr (8, ([.ref r0, .ref r1, .ref r2, .ref r3, .ref w, .null, .null, .int 0, .null, .null, .null] : List Value).set 5 (.ref k0)))) r1 = .inr (5, [.ref ar1, .int 0]) := (up_ne n_t0_r1.symm).trans e_r1
  have e_ar1 : (va_up F_55 t0 (.inr (8, ([.ref r0, .ref r1, .ref r2, .ref r3, .ref w, .null, .null, .int 0, .null, .null, .null] : List Value).set 5 (.ref k0)))) ar1 = .inl (κ 0, 20, .inl (fun _ => 0)) := (up_ne n_t0_ar1.symm).trans e_ar1
  have e_r2 : (va_up F_55 t0 (.inr (8, ([.ref r0, .ref r1, .ref r2, .ref r3, .ref w, .null, .null, .int 0, .null, .null, .null] : List Value).set 5 (.ref k0)))) r2 = .inr (5, [.ref ar2, .int 0]) := (up_ne n_t0_r2.symm).trans e_r2
  have e_ar2 : (va_up F_55 t0 (.inr (8, ([.ref r0, .ref r1, .ref r2, .ref r3, .ref w, .null, .null, .int 0, .null, .null, .null] : List Value).set 5 (.ref k0)))) ar2 = .inl (κ 0, 12, .inl (fun _ => 0)) := (up_ne n_t0_ar2.symm).trans e_ar2
  have e_r3 : (va_up F_55 t0 (.inr (8, ([.ref r0, .ref r1, .ref r2, .ref r3, .ref w, .null, .null, .int 0, .null, .null, .null] : List Value).set 5 (.ref k0)))) r3 = .inr (5, [.ref ar3, .int 0]) := (up_ne n_t0_r3.symm).trans e_r3
  have e_ar3 : (va_up F_55 t0 (.inr (8, ([.ref r0, .ref r1, .ref r2, .ref r3, .ref w, .null, .null, .int 0, .null, .null, .null] : List Value).set 5 (.ref k0)))) ar3 = .inl (κ 0, 10, .inl (fun _ => 0)) := (up_ne n_t0_ar3.symm).trans e_ar3
  have e_w : (va_up F_55 t0 (.inr (8, ([.ref r0, .ref r1, .ref r2, .ref r3, .ref w, .null, .null, .int 0, .null, .null, .null] : List Value).set 5 (.ref k0)))) w = .inr (6, [.int 0, .int 0, .int 0, .int (-1)]) := (up_ne n_t0_w.symm).trans e_w
  have e_k0 : (va_up F_55 t0 (.inr (8, ([.ref r0, .ref r1, .ref r2, .ref r3, .ref w, .null, .null, .int 0, .null, .null, .null] : List Value).set 5 (.ref k0)))) k0 = .inr (7, [.int 0, .int 0, .int (-1)]) := (up_ne n_t0_k0.symm).trans e_k0
  have hfr : ∀ x ∈ L, x ≠ t0 → (va_up F_55 t0 (.inr (8, ([.ref r0, .ref r1, .ref r2, .ref r3, .ref w, .null, .null, .int 0, .null, .null, .null] : List Value).set 5 (.ref k0)))) x = F x := fun x hx hxt => (up_ne hxt).trans (hfr x hx hxt)
  generalize va_up F_55 t0 (.inr (8, ([.ref r0, .ref r1, .ref r2, .ref r3, .ref w, .null, .null, .int 0, .null, .null, .null] : List Value).set 5 (.ref k0))) = F_60 at hW e_t0 e_r0 e_ar0 e_r1 e_ar1 e_r2 e_ar2 e_r3 e_ar3 e_w e_k0 hfr
  refine lv_aload_n S.1 S.2.1 dX3_init_78 rfl (lv_at hl 0 rfl) ?_
  refine pk_new (fs := [.int 0, .int 0, .int 0]) (ci := 7) S hK hW hinX2 tyX2_ok wd_67 wd_68 wd_4 rfl (fun j hj => by match j, hj with | 0, _ => rfl | 1, _ => rfl | 2, _ => rfl | j + 3, hj => exact absurd hj (by omega)) (by decide) (by decide) dX3_init_79 (fun k1 H_61 hq_k1 hW => ?_)
  have n_t0_k1 : t0 ≠ k1 := fun ee => hq_k1 (ee ▸ m_t0)
  have n_r0_k1 : r0 ≠ k1 := fun ee => hq_k1 (ee ▸ m_r0)
  have n_ar0_k1 : ar0 ≠ k1 := fun ee => hq_k1 (ee ▸ m_ar0)
  have n_r1_k1 : r1 ≠ k1 := fun ee => hq_k1 (ee ▸ m_r1)
  have n_ar1_k1 : ar1 ≠ k1 := fun ee => hq_k1 (ee ▸ m_ar1)
  have n_r2_k1 : r2 ≠ k1 := fun ee => hq_k1 (ee ▸ m_r2)
  have n_ar2_k1 : ar2 ≠ k1 := fun ee => hq_k1 (ee ▸ m_ar2)
  have n_r3_k1 : r3 ≠ k1 := fun ee => hq_k1 (ee ▸ m_r3)
  have n_ar3_k1 : ar3 ≠ k1 := fun ee => hq_k1 (ee ▸ m_ar3)
  have n_w_k1 : w ≠ k1 := fun ee => hq_k1 (ee ▸ m_w)
  have n_k0_k1 : k0 ≠ k1 := fun ee => hq_k1 (ee ▸ m_k0)
  have e_t0 : (va_up F_60 k1 (.inr (7, [.int 0, .int 0, .int 0]))) t0 = .inr (8, [.ref r0, .ref r1, .ref r2, .ref r3, .ref w, .ref k0, .null, .int 0, .null, .null, .null]) := (up_ne n_t0_k1).trans e_t0
  have m_t0 := List.mem_append_left [k1] m_t0
  have e_r0 : (va_up F_60 k1 (.inr (7, [.int 0, .int 0, .int 0]))) r0 = .inr (5, [.ref ar0, .int 0]) := (up_ne n_r0_k1).trans e_r0
  have m_r0 := List.mem_append_left [k1] m_r0
  have e_ar0 : (va_up F_60 k1 (.inr (7, [.int 0, .int 0, .int 0]))) ar0 = .inl (κ 0, 20, .inl (fun _ => 0)) := (up_ne n_ar0_k1).trans e_ar0
  have m_ar0 := List.mem_append_left [k1] m_ar0
  have e_r1 : (va_up F_60 k1 (.inr (7, [.int 0, .int 0, .int 0]))) r1 = .inr (5, [.ref ar1, .int 0]) := (up_ne n_r1_k1).trans e_r1
  have m_r1 := List.mem_append_left [k1] m_r1
  have e_ar1 : (va_up F_60 k1 (.inr (7, [.int 0, .int 0, .int 0]))) ar1 = .inl (κ 0, 20, .inl (fun _ => 0)) := (up_ne n_ar1_k1).trans e_ar1
  have m_ar1 := List.mem_append_left [k1] m_ar1
  have e_r2 : (va_up F_60 k1 (.inr (7, [.int 0, .int 0, .int 0]))) r2 = .inr (5, [.ref ar2, .int 0]) := (up_ne n_r2_k1).trans e_r2
  have m_r2 := List.mem_append_left [k1] m_r2
  have e_ar2 : (va_up F_60 k1 (.inr (7, [.int 0, .int 0, .int 0]))) ar2 = .inl (κ 0, 12, .inl (fun _ => 0)) := (up_ne n_ar2_k1).trans e_ar2
  have m_ar2 := List.mem_append_left [k1] m_ar2
  have e_r3 : (va_up F_60 k1 (.inr (7, [.int 0, .int 0, .int 0]))) r3 = .inr (5, [.ref ar3, .int 0]) := (up_ne n_r3_k1).trans e_r3
  have m_r3 := List.mem_append_left [k1] m_r3
  have e_ar3 : (va_up F_60 k1 (.inr (7, [.int 0, .int 0, .int 0]))) ar3 = .inl (κ 0, 10, .inl (fun _ => 0)) := (up_ne n_ar3_k1).trans e_ar3
  have m_ar3 := List.mem_append_left [k1] m_ar3
  have e_w : (va_up F_60 k1 (.inr (7, [.int 0, .int 0, .int 0]))) w = .inr (6, [.int 0, .int 0, .int 0, .int (-1)]) := (up_ne n_w_k1).trans e_w
  have m_w := List.mem_append_left [k1] m_w
  have e_k0 : (va_up F_60 k1 (.inr (7, [.int 0, .int 0, .int 0]))) k0 = .inr (7, [.int 0, .int 0, .int (-1)]) := (up_ne n_k0_k1).trans e_k0
  have m_k0 := List.mem_append_left [k1] m_k0
  have e_k1 : (va_up F_60 k1 (.inr (7, [.int 0, .int 0, .int 0]))) k1 = .inr (7, [.int 0, .int 0, .int 0]) := up_eq
  have m_k1 : k1 ∈ L_54 ++ [k1] := List.mem_append_right _ (List.mem_singleton.mpr rfl)
  have hnw_k1 : k1 ∉ L := fun ee => hq_k1 (hsub _ ee)
  have hfr : ∀ x ∈ L, x ≠ t0 → (va_up F_60 k1 (.inr (7, [.int 0, .int 0, .int 0]))) x = F x := fun x hx hxt => (up_ne (fun (ee : x = k1) => hnw_k1 (ee ▸ hx))).trans (hfr x hx hxt)
  have hsub : ∀ x ∈ L, x ∈ L_54 ++ [k1] := fun x hx => List.mem_append_left _ (hsub x hx)
  generalize va_up F_60 k1 (.inr (7, [.int 0, .int 0, .int 0])) = F_62 at hW e_t0 e_r0 e_ar0 e_r1 e_ar1 e_r2 e_ar2 e_r3 e_ar3 e_w e_k0 e_k1 hfr
  generalize L_54 ++ [k1] = L_63 at hW m_t0 m_r0 m_ar0 m_r1 m_ar1 m_r2 m_ar2 m_r3 m_ar3 m_w m_k0 m_k1 hsub
  refine lv_dup S.1 S.2.1 dX3_init_82 rfl ?_
  refine pk_cIV (As := []) (rest := [.ref k1, .ref t0]) S hK hST hW (c_X2_init m_k1 e_k1) mc_X2_init wd_69 wd_70 rfl rfl np_X2_init rfl hl.1 rfl (Nat.le_of_ble_eq_true rfl) dX3_init_83 ⟨by decide, by decide⟩ ⟨by decide, by decide⟩ (fun L_64 F_65 H_66 l_67 hp hW => ?_)
  obtain ⟨hsub1, m9, e9, hfr1⟩ := hp
  have e_t0 : F_65 t0 = .inr (8, [.ref r0, .ref r1, .ref r2, .ref r3, .ref w, .ref k0, .null, .int 0, .null, .null, .null]) := (hfr1 t0 m_t0 n_t0_k1).trans e_t0
  have e_r0 : F_65 r0 = .inr (5, [.ref ar0, .int 0]) := (hfr1 r0 m_r0 n_r0_k1).trans e_r0
  have e_ar0 : F_65 ar0 = .inl (κ 0, 20, .inl (fun _ => 0)) := (hfr1 ar0 m_ar0 n_ar0_k1).trans e_ar0
  have e_r1 : F_65 r1 = .inr (5, [.ref ar1, .int 0]) := (hfr1 r1 m_r1 n_r1_k1).trans e_r1
  have e_ar1 : F_65 ar1 = .inl (κ 0, 20, .inl (fun _ => 0)) := (hfr1 ar1 m_ar1 n_ar1_k1).trans e_ar1
  have e_r2 : F_65 r2 = .inr (5, [.ref ar2, .int 0]) := (hfr1 r2 m_r2 n_r2_k1).trans e_r2
  have e_ar2 : F_65 ar2 = .inl (κ 0, 12, .inl (fun _ => 0)) := (hfr1 ar2 m_ar2 n_ar2_k1).trans e_ar2
  have e_r3 : F_65 r3 = .inr (5, [.ref ar3, .int 0]) := (hfr1 r3 m_r3 n_r3_k1).trans e_r3
  have e_ar3 : F_65 ar3 = .inl (κ 0, 10, .inl (fun _ => 0)) := (hfr1 ar3 m_ar3 n_ar3_k1).trans e_ar3
  have e_w : F_65 w = .inr (6, [.int 0, .int 0, .int 0, .int (-1)]) := (hfr1 w m_w n_w_k1).trans e_w
  have e_k0 : F_65 k0 = .inr (7, [.int 0, .int 0, .int (-1)]) := (hfr1 k0 m_k0 n_k0_k1).trans e_k0
  have e_k1 := e9
  have hfr : ∀ x ∈ L, x ≠ t0 → F_65 x = F x := fun x hx hxt => (hfr1 x (hsub x hx) (fun (ee : x = k1) => hnw_k1 (ee ▸ hx))).trans (hfr x hx hxt)
  have m_t0 := hsub1 _ m_t0
  have m_r0 := hsub1 _ m_r0
  have m_ar0 := hsub1 _ m_ar0
  have m_r1 := hsub1 _ m_r1
  have m_ar1 := hsub1 _ m_ar1
  have m_r2 := hsub1 _ m_r2
  have m_ar2 := hsub1 _ m_ar2
  have m_r3 := hsub1 _ m_r3
  have m_ar3 := hsub1 _ m_ar3
  have m_w := hsub1 _ m_w
  have m_k0 := hsub1 _ m_k0
  have m_k1 := hsub1 _ m_k1
  have hsub : ∀ x ∈ L, x ∈ L_64 := fun x hx => hsub1 x (hsub x hx)
  refine pk_putF (v := .ref k1) S hK hW 6 m_t0 e_t0 rfl hinX3 tyX3_ok nmX3 (by decide) wd_86 rfl (hini rfl) rfl rfl rfl rfl (Nat.le_of_ble_eq_true rfl) dX3_init_86 (fun H_68 l_69 hW => ?_)
  have e_t0 : (va_up F_65 t0 (.inr (8, ([.ref r0, .ref r1, .ref r2, .ref r3, .ref w, .ref k0, .null, .int 0, .null, .null, .null] : List Value).set 6 (.ref k1)))) t0 = .inr (8, [.ref r0, .ref r1, .ref r2, .ref r3, .ref w, .ref k0, .ref k1, .int 0, .null, .null, .null]) := up_eq
  have e_r0 : (va_up F_65 t0 (.inr (8, ([.ref r0, .ref r1, .ref r2, .ref r3, .ref w, .ref k0, .null, .int 0, .null, .null, .null] : List Value).set 6 (.ref k1)))) r0 = .inr (5, [.ref ar0, .int 0]) := (up_ne n_t0_r0.symm).trans e_r0
  have e_ar0 : (va_up F_65 t0 (.inr (8, ([.ref r0, .ref r1, .ref r2, .ref r3, .ref w, .ref k0, .null, .int 0, .null, .null, .null] : List Value).set 6 (.ref k1)))) ar0 = .inl (κ 0, 20, .inl (fun _ => 0)) := (up_ne n_t0_ar0.symm).trans e_ar0
  have e_r1 : (va_up F_65 t0 (.inr (8, ([.ref r0, .ref r1, .ref r2, .ref r3, .ref w, .ref k0, .null, .int 0, .null, .null, .null] : List Value).set 6 (.ref k1)))) r1 = .inr (5, [.ref ar1, .int 0]) := (up_ne n_t0_r1.symm).trans e_r1
  have e_ar1 : (va_up F_65 t0 (.inr (8, ([.ref r0, .ref r1, .ref r2, .ref r3, .ref w, .ref k0, .null, .int 0, .null, .null, .null] : List Value).set 6 (.ref k1)))) ar1 = .inl (κ 0, 20, .inl (fun _ => 0)) := (up_ne n_t0_ar1.symm).trans e_ar1
  have e_r2 : (va_up F_65 t0 (.inr (8, ([.ref r0, .ref r1, .ref r2, .ref r3, .ref w, .ref k0, .null, .int 0, .null, .null, .null] : List Value).set 6 (.ref k1)))) r2 = .inr (5, [.ref ar2, .int 0]) := (up_ne n_t0_r2.symm).trans e_r2
  have e_ar2 : (va_up F_65 t0 (.inr (8, ([.ref r0, .ref r1, .ref r2, .ref r3, .ref w, .ref k0, .null, .int 0, .null, .null, .null] : List Value).set 6 (.ref k1)))) ar2 = .inl (κ 0, 12, .inl (fun _ => 0)) := (up_ne n_t0_ar2.symm).trans e_ar2
  have e_r3 : (va_up F_65 t0 (.inr (8, ([.ref r0, .ref r1, .ref r2, .ref r3, .ref w, .ref k0, .null, .int 0, .null, .null, .null] : List Value).set 6 (.ref k1)))) r3 = .inr (5, [.ref ar3, .int 0]) := (up_ne n_t0_r3.symm).trans e_r3
  have e_ar3 : (va_up F_65 t0 (.inr (8, ([.ref r0, .ref r1, .ref r2, .ref r3, .ref w, .ref k0, .null, .int 0, .null, .null, .null] : List Value).set 6 (.ref k1)))) ar3 = .inl (κ 0, 10, .inl (fun _ => 0)) := (up_ne n_t0_ar3.symm).trans e_ar3
  have e_w : (va_up F_65 t0 (.inr (8, ([.ref r0, .ref r1, .ref r2, .ref r3, .ref w, .ref k0, .null, .int 0, .null, .null, .null] : List Value).set 6 (.ref k1)))) w = .inr (6, [.int 0, .int 0, .int 0, .int (-1)]) := (up_ne n_t0_w.symm).trans e_w
  have e_k0 : (va_up F_65 t0 (.inr (8, ([.ref r0, .ref r1, .ref r2, .ref r3, .ref w, .ref k0, .null, .int 0, .null, .null, .null] : List Value).set 6 (.ref k1)))) k0 = .inr (7, [.int 0, .int 0, .int (-1)]) := (up_ne n_t0_k0.symm).trans e_k0
  have e_k1 : (va_up F_65 t0 (.inr (8, ([.ref r0, .ref r1, .ref r2, .ref r3, .ref w, .ref k0, .null, .int 0, .null, .null, .null] : List Value).set 6 (.ref k1)))) k1 = .inr (7, [.int 0, .int 0, .int (-1)]) := (up_ne n_t0_k1.symm).trans e_k1
  have hfr : ∀ x ∈ L, x ≠ t0 → (va_up F_65 t0 (.inr (8, ([.ref r0, .ref r1, .ref r2, .ref r3, .ref w, .ref k0, .null, .int 0, .null, .null, .null] : List Value).set 6 (.ref k1)))) x = F x := fun x hx hxt => (up_ne hxt).trans (hfr x hx hxt)
  generalize va_up F_65 t0 (.inr (8, ([.ref r0, .ref r1, .ref r2, .ref r3, .ref w, .ref k0, .null, .int 0, .null, .null, .null] : List Value).set 6 (.ref k1))) = F_70 at hW e_t0 e_r0 e_ar0 e_r1 e_ar1 e_r2 e_ar2 e_r3 e_ar3 e_w e_k0 e_k1 hfr
  refine lv_aload_n S.1 S.2.1 dX3_init_89 rfl (lv_at hl 0 rfl) ?_
  refine lv_iconst (v := 0) S.1 S.2.1 dX3_init_90 (by decide) ?_
  refine pk_put (v := .int 0) S hK hW 7 m_t0 e_t0 rfl hinX3 tyX3_ok nmX3 (by decide) wd_87 rfl rfl rfl rfl (Nat.le_of_ble_eq_true rfl) dX3_init_91 (fun H_71 l_72 hW => ?_)
  have e_t0 : (va_up F_70 t0 (.inr (8, ([.ref r0, .ref r1, .ref r2, .ref r3, .ref w, .ref k0, .ref k1, .int 0, .null, .null, .null] : List Value).set 7 (.int 0)))) t0 = .inr (8, [.ref r0, .ref r1, .ref r2, .ref r3, .ref w, .ref k0, .ref k1, .int 0, .null, .null, .null]) := up_eq
  have e_r0 : (va_up F_70 t0 (.inr (8, ([.ref r0, .ref r1, .ref r2, .ref r3, .ref w, .ref k0, .ref k1, .int 0, .null, .null, .null] : List Value).set 7 (.int 0)))) r0 = .inr (5, [.ref ar0, .int 0]) := (up_ne n_t0_r0.symm).trans e_r0
  have e_ar0 : (va_up F_70 t0 (.inr (8, ([.ref r0, .ref r1, .ref r2, .ref r3, .ref w, .ref k0, .ref k1, .int 0, .null, .null, .null] : List Value).set 7 (.int 0)))) ar0 = .inl (κ 0, 20, .inl (fun _ => 0)) := (up_ne n_t0_ar0.symm).trans e_ar0
  have e_r1 : (va_up F_70 t0 (.inr (8, ([.ref r0, .ref r1, .ref r2, .ref r3, .ref w, .ref k0, .ref k1, .int 0, .null, .null, .null] : List Value).set 7 (.int 0)))) r1 = .inr (5, [.ref ar1, .int 0]) := (up_ne n_t0_r1.symm).trans e_r1
  have e_ar1 : (va_up F_70 t0 (.inr (8, ([.ref r0, .ref r1, .ref r2, .ref r3, .ref w, .ref k0, .ref k1, .int 0, .null, .null, .null] : List Value).set 7 (.int 0)))) ar1 = .inl (κ 0, 20, .inl (fun _ => 0)) := (up_ne n_t0_ar1.symm).trans e_ar1
  have e_r2 : (va_up F_70 t0 (.inr (8, ([.ref r0, .ref r1, .ref r2, .ref r3, .ref w, .ref k0, .ref k1, .int 0, .null, .null, .null] : List Value).set 7 (.int 0)))) r2 = .inr (5, [.ref ar2, .int 0]) := (up_ne n_t0_r2.symm).trans e_r2
  have e_ar2 : (va_up F_70 t0 (.inr (8, ([.ref r0, .ref r1, .ref r2, .ref r3, .ref w, .ref k0, .ref k1, .int 0, .null, .null, .null] : List Value).set 7 (.int 0)))) ar2 = .inl (κ 0, 12, .inl (fun _ => 0)) := (up_ne n_t0_ar2.symm).trans e_ar2
  have e_r3 : (va_up F_70 t0 (.inr (8, ([.ref r0, .ref r1, .ref r2, .ref r3, .ref w, .ref k0, .ref k1, .int 0, .null, .null, .null] : List Value).set 7 (.int 0)))) r3 = .inr (5, [.ref ar3, .int 0]) := (up_ne n_t0_r3.symm).trans e_r3
  have e_ar3 : (va_up F_70 t0 (.inr (8, ([.ref r0, .ref r1, .ref r2, .ref r3, .ref w, .ref k0, .ref k1, .int 0, .null, .null, .null] : List Value).set 7 (.int 0)))) ar3 = .inl (κ 0, 10, .inl (fun _ => 0)) := (up_ne n_t0_ar3.symm).trans e_ar3
  have e_w : (va_up F_70 t0 (.inr (8, ([.ref r0, .ref r1, .ref r2, .ref r3, .ref w, .ref k0, .ref k1, .int 0, .null, .null, .null] : List Value).set 7 (.int 0)))) w = .inr (6, [.int 0, .int 0, .int 0, .int (-1)]) := (up_ne n_t0_w.symm).trans e_w
  have e_k0 : (va_up F_70 t0 (.inr (8, ([.ref r0, .ref r1, .ref r2, .ref r3, .ref w, .ref k0, .ref k1, .int 0, .null, .null, .null] : List Value).set 7 (.int 0)))) k0 = .inr (7, [.int 0, .int 0, .int (-1)]) := (up_ne n_t0_k0.symm).trans e_k0
  have e_k1 : (va_up F_70 t0 (.inr (8, ([.ref r0, .ref r1, .ref r2, .ref r3, .ref w, .ref k0, .ref k1, .int 0, .null, .null, .null] : List Value).set 7 (.int 0)))) k1 = .inr (7, [.int 0, .int 0, .int (-1)]) := (up_ne n_t0_k1.symm).trans e_k1
  have hfr : ∀ x ∈ L, x ≠ t0 → (va_up F_70 t0 (.inr (8, ([.ref r0, .ref r1, .ref r2, .ref r3, .ref w, .ref k0, .ref k1, .int 0, .null, .null, .null] : List Value).set 7 (.int 0)))) x = F x := fun x hx hxt => (up_ne hxt).trans (hfr x hx hxt)
  generalize va_up F_70 t0 (.inr (8, ([.ref r0, .ref r1, .ref r2, .ref r3, .ref w, .ref k0, .ref k1, .int 0, .null, .null, .null] : List Value).set 7 (.int 0))) = F_73 at hW e_t0 e_r0 e_ar0 e_r1 e_ar1 e_r2 e_ar2 e_r3 e_ar3 e_w e_k0 e_k1 hfr
  refine lv_aload_n S.1 S.2.1 dX3_init_94 rfl (lv_at hl 0 rfl) ?_
  refine pk_new (fs := [.null, .int 0]) (ci := 5) S hK hW hinX0 tyX0_ok wd_40 wd_41 wd_2 rfl (fun j hj => by match j, hj with | 0, _ => rfl | 1, _ => rfl | j + 2, hj => exact absurd hj (by omega)) (by decide) (by decide) dX3_init_95 (fun r4 H_74 hq_r4 hW => ?_)
  have n_t0_r4 : t0 ≠ r4 := fun ee => hq_r4 (ee ▸ m_t0)
  have n_r0_r4 : r0 ≠ r4 := fun ee => hq_r4 (ee ▸ m_r0)
  have n_ar0_r4 : ar0 ≠ r4 := fun ee => hq_r4 (ee ▸ m_ar0)
  have n_r1_r4 : r1 ≠ r4 := fun ee => hq_r4 (ee ▸ m_r1)
  have n_ar1_r4 : ar1 ≠ r4 := fun ee => hq_r4 (ee ▸ m_ar1)
  have n_r2_r4 : r2 ≠ r4 := fun ee => hq_r4 (ee ▸ m_r2)
  have n_ar2_r4 : ar2 ≠ r4 := fun ee => hq_r4 (ee ▸ m_ar2)
  have n_r3_r4 : r3 ≠ r4 := fun ee => hq_r4 (ee ▸ m_r3)
  have n_ar3_r4 : ar3 ≠ r4 := fun ee => hq_r4 (ee ▸ m_ar3)
  have n_w_r4 : w ≠ r4 := fun ee => hq_r4 (ee ▸ m_w)
  have n_k0_r4 : k0 ≠ r4 := fun ee => hq_r4 (ee ▸ m_k0)
  have n_k1_r4 : k1 ≠ r4 := fun ee => hq_r4 (ee ▸ m_k1)
  have e_t0 : (va_up F_73 r4 (.inr (5, [.null, .int 0]))) t0 = .inr (8, [.ref r0, .ref r1, .ref r2, .ref r3, .ref w, .ref k0, .ref k1, .int 0, .null, .null, .null]) := (up_ne n_t0_r4).trans e_t0
  have m_t0 := List.mem_append_left [r4] m_t0
  have e_r0 : (va_up F_73 r4 (.inr (5, [.null, .int 0]))) r0 = .inr (5, [.ref ar0, .int 0]) := (up_ne n_r0_r4).trans e_r0
  have m_r0 := List.mem_append_left [r4] m_r0
  have e_ar0 : (va_up F_73 r4 (.inr (5, [.null, .int 0]))) ar0 = .inl (κ 0, 20, .inl (fun _ => 0)) := (up_ne n_ar0_r4).trans e_ar0
  have m_ar0 := List.mem_append_left [r4] m_ar0
  have e_r1 : (va_up F_73 r4 (.inr (5, [.null, .int 0]))) r1 = .inr (5, [.ref ar1, .int 0]) := (up_ne n_r1_r4).trans e_r1
  have m_r1 := List.mem_append_left [r4] m_r1
  have e_ar1 : (va_up F_73 r4 (.inr (5, [.null, .int 0]))) ar1 = .inl (κ 0, 20, .inl (fun _ => 0)) := (up_ne n_ar1_r4).trans e_ar1
  have m_ar1 := List.mem_append_left [r4] m_ar1
  have e_r2 : (va_up F_73 r4 (.inr (5, [.null, .int 0]))) r2 = .inr (5, [.ref ar2, .int 0]) := (up_ne n_r2_r4).trans e_r2
  have m_r2 := List.mem_append_left [r4] m_r2
  have e_ar2 : (va_up F_73 r4 (.inr (5, [.null, .int 0]))) ar2 = .inl (κ 0, 12, .inl (fun _ => 0)) := (up_ne n_ar2_r4).trans e_ar2
  have m_ar2 := List.mem_append_left [r4] m_ar2
  have e_r3 : (va_up F_73 r4 (.inr (5, [.null, .int 0]))) r3 = .inr (5, [.ref ar3, .int 0]) := (up_ne n_r3_r4).trans e_r3
  have m_r3 := List.mem_append_left [r4] m_r3
  have e_ar3 : (va_up F_73 r4 (.inr (5, [.null, .int 0]))) ar3 = .inl (κ 0, 10, .inl (fun _ => 0)) := (up_ne n_ar3_r4).trans e_ar3
  have m_ar3 := List.mem_append_left [r4] m_ar3
  have e_w : (va_up F_73 r4 (.inr (5, [.null, .int 0]))) w = .inr (6, [.int 0, .int 0, .int 0, .int (-1)]) := (up_ne n_w_r4).trans e_w
  have m_w := List.mem_append_left [r4] m_w
  have e_k0 : (va_up F_73 r4 (.inr (5, [.null, .int 0]))) k0 = .inr (7, [.int 0, .int 0, .int (-1)]) := (up_ne n_k0_r4).trans e_k0
  have m_k0 := List.mem_append_left [r4] m_k0
  have e_k1 : (va_up F_73 r4 (.inr (5, [.null, .int 0]))) k1 = .inr (7, [.int 0, .int 0, .int (-1)]) := (up_ne n_k1_r4).trans e_k1
  have m_k1 := List.mem_append_left [r4] m_k1
  have e_r4 : (va_up F_73 r4 (.inr (5, [.null, .int 0]))) r4 = .inr (5, [.null, .int 0]) := up_eq
  have m_r4 : r4 ∈ L_64 ++ [r4] := List.mem_append_right _ (List.mem_singleton.mpr rfl)
  have hnw_r4 : r4 ∉ L := fun ee => hq_r4 (hsub _ ee)
  have hfr : ∀ x ∈ L, x ≠ t0 → (va_up F_73 r4 (.inr (5, [.null, .int 0]))) x = F x := fun x hx hxt => (up_ne (fun (ee : x = r4) => hnw_r4 (ee ▸ hx))).trans (hfr x hx hxt)
  have hsub : ∀ x ∈ L, x ∈ L_64 ++ [r4] := fun x hx => List.mem_append_left _ (hsub x hx)
  generalize va_up F_73 r4 (.inr (5, [.null, .int 0])) = F_75 at hW e_t0 e_r0 e_ar0 e_r1 e_ar1 e_r2 e_ar2 e_r3 e_ar3 e_w e_k0 e_k1 e_r4 hfr
  generalize L_64 ++ [r4] = L_76 at hW m_t0 m_r0 m_ar0 m_r1 m_ar1 m_r2 m_ar2 m_r3 m_ar3 m_w m_k0 m_k1 m_r4 hsub
  refine lv_dup S.1 S.2.1 dX3_init_98 rfl ?_
  refine lv_bipush (v := 20) S.1 S.2.1 dX3_init_99 (by decide) ?_
  refine pk_cIV (As := [.int 20]) (rest := [.ref r4, .ref t0]) S hK hST hW (c_X0_init m_r4 e_r4 20 (by decide) (by decide) (N := 20) (by decide) (by decide)) mc_X0_init wd_42 wd_43 rfl rfl np_X0_init rfl hl.1 rfl (Nat.le_of_ble_eq_true rfl) dX3_init_101 ⟨by decide, by decide⟩ ⟨by decide, by decide⟩ (fun L_77 F_78 H_79 l_80 hp hW => ?_)
  obtain ⟨hsub1, ar4, m_ar4, hq_ar4, m9, e9, e_ar4, hfr1⟩ := hp
  have n_t0_ar4 : t0 ≠ ar4 := fun ee => hq_ar4 (ee ▸ m_t0)
  have n_r0_ar4 : r0 ≠ ar4 := fun ee => hq_ar4 (ee ▸ m_r0)
  have n_ar0_ar4 : ar0 ≠ ar4 := fun ee => hq_ar4 (ee ▸ m_ar0)
  have n_r1_ar4 : r1 ≠ ar4 := fun ee => hq_ar4 (ee ▸ m_r1)
  have n_ar1_ar4 : ar1 ≠ ar4 := fun ee => hq_ar4 (ee ▸ m_ar1)
  have n_r2_ar4 : r2 ≠ ar4 := fun ee => hq_ar4 (ee ▸ m_r2)
  have n_ar2_ar4 : ar2 ≠ ar4 := fun ee => hq_ar4 (ee ▸ m_ar2)
  have n_r3_ar4 : r3 ≠ ar4 := fun ee => hq_ar4 (ee ▸ m_r3)
  have n_ar3_ar4 : ar3 ≠ ar4 := fun ee => hq_ar4 (ee ▸ m_ar3)
  have n_w_ar4 : w ≠ ar4 := fun ee => hq_ar4 (ee ▸ m_w)
  have n_k0_ar4 : k0 ≠ ar4 := fun ee => hq_ar4 (ee ▸ m_k0)
  have n_k1_ar4 : k1 ≠ ar4 := fun ee => hq_ar4 (ee ▸ m_k1)
  have n_r4_ar4 : r4 ≠ ar4 := fun ee => hq_ar4 (ee ▸ m_r4)
  have e_t0 : F_78 t0 = .inr (8, [.ref r0, .ref r1, .ref r2, .ref r3, .ref w, .ref k0, .ref k1, .int 0, .null, .null, .null]) := (hfr1 t0 m_t0 n_t0_r4).trans e_t0
  have e_r0 : F_78 r0 = .inr (5, [.ref ar0, .int 0]) := (hfr1 r0 m_r0 n_r0_r4).trans e_r0
  have e_ar0 : F_78 ar0 = .inl (κ 0, 20, .inl (fun _ => 0)) := (hfr1 ar0 m_ar0 n_ar0_r4).trans e_ar0
  have e_r1 : F_78 r1 = .inr (5, [.ref ar1, .int 0]) := (hfr1 r1 m_r1 n_r1_r4).trans e_r1
  have e_ar1 : F_78 ar1 = .inl (κ 0, 20, .inl (fun _ => 0)) := (hfr1 ar1 m_ar1 n_ar1_r4).trans e_ar1
  have e_r2 : F_78 r2 = .inr (5, [.ref ar2, .int 0]) := (hfr1 r2 m_r2 n_r2_r4).trans e_r2
  have e_ar2 : F_78 ar2 = .inl (κ 0, 12, .inl (fun _ => 0)) := (hfr1 ar2 m_ar2 n_ar2_r4).trans e_ar2
  have e_r3 : F_78 r3 = .inr (5, [.ref ar3, .int 0]) := (hfr1 r3 m_r3 n_r3_r4).trans e_r3
  have e_ar3 : F_78 ar3 = .inl (κ 0, 10, .inl (fun _ => 0)) := (hfr1 ar3 m_ar3 n_ar3_r4).trans e_ar3
  have e_w : F_78 w = .inr (6, [.int 0, .int 0, .int 0, .int (-1)]) := (hfr1 w m_w n_w_r4).trans e_w
  have e_k0 : F_78 k0 = .inr (7, [.int 0, .int 0, .int (-1)]) := (hfr1 k0 m_k0 n_k0_r4).trans e_k0
  have e_k1 : F_78 k1 = .inr (7, [.int 0, .int 0, .int (-1)]) := (hfr1 k1 m_k1 n_k1_r4).trans e_k1
  have e_r4 := e9
  have hfr : ∀ x ∈ L, x ≠ t0 → F_78 x = F x := fun x hx hxt => (hfr1 x (hsub x hx) (fun (ee : x = r4) => hnw_r4 (ee ▸ hx))).trans (hfr x hx hxt)
  have hnw_ar4 : ar4 ∉ L := fun ee => hq_ar4 (hsub _ ee)
  have m_t0 := hsub1 _ m_t0
  have m_r0 := hsub1 _ m_r0
  have m_ar0 := hsub1 _ m_ar0
  have m_r1 := hsub1 _ m_r1
  have m_ar1 := hsub1 _ m_ar1
  have m_r2 := hsub1 _ m_r2
  have m_ar2 := hsub1 _ m_ar2
  have m_r3 := hsub1 _ m_r3
  have m_ar3 := hsub1 _ m_ar3
  have m_w := hsub1 _ m_w
  have m_k0 := hsub1 _ m_k0
  have m_k1 := hsub1 _ m_k1
  have m_r4 := hsub1 _ m_r4
  have hsub : ∀ x ∈ L, x ∈ L_77 := fun x hx => hsub1 x (hsub x hx)
  refine pk_putF (v := .ref r4) S hK hW 8 m_t0 e_t0 rfl hinX3 tyX3_ok nmX3 (by decide) wd_88 rfl (hini rfl) rfl rfl rfl rfl (Nat.le_of_ble_eq_true rfl) dX3_init_104 (fun H_81 l_82 hW => ?_)
  have e_t0 : (va_up F_78 t0 (.inr (8, ([.ref r0, .ref r1, .ref r2, .ref r3, .ref w, .ref k0, .ref k1, .int 0, .null, .null, .null] : List Value).set 8 (.ref r4)))) t0 = .inr (8, [.ref r0, .ref r1, .ref r2, .ref r3, .ref w, .ref k0, .ref k1, .int 0, .ref r4, .null, .null]) := up_eq
  have e_r0 : (va_up F_78 t0 (.inr (8, ([.ref r0, .ref r1, .ref r2, .ref r3, .ref w, .ref k0, .ref k1, .int 0, .null, .null, .null] : List Value).set 8 (.ref r4)))) r0 = .inr (5, [.ref ar0, .int 0]) := (up_ne n_t0_r0.symm).trans e_r0
  have e_ar0 : (va_up F_78 t0 (.inr (8, ([.ref r0, .ref r1, .ref r2, .ref r3, .ref w, .ref k0, .ref k1, .int 0, .null, .null, .null] : List Value).set 8 (.ref r4)))) ar0 = .inl (κ 0, 20, .inl (fun _ => 0)) := (up_ne n_t0_ar0.symm).trans e_ar0
  have e_r1 : (va_up F_78 t0 (.inr (8, ([.ref r0, .ref r1, .ref r2, .ref r3, .ref w, .ref k0, .ref k1, .int 0, .null, .null, .null] : List Value).set 8 (.ref r4)))) r1 = .inr (5, [.ref ar1, .int 0]) := (up_ne n_t0_r1.symm).trans e_r1
  have e_ar1 : (va_up F_78 t0 (.inr (8, ([.ref r0, .ref r1, .ref r2, .ref r3, .ref w, .ref k0, .ref k1, .int 0, .null, .null, .null] : List Value).set 8 (.ref r4)))) ar1 = .inl (κ 0, 20, .inl (fun _ => 0)) := (up_ne n_t0_ar1.symm).trans e_ar1
  have e_r2 : (va_up F_78 t0 (.inr (8, ([.ref r0, .ref r1, .ref r2, .ref r3, .ref w, .ref k0, .ref k1, .int 0, .null, .null, .null] : List Value).set 8 (.ref r4)))) r2 = .inr (5, [.ref ar2, .int 0]) := (up_ne n_t0_r2.symm).trans e_r2
  have e_ar2 : (va_up F_78 t0 (.inr (8, ([.ref r0, .ref r1, .ref r2, .ref r3, .ref w, .ref k0, .ref k1, .int 0, .null, .null, .null] : List Value).set 8 (.ref r4)))) ar2 = .inl (κ 0, 12, .inl (fun _ => 0)) := (up_ne n_t0_ar2.symm).trans e_ar2
  have e_r3 : (va_up F_78 t0 (.inr (8, ([.ref r0, .ref r1, .ref r2, .ref r3, .ref w, .ref k0, .ref k1, .int 0, .null, .null, .null] : List Value).set 8 (.ref r4)))) r3 = .inr (5, [.ref ar3, .int 0]) := (up_ne n_t0_r3.symm).trans e_r3
  have e_ar3 : (va_up F_78 t0 (.inr (8, ([.ref r0, .ref r1, .ref r2, .ref r3, .ref w, .ref k0, .ref k1, .int 0, .null, .null, .null] : List Value).set 8 (.ref r4)))) ar3 = .inl (κ 0, 10, .inl (fun _ => 0)) := (up_ne n_t0_ar3.symm).trans e_ar3
  have e_w : (va_up F_78 t0 (.inr (8, ([.ref r0, .ref r1, .ref r2, .ref r3, .ref w, .ref k0, .ref k1, .int 0, .null, .null, .null] : List Value).set 8 (.ref r4)))) w = .inr (6, [.int 0, .int 0, .int 0, .int (-1)]) := (up_ne n_t0_w.symm).trans e_w
  have e_k0 : (va_up F_78 t0 (.inr (8, ([.ref r0, .ref r1, .ref r2, .ref r3, .ref w, .ref k0, .ref k1, .int 0, .null, .null, .null] : List Value).set 8 (.ref r4)))) k0 = .inr (7, [.int 0, .int 0, .int (-1)]) := (up_ne n_t0_k0.symm).trans e_k0
  have e_k1 : (va_up F_78 t0 (.inr (8, ([.ref r0, .ref r1, .ref r2, .ref r3, .ref w, .ref k0, .ref k1, .int 0, .null, .null, .null] : List Value).set 8 (.ref r4)))) k1 = .inr (7, [.int 0, .int 0, .int (-1)]) := (up_ne n_t0_k1.symm).trans e_k1
  have e_r4 : (va_up F_78 t0 (.inr (8, ([.ref r0, .ref r1, .ref r2, .ref r3, .ref w, .ref k0, .ref k1, .int 0, .null, .null, .null] : List Value).set 8 (.ref r4)))) r4 = .inr (5, [.ref ar4, .int 0]) := (up_ne n_t0_r4.symm).trans e_r4
  have e_ar4 : (va_up F_78 t0 (.inr (8, ([.ref r0, .ref r1, .ref r2, .ref r3, .ref w, .ref k0, .ref k1, .int 0, .null, .null, .null] : List Value).set 8 (.ref r4)))) ar4 = .inl (κ 0, 20, .inl (fun _ => 0)) := (up_ne n_t0_ar4.symm).trans e_ar4
  have hfr : ∀ x ∈ L, x ≠ t0 → (va_up F_78 t0 (.inr (8, ([.ref r0, .ref r1, .ref r2, .ref r3, .ref w, .ref k0, .ref k1, .int 0, .null, .null, .null] : List Value).set 8 (.ref r4)))) x = F x := fun x hx hxt => (up_ne hxt).trans (hfr x hx hxt)
  generalize va_up F_78 t0 (.inr (8, ([.ref r0, .ref r1, .ref r2, .ref r3, .ref w, .ref k0, .ref k1, .int 0, .null, .null, .null] : List Value).set 8 (.ref r4))) = F_83 at hW e_t0 e_r0 e_ar0 e_r1 e_ar1 e_r2 e_ar2 e_r3 e_ar3 e_w e_k0 e_k1 e_r4 e_ar4 hfr
  refine lv_aload_n S.1 S.2.1 dX3_init_107 rfl (lv_at hl 0 rfl) ?_
  refine pk_new (fs := [.null, .int 0]) (ci := 5) S hK hW hinX0 tyX0_ok wd_40 wd_41 wd_2 rfl (fun j hj => by match j, hj with | 0, _ => rfl | 1, _ => rfl | j + 2, hj => exact absurd hj (by omega)) (by decide) (by decide) dX3_init_108 (fun r5 H_84 hq_r5 hW => ?_)
  have n_t0_r5 : t0 ≠ r5 := fun ee => hq_r5 (ee ▸ m_t0)
  have n_r0_r5 : r0 ≠ r5 := fun ee => hq_r5 (ee ▸ m_r0)
  have n_ar0_r5 : ar0 ≠ r5 := fun ee => hq_r5 (ee ▸ m_ar0)
  have n_r1_r5 : r1 ≠ r5 := fun ee => hq_r5 (ee ▸ m_r1)
  have n_ar1_r5 : ar1 ≠ r5 := fun ee => hq_r5 (ee ▸ m_ar1)
  have n_r2_r5 : r2 ≠ r5 := fun ee => hq_r5 (ee ▸ m_r2)
  have n_ar2_r5 : ar2 ≠ r5 := fun ee => hq_r5 (ee ▸ m_ar2)
  have n_r3_r5 : r3 ≠ r5 := fun ee => hq_r5 (ee ▸ m_r3)
  have n_ar3_r5 : ar3 ≠ r5 := fun ee => hq_r5 (ee ▸ m_ar3)
  have n_w_r5 : w ≠ r5 := fun ee => hq_r5 (ee ▸ m_w)
  have n_k0_r5 : k0 ≠ r5 := fun ee => hq_r5 (ee ▸ m_k0)
  have n_k1_r5 : k1 ≠ r5 := fun ee => hq_r5 (ee ▸ m_k1)
  have n_r4_r5 : r4 ≠ r5 := fun ee => hq_r5 (ee ▸ m_r4)
  have n_ar4_r5 : ar4 ≠ r5 := fun ee => hq_r5 (ee ▸ m_ar4)
  have e_t0 : (va_up F_83 r5 (.inr (5, [.null, .int 0]))) t0 = .inr (8, [.ref r0, .ref r1, .ref r2, .ref r3, .ref w, .ref k0, .ref k1, .int 0, .ref r4, .null, .null]) := (up_ne n_t0_r5).trans e_t0
  have m_t0 := List.mem_append_left [r5] m_t0
  have e_r0 : (va_up F_83 r5 (.inr (5, [.null, .int 0]))) r0 = .inr (5, [.ref ar0, .int 0]) := (up_ne n_r0_r5).trans e_r0
  have m_r0 := List.mem_append_left [r5] m_r0
  have e_ar0 : (va_up F_83 r5 (.inr (5, [.null, .int 0]))) ar0 = .inl (κ 0, 20, .inl (fun _ => 0)) := (up_ne n_ar0_r5).trans e_ar0
  have m_ar0 := List.mem_append_left [r5] m_ar0
  have e_r1 : (va_up F_83 r5 (.inr (5, [.null, .int 0]))) r1 = .inr (5, [.ref ar1, .int 0]) := (up_ne n_r1_r5).trans e_r1
  have m_r1 := List.mem_append_left [r5] m_r1
  have e_ar1 : (va_up F_83 r5 (.inr (5, [.null, .int 0]))) ar1 = .inl (κ 0, 20, .inl (fun _ => 0)) := (up_ne n_ar1_r5).trans e_ar1
  have m_ar1 := List.mem_append_left [r5] m_ar1
  have e_r2 : (va_up F_83 r5 (.inr (5, [.null, .int 0]))) r2 = .inr (5, [.ref ar2, .int 0]) := (up_ne n_r2_r5).trans e_r2
  have m_r2 := List.mem_append_left [r5] m_r2
  have e_ar2 : (va_up F_83 r5 (.inr (5, [.null, .int 0]))) ar2 = .inl (κ 0, 12, .inl (fun _ => 0)) := (up_ne n_ar2_r5).trans e_ar2
  have m_ar2 := List.mem_append_left [r5] m_ar2
  have e_r3 : (va_up F_83 r5 (.inr (5, [.null, .int 0]))) r3 = .inr (5, [.ref ar3, .int 0]) := (up_ne n_r3_r5).trans e_r3
  have m_r3 := List.mem_append_left [r5] m_r3
  have e_ar3 : (va_up F_83 r5 (.inr (5, [.null, .int 0]))) ar3 = .inl (κ 0, 10, .inl (fun _ => 0)) := (up_ne n_ar3_r5).trans e_ar3
  have m_ar3 := List.mem_append_left [r5] m_ar3
  have e_w : (va_up F_83 r5 (.inr (5, [.null, .int 0]))) w = .inr (6, [.int 0, .int 0, .int 0, .int (-1)]) := (up_ne n_w_r5).trans e_w
  have m_w := List.mem_append_left [r5] m_w
  have e_k0 : (va_up F_83 r5 (.inr (5, [.null, .int 0]))) k0 = .inr (7, [.int 0, .int 0, .int (-1)]) := (up_ne n_k0_r5).trans e_k0
  have m_k0 := List.mem_append_left [r5] m_k0
  have e_k1 : (va_up F_83 r5 (.inr (5, [.null, .int 0]))) k1 = .inr (7, [.int 0, .int 0, .int (-1)]) := (up_ne n_k1_r5).trans e_k1
  have m_k1 := List.mem_append_left [r5] m_k1
  have e_r4 : (va_up F_83 r5 (.inr (5, [.null, .int 0]))) r4 = .inr (5, [.ref ar4, .int 0]) := (up_ne n_r4_r5).trans e_r4
  have m_r4 := List.mem_append_left [r5] m_r4
  have e_ar4 : (va_up F_83 r5 (.inr (5, [.null, .int 0]))) ar4 = .inl (κ 0, 20, .inl (fun _ => 0)) := (up_ne n_ar4_r5).trans e_ar4
  have m_ar4 := List.mem_append_left [r5] m_ar4
  have e_r5 : (va_up F_83 r5 (.inr (5, [.null, .int 0]))) r5 = .inr (5, [.null, .int 0]) := up_eq
  have m_r5 : r5 ∈ L_77 ++ [r5] := List.mem_append_right _ (List.mem_singleton.mpr rfl)
  have hnw_r5 : r5 ∉ L := fun ee => hq_r5 (hsub _ ee)
  have hfr : ∀ x ∈ L, x ≠ t0 → (va_up F_83 r5 (.inr (5, [.null, .int 0]))) x = F x := fun x hx hxt => (up_ne (fun (ee : x = r5) => hnw_r5 (ee ▸ hx))).trans (hfr x hx hxt)
  have hsub : ∀ x ∈ L, x ∈ L_77 ++ [r5] := fun x hx => List.mem_append_left _ (hsub x hx)
  generalize va_up F_83 r5 (.inr (5, [.null, .int 0])) = F_85 at hW e_t0 e_r0 e_ar0 e_r1 e_ar1 e_r2 e_ar2 e_r3 e_ar3 e_w e_k0 e_k1 e_r4 e_ar4 e_r5 hfr
  generalize L_77 ++ [r5] = L_86 at hW m_t0 m_r0 m_ar0 m_r1 m_ar1 m_r2 m_ar2 m_r3 m_ar3 m_w m_k0 m_k1 m_r4 m_ar4 m_r5 hsub
  refine lv_dup S.1 S.2.1 dX3_init_111 rfl ?_
  refine lv_bipush (v := 20) S.1 S.2.1 dX3_init_112 (by decide) ?_
  refine pk_cIV (As := [.int 20]) (rest := [.ref r5, .ref t0]) S hK hST hW (c_X0_init m_r5 e_r5 20 (by decide) (by decide) (N := 20) (by decide) (by decide)) mc_X0_init wd_42 wd_43 rfl rfl np_X0_init rfl hl.1 rfl (Nat.le_of_ble_eq_true rfl) dX3_init_114 ⟨by decide, by decide⟩ ⟨by decide, by decide⟩ (fun L_87 F_88 H_89 l_90 hp hW => ?_)
  obtain ⟨hsub1, ar5, m_ar5, hq_ar5, m9, e9, e_ar5, hfr1⟩ := hp
  have n_t0_ar5 : t0 ≠ ar5 := fun ee => hq_ar5 (ee ▸ m_t0)
  have n_r0_ar5 : r0 ≠ ar5 := fun ee => hq_ar5 (ee ▸ m_r0)
  have n_ar0_ar5 : ar0 ≠ ar5 := fun ee => hq_ar5 (ee ▸ m_ar0)
  have n_r1_ar5 : r1 ≠ ar5 := fun ee => hq_ar5 (ee ▸ m_r1)
  have n_ar1_ar5 : ar1 ≠ ar5 := fun ee => hq_ar5 (ee ▸ m_ar1)
  have n_r2_ar5 : r2 ≠ ar5 := fun ee => hq_ar5 (ee ▸ m_r2)
  have n_ar2_ar5 : ar2 ≠ ar5 := fun ee => hq_ar5 (ee ▸ m_ar2)
  have n_r3_ar5 : r3 ≠ ar5 := fun ee => hq_ar5 (ee ▸ m_r3)
  have n_ar3_ar5 : ar3 ≠ ar5 := fun ee => hq_ar5 (ee ▸ m_ar3)
  have n_w_ar5 : w ≠ ar5 := fun ee => hq_ar5 (ee ▸ m_w)
  have n_k0_ar5 : k0 ≠ ar5 := fun ee => hq_ar5 (ee ▸ m_k0)
  have n_k1_ar5 : k1 ≠ ar5 := fun ee => hq_ar5 (ee ▸ m_k1)
  have n_r4_ar5 : r4 ≠ ar5 := fun ee => hq_ar5 (ee ▸ m_r4)
  have n_ar4_ar5 : ar4 ≠ ar5 := fun ee => hq_ar5 (ee ▸ m_ar4)
  have n_r5_ar5 : r5 ≠ ar5 := fun ee => hq_ar5 (ee ▸ m_r5)
  have e_t0 : F_88 t0 = .inr (8, [.ref r0, .ref r1, .ref r2, .ref r3, .ref w, .ref k0, .ref k1, .int 0, .ref r4, .null, .null]) := (hfr1 t0 m_t0 n_t0_r5).trans e_t0
  have e_r0 : F_88 r0 = .inr (5, [.ref ar0, .int 0]) := (hfr1 r0 m_r0 n_r0_r5).trans e_r0
  have e_ar0 : F_88 ar0 = .inl (κ 0, 20, .inl (fun _ => 0)) := (hfr1 ar0 m_ar0 n_ar0_r5).trans e_ar0
  have e_r1 : F_88 r1 = .inr (5, [.ref ar1, .int 0]) := (hfr1 r1 m_r1 n_r1_r5).trans e_r1
  have e_ar1 : F_88 ar1 = .inl (κ 0, 20, .inl (fun _ => 0)) := (hfr1 ar1 m_ar1 n_ar1_r5).trans e_ar1
  have e_r2 : F_88 r2 = .inr (5, [.ref ar2, .int 0]) := (hfr1 r2 m_r2 n_r2_r5).trans e_r2
  have e_ar2 : F_88 ar2 = .inl (κ 0, 12, .inl (fun _ => 0)) := (hfr1 ar2 m_ar2 n_ar2_r5).trans e_ar2
  have e_r3 : F_88 r3 = .inr (5, [.ref ar3, .int 0]) := (hfr1 r3 m_r3 n_r3_r5).trans e_r3
  have e_ar3 : F_88 ar3 = .inl (κ 0, 10, .inl (fun _ => 0)) := (hfr1 ar3 m_ar3 n_ar3_r5).trans e_ar3
  have e_w : F_88 w = .inr (6, [.int 0, .int 0, .int 0, .int (-1)]) := (hfr1 w m_w n_w_r5).trans e_w
  have e_k0 : F_88 k0 = .inr (7, [.int 0, .int 0, .int (-1)]) := (hfr1 k0 m_k0 n_k0_r5).trans e_k0
  have e_k1 : F_88 k1 = .inr (7, [.int 0, .int 0, .int (-1)]) := (hfr1 k1 m_k1 n_k1_r5).trans e_k1
  have e_r4 : F_88 r4 = .inr (5, [.ref ar4, .int 0]) := (hfr1 r4 m_r4 n_r4_r5).trans e_r4
  have e_ar4 : F_88 ar4 = .inl (κ 0, 20, .inl (fun _ => 0)) := (hfr1 ar4 m_ar4 n_ar4_r5).trans e_ar4
  have e_r5 := e9
  have hfr : ∀ x ∈ L, x ≠ t0 → F_88 x = F x := fun x hx hxt => (hfr1 x (hsub x hx) (fun (ee : x = r5) => hnw_r5 (ee ▸ hx))).trans (hfr x hx hxt)
  have hnw_ar5 : ar5 ∉ L := fun ee => hq_ar5 (hsub _ ee)
  have m_t0 := hsub1 _ m_t0
  have m_r0 := hsub1 _ m_r0
  have m_ar0 := hsub1 _ m_ar0
  have m_r1 := hsub1 _ m_r1
  have m_ar1 := hsub1 _ m_ar1
  have m_r2 := hsub1 _ m_r2
  have m_ar2 := hsub1 _ m_ar2
  have m_r3 := hsub1 _ m_r3
  have m_ar3 := hsub1 _ m_ar3
  have m_w := hsub1 _ m_w
  have m_k0 := hsub1 _ m_k0
  have m_k1 := hsub1 _ m_k1
  have m_r4 := hsub1 _ m_r4
  have m_ar4 := hsub1 _ m_ar4
  have m_r5 := hsub1 _ m_r5
  have hsub : ∀ x ∈ L, x ∈ L_87 := fun x hx => hsub1 x (hsub x hx)
  refine pk_putF (v := .ref r5) S hK hW 9 m_t0 e_t0 rfl hinX3 tyX3_ok nmX3 (by decide) wd_89 rfl (hini rfl) rfl rfl rfl rfl (Nat.le_of_ble_eq_true rfl) dX3_init_117 (fun H_91 l_92 hW => ?_)
  have e_t0 : (va_up F_88 t0 (.inr (8, ([.ref r0, .ref r1, .ref r2, .ref r3, .ref w, .ref k0, .ref k1, .int 0, .ref r4, .null, .null] : List Value).set 9 (.ref r5)))) t0 = .inr (8, [.ref r0, .ref r1, .ref r2, .ref r3, .ref w, .ref k0, .ref k1, .int 0, .ref r4, .ref r5, .null]) := up_eq
  have e_r0 : (va_up F_88 t0 (.inr (8, ([.ref r0, .ref r1, .ref r2, .ref r3, .ref w, .ref k0, .ref k1, .int 0, .ref r4, .null, .null] : List Value).set 9 (.ref r5)))) r0 = .inr (5, [.ref ar0, .int 0]) := (up_ne n_t0_r0.symm).trans e_r0
  have e_ar0 : (va_up F_88 t0 (.inr (8, ([.ref r0, .ref r1, .ref r2, .ref r3, .ref w, .ref k0, .ref k1, .int 0, .ref r4, .null, .null] : List Value).set 9 (.ref r5)))) ar0 = .inl (κ 0, 20, .inl (fun _ => 0)) := (up_ne n_t0_ar0.symm).trans e_ar0
  have e_r1 : (va_up F_88 t0 (.inr (8, ([.ref r0, .ref r1, .ref r2, .ref r3, .ref w, .ref k0, .ref k1, .int 0, .ref r4, .null, .null] : List Value).set 9 (.ref r5)))) r1 = .inr (5, [.ref ar1, .int 0]) := (up_ne n_t0_r1.symm).trans e_r1
  have e_ar1 : (va_up F_88 t0 (.inr (8, ([.ref r0, .ref r1, .ref r2, .ref r3, .ref w, .ref k0, .ref k1, .int 0, .ref r4, .null, .null] : List Value).set 9 (.ref r5)))) ar1 = .inl (κ 0, 20, .inl (fun _ => 0)) := (up_ne n_t0_ar1.symm).trans e_ar1
  have e_r2 : (va_up F_88 t0 (.inr (8, ([.ref r0, .ref r1, .ref r2, .ref r3, .ref w, .ref k0, .ref k1, .int 0, .ref r4, .null, .null] : List Value).set 9 (.ref r5)))) r2 = .inr (5, [.ref ar2, .int 0]) := (up_ne n_t0_r2.symm).trans e_r2
  have e_ar2 : (va_up F_88 t0 (.inr (8, ([.ref r0, .ref r1, .ref r2, .ref r3, .ref w, .ref k0, .ref k1, .int 0, .ref r4, .null, .null] : List Value).set 9 (.ref r5)))) ar2 = .inl (κ 0, 12, .inl (fun _ => 0)) := (up_ne n_t0_ar2.symm).trans e_ar2
  have e_r3 : (va_up F_88 t0 (.inr (8, ([.ref r0, .ref r1, .ref r2, .ref r3, .ref w, .ref k0, .ref k1, .int 0, .ref r4, .null, .null] : List Value).set 9 (.ref r5)))) r3 = .inr (5, [.ref ar3, .int 0]) := (up_ne n_t0_r3.symm).trans e_r3
  have e_ar3 : (va_up F_88 t0 (.inr (8, ([.ref r0, .ref r1, .ref r2, .ref r3, .ref w, .ref k0, .ref k1, .int 0, .ref r4, .null, .null] : List Value).set 9 (.ref r5)))) ar3 = .inl (κ 0, 10, .inl (fun _ => 0)) := (up_ne n_t0_ar3.symm).trans e_ar3
  have e_w : (va_up F_88 t0 (.inr (8, ([.ref r0, .ref r1, .ref r2, .ref r3, .ref w, .ref k0, .ref k1, .int 0, .ref r4, .null, .null] : List Value).set 9 (.ref r5)))) w = .inr (6, [.int 0, .int 0, .int 0, .int (-1)]) := (up_ne n_t0_w.symm).trans e_w
  have e_k0 : (va_up F_88 t0 (.inr (8, ([.ref r0, .ref r1, .ref r2, .ref r3, .ref w, .ref k0, .ref k1, .int 0, .ref r4, .null, .null] : List Value).set 9 (.ref r5)))) k0 = .inr (7, [.int 0, .int 0, .int (-1)]) := (up_ne n_t0_k0.symm).trans e_k0
  have e_k1 : (va_up F_88 t0 (.inr (8, ([.ref r0, .ref r1, .ref r2, .ref r3, .ref w, .ref k0, .ref k1, .int 0, .ref r4, .null, .null] : List Value).set 9 (.ref r5)))) k1 = .inr (7, [.int 0, .int 0, .int (-1)]) := (up_ne n_t0_k1.symm).trans e_k1
  have e_r4 : (va_up F_88 t0 (.inr (8, ([.ref r0, .ref r1, .ref r2, .ref r3, .ref w, .ref k0, .ref k1, .int 0, .ref r4, .null, .null] : List Value).set 9 (.ref r5)))) r4 = .inr (5, [.ref ar4, .int 0]) := (up_ne n_t0_r4.symm).trans e_r4
  have e_ar4 : (va_up F_88 t0 (.inr (8, ([.ref r0, .ref r1, .ref r2, .ref r3, .ref w, .ref k0, .ref k1, .int 0, .ref r4, .null, .null] : List Value).set 9 (.ref r5)))) ar4 = .inl (κ 0, 20, .inl (fun _ => 0)) := (up_ne n_t0_ar4.symm).trans e_ar4
  have e_r5 : (va_up F_88 t0 (.inr (8, ([.ref r0, .ref r1, .ref r2, .ref r3, .ref w, .ref k0, .ref k1, .int 0, .ref r4, .null, .null] : List Value).set 9 (.ref r5)))) r5 = .inr (5, [.ref ar5, .int 0]) := (up_ne n_t0_r5.symm).trans e_r5
  have e_ar5 : (va_up F_88 t0 (.inr (8, ([.ref r0, .ref r1, .ref r2, .ref r3, .ref w, .ref k0, .ref k1, .int 0, .ref r4, .null, .null] : List Value).set 9 (.ref r5)))) ar5 = .inl (κ 0, 20, .inl (fun _ => 0)) := (up_ne n_t0_ar5.symm).trans e_ar5
  have hfr : ∀ x ∈ L, x ≠ t0 → (va_up F_88 t0 (.inr (8, ([.ref r0, .ref r1, .ref r2, .ref r3, .ref w, .ref k0, .ref k1, .int 0, .ref r4, .null, .null] : List Value).set 9 (.ref r5)))) x = F x := fun x hx hxt => (up_ne hxt).trans (hfr x hx hxt)
  generalize va_up F_88 t0 (.inr (8, ([.ref r0, .ref r1, .ref r2, .ref r3, .ref w, .ref k0, .ref k1, .int 0, .ref r4, .null, .null] : List Value).set 9 (.ref r5))) = F_93 at hW e_t0 e_r0 e_ar0 e_r1 e_ar1 e_r2 e_ar2 e_r3 e_ar3 e_w e_k0 e_k1 e_r4 e_ar4 e_r5 e_ar5 hfr
  refine lv_aload_n S.1 S.2.1 dX3_init_120 rfl (lv_at hl 0 rfl) ?_
  refine pk_new (fs := [.null, .int 0]) (ci := 5) S hK hW hinX0 tyX0_ok wd_40 wd_41 wd_2 rfl (fun j hj => by match j, hj with | 0, _ => rfl | 1, _ => rfl | j + 2, hj => exact absurd hj (by omega)) (by decide) (by decide) dX3_init_121 (fun r6 H_94 hq_r6 hW => ?_)
  have n_t0_r6 : t0 ≠ r6 := fun ee => hq_r6 (ee ▸ m_t0)
  have n_r0_r6 : r0 ≠ r6 := fun ee => hq_r6 (ee ▸ m_r0)
  have n_ar0_r6 : ar0 ≠ r6 := fun ee => hq_r6 (ee ▸ m_ar0)
  have n_r1_r6 : r1 ≠ r6 := fun ee => hq_r6 (ee ▸ m_r1)
  have n_ar1_r6 : ar1 ≠ r6 := fun ee => hq_r6 (ee ▸ m_ar1)
  have n_r2_r6 : r2 ≠ r6 := fun ee => hq_r6 (ee ▸ m_r2)
  have n_ar2_r6 : ar2 ≠ r6 := fun ee => hq_r6 (ee ▸ m_ar2)
  have n_r3_r6 : r3 ≠ r6 := fun ee => hq_r6 (ee ▸ m_r3)
  have n_ar3_r6 : ar3 ≠ r6 := fun ee => hq_r6 (ee ▸ m_ar3)
  have n_w_r6 : w ≠ r6 := fun ee => hq_r6 (ee ▸ m_w)
  have n_k0_r6 : k0 ≠ r6 := fun ee => hq_r6 (ee ▸ m_k0)
  have n_k1_r6 : k1 ≠ r6 := fun ee => hq_r6 (ee ▸ m_k1)
  have n_r4_r6 : r4 ≠ r6 := fun ee => hq_r6 (ee ▸ m_r4)
  have n_ar4_r6 : ar4 ≠ r6 := fun ee => hq_r6 (ee ▸ m_ar4)
  have n_r5_r6 : r5 ≠ r6 := fun ee => hq_r6 (ee ▸ m_r5)
  have n_ar5_r6 : ar5 ≠ r6 := fun ee => hq_r6 (ee ▸ m_ar5)
  have e_t0 : (va_up F_93 r6 (.inr (5, [.null, .int 0]))) t0 = .inr (8, [.ref r0, .ref r1, .ref r2, .ref r3, .ref w, .ref k0, .ref k1, .int 0, .ref r4, .ref r5, .null]) := (up_ne n_t0_r6).trans e_t0
  have m_t0 := List.mem_append_left [r6] m_t0
  have e_r0 : (va_up F_93 r6 (.inr (5, [.null, .int 0]))) r0 = .inr (5, [.ref ar0, .int 0]) := (up_ne n_r0_r6).trans e_r0
  have m_r0 := List.mem_append_left [r6] m_r0
  have e_ar0 : (va_up F_93 r6 (.inr (5, [.null, .int 0]))) ar0 = .inl (κ 0, 20, .inl (fun _ => 0)) := (up_ne n_ar0_r6).trans e_ar0
  have m_ar0 := List.mem_append_left [r6] m_ar0
  have e_r1 : (va_up F_93 r6 (.inr (5, [.null, .int 0]))) r1 = .inr (5, [.ref ar1, .int 0]) := (up_ne n_r1_r6).trans e_r1
  have m_r1 := List.mem_append_left [r6] m_r1
  have e_ar1 : (va_up F_93 r6 (.inr (5, [.null, .int 0]))) ar1 = .inl (κ 0, 20, .inl (fun _ => 0)) := (up_ne n_ar1_r6).trans e_ar1
  have m_ar1 := List.mem_append_left [r6] m_ar1
  have e_r2 : (va_up F_93 r6 (.inr (5, [.null, .int 0]))) r2 = .inr (5, [.ref ar2, .int 0]) := (up_ne n_r2_r6).trans e_r2
  have m_r2 := List.mem_append_left [r6] m_r2
  have e_ar2 : (va_up F_93 r6 (.inr (5, [.null, .int 0]))) ar2 = .inl (κ 0, 12, .inl (fun _ => 0)) := (up_ne n_ar2_r6).trans e_ar2
  have m_ar2 := List.mem_append_left [r6] m_ar2
  have e_r3 : (va_up F_93 r6 (.inr (5, [.null, .int 0]))) r3 = .inr (5, [.ref ar3, .int 0]) := (up_ne n_r3_r6).trans e_r3
  have m_r3 := List.mem_append_left [r6] m_r3
  have e_ar3 : (va_up F_93 r6 (.inr (5, [.null, .int 0]))) ar3 = .inl (κ 0, 10, .inl (fun _ => 0)) := (up_ne n_ar3_r6).trans e_ar3
  have m_ar3 := List.mem_append_left [r6] m_ar3
  have e_w : (va_up F_93 r6 (.inr (5, [.null, .int 0]))) w = .inr (6, [.int 0, .int 0, .int 0, .int (-1)]) := (up_ne n_w_r6).trans e_w
  have m_w := List.mem_append_left [r6] m_w
  have e_k0 : (va_up F_93 r6 (.inr (5, [.null, .int 0]))) k0 = .inr (7, [.int 0, .int 0, .int (-1)]) := (up_ne n_k0_r6).trans e_k0
  have m_k0 := List.mem_append_left [r6] m_k0
  have e_k1 : (va_up F_93 r6 (.inr (5, [.null, .int 0]))) k1 = .inr (7, [.int 0, .int 0, .int (-1)]) := (up_ne n_k1_r6).trans e_k1
  have m_k1 := List.mem_append_left [r6] m_k1
  have e_r4 : (va_up F_93 r6 (.inr (5, [.null, .int 0]))) r4 = .inr (5, [.ref ar4, .int 0]) := (up_ne n_r4_r6).trans e_r4
  have m_r4 := List.mem_append_left [r6] m_r4
  have e_ar4 : (va_up F_93 r6 (.inr (5, [.null, .int 0]))) ar4 = .inl (κ 0, 20, .inl (fun _ => 0)) := (up_ne n_ar4_r6).trans e_ar4
  have m_ar4 := List.mem_append_left [r6] m_ar4
  have e_r5 : (va_up F_93 r6 (.inr (5, [.null, .int 0]))) r5 = .inr (5, [.ref ar5, .int 0]) := (up_ne n_r5_r6).trans e_r5
  have m_r5 := List.mem_append_left [r6] m_r5
  have e_ar5 : (va_up F_93 r6 (.inr (5, [.null, .int 0]))) ar5 = .inl (κ 0, 20, .inl (fun _ => 0)) := (up_ne n_ar5_r6).trans e_ar5
  have m_ar5 := List.mem_append_left [r6] m_ar5
  have e_r6 : (va_up F_93 r6 (.inr (5, [.null, .int 0]))) r6 = .inr (5, [.null, .int 0]) := up_eq
  have m_r6 : r6 ∈ L_87 ++ [r6] := List.mem_append_right _ (List.mem_singleton.mpr rfl)
  have hnw_r6 : r6 ∉ L := fun ee => hq_r6 (hsub _ ee)
  have hfr : ∀ x ∈ L, x ≠ t0 → (va_up F_93 r6 (.inr (5, [.null, .int 0]))) x = F x := fun x hx hxt => (up_ne (fun (ee : x = r6) => hnw_r6 (ee ▸ hx))).trans (hfr x hx hxt)
  have hsub : ∀ x ∈ L, x ∈ L_87 ++ [r6] := fun x hx => List.mem_append_left _ (hsub x hx)
  generalize va_up F_93 r6 (.inr (5, [.null, .int 0])) = F_95 at hW e_t0 e_r0 e_ar0 e_r1 e_ar1 e_r2 e_ar2 e_r3 e_ar3 e_w e_k0 e_k1 e_r4 e_ar4 e_r5 e_ar5 e_r6 hfr
  generalize L_87 ++ [r6] = L_96 at hW m_t0 m_r0 m_ar0 m_r1 m_ar1 m_r2 m_ar2 m_r3 m_ar3 m_w m_k0 m_k1 m_r4 m_ar4 m_r5 m_ar5 m_r6 hsub
  refine lv_dup S.1 S.2.1 dX3_init_124 rfl ?_
  refine lv_bipush (v := 20) S.1 S.2.1 dX3_init_125 (by decide) ?_
  refine pk_cIV (As := [.int 20]) (rest := [.ref r6, .ref t0]) S hK hST hW (c_X0_init m_r6 e_r6 20 (by decide) (by decide) (N := 20) (by decide) (by decide)) mc_X0_init wd_42 wd_43 rfl rfl np_X0_init rfl hl.1 rfl (Nat.le_of_ble_eq_true rfl) dX3_init_127 ⟨by decide, by decide⟩ ⟨by decide, by decide⟩ (fun L_97 F_98 H_99 l_100 hp hW => ?_)
  obtain ⟨hsub1, ar6, m_ar6, hq_ar6, m9, e9, e_ar6, hfr1⟩ := hp
  have n_t0_ar6 : t0 ≠ ar6 := fun ee => hq_ar6 (ee ▸ m_t0)
  have n_r0_ar6 : r0 ≠ ar6 := fun ee => hq_ar6 (ee ▸ m_r0)
  have n_ar0_ar6 : ar0 ≠ ar6 := fun ee => hq_ar6 (ee ▸ m_ar0)
  have n_r1_ar6 : r1 ≠ ar6 := fun ee => hq_ar6 (ee ▸ m_r1)
  have n_ar1_ar6 : ar1 ≠ ar6 := fun ee => hq_ar6 (ee ▸ m_ar1)
  have n_r2_ar6 : r2 ≠ ar6 := fun ee => hq_ar6 (ee ▸ m_r2)
  have n_ar2_ar6 : ar2 ≠ ar6 := fun ee => hq_ar6 (ee ▸ m_ar2)
  have n_r3_ar6 : r3 ≠ ar6 := fun ee => hq_ar6 (ee ▸ m_r3)
  have n_ar3_ar6 : ar3 ≠ ar6 := fun ee => hq_ar6 (ee ▸ m_ar3)
  have n_w_ar6 : w ≠ ar6 := fun ee => hq_ar6 (ee ▸ m_w)
  have n_k0_ar6 : k0 ≠ ar6 := fun ee => hq_ar6 (ee ▸ m_k0)
  have n_k1_ar6 : k1 ≠ ar6 := fun ee => hq_ar6 (ee ▸ m_k1)
  have n_r4_ar6 : r4 ≠ ar6 := fun ee => hq_ar6 (ee ▸ m_r4)
  have n_ar4_ar6 : ar4 ≠ ar6 := fun ee => hq_ar6 (ee ▸ m_ar4)
  have n_r5_ar6 : r5 ≠ ar6 := fun ee => hq_ar6 (ee ▸ m_r5)
  have n_ar5_ar6 : ar5 ≠ ar6 := fun ee => hq_ar6 (ee ▸ m_ar5)
  have n_r6_ar6 : r6 ≠ ar6 := fun ee => hq_ar6 (ee ▸ m_r6)
  have e_t0 : F_98 t0 = .inr (8, [.ref r0, .ref r1, .ref r2, .ref r3, .ref w, .ref k0, .ref k1, .int 0, .ref r4, .ref r5, .null]) := (hfr1 t0 m_t0 n_t0_r6).trans e_t0
  have e_r0 : F_98 r0 = .inr (5, [.ref ar0, .int 0]) := (hfr1 r0 m_r0 n_r0_r6).trans e_r0
  have e_ar0 : F_98 ar0 = .inl (κ 0, 20, .inl (fun _ => 0)) := (hfr1 ar0 m_ar0 n_ar0_r6).trans e_ar0
  have e_r1 : F_98 r1 = .inr (5, [.ref ar1, .int 0]) := (hfr1 r1 m_r1 n_r1_r6).trans e_r1
  have e_ar1 : F_98 ar1 = .inl (κ 0, 20, .inl (fun _ => 0)) := (hfr1 ar1 m_ar1 n_ar1_r6).trans e_ar1
  have e_r2 : F_98 r2 = .inr (5, [.ref ar2, .int 0]) := (hfr1 r2 m_r2 n_r2_r6).trans e_r2
  have e_ar2 : F_98 ar2 = .inl (κ 0, 12, .inl (fun _ => 0)) := (hfr1 ar2 m_ar2 n_ar2_r6).trans e_ar2
  have e_r3 : F_98 r3 = .inr (5, [.ref ar3, .int 0]) := (hfr1 r3 m_r3 n_r3_r6).trans e_r3
  have e_ar3 : F_98 ar3 = .inl (κ 0, 10, .inl (fun _ => 0)) := (hfr1 ar3 m_ar3 n_ar3_r6).trans e_ar3
  have e_w : F_98 w = .inr (6, [.int 0, .int 0, .int 0, .int (-1)]) := (hfr1 w m_w n_w_r6).trans e_w
  have e_k0 : F_98 k0 = .inr (7, [.int 0, .int 0, .int (-1)]) := (hfr1 k0 m_k0 n_k0_r6).trans e_k0
  have e_k1 : F_98 k1 = .inr (7, [.int 0, .int 0, .int (-1)]) := (hfr1 k1 m_k1 n_k1_r6).trans e_k1
  have e_r4 : F_98 r4 = .inr (5, [.ref ar4, .int 0]) := (hfr1 r4 m_r4 n_r4_r6).trans e_r4
  have e_ar4 : F_98 ar4 = .inl (κ 0, 20, .inl (fun _ => 0)) := (hfr1 ar4 m_ar4 n_ar4_r6).trans e_ar4
  have e_r5 : F_98 r5 = .inr (5, [.ref ar5, .int 0]) := (hfr1 r5 m_r5 n_r5_r6).trans e_r5
  have e_ar5 : F_98 ar5 = .inl (κ 0, 20, .inl (fun _ => 0)) := (hfr1 ar5 m_ar5 n_ar5_r6).trans e_ar5
  have e_r6 := e9
  have hfr : ∀ x ∈ L, x ≠ t0 → F_98 x = F x := fun x hx hxt => (hfr1 x (hsub x hx) (fun (ee : x = r6) => hnw_r6 (ee ▸ hx))).trans (hfr x hx hxt)
  have hnw_ar6 : ar6 ∉ L := fun ee => hq_ar6 (hsub _ ee)
  have m_t0 := hsub1 _ m_t0
  have m_r0 := hsub1 _ m_r0
  have m_ar0 := hsub1 _ m_ar0
  have m_r1 := hsub1 _ m_r1
  have m_ar1 := hsub1 _ m_ar1
  have m_r2 := hsub1 _ m_r2
  have m_ar2 := hsub1 _ m_ar2
  have m_r3 := hsub1 _ m_r3
  have m_ar3 := hsub1 _ m_ar3
  have m_w := hsub1 _ m_w
  have m_k0 := hsub1 _ m_k0
  have m_k1 := hsub1 _ m_k1
  have m_r4 := hsub1 _ m_r4
  have m_ar4 := hsub1 _ m_ar4
  have m_r5 := hsub1 _ m_r5
  have m_ar5 := hsub1 _ m_ar5
  have m_r6 := hsub1 _ m_r6
  have hsub : ∀ x ∈ L, x ∈ L_97 := fun x hx => hsub1 x (hsub x hx)
  refine pk_putF (v := .ref r6) S hK hW 10 m_t0 e_t0 rfl hinX3 tyX3_ok nmX3 (by decide) wd_90 rfl (hini rfl) rfl rfl rfl rfl (Nat.le_of_ble_eq_true rfl) dX3_init_130 (fun H_101 l_102 hW => ?_)
  have e_t0 : (va_up F_98 t0 (.inr (8, ([.ref r0, .ref r1, .ref r2, .ref r3, .ref w, .ref k0, .ref k1, .int 0, .ref r4, .ref r5, .null] : List Value).set 10 (.ref r6)))) t0 = .inr (8, [.ref r0, .ref r1, .ref r2, .ref r3, .ref w, .ref k0, .ref k1, .int 0, .ref r4, .ref r5, .ref r6]) := up_eq
  have e_r0 : (va_up F_98 t0 (.inr (8, ([.ref r0, .ref r1, .ref r2, .ref r3, .ref w, .ref k0, .ref k1, .int 0, .ref r4, .ref r5, .null] : List Value).set 10 (.ref r6)))) r0 = .inr (5, [.ref ar0, .int 0]) := (up_ne n_t0_r0.symm).trans e_r0
  have e_ar0 : (va_up F_98 t0 (.inr (8, ([.ref r0, .ref r1, .ref r2, .ref r3, .ref w, .ref k0, .ref k1, .int 0, .ref r4, .ref r5, .null] : List Value).set 10 (.ref r6)))) ar0 = .inl (κ 0, 20, .inl (fun _ => 0)) := (up_ne n_t0_ar0.symm).trans e_ar0
  have e_r1 : (va_up F_98 t0 (.inr (8, ([.ref r0, .ref r1, .ref r2, .ref r3, .ref w, .ref k0, .ref k1, .int 0, .ref r4, .ref r5, .null] : List Value).set 10 (.ref r6)))) r1 = .inr (5, [.ref ar1, .int 0]) := (up_ne n_t0_r1.symm).trans e_r1
  have e_ar1 : (va_up F_98 t0 (.inr (8, ([.ref r0, .ref r1, .ref r2, .ref r3, .ref w, .ref k0, .ref k1, .int 0, .ref r4, .ref r5, .null] : List Value).set 10 (.ref r6)))) ar1 = .inl (κ 0, 20, .inl (fun _ => 0)) := (up_ne n_t0_ar1.symm).trans e_ar1
  have e_r2 : (va_up F_98 t0 (.inr (8, ([.ref r0, .ref r1, .ref r2, .ref r3, .ref w, .ref k0, .ref k1, .int 0, .ref r4, .ref r5, .null] : List Value).set 10 (.ref r6)))) r2 = .inr (5, [.ref ar2, .int 0]) := (up_ne n_t0_r2.symm).trans e_r2
  have e_ar2 : (va_up F_98 t0 (.inr (8, ([.ref r0, .ref r1, .ref r2, .ref r3, .ref w, .ref k0, .ref k1, .int 0, .ref r4, .ref r5, .null] : List Value).set 10 (.ref r6)))) ar2 = .inl (κ 0, 12, .inl (fun _ => 0)) := (up_ne n_t0_ar2.symm).trans e_ar2
  have e_r3 : (va_up F_98 t0 (.inr (8, ([.ref r0, .ref r1, .ref r2, .ref r3, .ref w, .ref k0, .ref k1, .int 0, .ref r4, .ref r5, .null] : List Value).set 10 (.ref r6)))) r3 = .inr (5, [.ref ar3, .int 0]) := (up_ne n_t0_r3.symm).trans e_r3
  have e_ar3 : (va_up F_98 t0 (.inr (8, ([.ref r0, .ref r1, .ref r2, .ref r3, .ref w, .ref k0, .ref k1, .int 0, .ref r4, .ref r5, .null] : List Value).set 10 (.ref r6)))) ar3 = .inl (κ 0, 10, .inl (fun _ => 0)) := (up_ne n_t0_ar3.symm).trans e_ar3
  have e_w : (va_up F_98 t0 (.inr (8, ([.ref r0, .ref r1, .ref r2, .ref r3, .ref w, .ref k0, .ref k1, .int 0, .ref r4, .ref r5, .null] : List Value).set 10 (.ref r6)))) w = .inr (6, [.int 0, .int 0, .int 0, .int (-1)]) := (up_ne n_t0_w.symm).trans e_w
  have e_k0 : (va_up F_98 t0 (.inr (8, ([.ref r0, .ref r1, .ref r2, .ref r3, .ref w, .ref k0, .ref k1, .int 0, .ref r4, .ref r5, .null] : List Value).set 10 (.ref r6)))) k0 = .inr (7, [.int 0, .int 0, .int (-1)]) := (up_ne n_t0_k0.symm).trans e_k0
  have e_k1 : (va_up F_98 t0 (.inr (8, ([.ref r0, .ref r1, .ref r2, .ref r3, .ref w, .ref k0, .ref k1, .int 0, .ref r4, .ref r5, .null] : List Value).set 10 (.ref r6)))) k1 = .inr (7, [.int 0, .int 0, .int (-1)]) := (up_ne n_t0_k1.symm).trans e_k1
  have e_r4 : (va_up F_98 t0 (.inr (8, ([.ref r0, .ref r1, .ref r2, .ref r3, .ref w, .ref k0, .ref k1, .int 0, .ref r4, .ref r5, .null] : List Value).set 10 (.ref r6)))) r4 = .inr (5, [.ref ar4, .int 0]) := (up_ne n_t0_r4.symm).trans e_r4
  have e_ar4 : (va_up F_98 t0 (.inr (8, ([.ref r0, .ref r1, .ref r2, .ref r3, .ref w, .ref k0, .ref k1, .int 0, .ref r4, .ref r5, .null] : List Value).set 10 (.ref r6)))) ar4 = .inl (κ 0, 20, .inl (fun _ => 0)) := (up_ne n_t0_ar4.symm).trans e_ar4
  have e_r5 : (va_up F_98 t0 (.inr (8, ([.ref r0, .ref r1, .ref r2, .ref r3, .ref w, .ref k0, .ref k1, .int 0, .ref r4, .ref r5, .null] : List Value).set 10 (.ref r6)))) r5 = .inr (5, [.ref ar5, .int 0]) := (up_ne n_t0_r5.symm).trans e_r5
  have e_ar5 : (va_up F_98 t0 (.inr (8, ([.ref r0, .ref r1, .ref r2, .ref r3, .ref w, .ref k0, .ref k1, .int 0, .ref r4, .ref r5, .null] : List Value).set 10 (.ref r6)))) ar5 = .inl (κ 0, 20, .inl (fun _ => 0)) := (up_ne n_t0_ar5.symm).trans e_ar5
  have e_r6 : (va_up F_98 t0 (.inr (8, ([.ref r0, .ref r1, .ref r2, .ref r3, .ref w, .ref k0, .ref k1, .int 0, .ref r4, .ref r5, .null] : List Value).set 10 (.ref r6)))) r6 = .inr (5, [.ref ar6, .int 0]) := (up_ne n_t0_r6.symm).trans e_r6
  have e_ar6 : (va_up F_98 t0 (.inr (8, ([.ref r0, .ref r1, .ref r2, .ref r3, .ref w, .ref k0, .ref k1, .int 0, .ref r4, .ref r5, .null] : List Value).set 10 (.ref r6)))) ar6 = .inl (κ 0, 20, .inl (fun _ => 0)) := (up_ne n_t0_ar6.symm).trans e_ar6
  have hfr : ∀ x ∈ L, x ≠ t0 → (va_up F_98 t0 (.inr (8, ([.ref r0, .ref r1, .ref r2, .ref r3, .ref w, .ref k0, .ref k1, .int 0, .ref r4, .ref r5, .null] : List Value).set 10 (.ref r6)))) x = F x := fun x hx hxt => (up_ne hxt).trans (hfr x hx hxt)
  generalize va_up F_98 t0 (.inr (8, ([.ref r0, .ref r1, .ref r2, .ref r3, .ref w, .ref k0, .ref k1, .int 0, .ref r4, .ref r5, .null] : List Value).set 10 (.ref r6))) = F_103 at hW e_t0 e_r0 e_ar0 e_r1 e_ar1 e_r2 e_ar2 e_r3 e_ar3 e_w e_k0 e_k1 e_r4 e_ar4 e_r5 e_ar5 e_r6 e_ar6 hfr
  have hM : apart [ar6, r6, ar5, r5, ar4, r4, k1, k0, w, ar3, r3, ar2, r2, ar1, r1, ar0, r0, t0] := by
    simp only [apart, List.mem_cons, List.not_mem_nil, or_false, not_or, not_false_eq_true, and_true]
    exact ⟨⟨Ne.symm (n_r6_ar6), Ne.symm (n_ar5_ar6), Ne.symm (n_r5_ar6), Ne.symm (n_ar4_ar6), Ne.symm (n_r4_ar6), Ne.symm (n_k1_ar6), Ne.symm (n_k0_ar6), Ne.symm (n_w_ar6), Ne.symm (n_ar3_ar6), Ne.symm (n_r3_ar6), Ne.symm (n_ar2_ar6), Ne.symm (n_r2_ar6), Ne.symm (n_ar1_ar6), Ne.symm (n_r1_ar6), Ne.symm (n_ar0_ar6), Ne.symm (n_r0_ar6), Ne.symm (n_t0_ar6)⟩, ⟨⟨Ne.symm (n_ar5_r6), Ne.symm (n_r5_r6), Ne.symm (n_ar4_r6), Ne.symm (n_r4_r6), Ne.symm (n_k1_r6), Ne.symm (n_k0_r6), Ne.symm (n_w_r6), Ne.symm (n_ar3_r6), Ne.symm (n_r3_r6), Ne.symm (n_ar2_r6), Ne.symm (n_r2_r6), Ne.symm (n_ar1_r6), Ne.symm (n_r1_r6), Ne.symm (n_ar0_r6), Ne.symm (n_r0_r6), Ne.symm (n_t0_r6)⟩, ⟨⟨Ne.symm (n_r5_ar5), Ne.symm (n_ar4_ar5), Ne.symm (n_r4_ar5), Ne.symm (n_k1_ar5), Ne.symm (n_k0_ar5), Ne.symm (n_w_ar5), Ne.symm (n_ar3_ar5), Ne.symm (n_r3_ar5), Ne.symm (n_ar2_ar5), Ne.symm (n_r2_ar5), Ne.symm (n_ar1_ar5), Ne.symm (n_r1_ar5), Ne.symm (n_ar0_ar5), Ne.symm (n_r0_ar5), Ne.symm (n_t0_ar5)⟩, ⟨⟨Ne.symm (n_ar4_r5), Ne.symm (n_r4_r5), Ne.symm (n_k1_r5), Ne.symm (n_k0_r5), Ne.symm (n_w_r5), Ne.symm (n_ar3_r5), Ne.symm (n_r3_r5), Ne.symm (n_ar2_r5), Ne.symm (n_r2_r5), Ne.symm (n_ar1_r5), Ne.symm (n_r1_r5), Ne.symm (n_ar0_r5), Ne.symm (n_r0_r5), Ne.symm (n_t0_r5)⟩, ⟨⟨Ne.symm (n_r4_ar4), Ne.symm (n_k1_ar4), Ne.symm (n_k0_ar4), Ne.symm (n_w_ar4), Ne.symm (n_ar3_ar4), Ne.symm (n_r3_ar4), Ne.symm (n_ar2_ar4), Ne.symm (n_r2_ar4), Ne.symm (n_ar1_ar4), Ne.symm (n_r1_ar4), Ne.symm (n_ar0_ar4), Ne.symm (n_r0_ar4), Ne.symm (n_t0_ar4)⟩, ⟨⟨Ne.symm (n_k1_r4), Ne.symm (n_k0_r4), Ne.symm (n_w_r4), Ne.symm (n_ar3_r4), Ne.symm (n_r3_r4), Ne.symm (n_ar2_r4), Ne.symm (n_r2_r4), Ne.symm (n_ar1_r4), Ne.symm (n_r1_r4), Ne.symm (n_ar0_r4), Ne.symm (n_r0_r4), Ne.symm (n_t0_r4)⟩, ⟨⟨Ne.symm (n_k0_k1), Ne.symm (n_w_k1), Ne.symm (n_ar3_k1), Ne.symm (n_r3_k1), Ne.symm (n_ar2_k1), Ne.symm (n_r2_k1), Ne.symm (n_ar1_k1), Ne.symm (n_r1_k1), Ne.symm (n_ar0_k1), Ne.symm (n_r0_k1), Ne.symm (n_t0_k1)⟩, ⟨⟨Ne.symm (n_w_k0), Ne.symm (n_ar3_k0), Ne.symm (n_r3_k0), Ne.symm (n_ar2_k0), Ne.symm (n_r2_k0), Ne.symm (n_ar1_k0), Ne.symm (n_r1_k0), Ne.symm (n_ar0_k0), Ne.symm (n_r0_k0), Ne.symm (n_t0_k0)⟩, ⟨⟨Ne.symm (n_ar3_w), Ne.symm (n_r3_w), Ne.symm (n_ar2_w), Ne.symm (n_r2_w), Ne.symm (n_ar1_w), Ne.symm (n_r1_w), Ne.symm (n_ar0_w), Ne.symm (n_r0_w), Ne.symm (n_t0_w)⟩, ⟨⟨Ne.symm (n_r3_ar3), Ne.symm (n_ar2_ar3), Ne.symm (n_r2_ar3), Ne.symm (n_ar1_ar3), Ne.symm (n_r1_ar3), Ne.symm (n_ar0_ar3), Ne.symm (n_r0_ar3), Ne.symm (n_t0_ar3)⟩, ⟨⟨Ne.symm (n_ar2_r3), Ne.symm (n_r2_r3), Ne.symm (n_ar1_r3), Ne.symm (n_r1_r3), Ne.symm (n_ar0_r3), Ne.symm (n_r0_r3), Ne.symm (n_t0_r3)⟩, ⟨⟨Ne.symm (n_r2_ar2), Ne.symm (n_ar1_ar2), Ne.symm (n_r1_ar2), Ne.symm (n_ar0_ar2), Ne.symm (n_r0_ar2), Ne.symm (n_t0_ar2)⟩, ⟨⟨Ne.symm (n_ar1_r2), Ne.symm (n_r1_r2), Ne.symm (n_ar0_r2), Ne.symm (n_r0_r2), Ne.symm (n_t0_r2)⟩, ⟨⟨Ne.symm (n_r1_ar1), Ne.symm (n_ar0_ar1), Ne.symm (n_r0_ar1), Ne.symm (n_t0_ar1)⟩, ⟨⟨Ne.symm (n_ar0_r1), Ne.symm (n_r0_r1), Ne.symm (n_t0_r1)⟩, ⟨⟨Ne.symm (n_r0_ar0), Ne.symm (n_t0_ar0)⟩, (Ne.symm n_t0_r0)⟩⟩⟩⟩⟩⟩⟩⟩⟩⟩⟩⟩⟩⟩⟩⟩
  refine pk_vret S hr hlk hW ⟨hsub, fun i => [ar6, r6, ar5, r5, ar4, r4, k1, k0, w, ar3, r3, ar2, r2, ar1, r1, ar0, r0, t0].getD (ixA i) 0, rfl, ?_, hfr, ?_⟩ (by decide) (by decide) dX3_init_133
  · refine ⟨?_, ?_, e_t0, ?_, e_w, ?_⟩
    · intro i hi
      match i, hi with | 0, _ => exact m_t0 | 1, _ => exact m_r0 | 2, _ => exact m_ar0 | 3, _ => exact m_r1 | 4, _ => exact m_ar1 | 5, _ => exact m_r2 | 6, _ => exact m_ar2 | 7, _ => exact m_r3 | 8, _ => exact m_ar3 | 9, _ => exact m_r4 | 10, _ => exact m_ar4 | 11, _ => exact m_r5 | 12, _ => exact m_ar5 | 13, _ => exact m_r6 | 14, _ => exact m_ar6 | 15, _ => exact m_w | 16, _ => exact m_k0 | 17, _ => exact m_k1 | i + 18, hi => exact absurd hi (by omega)
    · intro i j hi hj he
      have hb : ∀ i : Nat, i < 18 → ixA i < 18 := by decide
      have hij : ∀ i : Nat, i < 18 → ∀ j : Nat, j < 18 → ixA i = ixA j → i = j := by decide
      exact hij i hi j hj (apart_inj hM (hb i hi) (hb j hj) he)
    · intro i hi
      match i, hi with | 0, _ => exact ⟨e_r0, e_ar0⟩ | 1, _ => exact ⟨e_r1, e_ar1⟩ | 2, _ => exact ⟨e_r2, e_ar2⟩ | 3, _ => exact ⟨e_r3, e_ar3⟩ | 4, _ => exact ⟨e_r4, e_ar4⟩ | 5, _ => exact ⟨e_r5, e_ar5⟩ | 6, _ => exact ⟨e_r6, e_ar6⟩ | i + 7, hi => exact absurd hi (by omega)
    · intro j hj
      match j, hj with | 0, _ => exact e_k0 | 1, _ => exact e_k1 | j + 2, hj => exact absurd hj (by omega)
  · intro i hi hi0
    match i, hi with | 0, _ => exact absurd rfl hi0 | 1, _ => exact hnw_r0 | 2, _ => exact hnw_ar0 | 3, _ => exact hnw_r1 | 4, _ => exact hnw_ar1 | 5, _ => exact hnw_r2 | 6, _ => exact hnw_ar2 | 7, _ => exact hnw_r3 | 8, _ => exact hnw_ar3 | 9, _ => exact hnw_r4 | 10, _ => exact hnw_ar4 | 11, _ => exact hnw_r5 | 12, _ => exact hnw_ar5 | 13, _ => exact hnw_r6 | 14, _ => exact hnw_ar6 | 15, _ => exact hnw_w | 16, _ => exact hnw_k0 | 17, _ => exact hnw_k1 | i + 18, hi => exact absurd hi (by omega)
