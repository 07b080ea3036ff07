def f_X6_thrown (τ : MS) : Option Int32 := some (τ.2 0)
theorem mc_X6_thrown : MCode yX6_thrown cX6_thrown 1 (some .int) := ⟨wd_3034, wd_5, by decide, by decide⟩
theorem np_X6_thrown : (parseMethodDescriptor yX6_thrown.desc).map (fun d => d.parameters.length) = some 0 := by decide +kernel
set_option maxHeartbeats 4000000 in
set_option maxRecDepth 100000 in
theorem c_X6_thrown {l : Launch} {D : va_G} {κ : Nat → ClassId} {ζ : Nat → Nat} {L : List Nat} {F : Nat → va_E} {τ : MS} {B : Nat → Nat} (hI : MI κ ζ B τ L F)  {res : Int32} (hf : f_X6_thrown τ = some res) : MtI l D cls (ty5 κ) ζ yX6_thrown cX6_thrown 1 (some .int) 1 0 0 ([.ref (B 0)] : List Value) L F (fun r L' F' => L = L' ∧ F = F' ∧ res = r) := by
  refine MtI.of (by decide) (Nat.le_of_ble_eq_true rfl) ?_
  intro p e s m below meth c S hr hlk _ hK hW hST ls hl
  have hl : lv_has ls 1 [(0, .ref (B 0))] := hl
  unfold f_X6_thrown at hf
  refine lv_aload_n S.1 S.2.1 dX6_thrown_0 rfl (lv_at hl 0 rfl) ?_
  refine pk_get S hK hW 0 (hI.mem (by decide)) hI.this rfl hinX6 (by decide) wd_1155 rfl dX6_thrown_1 ?_
  exact pk_iret S hr hlk hW ⟨rfl, rfl, eqm (P := fun z => z = τ.2 0) rfl (Option.some.inj hf)⟩ (by omega) (by omega) dX6_thrown_4
