/-! level 3: purge -/
section L3S
variable {σ : CS} {τ : MS}
theorem cl_like {xs : List Int32} (hr : RW 0 (σ.1 0) xs) (v : Int32) : f_X3_isLikeOneOf σ 0 v = some (if fnG (tKind (v / 100)) 0 xs 0 (-1) = -1 then 0 else 1) := by
  unfold f_X3_isLikeOneOf f_X3_kindOf
  rw [bsm, rw_placeOfKind hr, bsm]
  split <;> rfl
theorem cl_purge {P : Int32 × CS → Prop} {x1 : Int32} {xs ys : List Int32} {g : Nat → Int32} (hr : RW 1 (σ.1 1) xs) (hr0 : RW 0 (σ.1 0) ys) (hg : ∀ i, i < xs.length → (g i = 0 ↔ (if fnG (tKind (xs.getD i 0 / 100)) 0 ys 0 (-1) = -1 then (0 : Int32) else 1) = x1)) (fin : ∀ ρ, RW 1 ρ (keepG g 0 xs) → Ok ((f_X3_tearIfAny (va_up σ.1 1 ρ, σ.2) 1 (nI (xs.length - (keepG g 0 xs).length))).bind fun z3 => some (nI (xs.length - (keepG g 0 xs).length), z3)) P) : Ok (lpn f_X3_purge_13 64 (σ, x1, nI xs.length, 0, 0)) P := by
  have hl := hr.len
  refine up_loop (fun k t => ∃ ρ, t = ((va_up σ.1 1 ρ, σ.2), x1, nI xs.length, nI (k - (keepG g 0 (xs.take k)).length), nI k) ∧ RW 1 ρ (KF g xs k)) xs.length ?_ xs.length 0 _ (by omega) ⟨σ.1 1, by rw [us]; rfl, by rw [KF_0]; exact hr⟩ 64 (by omega)
  rintro kk _ k hk2 ⟨ρ, rfl, hρ⟩ hk
  unfold f_X3_purge_13 f_X3_purge_58
  dsimp only
  refine ok_if (fun c => ?_) fun c => ?_
  · have c2 := (nI_lei (by omega) (by omega)).mp c
    have e : k = xs.length := by omega
    subst e
    rw [KF_n] at hρ
    rw [List.take_length]
    exact fin ρ hρ
  · have c2 : k < xs.length := Nat.lt_of_not_le (mt (nI_lei (by omega) (by omega)).mpr c)
    obtain ⟨a1, a2, a3, a4, a5⟩ := KF_s (g := g) c2
    have hρ2 : RW 1 (va_up σ.1 1 ρ 1) (KF g xs k) := by rw [up_eq]; exact hρ
    have hρ0 : RW 0 (va_up σ.1 1 ρ 0) ys := by rw [up_ne (by omega)]; exact hr0
    refine ok_nme fun y hy => ?_
    have ey : y = nI (keepG g 0 (xs.take k)).length := by
      rw [hy, nI_dif (by omega) (by omega), show k - (k - (keepG g 0 (xs.take k)).length) = (keepG g 0 (xs.take k)).length by omega]
    rw [ey]
    have er := rw_read hρ2 a3
    rw [a2] at er
    refine ok_ev er (ok_ev (cl_like (σ := (va_up σ.1 1 ρ, σ.2)) hρ0 _) (ok_if (fun q => ?_) fun q => ?_))
    · obtain ⟨b1, b2⟩ := a4 ((hg k c2).mpr q)
      refine ok_nme fun y3 e3 => hk _ c2 ⟨ρ, ?_, ?_⟩
      · rw [e3, nI_suc (by omega), b2, show k + 1 - ((keepG g 0 (xs.take k)).length + 1) = k - (keepG g 0 (xs.take k)).length by omega]
      · rw [b1]; exact hρ
    · obtain ⟨b1, b2⟩ := a5 (fun z => q ((hg k c2).mp z))
      refine ok_bind (rw_leave hρ2 a3) fun z hz => ok_nme fun t1 e1 => ok_nme fun y2 e2 => ok_nme fun y3 e3 => hk _ c2 ⟨z.2, ?_, ?_⟩
      · rw [e1, e2, e3, nI_suc (by omega), nI_suc (by omega), b2, show k + 1 - (keepG g 0 (xs.take k)).length = k - (keepG g 0 (xs.take k)).length + 1 by omega]
        show ((va_up (va_up σ.1 1 ρ) 1 z.2, σ.2), _) = _
        rw [uu]
      · rw [b1]; exact hz.2
end L3S
