/-! level 3: the class takes off as it goes -/
section L3Q
variable {σ : CS} {τ : MS}
theorem keepG_app (g : Nat → Int32) (b : List Int32) : ∀ (a : List Int32) (m : Nat), keepG g m (a ++ b) = keepG g m a ++ keepG g (m + a.length) b := by
  intro a
  induction a with
  | nil => intro m; rfl
  | cons v r ih =>
    intro m
    rw [List.cons_append, keepG_c, keepG_c, ih (m + 1), List.length_cons, show m + 1 + r.length = m + (r.length + 1) by omega]
    split
    · rfl
    · rfl
theorem keepG_cg {g g' : Nat → Int32} : ∀ (xs : List Int32) (m : Nat), (∀ i, m ≤ i → i < m + xs.length → (g i = 0 ↔ g' i = 0)) → keepG g m xs = keepG g' m xs := by
  intro xs
  induction xs with
  | nil => intro m _; rfl
  | cons v r ih =>
    intro m h
    rw [List.length_cons] at h
    have h0 := h m (by omega) (by omega)
    have e := ih (m + 1) fun i h1 h2 => h i (by omega) (by omega)
    rw [keepG_c, keepG_c, e]
    by_cases c : g m = 0
    · rw [if_pos c, if_pos (h0.mp c)]
    · rw [if_neg c, if_neg (fun q => c (h0.mpr q))]
def KF (g : Nat → Int32) (xs : List Int32) (k : Nat) : List Int32 := keepG g 0 (xs.take k) ++ xs.drop k
theorem KF_0 {g : Nat → Int32} {xs : List Int32} : KF g xs 0 = xs := rfl
theorem KF_n {g : Nat → Int32} {xs : List Int32} : KF g xs xs.length = keepG g 0 xs := by
  unfold KF
  rw [List.take_length, List.drop_eq_nil_of_le (Nat.le_refl _), List.append_nil]
theorem KF_s {g : Nat → Int32} {xs : List Int32} {k : Nat} (h : k < xs.length) : (keepG g 0 (xs.take k)).length ≤ k ∧ (KF g xs k).getD (keepG g 0 (xs.take k)).length 0 = xs.getD k 0 ∧ (keepG g 0 (xs.take k)).length < (KF g xs k).length ∧ (g k = 0 → KF g xs (k + 1) = KF g xs k ∧ (keepG g 0 (xs.take (k + 1))).length = (keepG g 0 (xs.take k)).length + 1) ∧ (¬ g k = 0 → KF g xs (k + 1) = delAt (KF g xs k) (keepG g 0 (xs.take k)).length ∧ (keepG g 0 (xs.take (k + 1))).length = (keepG g 0 (xs.take k)).length) := by
  have hA : (xs.take k).length = k := by rw [List.length_take]; omega
  have hk := keepG_len g (xs.take k) 0
  have e : KF g xs k = keepG g 0 (xs.take k) ++ xs.getD k 0 :: xs.drop (k + 1) := by
    unfold KF
    rw [drop_cons h]
  have e1 : keepG g 0 (xs.take (k + 1)) = keepG g 0 (xs.take k) ++ (if g k = 0 then [xs.getD k 0] else []) := by
    rw [take_snoc h, keepG_app, hA, Nat.zero_add]
    rfl
  refine ⟨by omega, ?_, ?_, fun c => ⟨?_, ?_⟩, fun c => ⟨?_, ?_⟩⟩
  · rw [e]; exact get_mid _ _ _
  · rw [e, List.length_append, List.length_cons]; omega
  · rw [e]
    unfold KF
    rw [e1, if_pos c, List.append_assoc]
    rfl
  · rw [e1, if_pos c, List.length_append]; rfl
  · rw [e, del_mid]
    unfold KF
    rw [e1, if_neg c, List.append_nil]
  · rw [e1, if_neg c, List.append_nil]
theorem cl_dropAll {P : Nat ⊕ (Int32 × CS) → Prop} {x1 x2 : Int32} {j : Nat} {xs : List Int32} {g : Nat → Int32} (hr : RW j (σ.1 j) xs) (hg : ∀ i, i < xs.length → (g i = 0 ↔ ¬ xs.getD i 0 / 100 = x2)) (fin : ∀ ρ, RW j ρ (keepG g 0 xs) → Ok ((f_X3_tearIfAny (va_up σ.1 j ρ, σ.2) x1 (nI (xs.length - (keepG g 0 xs).length))).bind fun z3 => some (.inr (nI (xs.length - (keepG g 0 xs).length), z3))) P) : Ok (lpn f_X3_dropAll_27 64 (σ, x1, x2, j, nI xs.length, 0, 0)) P := by
  have hl := hr.len
  refine up_loop (fun k t => ∃ ρ, t = ((va_up σ.1 j ρ, σ.2), x1, x2, j, nI xs.length, nI (k - (keepG g 0 (xs.take k)).length), nI k) ∧ RW j ρ (KF g xs k)) xs.length ?_ xs.length 0 _ (by omega) ⟨σ.1 j, by rw [us]; rfl, by rw [KF_0]; exact hr⟩ 64 (by omega)
  rintro kk _ k hk2 ⟨ρ, rfl, hρ⟩ hk
  unfold f_X3_dropAll_27 f_X3_dropAll_64 f_X3_kindOf
  dsimp only
  refine ok_if (fun c => ?_) fun c => ?_
  · have c2 := (nI_lei (by omega) (by omega)).mp c
    have e : k = xs.length := by omega
    subst e
    rw [KF_n] at hρ
    rw [List.take_length]
    exact fin ρ hρ
  · have c2 : k < xs.length := Nat.lt_of_not_le (mt (nI_lei (by omega) (by omega)).mpr c)
    obtain ⟨a1, a2, a3, a4, a5⟩ := KF_s (g := g) c2
    have hρ2 : RW j (va_up σ.1 j ρ j) (KF g xs k) := by rw [up_eq]; exact hρ
    refine ok_nme fun y hy => ?_
    have ey : y = nI (keepG g 0 (xs.take k)).length := by
      rw [hy, nI_dif (by omega) (by omega), show k - (k - (keepG g 0 (xs.take k)).length) = (keepG g 0 (xs.take k)).length by omega]
    rw [ey]
    have er := rw_read hρ2 a3
    rw [a2] at er
    refine ok_ev er (ok_ev rfl (ok_if (fun q => ?_) fun q => ?_))
    · obtain ⟨b1, b2⟩ := a5 (fun z => ((hg k c2).mp z) q)
      refine ok_bind (rw_leave hρ2 a3) fun z hz => ok_nme fun t1 e1 => ok_nme fun y2 e2 => ok_nme fun y3 e3 => hk _ c2 ⟨z.2, ?_, ?_⟩
      · rw [e1, e2, e3, nI_suc (by omega), nI_suc (by omega), b2, show k + 1 - (keepG g 0 (xs.take k)).length = k - (keepG g 0 (xs.take k)).length + 1 by omega]
        show ((va_up (va_up σ.1 j ρ) j z.2, σ.2), _) = _
        rw [uu]
      · rw [b1]; exact hz.2
    · obtain ⟨b1, b2⟩ := a4 ((hg k c2).mpr q)
      refine ok_nme fun y3 e3 => hk _ c2 ⟨ρ, ?_, ?_⟩
      · rw [e3, nI_suc (by omega), b2, show k + 1 - ((keepG g 0 (xs.take k)).length + 1) = k - (keepG g 0 (xs.take k)).length by omega]
      · rw [b1]; exact hρ
end L3Q
