/-! level 3: dropAll -/
section L3R
variable {σ : CS} {τ : MS}
theorem ag_dropAll (h : RX σ τ) (x1 x2 : Int32) : Ri (f_X3_dropAll σ x1 x2) (f_X6_dropAll τ x1 x2) (TQ C2 σ) := by
  unfold f_X3_dropAll f_X6_dropAll
  refine gd_kind (fun j hj hx _ => ri_tR rfl ?_) (ri_fR ne10 (tq_l (h.thr 1) thr0)) (ri_fR ne10 (tq_l (h.thr 2) thr0))
  have h0 := h.thr 0
  have hr := h.row (i := j) (by omega)
  have hl := len20 h.1 hj
  refine ri_eL (trackOf_ok hx) (ri_eL (rw_size hr) ?_)
  refine ri_eR (sizeN (gtr_x hx)) (ri_fR (arr_nN hl) (ri_nR fun n hn => ri_nR fun g hg => ?_))
  have hn : n = (τ.1 j).length := hn.trans (nI_cn hl)
  subst hn
  have key : ∀ (d m : Nat) (g : Nat → Int32) (f : Nat), m + d = (τ.1 j).length → d < f → (∀ i, i < m → (g i = 0 ↔ ¬ (τ.1 j).getD i 0 / 100 = x2)) → Ri (lpn f_X3_dropAll_27 64 (σ, x1, x2, j, nI (τ.1 j).length, 0, 0)) (lpn f_X6_dropAll_22 f (thr τ 0, x1, x2, (τ.1 j).length, g, nI m)) (TQ C2 σ) := by
    intro d
    induction d with
    | zero =>
      intro m g f hm hf hg
      obtain ⟨f', rfl⟩ : ∃ f', f = f' + 1 := ⟨f - 1, by omega⟩
      show Ri _ (f_X6_dropAll_22 (lpn f_X6_dropAll_22 f') (thr τ 0, x1, x2, (τ.1 j).length, g, nI m)) _
      unfold f_X6_dropAll_22
      dsimp only
      refine ri_tR ((nI_lei (by omega) (by omega)).mpr (by omega)) ?_
      intro r2 e2
      refine cl_dropAll (g := g) hr (fun i hi => hg i (by omega)) fun ρ hρ => ?_
      have q := off_end (τ := thr τ 0) (g := g) (ρ := ρ) h0 hj hx hρ
      have q2 : Ri ((f_X3_tearIfAny (va_up σ.1 j ρ, σ.2) x1 (nI ((τ.1 j).length - (keepG g 0 (τ.1 j)).length))).bind fun z3 => some (.inr (nI ((τ.1 j).length - (keepG g 0 (τ.1 j)).length), z3))) ((f_X6_offAll (thr τ 0) x1 (τ.1 j).length g).bind fun z6 => some (z6.1, z6.2)) (TQ C2 σ) := ri_call q fun u w hu => tq_r hu.2.1 (hu.2.2.trans thr0) hu.1.symm
      exact q2 r2 e2
    | succ d ih =>
      intro m g f hm hf hg
      obtain ⟨f', rfl⟩ : ∃ f', f = f' + 1 := ⟨f - 1, by omega⟩
      show Ri _ (f_X6_dropAll_22 (lpn f_X6_dropAll_22 f') (thr τ 0, x1, x2, (τ.1 j).length, g, nI m)) _
      unfold f_X6_dropAll_22
      dsimp only
      refine ri_fR (mt (nI_lei (by omega) (by omega)).mp (by omega)) (ri_eR (getN (τ := thr τ 0) (i := m) (gtr_x hx) (show m < (τ.1 j).length by omega) hl) (ri_eR (v := (τ.1 j).getD m 0 / 100) rfl ?_))
      have st : ∀ u : Int32, (vp_nar .boolean u = 0 ↔ ¬ (τ.1 j).getD m 0 / 100 = x2) → Ri (lpn f_X3_dropAll_27 64 (σ, x1, x2, j, nI (τ.1 j).length, 0, 0)) (f_X6_dropAll_51 (lpn f_X6_dropAll_22 f') (thr τ 0) x1 x2 (τ.1 j).length g (nI m) (nI m) u) (TQ C2 σ) := by
        intro u hu
        unfold f_X6_dropAll_51
        refine ri_fR (arr_iN (i := m) (by omega) (by omega)) (ri_nR fun g1 hg1 => ri_nR fun y hy => ?_)
        rw [hy, nI_suc (by omega)]
        refine ih (m + 1) g1 f' (by omega) (by omega) fun i hi => ?_
        rw [hg1, nI_c (by omega), upd_at]
        by_cases c : i = m
        · rw [if_pos c, c]; exact hu
        · rw [if_neg c]; exact hg i (by omega)
      refine ri_iR (fun q => st 1 ⟨fun e => absurd e (by decide), fun e => absurd q e⟩) fun q => st 0 ⟨fun _ => q, fun _ => (by decide)⟩
  exact key (τ.1 j).length 0 g 24 (by omega) (by omega) fun i hi => absurd hi (by omega)
end L3R
