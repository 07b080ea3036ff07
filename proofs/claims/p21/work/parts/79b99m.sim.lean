/-! level 3: purge on both sides -/
section L3T
variable {σ : CS} {τ : MS}
theorem ag_purge (h : RX σ τ) {x1 : Int32} (hx1 : x1 = 0 ∨ x1 = 1) : Ri (f_X3_purge σ x1) (f_X6_purge τ x1) UQ := by
  have h0 := h.thr 0
  have hr := h.row (i := 1) (by omega)
  have hr0 := h.row (i := 0) (by omega)
  have hl := len20 h.1 (j := 1) (by omega)
  unfold f_X3_purge f_X6_purge
  refine ri_nR fun t ht => ?_
  have ht : t = thr τ 0 := ht
  subst ht
  refine ri_eL (rw_size hr) (ri_eR (sizeN (j := 1) rfl) (ri_fR (arr_nN hl) (ri_nR fun n hn => ri_nR fun g hg => ?_)))
  have hn : n = (τ.1 1).length := hn.trans (nI_cn hl)
  subst hn
  have key : ∀ (d m : Nat) (g : Nat → Int32) (f : Nat), m + d = (τ.1 1).length → d < f → (∀ i, i < m → (g i = 0 ↔ (if fnG (tKind ((τ.1 1).getD i 0 / 100)) 0 (τ.1 0) 0 (-1) = -1 then (0 : Int32) else 1) = x1)) → Ri (lpn f_X3_purge_13 64 (σ, x1, nI (τ.1 1).length, 0, 0)) (lpn f_X6_purge_15 f (thr τ 0, x1, (τ.1 1).length, g, nI m)) UQ := by
    intro d
    induction d with
    | zero =>
      intro m g f hm hf hg
      obtain ⟨f', rfl⟩ : ∃ f', f = f' + 1 := ⟨f - 1, by omega⟩
      show Ri _ (f_X6_purge_15 (lpn f_X6_purge_15 f') (thr τ 0, x1, (τ.1 1).length, g, nI m)) _
      unfold f_X6_purge_15
      dsimp only
      refine ri_tR ((nI_lei (by omega) (by omega)).mpr (by omega)) ?_
      intro r2 e2
      refine cl_purge (g := g) hr hr0 (fun i hi => hg i (by omega)) fun ρ hρ => ?_
      have q := off_end (τ := thr τ 0) (x := 1) (j := 1) (g := g) (ρ := ρ) h0 (by omega) (Or.inr ⟨rfl, rfl⟩) hρ
      have q2 : Ri ((f_X3_tearIfAny (va_up σ.1 1 ρ, σ.2) 1 (nI ((τ.1 1).length - (keepG g 0 (τ.1 1)).length))).bind fun z3 => some (nI ((τ.1 1).length - (keepG g 0 (τ.1 1)).length), z3)) ((f_X6_offAll (thr τ 0) 1 (τ.1 1).length g).bind fun z6 => some (z6.1, z6.2)) UQ := ri_call q fun u w hu => ri_some ⟨hu.1.symm, hu.2.1⟩
      exact q2 r2 e2
    | succ d ih =>
      intro m g f hm hf hg
      obtain ⟨f', rfl⟩ : ∃ f', f = f' + 1 := ⟨f - 1, by omega⟩
      show Ri _ (f_X6_purge_15 (lpn f_X6_purge_15 f') (thr τ 0, x1, (τ.1 1).length, g, nI m)) _
      unfold f_X6_purge_15
      dsimp only
      refine ri_fR (mt (nI_lei (by omega) (by omega)).mp (by omega)) (ri_eR (getN (τ := thr τ 0) (j := 1) (i := m) rfl (show m < (τ.1 1).length by omega) hl) (ri_eR (v := (τ.1 1).getD m 0 / 100) rfl (ri_eR (mo_found (τ := thr τ 0) (j := 0) rfl (len20 h0.1 (by omega)) _ _) ?_)))
      have st : ∀ u : Int32, (vp_nar .boolean u = 0 ↔ (if fnG (tKind ((τ.1 1).getD m 0 / 100)) 0 (τ.1 0) 0 (-1) = -1 then (0 : Int32) else 1) = x1) → Ri (lpn f_X3_purge_13 64 (σ, x1, nI (τ.1 1).length, 0, 0)) (f_X6_purge_56 (lpn f_X6_purge_15 f') (thr τ 0) x1 (τ.1 1).length g (nI m) (nI m) u) UQ := by
        intro u hu
        unfold f_X6_purge_56
        refine ri_fR (arr_iN (i := m) (by omega) (by omega)) (ri_nR fun g1 hg1 => ri_nR fun y hy => ?_)
        rw [hy, nI_suc (by omega)]
        refine ih (m + 1) g1 f' (by omega) (by omega) fun i hi => ?_
        rw [hg1, nI_c (by omega), upd_at]
        by_cases c : i = m
        · rw [if_pos c, c]; exact hu
        · rw [if_neg c]; exact hg i (by omega)
      unfold f_X6_purge_47
      refine ri_iR (fun q => ?_) fun q => ?_
      · have q : fnG (tKind ((τ.1 1).getD m 0 / 100)) 0 (τ.1 0) 0 (-1) = -1 := q
        rw [if_pos q] at st
        rcases hx1 with e | e <;> subst e
        · exact ri_fR ne10 (st 0 ⟨fun _ => rfl, fun _ => (by decide)⟩)
        · exact ri_tR rfl (st 1 ⟨fun e => absurd e (by decide), fun e => absurd e (by decide)⟩)
      · have q : ¬ fnG (tKind ((τ.1 1).getD m 0 / 100)) 0 (τ.1 0) 0 (-1) = -1 := q
        rw [if_neg q] at st
        rcases hx1 with e | e <;> subst e
        · exact ri_tR rfl (st 1 ⟨fun e => absurd e (by decide), fun e => absurd e (by decide)⟩)
        · exact ri_fR (by decide) (st 0 ⟨fun _ => rfl, fun _ => (by decide)⟩)
  exact key (τ.1 1).length 0 g 24 (by omega) (by omega) fun i hi => absurd hi (by omega)
end L3T
