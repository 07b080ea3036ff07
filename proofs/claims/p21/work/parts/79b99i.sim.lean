/-! level 3: a track is left with what is not marked -/
section L3P
variable {σ : CS} {τ : MS}
theorem keepG_full (g : Nat → Int32) : ∀ (xs : List Int32) (m : Nat), (keepG g m xs).length = xs.length → keepG g m xs = xs := by
  intro xs
  induction xs with
  | nil => intro m _; rfl
  | cons v r ih =>
    intro m h
    rw [keepG_c] at h ⊢
    have := keepG_len g r (m + 1)
    by_cases c : g m = 0
    · rw [if_pos c] at h ⊢
      rw [List.length_cons, List.length_cons] at h
      rw [ih (m + 1) (by omega)]
    · rw [if_neg c] at h
      rw [List.length_cons] at h
      omega
theorem keepG_nil (g : Nat → Int32) : ∀ (xs : List Int32) (m : Nat), (∀ i, m ≤ i → i < m + xs.length → ¬ g i = 0) → keepG g m xs = [] := by
  intro xs
  induction xs with
  | nil => intro m _; rfl
  | cons v r ih =>
    intro m h
    rw [List.length_cons] at h
    rw [keepG_c, if_neg (h m (by omega) (by omega))]
    exact ih (m + 1) fun i h1 h2 => h i (by omega) (by omega)
theorem off_end (h : RX σ τ) {x : Int32} {j : Nat} {g : Nat → Int32} {ρ : RS} (hj : j < 2) (hx : x = 0 ∧ j = 0 ∨ x = 1 ∧ j = 1) (hρ : RW j ρ (keepG g 0 (τ.1 j))) : Ri (f_X3_tearIfAny (va_up σ.1 j ρ, σ.2) x (nI ((τ.1 j).length - (keepG g 0 (τ.1 j)).length))) (f_X6_offAll τ x (τ.1 j).length g) (fun s r2 => r2.1 = nI ((τ.1 j).length - (keepG g 0 (τ.1 j)).length) ∧ RX s r2.2 ∧ r2.2.2 0 = τ.2 0) := by
  have hl := len20 h.1 hj
  intro r2 e2
  unfold f_X3_tearIfAny
  rcases ok_val (mo_offAll (g := g) hl hj hx) e2 with ⟨q, er⟩ | ⟨q, t1, er, ht⟩
  · have ek := keepG_full g (τ.1 j) 0 q
    refine ok_t (by rw [q, Nat.sub_self]; decide) (ok_some ?_)
    subst er
    refine ⟨by rw [q, Nat.sub_self]; rfl, ?_, rfl⟩
    rw [ek] at hρ
    have := h.up (i := j) (xs := τ.1 j) (by omega) hρ (by rw [us]; exact h.1.2.2.2)
    rw [us] at this
    exact this
  · refine ok_f (show ¬ nI ((τ.1 j).length - (keepG g 0 (τ.1 j)).length) ≤ (0 : Int32) from mt (nI_lei (a := (τ.1 j).length - (keepG g 0 (τ.1 j)).length) (b := 0) (by omega) (by omega)).mp (by omega)) (ok_bind (cl_tearFor hx) fun s hs => ok_some ?_)
    subst er
    have te := tear_rx h hj hρ (h.1.2.2.2.track hj fun v hv => h.1.2.2.2.tv hj (keepG_mem g _ _ hv)) hs ht
    exact ⟨rfl, te.1, te.2.1⟩
theorem ag_clear (h : RX σ τ) (x1 : Int32) : Ri (f_X3_clear σ x1) (f_X6_clear τ x1) (TQ C1 σ) := by
  unfold f_X3_clear f_X6_clear
  refine gd_track (fun j hj hx => ri_tR rfl ?_) (ri_fR ne10 (tq_l (h.thr 1) thr0))
  have h0 := h.thr 0
  have hr := h.row (i := j) (by omega)
  have hl := len20 h.1 hj
  refine ri_eL (trackOf_ok hx) (ri_eL (rw_size hr) (ri_eL (v := ((σ.1 j).1, 0)) rfl (ri_nL fun s es => ?_)))
  subst es
  refine ri_eR (sizeN (gtr_x hx)) (ri_fR (arr_nN hl) (ri_nR fun n hn => ri_nR fun g hg => ?_))
  have hn : n = (τ.1 j).length := hn.trans (nI_cn hl)
  subst hn
  have key : ∀ (d m : Nat) (g : Nat → Int32) (f : Nat), m + d = (τ.1 j).length → d < f → (∀ i, i < m → ¬ g i = 0) → Ri ((f_X3_tearIfAny (va_up σ.1 j ((σ.1 j).1, 0), σ.2) x1 (nI (τ.1 j).length)).bind fun z22 => some (.inr (nI (τ.1 j).length, z22))) (lpn f_X6_clear_24 f (thr τ 0, x1, (τ.1 j).length, g, nI m)) (TQ C1 σ) := by
    intro d
    induction d with
    | zero =>
      intro m g f hm hf hg
      obtain ⟨f', rfl⟩ : ∃ f', f = f' + 1 := ⟨f - 1, by omega⟩
      show Ri _ (f_X6_clear_24 (lpn f_X6_clear_24 f') (thr τ 0, x1, (τ.1 j).length, g, nI m)) _
      unfold f_X6_clear_24
      dsimp only
      refine ri_tR ((nI_lei (by omega) (by omega)).mpr (by omega)) ?_
      have ek : keepG g 0 ((thr τ 0).1 j) = [] := keepG_nil g _ 0 fun i _ hi => hg i (by
        have hi : i < 0 + (τ.1 j).length := hi
        omega)
      have q := off_end (τ := thr τ 0) (g := g) (ρ := ((σ.1 j).1, 0)) h0 hj hx (by rw [ek]; exact rw_empty)
      rw [ek] at q
      exact ri_call q fun u w hu => tq_r hu.2.1 (hu.2.2.trans thr0) hu.1.symm
    | succ d ih =>
      intro m g f hm hf hg
      obtain ⟨f', rfl⟩ : ∃ f', f = f' + 1 := ⟨f - 1, by omega⟩
      show Ri _ (f_X6_clear_24 (lpn f_X6_clear_24 f') (thr τ 0, x1, (τ.1 j).length, g, nI m)) _
      unfold f_X6_clear_24
      dsimp only
      refine ri_fR (mt (nI_lei (by omega) (by omega)).mp (by omega)) (ri_fR (arr_iN (i := m) (by omega) (by omega)) (ri_nR fun g1 hg1 => ri_nR fun y hy => ?_))
      rw [hy, nI_suc (by omega)]
      refine ih (m + 1) g1 f' (by omega) (by omega) fun i hi => ?_
      rw [hg1, nI_c (by omega), upd_at]
      by_cases c : i = m
      · rw [if_pos c]; decide
      · rw [if_neg c]; exact hg i (by omega)
  exact key (τ.1 j).length 0 g 24 (by omega) (by omega) fun i hi => absurd hi (by omega)
end L3P
