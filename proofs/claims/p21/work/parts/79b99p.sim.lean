/-! level 3: thin -/
section L3W
variable {σ : CS} {τ : MS}
theorem mod_st {s k : Nat} (h2 : 2 ≤ s) (h5 : s ≤ 5) : k % s < s ∧ ((k + 1) % s = 0 ↔ s - k % s - 1 = 0) ∧ (¬ (k + 1) % s = 0 → (k + 1) % s = k % s + 1) := by
  rcases (by omega : s = 2 ∨ s = 3 ∨ s = 4 ∨ s = 5) with e | e | e | e <;> subst e <;> omega
theorem cl_thin {P : Nat ⊕ (Int32 × CS) → Prop} {x1 b : Int32} {s j : Nat} {xs : List Int32} {g : Nat → Int32} (hr : RW j (σ.1 j) xs) (h2 : 2 ≤ s) (h5 : s ≤ 5) (hg : ∀ i, i < xs.length → (g (PP b xs.length i) = 0 ↔ ¬ (i + 1) % s = 0)) (fin : ∀ ρ, RW j ρ (keepG g 0 xs) → Ok ((f_X3_tearIfAny (va_up σ.1 j ρ, σ.2) x1 (nI (xs.length - (keepG g 0 xs).length))).bind fun z10 => some (.inr (nI (xs.length - (keepG g 0 xs).length), z10))) P) : Ok (lpn f_X3_thin_33 64 (σ, x1, b, nI s, j, nI xs.length, 0, nI s, 0)) P := by
  have hl := hr.len
  refine up_loop (fun k t => ∃ ρ, t = ((va_up σ.1 j ρ, σ.2), x1, b, nI s, j, nI xs.length, nI (cntP g (PP b xs.length) k), nI (s - k % s), nI k) ∧ RW j ρ (ZZ b g xs k)) xs.length ?_ xs.length 0 _ (by omega) ⟨σ.1 j, by rw [us, Nat.zero_mod]; rfl, by rw [zz_0]; exact hr⟩ 64 (by omega)
  rintro kk _ k hk2 ⟨ρ, rfl, hρ⟩ hk
  have hc := cntP_le g (PP b xs.length) k
  obtain ⟨m1, m2, m3⟩ := mod_st (k := k) h2 h5
  unfold f_X3_thin_33
  dsimp only
  refine ok_if (fun c => ?_) fun c => ?_
  · have c2 := (nI_lei (by omega) (by omega)).mp c
    have e : k = xs.length := by omega
    have el := zz_len (b := b) (g := g) (xs := xs) (k := xs.length) (Nat.le_refl _)
    rw [zz_n] at el
    rw [e, zz_n] at hρ
    have := fin ρ hρ
    rw [show xs.length - (keepG g 0 xs).length = cntP g (PP b xs.length) xs.length by omega] at this
    rw [e]
    exact this
  · have c2 : k < xs.length := Nat.lt_of_not_le (mt (nI_lei (by omega) (by omega)).mpr c)
    obtain ⟨q, a1, a2, a3, a4, a5, a6⟩ := zz_s (b := b) (g := g) c2
    have hρ2 : RW j (va_up σ.1 j ρ j) (ZZ b g xs k) := by rw [up_eq]; exact hρ
    refine ok_nme fun y hy => ?_
    have hy : y = nI (s - k % s - 1) := by rw [hy, nI_prd2 (by omega) (by omega)]
    subst hy
    refine ok_if (fun z => ?_) fun z => ?_
    · have z2 := (nI_eqz (a := s - k % s - 1) (by omega)).mp z
      have z3 := m2.mpr z2
      have e0 : ¬ g (PP b xs.length k) = 0 := fun e => (hg k c2).mp e z3
      have step : ∀ u, u = nI q → Ok (f_X3_thin_69 kk (va_up σ.1 j ρ, σ.2) x1 b (nI s) j (nI xs.length) (nI (cntP g (PP b xs.length) k)) (nI k) j u) P := by
        intro u hu
        subst hu
        unfold f_X3_thin_69 f_X3_thin_79
        refine ok_bind (rw_leave hρ2 a1) fun w hw => ok_nme fun t1 e1 => ok_nme fun y2 e2 => ok_nme fun y3 e3 => hk _ c2 ⟨w.2, ?_, ?_⟩
        · rw [e1, e2, e3, nI_suc (by omega), nI_suc (by omega), cntP_s, if_neg e0, z3, Nat.sub_zero]
          show ((va_up (va_up σ.1 j ρ) j w.2, σ.2), _) = _
          rw [uu]
        · rw [a6 e0]; exact hw.2
      refine ok_if (fun z => step _ ?_) fun z => step _ ?_
      · have := a2 z
        rw [nI_dif (by omega) (by omega), show k - cntP g (PP b xs.length) k = q by omega]
      · have := a3 z
        rw [nI_prd (by omega) (by omega), nI_dif (by omega) (by omega), this]
    · have z2 := mt (nI_eqz (a := s - k % s - 1) (by omega)).mpr z
      have z3 : ¬ (k + 1) % s = 0 := fun e => z2 (m2.mp e)
      have e0 : g (PP b xs.length k) = 0 := (hg k c2).mpr z3
      have e4 := m3 z3
      unfold f_X3_thin_79
      refine ok_nme fun y3 e3 => hk _ c2 ⟨ρ, ?_, ?_⟩
      · rw [e3, nI_suc (by omega), cntP_s, if_pos e0, e4, show s - (k % s + 1) = s - k % s - 1 by omega]
      · rw [a5 e0]; exact hρ
theorem ag_thin (h : RX σ τ) (x1 x2 x3 : Int32) : Ri (f_X3_thin σ x1 x2 x3) (f_X6_thin τ x1 x2 x3) (TQ C2 σ) := by
  unfold f_X3_thin f_X6_thin
  refine gd_track (fun j hj hx => ri_tR rfl (ri_eR (mo_isIn _ _ _) ?_)) (ri_fR ne10 (tq_l (h.thr 1) thr0))
  have h0 := h.thr 0
  unfold f_X6_thin_27
  by_cases c2 : 2 ≤ x3 ∧ x3 ≤ 5
  · rw [if_pos c2]
    refine ri_fR ne10 (ri_obr (cl_within c2) ?_)
    refine ri_eR (mo_ref0 thr0 rfl) (ri_tR rfl ?_)
    have hr := h.row (i := j) (by omega)
    have hl := len20 h.1 hj
    refine ri_eL (trackOf_ok hx) (ri_eL (rw_size hr) ?_)
    refine ri_eR (sizeN (gtr_x hx)) (ri_fR (arr_nN hl) (ri_nR fun n hn => ri_nR fun g hg => ?_))
    have hn : n = (τ.1 j).length := hn.trans (nI_cn hl)
    subst hn
    obtain ⟨s, h5, rfl⟩ := nIof (b := 5) (by omega) (Int32.le_trans (by decide) c2.1) c2.2
    have h2 : 2 ≤ s := (nI_lei (a := 2) (by omega) (by omega)).mp c2.1
    have key : ∀ (d m : Nat) (g : Nat → Int32) (f : Nat), m + d = (τ.1 j).length → d < f → (∀ i, i < m → (g (PP x2 (τ.1 j).length i) = 0 ↔ ¬ (i + 1) % s = 0)) → Ri (lpn f_X3_thin_33 64 (σ, x1, x2, nI s, j, nI (τ.1 j).length, 0, nI s, 0)) (lpn f_X6_thin_48 f (thr τ 0, x1, x2, nI s, (τ.1 j).length, g, nI (m + 1))) (TQ C2 σ) := by
      intro d
      induction d with
      | zero =>
        intro m g f hm2 hf hg
        obtain ⟨f', rfl⟩ : ∃ f', f = f' + 1 := ⟨f - 1, by omega⟩
        have em : m = (τ.1 j).length := by omega
        show Ri _ (f_X6_thin_48 (lpn f_X6_thin_48 f') (thr τ 0, x1, x2, nI s, (τ.1 j).length, g, nI (m + 1))) _
        unfold f_X6_thin_48
        dsimp only
        refine ri_tR ((nI_lti (by omega) (by omega)).mpr (by omega)) ?_
        rw [em] at hg
        intro r2 e2
        refine cl_thin (g := g) hr h2 h5 hg fun ρ hρ => ?_
        have q := off_end (τ := thr τ 0) (g := g) (ρ := ρ) h0 hj hx hρ
        have q2 : Ri ((f_X3_tearIfAny (va_up σ.1 j ρ, σ.2) x1 (nI ((τ.1 j).length - (keepG g 0 (τ.1 j)).length))).bind fun z3 => some (.inr (nI ((τ.1 j).length - (keepG g 0 (τ.1 j)).length), z3))) ((f_X6_offAll (thr τ 0) x1 (τ.1 j).length g).bind fun z6 => some (z6.1, z6.2)) (TQ C2 σ) := ri_call q fun u w hu => tq_r hu.2.1 (hu.2.2.trans thr0) hu.1.symm
        exact q2 r2 e2
      | succ d ih =>
        intro m g f hm2 hf hg
        obtain ⟨f', rfl⟩ : ∃ f', f = f' + 1 := ⟨f - 1, by omega⟩
        have c3 : m < (τ.1 j).length := by omega
        have hp : PP x2 (τ.1 j).length m < (τ.1 j).length := pp_lt c3
        show Ri _ (f_X6_thin_48 (lpn f_X6_thin_48 f') (thr τ 0, x1, x2, nI s, (τ.1 j).length, g, nI (m + 1))) _
        have st : ∀ u : Int32, (vp_nar .boolean u = 0 ↔ ¬ (m + 1) % s = 0) → Ri (lpn f_X3_thin_33 64 (σ, x1, x2, nI s, j, nI (τ.1 j).length, 0, nI s, 0)) (f_X6_thin_87 (lpn f_X6_thin_48 f') (thr τ 0) x1 x2 (nI s) (τ.1 j).length g (nI (m + 1)) (nI (PP x2 (τ.1 j).length m)) u) (TQ C2 σ) := by
          intro u hu
          unfold f_X6_thin_87
          refine ri_fR (arr_iN hp (by omega)) (ri_nR fun g1 hg1 => ri_nR fun y hy => ?_)
          rw [nI_c (by omega)] at hg1
          rw [hy, nI_suc (by omega)]
          refine ih (m + 1) g1 f' (by omega) (by omega) fun i hi => ?_
          by_cases c : i = m
          · rw [c, hg1, upd_at, if_pos rfl]; exact hu
          · rw [hg1, upd_at, if_neg (pp_ne c3 (by omega) c)]; exact hg i (by omega)
        have st2 : Ri (lpn f_X3_thin_33 64 (σ, x1, x2, nI s, j, nI (τ.1 j).length, 0, nI s, 0)) (f_X6_thin_75 (lpn f_X6_thin_48 f') (thr τ 0) x1 x2 (nI s) (τ.1 j).length g (nI (m + 1)) (nI (PP x2 (τ.1 j).length m))) (TQ C2 σ) := by
          unfold f_X6_thin_75
          refine ri_fR (mt (nI_eqz (a := s) (by omega)).mp (by omega)) ?_
          rw [jremN (by omega) (by omega) (by omega)]
          have hlt : (m + 1) % s < s := Nat.mod_lt _ (by omega)
          refine ri_iR (fun z => st 1 ?_) fun z => st 0 ?_
          · have z2 := (nI_eqz (a := (m + 1) % s) (by omega)).mp z
            exact ⟨fun e => absurd e (by decide), fun e => absurd z2 e⟩
          · have z2 := mt (nI_eqz (a := (m + 1) % s) (by omega)).mpr z
            exact ⟨fun _ => z2, fun _ => (by decide)⟩
        unfold f_X6_thin_48
        dsimp only
        refine ri_fR (mt (nI_lti (by omega) (by omega)).mp (by omega)) ?_
        by_cases hb : x2 = 0
        · refine ri_tR hb ?_
          have e : PP x2 (τ.1 j).length m = m := by rw [hb]; exact pp_0
          rw [e] at st2
          rw [nI_prd (by omega) (by omega)]
          exact st2
        · refine ri_fR hb ?_
          rw [pp_1 hb] at st2
          rw [nI_dif (by omega) (by omega), show (τ.1 j).length - (m + 1) = (τ.1 j).length - 1 - m by omega]
          exact st2
    exact key (τ.1 j).length 0 g 24 (by omega) (by omega) fun i hi => absurd hi (by omega)
  · rw [if_neg c2]
    refine ri_tR rfl (ri_obl (cl_without c2) ?_)
    refine ri_eR (mo_ref1 thr0 ne10 (by decide)) (ri_fR ne10 ?_)
    rw [thr_thr]
    exact tq_l (h.thr 2) thr0
end L3W
