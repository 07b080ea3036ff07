section
/-! level 3: shed -/
section L3V
variable {σ : CS} {τ : MS}
theorem cl_shed {P : Nat ⊕ (Int32 × CS) → Prop} {x1 b x3 : Int32} {many j : Nat} {xs : List Int32} {g : Nat → Int32} (hr : RW j (σ.1 j) xs) (hm : many ≤ 20) (hg : ∀ i, i < xs.length → (g (PP b xs.length i) = 0 ↔ ¬ (cntP g (PP b xs.length) i < many ∧ x3 ≤ jrem (xs.getD (PP b xs.length i) 0) 100))) (fin : ∀ ρ, RW j ρ (keepG g 0 xs) → Ok ((f_X3_tearIfAny (va_up σ.1 j ρ, σ.2) x1 (nI (xs.length - (keepG g 0 xs).length))).bind fun z1 => some (.inr (sumP g (PP b xs.length) xs xs.length, z1))) P) : Ok (lpn f_X3_shed_42 64 (σ, x1, b, x3, nI many, j, nI xs.length, 0, 0, 0)) P := by
  have hl := hr.len
  refine up_loop (fun k t => ∃ ρ, t = ((va_up σ.1 j ρ, σ.2), x1, b, x3, nI many, j, nI xs.length, nI (cntP g (PP b xs.length) k), sumP g (PP b xs.length) xs k, nI k) ∧ RW j ρ (ZZ b g xs k)) xs.length ?_ xs.length 0 _ (by omega) ⟨σ.1 j, by rw [us]; rfl, by rw [zz_0]; exact hr⟩ 64 (by omega)
  rintro kk _ k hk2 ⟨ρ, rfl, hρ⟩ hk
  have fin2 : ∀ ρ, RW j ρ (keepG g 0 xs) → Ok (f_X3_shed_119 (va_up σ.1 j ρ, σ.2) x1 (nI (cntP g (PP b xs.length) xs.length)) (sumP g (PP b xs.length) xs xs.length)) P := by
    intro ρ h
    have e := zz_len (b := b) (g := g) (xs := xs) (k := xs.length) (Nat.le_refl _)
    rw [zz_n] at e
    have := fin ρ h
    rw [show xs.length - (keepG g 0 xs).length = cntP g (PP b xs.length) xs.length by omega] at this
    exact this
  have stop : (∀ i, k ≤ i → i < xs.length → g (PP b xs.length i) = 0) → Ok (f_X3_shed_119 (va_up σ.1 j ρ, σ.2) x1 (nI (cntP g (PP b xs.length) k)) (sumP g (PP b xs.length) xs k)) P := by
    intro h
    obtain ⟨s1, s2, s3⟩ := zz_stop (b := b) (g := g) (xs := xs) (xs.length - k) k (by omega) h
    rw [s2, s3]
    exact fin2 ρ (by rw [← s1]; exact hρ)
  have hc := cntP_le g (PP b xs.length) k
  unfold f_X3_shed_42
  dsimp only
  refine ok_if (fun c => ?_) fun c => ?_
  · have c2 := (nI_lei (by omega) (by omega)).mp c
    exact stop fun i h1 h2 => absurd h1 (by omega)
  · have c2 : k < xs.length := Nat.lt_of_not_le (mt (nI_lei (by omega) (by omega)).mpr c)
    refine ok_if (fun d => ?_) fun d => ?_
    · have d2 : many ≤ cntP g (PP b xs.length) k := (nI_lei (by omega) (by omega)).mp d
      refine stop fun i h1 h2 => (hg i h2).mpr fun q => ?_
      have := cntP_mono (g := g) (P := PP b xs.length) (i - k) k
      rw [show k + (i - k) = i by omega] at this
      have := q.1
      omega
    · have d2 : cntP g (PP b xs.length) k < many := Nat.lt_of_not_le (mt (nI_lei (by omega) (by omega)).mpr d)
      obtain ⟨q, a1, a2, a3, a4, a5, a6⟩ := zz_s (b := b) (g := g) c2
      have hρ2 : RW j (va_up σ.1 j ρ j) (ZZ b g xs k) := by rw [up_eq]; exact hρ
      have step : ∀ u, u = nI q → Ok (f_X3_shed_75 kk (va_up σ.1 j ρ, σ.2) x1 b x3 (nI many) j (nI xs.length) (nI (cntP g (PP b xs.length) k)) (sumP g (PP b xs.length) xs k) (nI k) u) P := by
        intro u hu
        subst hu
        unfold f_X3_shed_75 f_X3_loadOf f_X3_shed_113
        have er := rw_read hρ2 a1
        rw [a4] at er
        refine ok_ev er (ok_ev rfl (ok_if (fun z => ?_) fun z => ?_))
        · have e0 : g (PP b xs.length k) = 0 := (hg k c2).mpr fun y => absurd y.2 (Int32.not_le.mpr z)
          refine ok_nme fun y hy => hk _ c2 ⟨ρ, ?_, ?_⟩
          · rw [hy, nI_suc (by omega), cntP_s, if_pos e0, sumP_s, if_pos e0]
          · rw [a5 e0]; exact hρ
        · have e0 : ¬ g (PP b xs.length k) = 0 := fun e => (hg k c2).mp e ⟨d2, Int32.not_lt.mp z⟩
          refine ok_bind (rw_leave hρ2 a1) fun w hw => ok_nme fun t1 e1 => ok_nme fun y2 e2 => ok_nme fun y3 e3 => ok_nme fun y4 e4 => hk _ c2 ⟨w.2, ?_, ?_⟩
          · rw [e1, e2, e3, e4, nI_suc (by omega), nI_suc (by omega), cntP_s, if_neg e0, sumP_s, if_neg e0]
            show ((va_up (va_up σ.1 j ρ) j w.2, σ.2), _) = _
            rw [uu]
          · rw [a6 e0]; exact hw.2
      refine ok_if (fun z => step _ ?_) fun z => step _ ?_
      · have := a2 z
        rw [nI_dif (by omega) (by omega), show k - cntP g (PP b xs.length) k = q by omega]
      · have := a3 z
        rw [nI_prd (by omega) (by omega), nI_dif (by omega) (by omega), this]
theorem ag_shed (h : RX σ τ) (x1 x2 x3 x4 : Int32) : Ri (f_X3_shed σ x1 x2 x3 x4) (f_X6_shed τ x1 x2 x3 x4) (TQ C2 σ) := by
  unfold f_X3_shed f_X6_shed
  refine gd_track (fun j hj hx => ri_tR rfl (ri_eR (mo_isIn _ _ _) ?_)) (ri_fR ne10 (tq_l (h.thr 1) thr0))
  have h0 := h.thr 0
  by_cases c1 : 0 ≤ x3 ∧ x3 ≤ 99
  · rw [if_pos c1]
    refine ri_fR ne10 (ri_obr (cl_within c1) (ri_eR (mo_isIn _ _ _) ?_))
    by_cases c2 : 1 ≤ x4 ∧ x4 ≤ 20
    · rw [if_pos c2]
      refine ri_fR ne10 (ri_obr (cl_within c2) ?_)
      unfold f_X6_shed_39
      refine ri_eR (mo_ref0 thr0 rfl) (ri_tR rfl ?_)
      have hr := h.row (i := j) (by omega)
      have hl := len20 h.1 hj
      refine ri_eL (trackOf_ok hx) (ri_eL (rw_size hr) ?_)
      refine ri_eR (sizeN (gtr_x hx)) (ri_fR (arr_nN hl) (ri_nR fun n hn => ri_nR fun g hg => ?_))
      have hn : n = (τ.1 j).length := hn.trans (nI_cn hl)
      subst hn
      obtain ⟨many, hm, rfl⟩ := nIof (b := 20) (by omega) (Int32.le_trans (by decide) c2.1) c2.2
      have key : ∀ (d m : Nat) (g : Nat → Int32) (f : Nat), m + d = (τ.1 j).length → d < f → (∀ i, i < m → (g (PP x2 (τ.1 j).length i) = 0 ↔ ¬ (cntP g (PP x2 (τ.1 j).length) i < many ∧ x3 ≤ jrem ((τ.1 j).getD (PP x2 (τ.1 j).length i) 0) 100))) → (∀ i, m ≤ i → i < (τ.1 j).length → g (PP x2 (τ.1 j).length i) = 0) → cntP g (PP x2 (τ.1 j).length) m ≤ many → Ri (lpn f_X3_shed_42 64 (σ, x1, x2, x3, nI many, j, nI (τ.1 j).length, 0, 0, 0)) (lpn f_X6_shed_67 f (thr τ 0, x1, x2, x3, (τ.1 j).length, g, nI (many - cntP g (PP x2 (τ.1 j).length) m), sumP g (PP x2 (τ.1 j).length) (τ.1 j) m, nI m)) (TQ C2 σ) := by
        intro d
        induction d with
        | zero =>
          intro m g f hm2 hf hg hz hc
          obtain ⟨f', rfl⟩ : ∃ f', f = f' + 1 := ⟨f - 1, by omega⟩
          have em : m = (τ.1 j).length := by omega
          show Ri _ (f_X6_shed_67 (lpn f_X6_shed_67 f') (thr τ 0, x1, x2, x3, (τ.1 j).length, g, nI (many - cntP g (PP x2 (τ.1 j).length) m), sumP g (PP x2 (τ.1 j).length) (τ.1 j) m, nI m)) _
          unfold f_X6_shed_67
          dsimp only
          refine ri_tR ((nI_lei (by omega) (by omega)).mpr (by omega)) ?_
          rw [em] at hg ⊢
          intro r2 e2
          refine cl_shed (g := g) hr hm hg fun ρ hρ => ?_
          have q := off_end (τ := thr τ 0) (g := g) (ρ := ρ) h0 hj hx hρ
          have q2 : Ri ((f_X3_tearIfAny (va_up σ.1 j ρ, σ.2) x1 (nI ((τ.1 j).length - (keepG g 0 (τ.1 j)).length))).bind fun z3 => some (.inr (sumP g (PP x2 (τ.1 j).length) (τ.1 j) (τ.1 j).length, z3))) ((f_X6_offAll (thr τ 0) x1 (τ.1 j).length g).bind fun z6 => some (sumP g (PP x2 (τ.1 j).length) (τ.1 j) (τ.1 j).length, z6.2)) (TQ C2 σ) := ri_call q fun u w hu => tq_r hu.2.1 (hu.2.2.trans thr0) rfl
          exact q2 r2 e2
        | succ d ih =>
          intro m g f hm2 hf hg hz hc
          obtain ⟨f', rfl⟩ : ∃ f', f = f' + 1 := ⟨f - 1, by omega⟩
          have c3 : m < (τ.1 j).length := by omega
          have hp : PP x2 (τ.1 j).length m < (τ.1 j).length := pp_lt c3
          have gz := hz m (Nat.le_refl _) c3
          show Ri _ (f_X6_shed_67 (lpn f_X6_shed_67 f') (thr τ 0, x1, x2, x3, (τ.1 j).length, g, nI (many - cntP g (PP x2 (τ.1 j).length) m), sumP g (PP x2 (τ.1 j).length) (τ.1 j) m, nI m)) _
          have skip : ¬ (cntP g (PP x2 (τ.1 j).length) m < many ∧ x3 ≤ jrem ((τ.1 j).getD (PP x2 (τ.1 j).length m) 0) 100) → Ri (lpn f_X3_shed_42 64 (σ, x1, x2, x3, nI many, j, nI (τ.1 j).length, 0, 0, 0)) (f_X6_shed_140 (lpn f_X6_shed_67 f') (thr τ 0) x1 x2 x3 (τ.1 j).length g (nI (many - cntP g (PP x2 (τ.1 j).length) m)) (sumP g (PP x2 (τ.1 j).length) (τ.1 j) m) (nI m)) (TQ C2 σ) := by
            intro hs
            unfold f_X6_shed_140
            refine ri_nR fun y hy => ?_
            have e1 : cntP g (PP x2 (τ.1 j).length) (m + 1) = cntP g (PP x2 (τ.1 j).length) m := by rw [cntP_s, if_pos gz]
            have e2 : sumP g (PP x2 (τ.1 j).length) (τ.1 j) (m + 1) = sumP g (PP x2 (τ.1 j).length) (τ.1 j) m := by rw [sumP_s, if_pos gz]
            have q := ih (m + 1) g f' (by omega) (by omega) (fun i hi => by
              by_cases c : i = m
              · rw [c]; exact ⟨fun _ => hs, fun _ => gz⟩
              · exact hg i (by omega)) (fun i h1 h2 => hz i (by omega) h2) (by rw [e1]; exact hc)
            rw [e1, e2] at q
            rw [hy, nI_suc (by omega)]
            exact q
          have st : Ri (lpn f_X3_shed_42 64 (σ, x1, x2, x3, nI many, j, nI (τ.1 j).length, 0, 0, 0)) (f_X6_shed_92 (lpn f_X6_shed_67 f') (thr τ 0) x1 x2 x3 (τ.1 j).length g (nI (many - cntP g (PP x2 (τ.1 j).length) m)) (sumP g (PP x2 (τ.1 j).length) (τ.1 j) m) (nI m) (nI (PP x2 (τ.1 j).length m))) (TQ C2 σ) := by
            unfold f_X6_shed_92
            refine ri_iR (fun z => ?_) fun z => ?_
            · have z2 := (nI_eqz (a := many - cntP g (PP x2 (τ.1 j).length) m) (by omega)).mp z
              exact skip fun q => absurd q.1 (by omega)
            · have z2 := mt (nI_eqz (a := many - cntP g (PP x2 (τ.1 j).length) m) (by omega)).mpr z
              refine ri_eR (getN (τ := thr τ 0) (gtr_x hx) hp hl) (ri_eR (v := jrem ((τ.1 j).getD (PP x2 (τ.1 j).length m) 0) 100) rfl (ri_iR (fun w => ?_) fun w => skip fun q => w q.2))
              refine ri_fR (arr_iN hp (by omega)) (ri_nR fun g1 hg1 => ri_eR (getN (τ := thr τ 0) (gtr_x hx) hp hl) (ri_eR (v := jrem ((τ.1 j).getD (PP x2 (τ.1 j).length m) 0) 100) rfl (ri_nR fun y1 h1 => ri_nR fun y2 h2 => ?_)))
              rw [nI_c (by omega)] at hg1
              have gm : ¬ g1 (PP x2 (τ.1 j).length m) = 0 := by
                rw [hg1, upd_at, if_pos rfl]; decide
              have go : ∀ i, i < (τ.1 j).length → i ≠ m → g1 (PP x2 (τ.1 j).length i) = g (PP x2 (τ.1 j).length i) := fun i hi ne => by
                rw [hg1, upd_at, if_neg (pp_ne c3 hi ne)]
              have cg : ∀ k, k ≤ m → cntP g1 (PP x2 (τ.1 j).length) k = cntP g (PP x2 (τ.1 j).length) k := fun k hk => cntP_cg k fun i hi => by rw [go i (by omega) (by omega)]
              have sg : sumP g1 (PP x2 (τ.1 j).length) (τ.1 j) m = sumP g (PP x2 (τ.1 j).length) (τ.1 j) m := sumP_cg m fun i hi => by rw [go i (by omega) (by omega)]
              have e1 : cntP g1 (PP x2 (τ.1 j).length) (m + 1) = cntP g (PP x2 (τ.1 j).length) m + 1 := by rw [cntP_s, if_neg gm, cg m (Nat.le_refl _)]
              have e2 : sumP g1 (PP x2 (τ.1 j).length) (τ.1 j) (m + 1) = sumP g (PP x2 (τ.1 j).length) (τ.1 j) m + jrem ((τ.1 j).getD (PP x2 (τ.1 j).length m) 0) 100 := by rw [sumP_s, if_neg gm, sg]
              have q := ih (m + 1) g1 f' (by omega) (by omega) (fun i hi => by
                by_cases c : i = m
                · rw [c, cg m (Nat.le_refl _)]; exact ⟨fun e => absurd e gm, fun e => absurd ⟨by omega, w⟩ e⟩
                · rw [go i (by omega) c, cg i (by omega)]; exact hg i (by omega)) (fun i h1 h2 => by rw [go i h2 (by omega)]; exact hz i (by omega) h2) (by rw [e1]; omega)
              rw [e1, e2] at q
              unfold f_X6_shed_140
              refine ri_nR fun y hy => ?_
              rw [hy, h1, h2, nI_suc (by omega), nI_prd2 (by omega) (by omega), show many - cntP g (PP x2 (τ.1 j).length) m - 1 = many - (cntP g (PP x2 (τ.1 j).length) m + 1) by omega]
              exact q
          unfold f_X6_shed_67
          dsimp only
          refine ri_fR (mt (nI_lei (by omega) (by omega)).mp (by omega)) ?_
          by_cases hb : x2 = 0
          · refine ri_tR hb ?_
            have e : PP x2 (τ.1 j).length m = m := by rw [hb]; exact pp_0
            rw [e] at st
            exact st
          · refine ri_fR hb ?_
            rw [pp_1 hb] at st
            rw [nI_prd (by omega) (by omega), nI_dif (by omega) (by omega)]
            exact st
      have hg0 : ∀ i, g i = 0 := fun i => by rw [hg]
      exact key (τ.1 j).length 0 g 24 (by omega) (by omega) (fun i hi => absurd hi (by omega)) (fun i _ _ => hg0 _) (Nat.zero_le _)
    · rw [if_neg c2]
      refine ri_tR rfl (ri_obl (cl_without c2) ?_)
      unfold f_X6_shed_34 f_X6_shed_39
      refine ri_eR (mo_ref1 thr0 ne10 (by decide)) (ri_fR ne10 ?_)
      rw [thr_thr]
      exact tq_l (h.thr 2) thr0
  · rw [if_neg c1]
    refine ri_tR rfl (ri_obl (cl_without c1) ?_)
    unfold f_X6_shed_34 f_X6_shed_39
    refine ri_eR (mo_ref1 thr0 ne10 (by decide)) (ri_fR ne10 ?_)
    rw [thr_thr]
    exact tq_l (h.thr 2) thr0
end L3V
end
section
/-! level 3: thin -/
section L3W
variable {σ : CS} {τ : MS}
theorem mod_st {s k : Nat} (h2 : 2 ≤ s) (h5 : s ≤ 5) : k % s < s ∧ ((k + 1) % s = 0 ↔ s - k % s - 1 = 0) ∧ (¬ (k + 1) % s = 0 → (k + 1) % s = k % s + 1) := by
  rcases (by omega : s = 2 ∨ s = 3 ∨ s = 4 ∨ s = 5) with e | e | e | e <;> subst e <;> omega
theorem cl_thin {P : Nat ⊕ (Int32 × CS) → Prop} {x1 b : Int32} {s j : Nat} {xs : List Int32} {g : Nat → Int32} (hr : RW j (σ.1 j) xs) (h2 : 2 ≤ s) (h5 : s ≤ 5) (hg : ∀ i, i < xs.length → (g (PP b xs.length i) = 0 ↔ ¬ (i + 1) % s = 0)) (fin : ∀ ρ, RW j ρ (keepG g 0 xs) → Ok ((f_X3_tearIfAny (va_up σ.1 j ρ, σ.2) x1 (nI (xs.length - (keepG g 0 xs).length))).bind fun z10 => some (.inr (nI (xs.length - (keepG g 0 xs).length), z10))) P) : Ok (lpn f_X3_thin_33 64 (σ, x1, b, nI s, j, nI xs.length, 0, nI s, 0)) P := by
  have hl := hr.len
  refine up_loop (fun k t => ∃ ρ, t = ((va_up σ.1 j ρ, σ.2), x1, b, nI s, j, nI xs.length, nI (cntP g (PP b xs.length) k), nI (s - k % s), nI k) ∧ RW j ρ (ZZ b g xs k)) xs.length ?_ xs.length 0 _ (by omega) ⟨σ.1 j, by rw [us, Nat.zero_mod]; rfl, by rw [zz_0]; exact hr⟩ 64 (by omega)
  rintro kk _ k hk2 ⟨ρ, rfl, hρ⟩ hk
  have hc := cntP_le g (PP b xs.length) k
  obtain ⟨m1, m2, m3⟩ := mod_st (k := k) h2 h5
  unfold f_X3_thin_33
  dsimp only
  refine ok_if (fun c => ?_) fun c => ?_
  · have c2 := (nI_lei (by omega) (by omega)).mp c
    have e : k = xs.length := by omega
    have el := zz_len (b := b) (g := g) (xs := xs) (k := xs.length) (Nat.le_refl _)
    rw [zz_n] at el
    rw [e, zz_n] at hρ
    have := fin ρ hρ
    rw [show xs.length - (keepG g 0 xs).length = cntP g (PP b xs.length) xs.length by omega] at this
    rw [e]
    exact this
  · have c2 : k < xs.length := Nat.lt_of_not_le (mt (nI_lei (by omega) (by omega)).mpr c)
    obtain ⟨q, a1, a2, a3, a4, a5, a6⟩ := zz_s (b := b) (g := g) c2
    have hρ2 : RW j (va_up σ.1 j ρ j) (ZZ b g xs k) := by rw [up_eq]; exact hρ
    refine ok_nme fun y hy => ?_
    have hy : y = nI (s - k % s - 1) := by rw [hy, nI_prd2 (by omega) (by omega)]
    subst hy
    refine ok_if (fun z => ?_) fun z => ?_
    · have z2 := (nI_eqz (a := s - k % s - 1) (by omega)).mp z
      have z3 := m2.mpr z2
      have e0 : ¬ g (PP b xs.length k) = 0 := fun e => (hg k c2).mp e z3
      have step : ∀ u, u = nI q → Ok (f_X3_thin_69 kk (va_up σ.1 j ρ, σ.2) x1 b (nI s) j (nI xs.length) (nI (cntP g (PP b xs.length) k)) (nI k) j u) P := by
        intro u hu
        subst hu
        unfold f_X3_thin_69 f_X3_thin_79
        refine ok_bind (rw_leave hρ2 a1) fun w hw => ok_nme fun t1 e1 => ok_nme fun y2 e2 => ok_nme fun y3 e3 => hk _ c2 ⟨w.2, ?_, ?_⟩
        · rw [e1, e2, e3, nI_suc (by omega), nI_suc (by omega), cntP_s, if_neg e0, z3, Nat.sub_zero]
          show ((va_up (va_up σ.1 j ρ) j w.2, σ.2), _) = _
          rw [uu]
        · rw [a6 e0]; exact hw.2
      refine ok_if (fun z => step _ ?_) fun z => step _ ?_
      · have := a2 z
        rw [nI_dif (by omega) (by omega), show k - cntP g (PP b xs.length) k = q by omega]
      · have := a3 z
        rw [nI_prd (by omega) (by omega), nI_dif (by omega) (by omega), this]
    · have z2 := mt (nI_eqz (a := s - k % s - 1) (by omega)).mpr z
      have z3 : ¬ (k + 1) % s = 0 := fun e => z2 (m2.mp e)
      have e0 : g (PP b xs.length k) = 0 := (hg k c2).mpr z3
      have e4 := m3 z3
      unfold f_X3_thin_79
      refine ok_nme fun y3 e3 => hk _ c2 ⟨ρ, ?_, ?_⟩
      · rw [e3, nI_suc (by omega), cntP_s, if_pos e0, e4, show s - (k % s + 1) = s - k % s - 1 by omega]
      · rw [a5 e0]; exact hρ
theorem ag_thin (h : RX σ τ) (x1 x2 x3 : Int32) : Ri (f_X3_thin σ x1 x2 x3) (f_X6_thin τ x1 x2 x3) (TQ C2 σ) := by
  unfold f_X3_thin f_X6_thin
  refine gd_track (fun j hj hx => ri_tR rfl (ri_eR (mo_isIn _ _ _) ?_)) (ri_fR ne10 (tq_l (h.thr 1) thr0))
  have h0 := h.thr 0
  unfold f_X6_thin_27
  by_cases c2 : 2 ≤ x3 ∧ x3 ≤ 5
  · rw [if_pos c2]
    refine ri_fR ne10 (ri_obr (cl_within c2) ?_)
    refine ri_eR (mo_ref0 thr0 rfl) (ri_tR rfl ?_)
    have hr := h.row (i := j) (by omega)
    have hl := len20 h.1 hj
    refine ri_eL (trackOf_ok hx) (ri_eL (rw_size hr) ?_)
    refine ri_eR (sizeN (gtr_x hx)) (ri_fR (arr_nN hl) (ri_nR fun n hn => ri_nR fun g hg => ?_))
    have hn : n = (τ.1 j).length := hn.trans (nI_cn hl)
    subst hn
    obtain ⟨s, h5, rfl⟩ := nIof (b := 5) (by omega) (Int32.le_trans (by decide) c2.1) c2.2
    have h2 : 2 ≤ s := (nI_lei (a := 2) (by omega) (by omega)).mp c2.1
    have key : ∀ (d m : Nat) (g : Nat → Int32) (f : Nat), m + d = (τ.1 j).length → d < f → (∀ i, i < m → (g (PP x2 (τ.1 j).length i) = 0 ↔ ¬ (i + 1) % s = 0)) → Ri (lpn f_X3_thin_33 64 (σ, x1, x2, nI s, j, nI (τ.1 j).length, 0, nI s, 0)) (lpn f_X6_thin_48 f (thr τ 0, x1, x2, nI s, (τ.1 j).length, g, nI (m + 1))) (TQ C2 σ) := by
      intro d
      induction d with
      | zero =>
        intro m g f hm2 hf hg
        obtain ⟨f', rfl⟩ : ∃ f', f = f' + 1 := ⟨f - 1, by omega⟩
        have em : m = (τ.1 j).length := by omega
        show Ri _ (f_X6_thin_48 (lpn f_X6_thin_48 f') (thr τ 0, x1, x2, nI s, (τ.1 j).length, g, nI (m + 1))) _
        unfold f_X6_thin_48
        dsimp only
        refine ri_tR ((nI_lti (by omega) (by omega)).mpr (by omega)) ?_
        rw [em] at hg
        intro r2 e2
        refine cl_thin (g := g) hr h2 h5 hg fun ρ hρ => ?_
        have q := off_end (τ := thr τ 0) (g := g) (ρ := ρ) h0 hj hx hρ
        have q2 : Ri ((f_X3_tearIfAny (va_up σ.1 j ρ, σ.2) x1 (nI ((τ.1 j).length - (keepG g 0 (τ.1 j)).length))).bind fun z3 => some (.inr (nI ((τ.1 j).length - (keepG g 0 (τ.1 j)).length), z3))) ((f_X6_offAll (thr τ 0) x1 (τ.1 j).length g).bind fun z6 => some (z6.1, z6.2)) (TQ C2 σ) := ri_call q fun u w hu => tq_r hu.2.1 (hu.2.2.trans thr0) hu.1.symm
        exact q2 r2 e2
      | succ d ih =>
        intro m g f hm2 hf hg
        obtain ⟨f', rfl⟩ : ∃ f', f = f' + 1 := ⟨f - 1, by omega⟩
        have c3 : m < (τ.1 j).length := by omega
        have hp : PP x2 (τ.1 j).length m < (τ.1 j).length := pp_lt c3
        show Ri _ (f_X6_thin_48 (lpn f_X6_thin_48 f') (thr τ 0, x1, x2, nI s, (τ.1 j).length, g, nI (m + 1))) _
        have st : ∀ u : Int32, (vp_nar .boolean u = 0 ↔ ¬ (m + 1) % s = 0) → Ri (lpn f_X3_thin_33 64 (σ, x1, x2, nI s, j, nI (τ.1 j).length, 0, nI s, 0)) (f_X6_thin_87 (lpn f_X6_thin_48 f') (thr τ 0) x1 x2 (nI s) (τ.1 j).length g (nI (m + 1)) (nI (PP x2 (τ.1 j).length m)) u) (TQ C2 σ) := by
          intro u hu
          unfold f_X6_thin_87
          refine ri_fR (arr_iN hp (by omega)) (ri_nR fun g1 hg1 => ri_nR fun y hy => ?_)
          rw [nI_c (by omega)] at hg1
          rw [hy, nI_suc (by omega)]
          refine ih (m + 1) g1 f' (by omega) (by omega) fun i hi => ?_
          by_cases c : i = m
          · rw [c, hg1, upd_at, if_pos rfl]; exact hu
          · rw [hg1, upd_at, if_neg (pp_ne c3 (by omega) c)]; exact hg i (by omega)
        have st2 : Ri (lpn f_X3_thin_33 64 (σ, x1, x2, nI s, j, nI (τ.1 j).length, 0, nI s, 0)) (f_X6_thin_75 (lpn f_X6_thin_48 f') (thr τ 0) x1 x2 (nI s) (τ.1 j).length g (nI (m + 1)) (nI (PP x2 (τ.1 j).length m))) (TQ C2 σ) := by
          unfold f_X6_thin_75
          refine ri_fR (mt (nI_eqz (a := s) (by omega)).mp (by omega)) ?_
          rw [jremN (by omega) (by omega) (by omega)]
          have hlt : (m + 1) % s < s := Nat.mod_lt _ (by omega)
          refine ri_iR (fun z => st 1 ?_) fun z => st 0 ?_
          · have z2 := (nI_eqz (a := (m + 1) % s) (by omega)).mp z
            exact ⟨fun e => absurd e (by decide), fun e => absurd z2 e⟩
          · have z2 := mt (nI_eqz (a := (m + 1) % s) (by omega)).mpr z
            exact ⟨fun _ => z2, fun _ => (by decide)⟩
        unfold f_X6_thin_48
        dsimp only
        refine ri_fR (mt (nI_lti (by omega) (by omega)).mp (by omega)) ?_
        by_cases hb : x2 = 0
        · refine ri_tR hb ?_
          have e : PP x2 (τ.1 j).length m = m := by rw [hb]; exact pp_0
          rw [e] at st2
          rw [nI_prd (by omega) (by omega)]
          exact st2
        · refine ri_fR hb ?_
          rw [pp_1 hb] at st2
          rw [nI_dif (by omega) (by omega), show (τ.1 j).length - (m + 1) = (τ.1 j).length - 1 - m by omega]
          exact st2
    exact key (τ.1 j).length 0 g 24 (by omega) (by omega) fun i hi => absurd hi (by omega)
  · rw [if_neg c2]
    refine ri_tR rfl (ri_obl (cl_without c2) ?_)
    refine ri_eR (mo_ref1 thr0 ne10 (by decide)) (ri_fR ne10 ?_)
    rw [thr_thr]
    exact tq_l (h.thr 2) thr0
end L3W
end
section
/-! level 3: shunt -/
section L3X
variable {σ : CS} {τ : MS}
theorem vc_cg {t u : MS} (h : VC t) (e : u.1 = t.1) : VC u := by
  unfold VC
  rw [e]
  exact h
/-- class and model while pieces come over: m turns of N gone, c pieces came -/
def JS (σ : CS) (τ : MS) (p N m c : Nat) (w : CS) (u : MS) : Prop := m ≤ N ∧ c ≤ m ∧ w.2 = σ.2 ∧ (∀ i, i < 4 → RW i (w.1 i) (u.1 i)) ∧ VC u ∧ p + (N - m) ≤ (u.1 1).length ∧ (u.1 0).length + (N - m) ≤ 20 ∧ (grw (u.2 5) = grw (τ.2 5) ∧ grw (u.2 8) = grw (τ.2 8)) ∧ (1 ≤ m → u.2 5 = grw (τ.2 5) ∧ u.2 8 = grw (τ.2 8)) ∧ (c = 0 → u.2 1 = τ.2 1 ∧ u.2 2 = τ.2 2 ∧ u.2 3 = τ.2 3) ∧ (1 ≤ c → u.2 1 = 0 ∧ u.2 2 = 0 ∧ u.2 3 = -1) ∧ ∀ q, q ≠ 1 → q ≠ 2 → q ≠ 3 → q ≠ 5 → q ≠ 8 → u.2 q = τ.2 q
theorem JS.step0 {p N m c : Nat} {w : CS} {u : MS} {ρ : RS} {z : MS} (J : JS σ τ p N m c w u) (hm : m < N) (hρ : RW 1 ρ (delAt (u.1 1) p)) (hz : DM 1 (va_up u.1 1 (delAt (u.1 1) p), u.2) z) : JS σ τ p N (m + 1) c (va_up w.1 1 ρ, w.2) z := by
  obtain ⟨j1, j2, j3, j4, j5, j6, j7, j8, j9, j10, j11, j12⟩ := J
  obtain ⟨z1, -, z2⟩ := hz
  obtain ⟨z5, z8, zq⟩ := z2 rfl
  have z5 : z.2 5 = grw (u.2 5) := z5
  have z8 : z.2 8 = grw (u.2 8) := z8
  have zq : ∀ q, q ≠ 5 → q ≠ 8 → z.2 q = u.2 q := zq
  have z1 : z.1 = va_up u.1 1 (delAt (u.1 1) p) := z1
  refine ⟨by omega, by omega, j3, fun i hi => ?_, vc_cg (VC.del (τ := u) (i := p) j5 (j := 1) (by omega)) z1, ?_, ?_, ⟨?_, ?_⟩, fun _ => ⟨?_, ?_⟩, fun e => ?_, fun e => ?_, fun q q1 q2 q3 q5 q8 => ?_⟩
  · rw [z1]
    show RW i (va_up w.1 1 ρ i) (va_up u.1 1 (delAt (u.1 1) p) i)
    by_cases e : i = 1
    · subst e
      rw [up_eq, up_eq]; exact hρ
    · rw [up_ne e, up_ne e]; exact j4 i hi
  · rw [z1, up_eq, delAt_len (by omega)]; omega
  · rw [z1, up_ne (by omega)]; omega
  · rw [z5, grw2]; exact j8.1
  · rw [z8, grw2]; exact j8.2
  · rw [z5]; exact j8.1
  · rw [z8]; exact j8.2
  · rw [zq 1 (by omega) (by omega), zq 2 (by omega) (by omega), zq 3 (by omega) (by omega)]; exact j10 e
  · rw [zq 1 (by omega) (by omega), zq 2 (by omega) (by omega), zq 3 (by omega) (by omega)]; exact j11 e
  · rw [zq q q5 q8]; exact j12 q q1 q2 q3 q5 q8
theorem JS.step1 {p N m c : Nat} {w : CS} {u : MS} {ρ : RS} {z : MS} {v : Int32} (J : JS σ τ p N (m + 1) c w u) (hc : c ≤ m) (hl : (u.1 0).length + (N - m) ≤ 20) (hm : m < N) (hv : TV 0 v) (hρ : RW 0 ρ (u.1 0 ++ [v])) (hz : DM 0 (va_up u.1 0 (u.1 0 ++ [v]), u.2) z) : JS σ τ p N (m + 1) (c + 1) (va_up w.1 0 ρ, w.2) z := by
  obtain ⟨j1, j2, j3, j4, j5, j6, j7, j8, j9, j10, j11, j12⟩ := J
  obtain ⟨z1, z2, -⟩ := hz
  obtain ⟨y1, y2, y3, zq⟩ := z2 rfl
  have zq : ∀ q, q ≠ 1 → q ≠ 2 → q ≠ 3 → z.2 q = u.2 q := zq
  have z1 : z.1 = va_up u.1 0 (u.1 0 ++ [v]) := z1
  have hvc : VC (va_up u.1 0 (u.1 0 ++ [v]), u.2) := VC.track (τ := u) j5 (j := 0) (by omega) fun x hx => by
    rcases List.mem_append.mp hx with q | q
    · exact j5.tv (by omega) q
    · rw [List.mem_singleton.mp q]; exact hv
  refine ⟨by omega, by omega, j3, fun i hi => ?_, vc_cg hvc z1, ?_, ?_, ⟨?_, ?_⟩, fun _ => ⟨?_, ?_⟩, fun e => absurd e (by omega), fun _ => ⟨y1, y2, y3⟩, fun q q1 q2 q3 q5 q8 => ?_⟩
  · rw [z1]
    show RW i (va_up w.1 0 ρ i) (va_up u.1 0 (u.1 0 ++ [v]) i)
    by_cases e : i = 0
    · subst e
      rw [up_eq, up_eq]; exact hρ
    · rw [up_ne e, up_ne e]; exact j4 i hi
  · rw [z1, up_ne (by omega)]; exact j6
  · rw [z1, up_eq, List.length_append]
    have : [v].length = 1 := rfl
    omega
  · rw [zq 5 (by omega) (by omega) (by omega)]; exact j8.1
  · rw [zq 8 (by omega) (by omega) (by omega)]; exact j8.2
  · rw [zq 5 (by omega) (by omega) (by omega)]; exact (j9 (by omega)).1
  · rw [zq 8 (by omega) (by omega) (by omega)]; exact (j9 (by omega)).2
  · rw [zq q q1 q2 q3]; exact j12 q q1 q2 q3 q5 q8
theorem JS.fin {p N m c : Nat} {w z : CS} {u : MS} (h : RX σ τ) (J : JS σ τ p N m c w u) (hm : 1 ≤ m) (e1 : z.1 = va_up w.1 2 ((w.1 2).1, 0)) (e5 : z.2 5 = grw (w.2 5) ∧ z.2 8 = grw (w.2 8)) (e0 : c = 0 → z.2 1 = w.2 1 ∧ z.2 4 = w.2 4) (e4 : 1 ≤ c → z.2 1 = 0 ∧ z.2 4 = -1) (eq : ∀ q, q ≠ 1 → q ≠ 4 → q ≠ 5 → q ≠ 8 → z.2 q = w.2 q) : RX z (va_up u.1 2 [], u.2) := by
  obtain ⟨j1, j2, j3, j4, j5, j6, j7, j8, j9, j10, j11, j12⟩ := J
  rw [j3] at e5 e0 eq
  refine ⟨⟨fun i hi => ?_, fun q q1 q2 => ?_, ?_, j5.slips (xs := []) fun v hv => absurd hv List.not_mem_nil⟩, ?_⟩
  · rw [e1]
    show RW i (va_up w.1 2 ((w.1 2).1, 0) i) (va_up u.1 2 [] i)
    by_cases e : i = 2
    · subst e
      rw [up_eq, up_eq]; exact rw_empty
    · rw [up_ne e, up_ne e]; exact j4 i hi
  · show z.2 q = u.2 q
    by_cases q5 : q = 5
    · subst q5
      rw [e5.1, (j9 hm).1, h.1.2.1 5 (by omega) (by omega)]
    · by_cases q8 : q = 8
      · subst q8
        rw [e5.2, (j9 hm).2, h.1.2.1 8 (by omega) (by omega)]
      · rw [eq q (by omega) (by omega) q5 q8, j12 q (by omega) (by omega) (by omega) q5 q8]
        exact h.1.2.1 q q1 q2
  · show z.2 0 = u.2 4
    rw [eq 0 (by omega) (by omega) (by omega) (by omega), j12 4 (by omega) (by omega) (by omega) (by omega) (by omega)]
    exact h.1.2.2.1
  · show WRel (z.2 1) (z.2 2) (z.2 3) (z.2 4) (u.2 1) (u.2 2) (u.2 3)
    by_cases c0 : c = 0
    · obtain ⟨a1, a2⟩ := e0 c0
      obtain ⟨b1, b2, b3⟩ := j10 c0
      rw [a1, a2, b1, b2, b3, eq 2 (by omega) (by omega) (by omega) (by omega), eq 3 (by omega) (by omega) (by omega) (by omega)]
      exact h.2
    · obtain ⟨a1, a2⟩ := e4 (by omega)
      obtain ⟨b1, b2, b3⟩ := j11 (by omega)
      rw [a1, a2, b1, b3]
      exact Or.inl ⟨rfl, rfl, rfl, rfl⟩
theorem ag_shuntL (h : RX σ τ) (h0 : τ.2 0 = 0) {p N : Nat} (hN : 1 ≤ N) (hp : p + N ≤ (τ.1 1).length) (hs : (τ.1 0).length + N ≤ 20) : Ri (lpn f_X3_shunt_53 64 (σ, nI p, nI N, 0, 0)) (lpn f_X6_shunt_90 24 (τ, nI p, 0, nI N)) (TQ C3 σ) := by
  have hl1 := len20 h.1 (j := 1) (by omega)
  refine ri_lpn (fun s t => ∃ (m c : Nat) (w : CS) (u : MS), s = (w, nI p, nI N, nI c, nI m) ∧ t = (u, nI p, nI c, nI (N - m)) ∧ JS σ τ p N m c w u) ?_ 24 64 _ _ (by omega) ⟨0, 0, σ, τ, rfl, rfl, ?_⟩
  · rintro k1 k2 _ _ ⟨m, c, w, u, rfl, rfl, J⟩ hk
    obtain ⟨j1, j2, j3, j4, j5, j6, j7, j8, j9, j10, j11, j12⟩ := id J
    unfold f_X3_shunt_53 f_X6_shunt_90
    dsimp only
    have hu1 : (u.1 1).length ≤ 20 := (j4 1 (by omega)).len
    by_cases e : m = N
    · refine ri_tR ((nI_lei (b := 0) (by omega) (by omega)).mpr (by omega)) (ri_tL ((nI_lei (by omega) (by omega)).mpr (by omega)) (ri_eR mo_tear ?_))
      refine ri_okL (cl_tearFor (σ := w) x11) fun z3 h3 => ?_
      obtain ⟨b1, -, b2⟩ := h3
      obtain ⟨b5, b8, bq⟩ := b2 rfl
      have b5 : z3.2 5 = grw (w.2 5) := b5
      have b8 : z3.2 8 = grw (w.2 8) := b8
      have bq : ∀ q, q ≠ 5 → q ≠ 8 → z3.2 q = w.2 q := bq
      have z0 : u.2 0 = 0 := (j12 0 (by omega) (by omega) (by omega) (by omega) (by omega)).trans h0
      unfold f_X3_shunt_110
      by_cases c0 : c = 0
      · refine ri_tL ((nI_lei (b := 0) (by omega) (by omega)).mpr (by omega)) ?_
        exact tq_r (J.fin h (by omega) b1 ⟨b5, b8⟩ (fun _ => ⟨bq 1 (by omega) (by omega), bq 4 (by omega) (by omega)⟩) (fun e => absurd e (by omega)) fun q q1 q4 q5 q8 => bq q q5 q8) z0 rfl
      · refine ri_fL (mt (nI_lei (b := 0) (by omega) (by omega)).mp (by omega)) ?_
        refine ri_okL (cl_dist (σ := z3) (x := 0) (j := 0) (Or.inl ⟨rfl, rfl⟩)) fun z9 h9 => ?_
        obtain ⟨d1, d2, -⟩ := h9
        obtain ⟨d3, d4, dq⟩ := d2 rfl
        exact tq_r (J.fin h (by omega) (d1.trans b1) ⟨by rw [dq 5 (by omega) (by omega)]; exact b5, by rw [dq 8 (by omega) (by omega)]; exact b8⟩ (fun e => absurd e c0) (fun _ => ⟨d3, d4⟩) fun q q1 q4 q5 q8 => (dq q q1 q4).trans (bq q q5 q8)) z0 rfl
    · refine ri_fR (mt (nI_lei (b := 0) (by omega) (by omega)).mp (by omega)) (ri_fL (mt (nI_lei (by omega) (by omega)).mp (by omega)) ?_)
      have hpl : p < (u.1 1).length := by omega
      refine ri_okR (mo_go (τ := u) x11 rfl hpl (by omega)) fun z hz => ri_okL (rw_leave (j4 1 (by omega)) hpl) fun y hy => ri_nL fun t19 e19 => ?_
      obtain ⟨hz1, hz2⟩ := hz
      have J1 := J.step0 (by omega) hy.2 hz2
      have ev : y.1 = z.1 := hy.1.trans hz1.symm
      have hvt : VT z.1 := by rw [hz1]; exact j5.2.1 _ (mem_getD hpl)
      have key : ∀ (w' : CS) (u' : MS) (c' : Nat), c' ≤ m + 1 → JS σ τ p N (m + 1) c' w' u' → Ri (f_X3_shunt_89 k1 w' (nI p) (nI N) (nI c') (nI m)) (f_X6_shunt_126 k2 u' (nI p) (nI c') (nI (N - m))) (TQ C3 σ) := by
        intro w' u' c' hc' J'
        unfold f_X3_shunt_89 f_X6_shunt_126
        refine ri_nR fun a ha => ri_nL fun d hd => ?_
        rw [ha, hd, nI_suc (by omega), nI_prd2 (by omega) (by omega), show N - m - 1 = N - (m + 1) by omega]
        exact hk _ _ ⟨m + 1, c', w', u', rfl, rfl, J'⟩
      refine ri_eL (v := y.1 / 100) rfl ?_
      rw [ev]
      have t1 : t19 = (va_up w.1 1 y.2, w.2) := e19
      subst t1
      by_cases v0 : z.1 = 0
      · refine ri_tR v0 (ri_tL ((vt_kind hvt).mpr v0) ?_)
        exact key _ _ c (by omega) J1
      · refine ri_fR v0 (ri_fL (mt (vt_kind hvt).mp v0) ?_)
        obtain ⟨i1, i2, i3, i4, i5, i6, i7, -⟩ := id J1
        have hz0 : z.2.1 0 = u.1 0 := by
          rw [hz2.1]
          show va_up u.1 1 (delAt (u.1 1) p) 0 = _
          rw [up_ne (by omega)]
        have hl0 : (z.2.1 0).length + (N - m) ≤ 20 := by rw [hz0]; exact j7
        refine ri_eR (sizeN (τ := z.2) (j := 0) rfl) (ri_okR (mo_come (τ := z.2) (x := 0) (j := 0) (i := (z.2.1 0).length) (Or.inl ⟨rfl, rfl⟩) rfl (Nat.le_refl _) (by omega)) fun z23 h23 => ri_nR fun y24 h24 => ?_)
        rw [insAt_last] at h23
        refine ri_okL (rw_enterLast (i4 0 (by omega)) (v := z.1) (by show _ < 20; omega)) fun w26 h26 => ri_nL fun t31 e31 => ri_nL fun y32 h32 => ?_
        subst e31
        rw [h24, h32, nI_suc (by omega)]
        exact key _ _ (c + 1) (by omega) (J1.step1 j2 hl0 (by omega) ⟨hvt, fun _ => v0⟩ h26 h23)
  · exact ⟨Nat.zero_le _, Nat.le_refl _, rfl, fun i hi => h.row hi, h.1.2.2.2, by omega, by omega, ⟨rfl, rfl⟩, fun e => absurd e (by omega), fun _ => ⟨rfl, rfl, rfl⟩, fun e => absurd e (by omega), fun _ _ _ _ _ _ => rfl⟩
theorem min_n20 {a b : Nat} (ha : a ≤ 20) (hb : b ≤ 20) : (if nI a < nI b then nI a else nI b) = nI (if a < b then a else b) := by
  by_cases c : a < b
  · rw [if_pos ((nI_lti (by omega) (by omega)).mpr c), if_pos c]
  · rw [if_neg (mt (nI_lti (by omega) (by omega)).mp c), if_neg c]
theorem ag_shunt (h : RX σ τ) (x1 x2 : Int32) : Ri (f_X3_shunt σ x1 x2) (f_X6_shunt τ x1 x2) (TQ C3 σ) := by
  have h0 := h.thr 0
  have hr1 := h.row (i := 1) (by omega)
  have hl0 := len20 h.1 (j := 0) (by omega)
  have hl1 := len20 h.1 (j := 1) (by omega)
  unfold f_X3_shunt f_X6_shunt
  refine ri_eR (mo_noPlace _) ?_
  by_cases c : 0 ≤ x1 ∧ x1 ≤ 19
  · rw [if_pos c]
    refine ri_eR (mo_st0 rfl) (ri_tR rfl (ri_eR (mo_isIn _ _ _) (ri_obr (cl_place c) ?_)))
    unfold f_X6_shunt_29
    by_cases c2 : 1 ≤ x2 ∧ x2 ≤ 20
    · rw [if_pos c2]
      refine ri_fR ne10 (ri_eR (mo_ref0 thr0 rfl) (ri_tR rfl (ri_obr (cl_within c2) (ri_eR (sizeN (j := 0) rfl) ?_))))
      obtain ⟨p, hp, rfl⟩ := nIof (b := 19) (by omega) c.1 c.2
      obtain ⟨n, hn, rfl⟩ := nIof (b := 20) (by omega) (Int32.le_trans (by decide) c2.1) c2.2
      have hn1 : 1 ≤ n := (nI_lei (a := 1) (by omega) (by omega)).mp c2.1
      unfold f_X6_shunt_54
      rcases room_cases h (x := 0) (j := 0) (by omega) (Or.inl ⟨rfl, rfl⟩) (n := n) hn with ⟨d, e⟩ | ⟨d, e⟩
      · refine ri_tR ((sum_le hl0 hn).mpr d) (ri_eR (mo_ref0 thr0 rfl) (ri_tR rfl (ri_obr e (ri_eR (sizeN (j := 1) rfl) (ri_eL (rw_size hr1) ?_)))))
        refine ri_iR (fun g => ri_tL g ?_) fun g => ri_fL g (tq_r h0 thr0 rfl)
        have g2 : p < (τ.1 1).length := (nI_lti (by omega) (by omega)).mp g
        refine ri_eR (sizeN (j := 1) rfl) (ri_eL (rw_size hr1) (ri_nR fun y hy => ri_nL fun y2 hy2 => ?_))
        have hy : y = nI (if (τ.1 1).length - p < n then (τ.1 1).length - p else n) := by
          rw [hy]
          show (if nI (τ.1 1).length - nI p < nI n then nI (τ.1 1).length - nI p else nI n) = _
          rw [nI_dif (by omega) (by omega), min_n20 (by omega) hn]
        have hy2 : y2 = nI (if (τ.1 1).length - p < n then (τ.1 1).length - p else n) := by
          rw [hy2, nI_dif (by omega) (by omega), min_n20 (by omega) hn]
        have hb : 1 ≤ (if (τ.1 1).length - p < n then (τ.1 1).length - p else n) ∧ p + (if (τ.1 1).length - p < n then (τ.1 1).length - p else n) ≤ (τ.1 1).length ∧ (if (τ.1 1).length - p < n then (τ.1 1).length - p else n) ≤ n := by
          split <;> omega
        rw [hy, hy2]
        have q := ag_shuntL (τ := thr τ 0) h0 thr0 hb.1 (p := p) hb.2.1 (show (τ.1 0).length + _ ≤ 20 by have := hb.2.2; omega)
        exact q
      · refine ri_fR (mt (sum_le hl0 hn).mp d) (ri_eR (mo_ref1 thr0 ne10 (by decide)) (ri_fR ne10 (ri_obl e ?_)))
        rw [thr_thr]
        exact tq_l (h.thr 3) thr0
    · rw [if_neg c2]
      refine ri_tR rfl (ri_eR (mo_ref1 thr0 ne10 (by decide)) (ri_fR ne10 (ri_obl (cl_without c2) ?_)))
      rw [thr_thr]
      exact tq_l (h.thr 2) thr0
  · rw [if_neg c]
    exact ri_eR (mo_st1 ne10 (by decide)) (ri_fR ne10 (ri_obl (cl_noplace c) (tq_l (h.thr 1) thr0)))
end L3X
end
section
/-! level 3: nested -/
section L3Y
variable {σ : CS} {τ : MS}
theorem snoc_get {xs : List Int32} {v : Int32} {q : Nat} (h : q < xs.length) : (xs ++ [v]).getD q 0 = xs.getD q 0 := by
  rw [List.getD_eq_getElem?_getD, List.getD_eq_getElem?_getD, List.getElem?_append_left h]
theorem rw_leaveN {i : Nat} {ρ : RS} {x : Int32} (hx : x < 0) : f_X0_leave (cap i) ρ x = some (0, ρ) := by
  unfold f_X0_leave
  rw [if_pos hx]
/-- what the open brackets leave of the yard -/
def NQ (σ : CS) (τ : MS) (r : Int32 × CS) (r2 : Int32 × MS) : Prop := r.1 = r2.1 ∧ (∀ i, i ≠ 6 → r.2.1 i = σ.1 i) ∧ r.2.2 = σ.2 ∧ r2.2 = τ
def NJ (σ : CS) (w : CS) (L : List Int32) (g : Nat → Int32) (k : Nat) : Prop := L.length ≤ k ∧ RW 6 (w.1 6) L ∧ (∀ q, q < L.length → g q = L.getD q 0) ∧ (∀ i, i ≠ 6 → w.1 i = σ.1 i) ∧ w.2 = σ.2
theorem ne_most (h : RX σ τ) {x1 : Int32} {j : Nat} (hj : j < 2) (hx : x1 = 0 ∧ j = 0 ∨ x1 = 1 ∧ j = 1) : Ri (f_X3_mostOpen σ x1) (f_X6_nestedNow τ x1) (NQ σ τ) := by
  have hl := len20 h.1 hj
  have hr := h.row (i := j) (by omega)
  have c6 : cap 6 = 20 := rfl
  unfold f_X3_mostOpen f_X6_nestedNow
  refine ri_eL (trackOf_ok hx) (ri_eL (v := ((σ.1 6).1, 0)) rfl (ri_nL fun t0 ht0 => ri_fR (by decide) (ri_nR fun n hn => ri_nR fun g0 hg0 => ?_)))
  have hn : n = 21 := hn
  subst hn
  refine ri_lpn (fun s t => ∃ (k : Nat) (L : List Int32) (w : CS) (g : Nat → Int32) (mo : Int32), k ≤ (τ.1 j).length ∧ s = (w, j, mo, nI k) ∧ t = (τ, x1, 21, g, nI L.length, mo, nI k) ∧ NJ σ w L g k) ?_ 24 64 _ _ (by omega) ⟨0, [], t0, g0, 0, Nat.zero_le _, rfl, rfl, Nat.le_refl _, ?_, fun q hq => absurd hq (Nat.not_lt_zero q), fun i hi => ?_, ?_⟩
  · rintro k1 k2 _ _ ⟨k, L, w, g, mo, hk20, rfl, rfl, a1, a2, a3, a4, a5⟩ hk
    unfold f_X3_mostOpen_18 f_X6_nestedNow_13
    dsimp only
    have hrw : RW j (w.1 j) (τ.1 j) := by rw [a4 j (by omega)]; exact hr
    refine ri_eL (rw_size hrw) (ri_eR (sizeN (gtr_x hx)) (ri_iR (fun c => ri_tL c ?_) fun c => ri_fL c ?_))
    · refine ri_eL (rw_isEmpty a2) ?_
      by_cases e : L.length = 0
      · rw [if_pos e]
        exact ri_fL ne10 (ri_tR ((nI_eqz (by omega)).mpr e) (ri_some ⟨rfl, a4, a5, rfl⟩))
      · rw [if_neg e]
        exact ri_tL rfl (ri_fR (mt (nI_eqz (by omega)).mp e) (ri_some ⟨rfl, a4, a5, rfl⟩))
    · have c2 : k < (τ.1 j).length := Nat.lt_of_not_le (mt (nI_lei (by omega) (by omega)).mpr c)
      have hv := h.1.2.2.2.tv hj (mem_getD c2)
      refine ri_eL (rw_read hrw c2) (ri_eR (getN (gtr_x hx) c2 hl) (ri_eL (v := (τ.1 j).getD k 0 / 100) rfl (ri_eR (v := (τ.1 j).getD k 0 / 100) rfl ?_)))
      have q := dv100 hv.1.rng.1 hv.1.rng.2
      obtain ⟨κ, hκ, eκ⟩ := nIof (b := 9) (by omega) q.1 q.2
      rw [eκ]
      have hj2 : jrem (nI κ) 2 = nI (κ % 2) := jremN (b := 2) (by omega) (by omega) (by omega)
      rw [hj2]
      have skip : Ri (f_X3_mostOpen_100 k1 w j mo (nI k)) (f_X6_nestedNow_98 k2 τ x1 21 g (nI L.length) mo (nI k)) (NQ σ τ) := by
        unfold f_X3_mostOpen_100 f_X6_nestedNow_98
        refine ri_nR fun a ha => ri_nL fun d hd => ?_
        rw [ha, hd, nI_suc (by omega)]
        exact hk _ _ ⟨k + 1, L, w, g, mo, by omega, rfl, rfl, by omega, a2, a3, a4, a5⟩
      unfold f_X3_mostOpen_77
      rw [hj2]
      have k0 : (nI κ = 0 ↔ κ = 0) := nI_eqz (by omega)
      have k9 : (nI κ = 9 ↔ κ = 9) := nI_eqi (b := 9) (by omega) (by omega)
      have kg : (9 ≤ nI κ ↔ 9 ≤ κ) := nI_lei (a := 9) (by omega) (by omega)
      have m1 : (nI (κ % 2) = 1 ↔ κ % 2 = 1) := nI_eqi (b := 1) (by omega) (by omega)
      have m0 : (nI (κ % 2) = 0 ↔ κ % 2 = 0) := nI_eqz (by omega)
      by_cases e0 : κ = 0
      · exact ri_fL (mt m1.mp (by omega)) (ri_tL (m0.mpr (by omega)) (ri_tL (k0.mpr e0) (ri_tR (k0.mpr e0) skip)))
      by_cases e9 : κ = 9
      · exact ri_tL (m1.mpr (by omega)) (ri_tL (kg.mpr (by omega)) (ri_fL (mt m0.mp (by omega)) (ri_fR (mt k0.mp e0) (ri_tR (k9.mpr e9) skip))))
      by_cases eo : κ % 2 = 1
      · refine ri_tL (m1.mpr eo) (ri_fL (mt kg.mp (by omega)) (ri_fR (mt k0.mp e0) (ri_fR (mt k9.mp e9) (ri_tR (m1.mpr eo) ?_))))
        refine ri_fR (arr_iN (by omega) (by omega)) (ri_nR fun g1 hg1 => ri_nR fun y1 h1 => ri_nR fun y2 h2 => ?_)
        refine ri_okL (rw_enterLast a2 (v := nI κ) (by omega)) fun z hz => ri_nL fun t1 e1 => ?_
        subst e1
        have hz2 : RW 6 (va_up w.1 6 z 6) (L ++ [nI κ]) := by rw [up_eq]; exact hz
        have ll : (L ++ [nI κ]).length = L.length + 1 := List.length_append
        refine ri_eL (rw_size hz2) (ri_nL fun y3 h3 => ?_)
        rw [nI_c (by omega)] at hg1
        have ey : y2 = y3 := by rw [h2, h3, h1, ll, nI_suc (by omega)]
        unfold f_X3_mostOpen_100 f_X6_nestedNow_98
        refine ri_nR fun a ha => ri_nL fun d hd => ?_
        rw [ha, hd, nI_suc (by omega), ey, h1, nI_suc (by omega), ← ll]
        refine hk _ _ ⟨k + 1, L ++ [nI κ], _, g1, y3, by omega, rfl, rfl, by omega, hz2, fun p hp => ?_, fun i hi => ?_, a5⟩
        · rw [hg1, upd_at]
          by_cases e : p = L.length
          · rw [if_pos e, e]; exact (get_mid L (nI κ) []).symm
          · rw [if_neg e, snoc_get (by omega)]; exact a3 p (by omega)
        · show va_up w.1 6 z i = _
          rw [up_ne hi]; exact a4 i hi
      · have ed : nI κ - 1 = nI (κ - 1) := nI_prd (by omega) (by omega)
        refine ri_fL (mt m1.mp eo) (ri_tL (m0.mpr (by omega)) (ri_fL (mt k0.mp e0) (ri_fR (mt k0.mp e0) (ri_fR (mt k9.mp e9) (ri_fR (mt m1.mp eo) ?_)))))
        unfold f_X3_closedBy
        rw [rw_endPlace a2 1, bsm, if_neg ne10, ed]
        by_cases el : L.length = 0
        · refine ri_tR ((nI_eqz (by omega)).mpr el) ?_
          have e1 : nI L.length - 1 = -1 := by rw [el]; rfl
          rw [e1, rw_leaveN (by decide), bsm]
          show Ri (Option.bind (if (0 : Int32) = nI (κ - 1) then some (1, (va_up w.1 6 (w.1 6), w.2)) else some (0, (va_up w.1 6 (w.1 6), w.2))) _) _ _
          rw [if_neg (fun q => absurd ((nI_eqz (a := κ - 1) (by omega)).mp q.symm) (by omega)), bsm, us]
          exact ri_tL rfl (ri_some ⟨rfl, a4, a5, rfl⟩)
        · refine ri_fR (mt (nI_eqz (by omega)).mp el) ?_
          rw [nI_prd (by omega) (by omega)]
          refine ri_fR (arr_iN (by omega) (by omega)) ?_
          rw [nI_c (by omega)]
          have eg := a3 (L.length - 1) (by omega)
          obtain ⟨z, ez, hz1, hz2⟩ := rw_leave a2 (j := L.length - 1) (by omega)
          rw [ez, bsm, hz1]
          have hz3 : RW 6 (va_up w.1 6 z.2 6) (delAt L (L.length - 1)) := by rw [up_eq]; exact hz2
          have ll : (delAt L (L.length - 1)).length = L.length - 1 := delAt_len (by omega)
          have hw : ∀ i, i ≠ 6 → va_up w.1 6 z.2 i = σ.1 i := fun i hi => by rw [up_ne hi]; exact a4 i hi
          show Ri (Option.bind (if L.getD (L.length - 1) 0 = nI (κ - 1) then some (1, (va_up w.1 6 z.2, w.2)) else some (0, (va_up w.1 6 z.2, w.2))) _) _ _
          by_cases em : L.getD (L.length - 1) 0 = nI (κ - 1)
          · rw [if_pos em, bsm]
            refine ri_fL ne10 (ri_tR (eg.trans em) (ri_nR fun y hy => ?_))
            unfold f_X3_mostOpen_100 f_X6_nestedNow_98
            refine ri_nR fun a ha => ri_nL fun d hd => ?_
            rw [ha, hd, hy, nI_suc (by omega), nI_prd2 (by omega) (by omega), ← ll]
            refine hk _ _ ⟨k + 1, delAt L (L.length - 1), _, g, mo, by omega, rfl, rfl, by omega, hz3, fun p hp => ?_, hw, a5⟩
            rw [delAt_get (by omega), if_pos (by omega)]
            exact a3 p (by omega)
          · rw [if_neg em, bsm]
            exact ri_tL rfl (ri_fR (fun q => em (eg.symm.trans q)) (ri_some ⟨rfl, hw, a5, rfl⟩))
  · rw [ht0]
    show RW 6 (va_up σ.1 6 ((σ.1 6).1, 0) 6) []
    rw [up_eq]; exact rw_empty
  · rw [ht0]
    exact up_ne hi
  · rw [ht0]
theorem RX.same {w : CS} (h : RX σ τ) (e1 : ∀ i, i < 4 → w.1 i = σ.1 i) (e2 : w.2 = σ.2) : RX w τ := by
  refine ⟨h.1.cg e1 rfl (fun q q1 q2 => ?_) ?_, ?_⟩
  · rw [e2]; exact h.1.2.1 q q1 q2
  · rw [e2]; exact h.1.2.2.1
  · unfold WR
    rw [e2]; exact h.2
theorem ag_nested (h : RX σ τ) (x1 : Int32) : Ri (f_X3_nested σ x1) (f_X6_nested τ x1) (TQ C1 σ) := by
  unfold f_X3_nested f_X6_nested
  refine gd_track (fun j hj hx => ri_tR rfl ?_) (ri_fR ne10 (tq_l (h.thr 1) thr0))
  refine ri_call (P := NQ σ (thr τ 0)) ?_ fun z z2 hz => ?_
  · exact ne_most (h.thr 0) hj hx
  · obtain ⟨e1, e2, e3, e4⟩ := hz
    rw [e4]
    exact tq_r ((h.thr 0).same (fun i hi => e2 i (by omega)) e3) thr0 e1
end L3Y
end
section
/-! level 3: what isSound and digest leave of the yard -/
section L3Z
variable {σ w : CS} {τ : MS}
def SR (σ w : CS) : Prop := (∀ i, i < 4 → w.1 i = σ.1 i) ∧ w.2 = σ.2
theorem SR.rf : SR σ σ := ⟨fun _ _ => rfl, rfl⟩
theorem SR.row (h : SR σ w) {i : Nat} {ρ : RS} (hi : 4 ≤ i) : SR σ (va_up w.1 i ρ, w.2) := by
  refine ⟨fun j hj => ?_, h.2⟩
  show va_up w.1 i ρ j = _
  rw [up_ne (by omega)]
  exact h.1 j hj
theorem SR.rx (h : SR σ w) (hx : RX σ τ) : RX w τ := hx.same h.1 h.2
theorem sr_copy (h : SR σ w) {x1 x2 : Nat} (hx : 4 ≤ x1) : Al (f_X0_copyFrom w x1 x2) (SR σ) := by
  unfold f_X0_copyFrom
  refine al_bind al_any fun z _ => al_nme fun t ht => al_lpn (fun t => SR σ t.1 ∧ 4 ≤ t.2.1) (fun kk a ha hk => ?_) 64 _ ⟨by rw [ht]; exact h.row hx, hx⟩
  unfold f_X0_copyFrom_6
  refine al_bind al_any fun z _ => al_if (fun _ => al_some ha.1) fun _ => al_bind al_any fun z2 _ => al_bind al_any fun z3 _ => al_nme fun t2 h2 => al_nme fun y _ => hk _ ⟨by rw [h2]; exact ha.1.row ha.2, ha.2⟩
theorem sr_undone (h : SR σ w) {x1 : Nat} (hx : 4 ≤ x1) (x2 : Int32) : Al (f_X3_isUndoneOn w x1 x2) fun r => SR σ r.2 := by
  have m63 : ∀ a b, Al (f_X3_isUndoneOn_63 w a x1 b) fun r => SR σ r.2 := by
    intro a b
    unfold f_X3_isUndoneOn_63
    exact al_bind al_any fun z _ => al_bind al_any fun z2 _ => al_nme fun t ht => al_some (by rw [ht]; exact h.row hx)
  unfold f_X3_isUndoneOn
  refine al_bind al_any fun z _ => al_bind al_any fun z _ => al_if (fun _ => al_bind al_any fun z _ => al_if (fun _ => al_if (fun _ => m63 _ _) fun _ => al_bind al_any fun z _ => m63 _ _) fun _ => al_some h) fun _ => al_bind al_any fun z _ => al_if (fun _ => al_bind al_any fun z _ => al_bind al_any fun z _ => al_nme fun t ht => al_bind al_any fun z _ => al_if (fun _ => al_some ?_) fun _ => al_some ?_) fun _ => al_some h
  · show SR σ t
    rw [ht]; exact h.row hx
  · show SR σ t
    rw [ht]; exact h.row hx
theorem sr_paper (h : SR σ w) : Al (f_X3_isUndoneOnPaper w) fun r => SR σ r.2 := by
  unfold f_X3_isUndoneOnPaper
  refine al_bind (sr_copy h (by omega)) fun z hz => al_bind (sr_copy hz (by omega)) fun z2 hz2 => al_bind al_any fun z3 _ => al_nme fun y _ => al_lpn (fun t => SR σ t.1) (fun kk a ha hk => ?_) 64 _ hz2
  have m63 : ∀ u v n, 4 ≤ n → Al (f_X3_isUndoneOnPaper_63 kk a.1 u v n) fun r => SR σ r.2 := by
    intro u v n hn
    unfold f_X3_isUndoneOnPaper_63
    exact al_bind (sr_undone ha hn _) fun z hz => al_if (fun _ => al_some hz) fun _ => al_nme fun y _ => hk _ hz
  unfold f_X3_isUndoneOnPaper_32
  exact al_if (fun _ => al_some ha) fun _ => al_bind al_any fun z _ => al_bind al_any fun z2 _ => al_if (fun _ => m63 _ _ _ (by omega)) fun _ => m63 _ _ _ (by omega)
theorem sr_sound (h : SR σ w) : Al (f_X3_isSound w) fun r => SR σ r.2 := by
  unfold f_X3_isSound
  exact al_bind al_any fun _ _ => al_if (fun _ => al_some h) fun _ => al_bind al_any fun _ _ => al_if (fun _ => al_some h) fun _ => al_bind al_any fun _ _ => al_if (fun _ => al_bind al_any fun _ _ => al_if (fun _ => al_some h) fun _ => al_bind al_any fun _ _ => al_if (fun _ => al_some h) fun _ => al_bind al_any fun _ _ => al_if (fun _ => al_some h) fun _ => al_bind al_any fun _ _ => al_if (fun _ => al_some h) fun _ => al_bind al_any fun _ _ => al_if (fun _ => al_some h) fun _ => al_bind (sr_paper h) fun z hz => al_if (fun _ => al_some hz) fun _ => al_some hz) fun _ => al_some h
theorem sr_closed (h : SR σ w) (x : Int32) : Al (f_X3_closedBy w x) fun r => SR σ r.2 := by
  unfold f_X3_closedBy
  refine al_bind al_any fun z _ => al_bind al_any fun z2 _ => al_nme fun t ht => al_if (fun _ => al_some ?_) fun _ => al_some ?_
  · show SR σ t
    rw [ht]; exact h.row (by omega)
  · show SR σ t
    rw [ht]; exact h.row (by omega)
theorem sr_most (h : SR σ w) (x : Int32) : Al (f_X3_mostOpen w x) fun r => SR σ r.2 := by
  unfold f_X3_mostOpen
  refine al_bind al_any fun z _ => al_bind al_any fun z2 _ => al_nme fun t ht => al_lpn (fun t => SR σ t.1) (fun kk a ha hk => ?_) 64 _ (by rw [ht]; exact h.row (by omega))
  have m100 : ∀ s u v x, SR σ s → Al (f_X3_mostOpen_100 kk s u v x) fun r => SR σ r.2 := by
    intro s u v x hs
    unfold f_X3_mostOpen_100
    exact al_nme fun y _ => hk _ hs
  have m77 : ∀ u v x y, Al (f_X3_mostOpen_77 kk a.1 u v x y) fun r => SR σ r.2 := by
    intro u v x y
    unfold f_X3_mostOpen_77
    exact al_if (fun _ => al_if (fun _ => m100 _ _ _ _ ha) fun _ => al_bind (sr_closed ha _) fun z hz => al_if (fun _ => al_some hz) fun _ => m100 _ _ _ _ hz) fun _ => m100 _ _ _ _ ha
  unfold f_X3_mostOpen_18
  refine al_bind al_any fun z _ => al_if (fun _ => al_bind al_any fun z _ => al_if (fun _ => al_some ha) fun _ => al_some ha) fun _ => al_bind al_any fun z _ => al_bind al_any fun z _ => al_if (fun _ => al_if (fun _ => m77 _ _ _ _) fun _ => al_bind al_any fun z _ => al_nme fun t2 h2 => al_bind al_any fun z _ => al_nme fun y _ => m100 _ _ _ _ ?_) fun _ => m77 _ _ _ _
  rw [h2]; exact ha.row (by omega)
theorem sr_track (h : SR σ w) (d : Int64) (x : Int32) : Al (f_X3_withTrack w d x) fun r => SR σ r.2 := by
  unfold f_X3_withTrack
  refine al_lpn (fun _ => True) (fun k1 a _ hk1 => ?_) 64 _ trivial
  unfold f_X3_withTrack_6
  refine al_if (fun _ => ?_) fun _ => al_bind al_any fun z _ => al_bind al_any fun z _ => al_nme fun y _ => hk1 _ trivial
  refine al_lpn (fun _ => True) (fun k2 a _ hk2 => ?_) 64 _ trivial
  unfold f_X3_withTrack_35
  refine al_if (fun _ => al_bind al_any fun z _ => ?_) fun _ => al_bind al_any fun z _ => al_bind al_any fun z _ => al_nme fun y _ => hk2 _ trivial
  refine al_lpn (fun _ => True) (fun k3 a _ hk3 => ?_) 64 _ trivial
  unfold f_X3_withTrack_71
  exact al_bind al_any fun z _ => al_if (fun _ => al_bind al_any fun z _ => al_bind al_any fun z _ => al_bind (sr_most h _) fun z hz => al_bind al_any fun z _ => al_some hz) fun _ => al_bind al_any fun z _ => al_bind al_any fun z _ => al_nme fun y _ => hk3 _ trivial
theorem sr_digest : Al (f_X3_digest σ) fun r => SR σ r.2 := by
  unfold f_X3_digest
  refine al_bind (sr_track SR.rf _ _) fun z hz => al_bind (sr_track hz _ _) fun z2 hz2 => al_lpn (fun t => SR σ t.1) (fun k1 a ha hk1 => ?_) 64 _ hz2
  unfold f_X3_digest_20
  refine al_if (fun _ => al_bind al_any fun z _ => al_bind al_any fun z _ => ?_) fun _ => al_bind al_any fun z _ => al_bind al_any fun z _ => al_bind al_any fun z _ => al_bind al_any fun z _ => al_nme fun y _ => hk1 _ ha
  refine al_lpn (fun t => SR σ t.1) (fun k2 a ha hk2 => ?_) 64 _ ha
  unfold f_X3_digest_76
  refine al_if (fun _ => al_bind al_any fun z _ => al_nme fun y _ => ?_) fun _ => al_bind al_any fun z _ => al_bind al_any fun z _ => al_nme fun y _ => hk2 _ ha
  refine al_lpn (fun t => SR σ t.1) (fun k3 a ha hk3 => ?_) 64 _ ha
  unfold f_X3_digest_108
  refine al_if (fun _ => ?_) fun _ => al_bind al_any fun z _ => al_bind al_any fun z _ => al_nme fun y _ => hk3 _ ha
  refine al_lpn (fun t => SR σ t.1) (fun k4 a ha hk4 => ?_) 64 _ ha
  unfold f_X3_digest_133
  exact al_bind al_any fun z _ => al_if (fun _ => al_bind al_any fun z _ => al_bind al_any fun z _ => al_bind al_any fun z _ => al_bind al_any fun z _ => al_bind al_any fun z _ => al_bind al_any fun z _ => al_bind (sr_sound ha) fun z hz => al_bind al_any fun z _ => al_bind al_any fun z _ => al_some hz) fun _ => al_bind al_any fun z _ => al_bind al_any fun z _ => al_nme fun y _ => hk4 _ ha
end L3Z
end
section
/-! level 3: what isSound tells, on the class's side -/
section L4A
variable {σ : CS} {τ : MS}
theorem sl_num {v : Nat} (hv : v < 8000) : jrem (nI v / 1000) 2 = nI (v / 1000 % 2) ∧ jrem (nI v / 2000) 2 = nI (v / 2000 % 2) ∧ jrem (nI v) 1000 = nI (v % 1000) ∧ nI v / 4000 = nI (v / 4000) := by
  refine ⟨?_, ?_, jrN (b := 1000) (by omega) (by omega), nI_div (b := 4000) (by omega) (by omega)⟩
  · rw [show nI v / 1000 = nI (v / 1000) from nI_div (b := 1000) (by omega) (by omega)]
    exact jrN (b := 2) (by omega) (by omega)
  · rw [show nI v / 2000 = nI (v / 2000) from nI_div (b := 2000) (by omega) (by omega)]
    exact jrN (b := 2) (by omega) (by omega)
theorem cl_undoneOn {u0 v : Nat} {xs : List Int32} (hv : v < 8000) (h20 : cap u0 = 20) (hr : RW u0 (σ.1 u0) xs) : Ok (f_X3_isUndoneOn σ u0 (nI v)) fun r => (unT v xs = none ∧ r.1 = 0) ∨ ∃ ys, unT v xs = some ys ∧ r.1 = 1 ∧ RW u0 (r.2.1 u0) ys ∧ (∀ i, i ≠ u0 → r.2.1 i = σ.1 i) := by
  obtain ⟨n1, n2, n3, -⟩ := sl_num hv
  have hl := hr.len
  have eb : f_X3_slipIsBack (nI v) = some (if v / 2000 % 2 = 1 then 1 else 0) := by
    unfold f_X3_slipIsBack
    rw [n2]
    by_cases c : v / 2000 % 2 = 1
    · rw [if_pos (by rw [c]; rfl), if_pos c]
    · rw [if_neg (show ¬ nI (v / 2000 % 2) = (1 : Int32) from mt (nI_eqi (b := 1) (by omega) (by omega)).mp c), if_neg c]
  have ep : f_X3_slipIsPut (nI v) = some (if v / 1000 % 2 = 1 then 1 else 0) := by
    unfold f_X3_slipIsPut
    rw [n1]
    by_cases c : v / 1000 % 2 = 1
    · rw [if_pos (by rw [c]; rfl), if_pos c]
    · rw [if_neg (show ¬ nI (v / 1000 % 2) = (1 : Int32) from mt (nI_eqi (b := 1) (by omega) (by omega)).mp c), if_neg c]
  unfold f_X3_isUndoneOn
  refine ok_ev eb (ok_ev ep ?_)
  by_cases c1 : v / 1000 % 2 = 1
  · rw [if_pos c1]
    refine ok_f ne10 (ok_ev (rw_isEmpty hr) ?_)
    by_cases c0 : xs.length = 0
    · rw [if_pos c0]
      exact ok_f ne10 (ok_some (Or.inl ⟨unT_e c1 c0, rfl⟩))
    · rw [if_neg c0]
      refine ok_t rfl ?_
      have main : ∀ q, q < xs.length → (unT v xs = if xs.getD q 0 = nI (v % 1000) then some (delAt xs q) else none) → f_X0_endPlace (cap u0) (σ.1 u0) (if v / 2000 % 2 = 1 then 1 else 0) = some (nI q) → Ok ((f_X0_endPlace (cap u0) (σ.1 u0) (if v / 2000 % 2 = 1 then 1 else 0)).bind fun z41 => (f_X0_leave (cap u0) (σ.1 u0) z41).bind fun z46 => nm ((va_up σ.1 u0 z46.2, σ.2) : CS) fun t51 => (f_X3_slipCode (nI v)).bind fun z52 => (if z46.1 = z52 then some ((1 : Int32), t51) else some (0, t51))) fun r => (unT v xs = none ∧ r.1 = 0) ∨ ∃ ys, unT v xs = some ys ∧ r.1 = 1 ∧ RW u0 (r.2.1 u0) ys ∧ (∀ i, i ≠ u0 → r.2.1 i = σ.1 i) := by
        intro q hq hu he
        refine ok_ev he (ok_bind (rw_leave hr hq) fun z hz => ok_nme fun t ht => ok_ev (v := nI (v % 1000)) (by unfold f_X3_slipCode; rw [n3]) ?_)
        by_cases ce : xs.getD q 0 = nI (v % 1000)
        · rw [if_pos ce] at hu
          refine ok_t (hz.1.trans ce) (ok_some (Or.inr ⟨_, hu, rfl, ?_, fun i hi => ?_⟩))
          · rw [ht]
            show RW u0 (va_up σ.1 u0 z.2 u0) _
            rw [up_eq]; exact hz.2
          · rw [ht]; exact up_ne hi
        · rw [if_neg ce] at hu
          exact ok_f (fun q => ce (hz.1.symm.trans q)) (ok_some (Or.inl ⟨hu, rfl⟩))
      have hend := rw_endPlace hr (if v / 2000 % 2 = 1 then 1 else 0)
      by_cases c2 : v / 2000 % 2 = 1
      · refine main (xs.length - 1) (by omega) (unT_d1 c1 c0 c2) ?_
        rw [hend, if_pos c2, if_neg ne10, nI_prd (by omega) (by omega)]
      · refine main 0 (by omega) (unT_d0 c1 c0 c2) ?_
        rw [hend, if_neg c2, if_pos rfl, if_neg c0]
        rfl
  · rw [if_neg c1]
    have eF : f_X0_isFull (cap u0) (σ.1 u0) = some (if xs.length < 20 then 0 else 1) := by rw [rw_isFull hr, h20]
    refine ok_t rfl (ok_ev eF ?_)
    have main : ∀ q, q ≤ xs.length → (unT v xs = if xs.length < 20 then some (insAt xs q (nI (v % 1000))) else none) → xs.length < 20 → Ok (f_X3_isUndoneOn_63 σ (nI v) u0 (nI q)) fun r => (unT v xs = none ∧ r.1 = 0) ∨ ∃ ys, unT v xs = some ys ∧ r.1 = 1 ∧ RW u0 (r.2.1 u0) ys ∧ (∀ i, i ≠ u0 → r.2.1 i = σ.1 i) := by
      intro q hq hu h2
      rw [if_pos h2] at hu
      unfold f_X3_isUndoneOn_63
      refine ok_ev (v := nI (v % 1000)) (by unfold f_X3_slipCode; rw [n3]) (ok_bind (rw_enter hr hq (by rw [h20]; exact h2)) fun z hz => ok_nme fun t ht => ok_some (Or.inr ⟨_, hu, rfl, ?_, fun i hi => ?_⟩))
      · rw [ht]
        show RW u0 (va_up σ.1 u0 z u0) _
        rw [up_eq]; exact hz
      · rw [ht]; exact up_ne hi
    by_cases c20 : xs.length < 20
    · rw [if_pos c20]
      refine ok_t rfl ?_
      by_cases c2 : v / 2000 % 2 = 1
      · rw [if_pos c2]
        exact ok_f ne10 (ok_ev (rw_size hr) (main _ (Nat.le_refl _) (unT_a1 c1 c2) c20))
      · rw [if_neg c2]
        exact ok_t rfl (main 0 (Nat.zero_le _) (unT_a0 c1 c2) c20)
    · rw [if_neg c20]
      refine ok_f ne10 (ok_some (Or.inl ⟨?_, rfl⟩))
      by_cases c2 : v / 2000 % 2 = 1
      · rw [unT_a1 c1 c2, if_neg c20]
      · rw [unT_a0 c1 c2, if_neg c20]
theorem cl_copy {x1 x2 : Nat} {xs : List Int32} (hne : x2 ≠ x1) (hc : cap x1 = 20) (hr : RW x2 (σ.1 x2) xs) : Ok (f_X0_copyFrom σ x1 x2) fun r => RW x1 (r.1 x1) xs ∧ ∀ i, i ≠ x1 → r.1 i = σ.1 i := by
  have hl := hr.len
  unfold f_X0_copyFrom
  refine ok_ev (v := ((σ.1 x1).1, 0)) rfl (ok_nme fun t0 h0 => ?_)
  refine up_loop (fun m t => ∃ w : CS, t = (w, x1, x2, nI m) ∧ RW x1 (w.1 x1) (xs.take m) ∧ ∀ i, i ≠ x1 → w.1 i = σ.1 i) xs.length ?_ xs.length 0 _ (by omega) ⟨t0, rfl, ?_, fun i hi => ?_⟩ 64 (by omega)
  · rintro kk _ m hm ⟨w, rfl, hw, ho⟩ hk
    unfold f_X0_copyFrom_6
    dsimp only
    have hr2 : RW x2 (w.1 x2) xs := by rw [ho x2 hne]; exact hr
    refine ok_ev (rw_size hr2) (ok_if (fun c => ?_) fun c => ?_)
    · have c2 := (nI_lei (by omega) (by omega)).mp c
      rw [List.take_of_length_le (by omega)] at hw
      exact ok_some ⟨hw, ho⟩
    · have c2 : m < xs.length := Nat.lt_of_not_le (mt (nI_lei (by omega) (by omega)).mpr c)
      refine ok_ev (rw_read hr2 c2) (ok_bind (rw_enterLast hw (v := xs.getD m 0) (by rw [hc, List.length_take]; omega)) fun z hz => ok_nme fun t ht => ok_nme fun y hy => hk _ c2 ⟨t, by rw [hy, nI_suc (by omega)], ?_, fun i hi => ?_⟩)
      · rw [ht, take_snoc c2]
        show RW x1 (va_up w.1 x1 z x1) _
        rw [up_eq]; exact hz
      · rw [ht]
        show va_up w.1 x1 z i = _
        rw [up_ne hi]; exact ho i hi
  · rw [h0]
    show RW x1 (va_up σ.1 x1 ((σ.1 x1).1, 0) x1) (xs.take 0)
    rw [up_eq]; exact rw_empty
  · rw [h0]
    exact up_ne hi
theorem svN_of {xs : List Int32} {j v : Nat} (hv : v < 8000) (h : xs.getD j 0 = nI v) : svN xs j = v := by
  unfold svN
  rw [h, nI_c (by omega)]
theorem cl_paper (h : RX σ τ) (hs : ∀ j, j < (τ.1 2).length → ∃ v, v < 8000 ∧ (τ.1 2).getD j 0 = nI v) : Ok (f_X3_isUndoneOnPaper σ) fun r => r.1 = ub (unR (svN (τ.1 2)) (τ.1 2).length τ.1) := by
  have hr2 := h.row (i := 2) (by omega)
  have hl := hr2.2.1
  have c2 : cap 2 = 12 := rfl
  have key : ∀ (r f : Nat) (w : CS) (b : Nat → List Int32), r < f → r ≤ (τ.1 2).length → RW 2 (w.1 2) (τ.1 2) → RW 4 (w.1 4) (b 0) → RW 5 (w.1 5) (b 1) → Ok (lpn f_X3_isUndoneOnPaper_32 f (w, nI r - 1)) fun x => x.1 = ub (unR (svN (τ.1 2)) r b) := by
    intro r
    induction r with
    | zero =>
      intro f w b hf _ _ _ _
      obtain ⟨f', rfl⟩ : ∃ f', f = f' + 1 := ⟨f - 1, by omega⟩
      show Ok (f_X3_isUndoneOnPaper_32 (lpn f_X3_isUndoneOnPaper_32 f') (w, nI 0 - 1)) _
      unfold f_X3_isUndoneOnPaper_32
      dsimp only
      exact ok_t (show nI 0 - 1 < (0 : Int32) by decide) (ok_some rfl)
    | succ r ih =>
      intro f w b hf hle w2 w4 w5
      obtain ⟨f', rfl⟩ : ∃ f', f = f' + 1 := ⟨f - 1, by omega⟩
      show Ok (f_X3_isUndoneOnPaper_32 (lpn f_X3_isUndoneOnPaper_32 f') (w, nI (r + 1) - 1)) _
      rw [nI_dec (by omega)]
      unfold f_X3_isUndoneOnPaper_32
      dsimp only
      obtain ⟨v, hv, ev⟩ := hs r (by omega)
      have esv := svN_of hv ev
      have er := rw_read w2 (j := r) (by omega)
      rw [ev] at er
      refine ok_f (nI_nn (by omega)) (ok_ev er (ok_ev (v := nI (v / 4000)) (by unfold f_X3_slipTrack; rw [(sl_num hv).2.2.2]) ?_))
      have go : ∀ (u j : Nat), u = 4 + j → j = v / 4000 → j < 2 → Ok (f_X3_isUndoneOnPaper_63 (lpn f_X3_isUndoneOnPaper_32 f') w (nI r) (nI v) u) fun x => x.1 = ub (unR (svN (τ.1 2)) (r + 1) b) := by
        intro u j hu hj hj2
        have hru : RW u (w.1 u) (b j) := by
          rcases (by omega : j = 0 ∨ j = 1) with e | e <;> subst e <;> subst hu
          · exact w4
          · exact w5
        have hcu : cap u = 20 := by
          rcases (by omega : u = 4 ∨ u = 5) with e | e <;> subst e <;> rfl
        unfold f_X3_isUndoneOnPaper_63
        refine ok_bind (cl_undoneOn hv hcu hru) fun z hz => ?_
        rcases hz with ⟨a1, a2⟩ | ⟨ys, a1, a2, a3, a4⟩
        · refine ok_t a2 (ok_some ?_)
          rw [unR_n esv (by rw [← hj]; exact a1)]
          rfl
        · refine ok_f (by rw [a2]; exact ne10) (ok_nme fun y hy => ?_)
          rw [hy, am1, unR_s esv (by rw [← hj]; exact a1)]
          refine ih f' z.2 _ (by omega) (by omega) (by rw [a4 2 (by omega)]; exact w2) ?_ ?_
          · by_cases e : j = 0
            · rw [← hj, e, up_eq]
              rw [hu, e] at a3
              exact a3
            · rw [← hj, up_ne (by omega), a4 4 (by omega)]; exact w4
          · by_cases e : j = 1
            · rw [← hj, e, up_eq]
              rw [hu, e] at a3
              exact a3
            · rw [← hj, up_ne (by omega), a4 5 (by omega)]; exact w5
      refine ok_if (fun c => ?_) fun c => ?_
      · have c2 := (nI_eqz (a := v / 4000) (by omega)).mp c
        exact go 4 0 rfl c2.symm (by omega)
      · have c2 := mt (nI_eqz (a := v / 4000) (by omega)).mpr c
        exact go 5 1 rfl (by omega) (by omega)
  unfold f_X3_isUndoneOnPaper
  refine ok_bind (cl_copy (x1 := 4) (x2 := 0) (by omega) rfl (h.row (i := 0) (by omega))) fun z1 h1 => ok_bind (cl_copy (σ := z1) (x1 := 5) (x2 := 1) (xs := τ.1 1) (by omega) rfl (by rw [h1.2 1 (by omega)]; exact h.row (by omega))) fun z2 h2 => ?_
  have q2 : RW 2 (z2.1 2) (τ.1 2) := by rw [h2.2 2 (by omega), h1.2 2 (by omega)]; exact hr2
  refine ok_ev (rw_size q2) (ok_nme fun y hy => ?_)
  rw [hy]
  exact key _ 64 z2 τ.1 (by omega) (Nat.le_refl _) q2 (by rw [h2.2 4 (by omega)]; exact h1.1) h2.1
/-! what is looked for -/
theorem fnG_none (t : Int32 → Bool) (last : Int32) : ∀ (xs : List Int32) (m : Nat) (pl : Int32), (∀ v ∈ xs, ¬ t v = true) → fnG t last xs m pl = pl := by
  intro xs
  induction xs with
  | nil => intro m pl _; rfl
  | cons v r ih =>
    intro m pl h
    rw [fnG_cons, if_neg (h v List.mem_cons_self)]
    exact ih _ _ fun w hw => h w (List.mem_cons_of_mem _ hw)
theorem fnG_stay (t : Int32 → Bool) : ∀ (xs : List Int32) (m q : Nat), m + xs.length < 100 → q < 100 → fnG t 0 xs m (nI q) = nI q := by
  intro xs
  induction xs with
  | nil => intro m q _ _; rfl
  | cons v r ih =>
    intro m q hm hq
    rw [List.length_cons] at hm
    rw [fnG_cons, if_pos (show (0 : Int32) = 0 from rfl)]
    have e : (if t v = true then (if nI q = -1 then nI m else nI q) else nI q) = nI q := by
      split
      · rw [if_neg]
        intro e
        have h1 := nI_nn (a := q) (by omega)
        rw [e] at h1
        exact h1 (by decide)
      · rfl
    rw [e]
    exact ih (m + 1) q (by omega) hq
theorem fnG_first (t : Int32 → Bool) : ∀ (xs : List Int32) (m k : Nat), m + xs.length < 100 → k < xs.length → t (xs.getD k 0) = true → ∃ q, q ≤ m + k ∧ fnG t 0 xs m (-1) = nI q := by
  intro xs
  induction xs with
  | nil => intro m k _ hk; exact absurd hk (Nat.not_lt_zero k)
  | cons v r ih =>
    intro m k hm hk ht
    rw [List.length_cons] at hm hk
    rw [fnG_cons, if_pos (show (0 : Int32) = 0 from rfl), if_pos (show (-1 : Int32) = -1 from rfl)]
    by_cases c : t v = true
    · rw [if_pos c]
      exact ⟨m, by omega, fnG_stay t r (m + 1) m (by omega) (by omega)⟩
    · rw [if_neg c]
      cases k with
      | zero => exact absurd ht c
      | succ k =>
        obtain ⟨q, h1, h2⟩ := ih (m + 1) k (by omega) (by omega) ht
        exact ⟨q, by omega, h2⟩
theorem fnG_last (t : Int32 → Bool) : ∀ (xs : List Int32) (m k : Nat) (pl : Int32), m + xs.length < 100 → k < xs.length → t (xs.getD k 0) = true → ∃ q, m + k ≤ q ∧ q < m + xs.length ∧ fnG t 1 xs m pl = nI q := by
  intro xs
  induction xs with
  | nil => intro m k pl _ hk; exact absurd hk (Nat.not_lt_zero k)
  | cons v r ih =>
    intro m k pl hm hk ht
    rw [List.length_cons] at hm hk ⊢
    rw [fnG_cons, if_neg ne10]
    by_cases hex : ∃ j, j < r.length ∧ t (r.getD j 0) = true ∧ k ≤ j + 1
    · obtain ⟨j, j1, j2, j3⟩ := hex
      obtain ⟨q, h1, h2, h3⟩ := ih (m + 1) j (if t v = true then nI m else pl) (by omega) j1 j2
      exact ⟨q, by omega, by omega, h3⟩
    · cases k with
      | zero =>
        have ht : t v = true := ht
        rw [if_pos ht, fnG_none t 1 r (m + 1) (nI m)]
        · exact ⟨m, by omega, by omega, rfl⟩
        · intro w hw hc
          obtain ⟨j, j1, j2⟩ := List.getElem_of_mem hw
          refine hex ⟨j, j1, ?_, by omega⟩
          rw [List.getD_eq_getElem?_getD, List.getElem?_eq_getElem j1]
          show t r[j] = true
          rw [j2]; exact hc
      | succ k => exact absurd ⟨k, by omega, ht, by omega⟩ hex
theorem cl_rowSound {i : Nat} {xs : List Int32} (hr : RW i (σ.1 i) xs) : f_X3_isRowSound σ i = some 1 := by
  have hl := hr.len
  have key : Ok (f_X3_isRowSound σ i) fun r => r = 1 := by
    unfold f_X3_isRowSound
    refine ok_ev (rw_size hr) (ok_f (nI_nn (by omega)) (ok_ev (rw_size hr) (ok_t ((nI_lei (b := 20) (by omega) (by omega)).mpr hl) ?_)))
    refine up_loop (fun m t => t = (i, nI m)) xs.length ?_ xs.length 0 _ (by omega) rfl 64 (by omega)
    rintro kk _ m hm rfl hk
    unfold f_X3_isRowSound_20
    dsimp only
    refine ok_ev (rw_size hr) (ok_if (fun c => ok_some rfl) fun c => ?_)
    have c2 : m < xs.length := Nat.lt_of_not_le (mt (nI_lei (by omega) (by omega)).mpr c)
    have e0 : f_X0_readFrom (cap i) (σ.1 i) 0 (nI m) = some (xs.getD m 0) := by
      unfold f_X0_readFrom f_X0_readFrom_17
      rw [if_pos (show (0 : Int32) = 0 from rfl), rw_read hr c2]; rfl
    have e1 : f_X0_readFrom (cap i) (σ.1 i) 1 (nI xs.length - 1 - nI m) = some (xs.getD m 0) := by
      unfold f_X0_readFrom f_X0_readFrom_17
      rw [if_neg ne10, hr.1, nI_prd (by omega) (by omega), nI_dif (by omega) (by omega), nI_dif (by omega) (by omega), show xs.length - 1 - (xs.length - 1 - m) = m by omega, rw_read hr c2]; rfl
    exact ok_ev e0 (ok_ev (rw_size hr) (ok_ev e1 (ok_t rfl (ok_nme fun y hy => hk _ c2 (by rw [hy, nI_suc (by omega)])))))
  obtain ⟨r, e, hr⟩ := key
  rw [e, hr]
theorem cl_lineFound (h : RX σ τ) : f_X3_isLineFound σ = some 1 := by
  have hr := h.row (i := 1) (by omega)
  have hl := len20 h.1 (j := 1) (by omega)
  have key : Ok (f_X3_isLineFound σ) fun r => r = 1 := by
    unfold f_X3_isLineFound
    refine up_loop (fun m t => t = nI m) (τ.1 1).length ?_ (τ.1 1).length 0 _ (by omega) rfl 64 (by omega)
    rintro kk _ m hm rfl hk
    unfold f_X3_isLineFound_2
    refine ok_ev (rw_size hr) (ok_if (fun c => ok_some rfl) fun c => ?_)
    have c2 : m < (τ.1 1).length := Nat.lt_of_not_le (mt (nI_lei (by omega) (by omega)).mpr c)
    have ht : tKind ((τ.1 1).getD m 0 / 100) ((τ.1 1).getD m 0) = true := decide_eq_true rfl
    obtain ⟨q, q1, q2⟩ := fnG_first (tKind ((τ.1 1).getD m 0 / 100)) (τ.1 1) 0 m (by omega) c2 ht
    obtain ⟨u, u1, u2, u3⟩ := fnG_last (tKind ((τ.1 1).getD m 0 / 100)) (τ.1 1) 0 m (-1) (by omega) c2 ht
    have e0 := rw_placeOfKind hr ((τ.1 1).getD m 0 / 100) 0
    have e1 := rw_placeOfKind hr ((τ.1 1).getD m 0 / 100) 1
    rw [q2] at e0
    rw [u3] at e1
    refine ok_ev (rw_read hr c2) (ok_ev (v := (τ.1 1).getD m 0 / 100) rfl (ok_ev e0 (ok_f (mt (nI_lti (by omega) (by omega)).mp (by omega)) (ok_ev e1 (ok_t ((nI_lei (by omega) (by omega)).mpr (by omega)) (ok_nme fun y hy => hk _ c2 (by rw [hy, nI_suc (by omega)])))))))
  obtain ⟨r, e, hr⟩ := key
  rw [e, hr]
theorem cl_walkerSound (h : RX σ τ) (hw : WK τ) {j : Nat} (hj : j < 2) : f_X3_isWalkerSound σ j = some 1 := by
  have hr := h.row (i := 1) (by omega)
  have hl := len20 h.1 (j := 1) (by omega)
  have e5 : σ.2 (5 + 3 * j) = τ.2 (5 + 3 * j) := h.1.2.1 _ (by omega) (by omega)
  have e6 : σ.2 (5 + 3 * j + 1) = τ.2 (5 + 3 * j + 1) := h.1.2.1 _ (by omega) (by omega)
  have hwj : Wj τ j := by
    rcases (by omega : j = 0 ∨ j = 1) with e | e <;> subst e
    · exact hw.2.1
    · exact hw.2.2
  unfold f_X3_isWalkerSound f_X2_isFresh f_X3_isWalkerSound_28
  show ((if σ.2 (5 + 3 * j + 0) = 1 then some 1 else some 0).bind _) = _
  rw [show 5 + 3 * j + 0 = 5 + 3 * j from rfl, e5]
  by_cases c : τ.2 (5 + 3 * j) = 1
  · obtain ⟨⟨a1, a2⟩, -⟩ := hwj.2 c
    have a2 : τ.2 (5 + 3 * j + 1) ≤ nI (τ.1 1).length := a2
    rw [if_pos c, bsm, if_neg ne10, e6, if_neg (Int32.not_lt.mpr a1), rw_size hr, bsm, if_neg (Int32.not_lt.mpr a2)]
  · rw [if_neg c, bsm, if_pos rfl]
theorem cl_sound (h : RX σ τ) (hw : WK τ) (hs : ∀ j, j < (τ.1 2).length → ∃ v, v < 8000 ∧ (τ.1 2).getD j 0 = nI v) : Ok (f_X3_isSound σ) fun r => r.1 = ub (unR (svN (τ.1 2)) (τ.1 2).length τ.1) := by
  have hr0 := h.row (i := 0) (by omega)
  have hr2 := h.row (i := 2) (by omega)
  have hr3 := h.row (i := 3) (by omega)
  have l2 := hr2.2.1
  have l3 := hr3.2.1
  have c2 : cap 2 = 12 := rfl
  have c3 : cap 3 = 10 := rfl
  have ek : f_X0_placeOfKind (cap 0) (σ.1 0) 0 0 = some (-1) := by
    rw [rw_placeOfKind hr0, fnG_none]
    intro v hv e
    have e := of_decide_eq_true e
    exact (h.1.2.2.2.1 v hv).2 ((vt_kind (h.1.2.2.2.1 v hv).1).mp e)
  unfold f_X3_isSound
  refine ok_ev (cl_rowSound hr0) (ok_f ne10 (ok_ev (cl_rowSound (h.row (i := 1) (by omega))) (ok_f ne10 (ok_ev ek (ok_t rfl (ok_ev (cl_lineFound h) (ok_f ne10 (ok_ev (cl_walkerSound h hw (j := 0) (by omega)) (ok_f ne10 (ok_ev (cl_walkerSound h hw (j := 1) (by omega)) (ok_f ne10 (ok_ev (rw_size hr2) (ok_f (mt (nI_lti (a := 12) (by omega) (by omega)).mp (by omega)) (ok_ev (rw_size hr3) (ok_f (mt (nI_lti (a := 10) (by omega) (by omega)).mp (by omega)) (ok_bind (cl_paper h hs) fun z hz => ?_))))))))))))))))
  refine ok_if (fun c => ok_some (c.symm.trans hz)) fun c => ok_some ?_
  exact ub_1 (by rw [← hz]; exact c)
/-- what the model's isWhole finds -/
theorem who_of (h : RX σ τ) (hw : WK τ) : WHO τ := by
  refine ⟨fun t ht i hi => ?_, fun w hw2 hs => ?_, (h.row (i := 3) (by omega)).2.1⟩
  · rw [mo_barred, if_neg]
    rintro ⟨c1, c2⟩
    have tv := h.1.2.2.2.tv ht (mem_getD hi)
    have t0 := (nI_eqz (a := t) (by omega)).mp c1
    exact tv.2 t0 c2
  · have hwj : Wj τ w := by
      rcases (by omega : w = 0 ∨ w = 1) with e | e <;> subst e
      · exact hw.2.1
      · exact hw.2.2
    obtain ⟨⟨a1, a2⟩, -⟩ := hwj.2 hs
    have a2 : τ.2 (5 + 3 * w + 1) ≤ nI (τ.1 1).length := a2
    rw [mo_isIn, if_pos ⟨a1, a2⟩]
end L4A
end
section
/-! level 3: the digest, on the class's side -/
section L4B
variable {σ : CS} {τ : MS}
def dsum : List Int32 → Nat
  | [] => 0
  | v :: r => (if v / 100 = 0 then 1 else 3) + dsum r
theorem dsum_c {v : Int32} {r : List Int32} : dsum (v :: r) = (if v / 100 = 0 then 1 else 3) + dsum r := rfl
theorem dsum_app (b : List Int32) : ∀ a : List Int32, dsum (a ++ b) = dsum a + dsum b := by
  intro a
  induction a with
  | nil => exact (Nat.zero_add _).symm
  | cons v r ih => rw [List.cons_append, dsum_c, dsum_c, ih]; omega
theorem dsum_le : ∀ a : List Int32, dsum a ≤ 3 * a.length := by
  intro a
  induction a with
  | nil => exact Nat.le_refl _
  | cons v r ih =>
    rw [dsum_c, List.length_cons]
    split <;> omega
theorem sdg_v {v : Int32} (h : VT v) : sdg v.toNatClampNeg = if v / 100 = 0 then 1 else 3 := by
  obtain ⟨a, ha, e⟩ := nIof (b := 999) (by omega) h.rng.1 h.rng.2
  by_cases c : v = 0
  · rw [if_pos ((vt_kind h).mpr c), c]
    rfl
  · rw [if_neg (mt (vt_kind h).mp c)]
    rcases h with q | q
    · exact absurd q c
    · rw [e, nI_c (by omega)]
      have q1 : 100 ≤ a := by
        have := q.1
        rw [e] at this
        exact (nI_lei (a := 100) (by omega) (by omega)).mp this
      unfold sdg
      rw [if_neg (by omega), if_neg (by omega)]
theorem tlG_s {xs : List Int32} {i : Nat} : tlG xs 1 (i + 1) = tlG xs 1 i + (if i = 0 then 0 else 1) + sdg ((xs.getD (xs.length - 1 - i) 0).toNatClampNeg) := rfl
theorem tlG_v {xs : List Int32} (hv : ∀ v ∈ xs, VT v) : ∀ i, i ≤ xs.length → tlG xs 1 i = (i - 1) + dsum (xs.drop (xs.length - i)) := by
  intro i
  induction i with
  | zero =>
    intro _
    rw [Nat.sub_zero, List.drop_eq_nil_of_le (Nat.le_refl _)]
    rfl
  | succ i ih =>
    intro h
    have e := drop_cons (xs := xs) (m := xs.length - 1 - i) (by omega)
    rw [show xs.length - 1 - i + 1 = xs.length - i by omega] at e
    rw [tlG_s, ih (by omega), sdg_v (hv _ (mem_getD (by omega))), show xs.length - (i + 1) = xs.length - 1 - i by omega, e, dsum_c]
    split <;> omega
theorem cl_written (h : RX σ τ) {j : Nat} (hj : j < 2) : f_X3_writtenLength σ j = some (nI (tlG (τ.1 j) 1 (τ.1 j).length)) := by
  have hr := h.row (i := j) (by omega)
  have hl := len20 h.1 hj
  have ds := dsum_le (τ.1 j)
  have et : tlG (τ.1 j) 1 (τ.1 j).length = ((τ.1 j).length - 1) + dsum (τ.1 j) := by
    rw [tlG_v (fun v hv => (h.1.2.2.2.tv hj hv).1) _ (Nat.le_refl _), Nat.sub_self, List.drop_zero]
  have key : Ok (f_X3_writtenLength σ j) fun r => r = nI (tlG (τ.1 j) 1 (τ.1 j).length) := by
    unfold f_X3_writtenLength
    refine ok_ev (rw_size hr) (ok_nme fun y hy => ?_)
    have hy : y = nI ((τ.1 j).length - 1) := by
      rw [hy]
      by_cases c : (τ.1 j).length = 0
      · rw [c]; rfl
      · rw [nI_prd (by omega) (by omega)]
        by_cases c1 : (τ.1 j).length - 1 = 0
        · rw [c1]; rfl
        · rw [if_pos (show (0 : Int32) < nI ((τ.1 j).length - 1) from (nI_lti (a := 0) (b := (τ.1 j).length - 1) (by omega) (by omega)).mpr (by omega))]
    refine up_loop (fun m t => t = (j, nI ((τ.1 j).length - 1 + dsum ((τ.1 j).take m)), nI m)) (τ.1 j).length ?_ (τ.1 j).length 0 _ (by omega) (by rw [hy]; rfl) 64 (by omega)
    rintro kk _ m hm rfl hk
    unfold f_X3_writtenLength_13
    dsimp only
    refine ok_ev (rw_size hr) (ok_if (fun c => ok_some ?_) fun c => ?_)
    · have c2 := (nI_lei (by omega) (by omega)).mp c
      rw [et, List.take_of_length_le (by omega)]
    · have c2 : m < (τ.1 j).length := Nat.lt_of_not_le (mt (nI_lei (by omega) (by omega)).mpr c)
      have dt := dsum_le ((τ.1 j).take m)
      have lt : ((τ.1 j).take m).length = m := by rw [List.length_take]; omega
      have es : dsum ((τ.1 j).take (m + 1)) = dsum ((τ.1 j).take m) + (if (τ.1 j).getD m 0 / 100 = 0 then 1 else 3) := by
        rw [take_snoc c2, dsum_app]
        rfl
      refine ok_ev (rw_read hr c2) (ok_ev (v := (τ.1 j).getD m 0 / 100) rfl ?_)
      unfold f_X3_writtenLength_38
      refine ok_if (fun q => ok_nme fun y1 h1 => ok_nme fun y2 h2 => hk _ c2 ?_) fun q => ok_nme fun y1 h1 => ok_nme fun y2 h2 => hk _ c2 ?_
      · rw [if_pos q] at es
        rw [h1, h2, nI_suc (by omega), nI_suc (by omega), es]
        rfl
      · rw [if_neg q] at es
        rw [h1, h2, nI_suc (by omega), es]
        have e3 : nI ((τ.1 j).length - 1 + dsum ((τ.1 j).take m)) + 3 = nI ((τ.1 j).length - 1 + (dsum ((τ.1 j).take m) + 3)) := by
          rw [← Nat.add_assoc]
          exact nI_sum (b := 3) (by omega)
        rw [e3]
  obtain ⟨r, e, hr⟩ := key
  rw [e, hr]
/-! the values -/
def neV (τ : MS) (t : Nat) : Int32 := ((f_X6_nestedNow τ (nI t)).map Prod.fst).getD 0
def yaV (τ : MS) (k : Nat) : Int32 := (f_X6_yardTold τ (nI k)).getD 0
def coV (τ : MS) (b : Nat) : Int32 := (f_X6_compared τ (nI b)).getD 0
def ttV (τ : MS) (t w : Nat) : Int32 := tval (τ.1 t) w
def akV (τ : MS) (t w : Nat) : Int32 := aval (τ.1 t) w
def foV (τ : MS) (k b : Nat) : Int32 := fnG (tKind (nI k)) (nI b) (τ.1 1) 0 (-1)
def whV (τ : MS) (w k : Nat) : Int32 := wval τ w k
theorem hx_of {t : Nat} (ht : t < 2) : nI t = 0 ∧ t = 0 ∨ nI t = 1 ∧ t = 1 := by
  rcases (by omega : t = 0 ∨ t = 1) with e | e <;> subst e
  · exact Or.inl ⟨rfl, rfl⟩
  · exact Or.inr ⟨rfl, rfl⟩
theorem dv_of (h : RX σ τ) (hD : DH τ) : DV τ (ttV τ) (akV τ) (neV τ) (foV τ) (whV τ) (yaV τ) (coV τ) := by
  refine ⟨fun t w ht hw => mo_told (len20 h.1 ht) (hx_of ht) hw, fun t w ht hw => mo_asked (len20 h.1 ht) (hx_of ht) hw, fun t ht => ?_, fun k b _ _ => mo_found (j := 1) rfl (len20 h.1 (by omega)) _ _, fun w k hw hk => mo_whereNow (hx_of hw) hk, fun k hk => ?_, fun b hb => ?_⟩
  · obtain ⟨v, e⟩ := hD.2.2.1 t ht
    unfold neV
    rw [e]; rfl
  · obtain ⟨v, e⟩ := hD.2.2.2.2.2.1 k hk
    unfold yaV
    rw [e]; rfl
  · obtain ⟨v, e⟩ := hD.2.2.2.2.2.2 b hb
    unfold coV
    rw [e]; rfl
theorem cl_mostV (h : RX σ τ) (hD : DH τ) {t : Nat} (ht : t < 2) : Ok (f_X3_mostOpen σ (nI t)) fun r => r.1 = neV τ t ∧ RX r.2 τ := by
  obtain ⟨v, e⟩ := hD.2.2.1 t ht
  obtain ⟨r, er, q1, q2, q3, q4⟩ := ne_most h ht (hx_of ht) _ e
  refine ⟨r, er, ?_, h.same (fun i hi => q2 i (by omega)) q3⟩
  rw [q1]
  unfold neV
  rw [e]; rfl
def trS (τ : MS) (t : Nat) (d : Int64) : Int64 := (dgS (fun i => (τ.1 t).getD i 0) (dgS (akV τ t) (dgS (ttV τ t) d 4) 6) (τ.1 t).length * 31 + Int32.toInt64 (nI (tlG (τ.1 t) 1 (τ.1 t).length))) * 31 + Int32.toInt64 (neV τ t)
theorem cl_trackV (h : RX σ τ) (hD : DH τ) {t : Nat} (ht : t < 2) (d : Int64) : Ok (f_X3_withTrack σ d (nI t)) fun r => r.1 = trS τ t d ∧ RX r.2 τ := by
  have hr := h.row (i := t) (by omega)
  have hl := len20 h.1 ht
  unfold f_X3_withTrack
  refine up_loop (fun m a => a = (nI t, dgS (ttV τ t) d m, nI m)) 4 ?_ 4 0 _ (by omega) rfl 64 (by omega)
  rintro k1 _ m hm rfl hk
  unfold f_X3_withTrack_6
  dsimp only
  refine ok_if (fun c => ?_) fun c => ?_
  · have e4 : m = 4 := by
      have := (nI_lti (a := 3) (by omega) (by omega)).mp c
      omega
    subst e4
    refine up_loop (fun m a => a = (nI t, dgS (akV τ t) (dgS (ttV τ t) d 4) m, nI m)) 6 ?_ 6 0 _ (by omega) rfl 64 (by omega)
    rintro k2 _ m hm rfl hk
    unfold f_X3_withTrack_35
    dsimp only
    refine ok_if (fun c => ?_) fun c => ?_
    · have e6 : m = 6 := by
        have := (nI_lti (a := 5) (by omega) (by omega)).mp c
        omega
      subst e6
      refine ok_ev (trackOf_ok (hx_of ht)) ?_
      refine up_loop (fun m a => a = (nI t, dgS (fun i => (τ.1 t).getD i 0) (dgS (akV τ t) (dgS (ttV τ t) d 4) 6) m, t, nI m)) (τ.1 t).length ?_ (τ.1 t).length 0 _ (by omega) rfl 64 (by omega)
      rintro k3 _ m hm rfl hk
      unfold f_X3_withTrack_71
      dsimp only
      refine ok_ev (rw_size hr) (ok_if (fun c => ?_) fun c => ?_)
      · have c2 := (nI_lei (by omega) (by omega)).mp c
        have em : m = (τ.1 t).length := by omega
        subst em
        exact ok_ev (cl_written h ht) (ok_ev rfl (ok_bind (cl_mostV h hD ht) fun z hz => ok_ev rfl (ok_some ⟨by rw [hz.1]; rfl, hz.2⟩)))
      · have c2 : m < (τ.1 t).length := Nat.lt_of_not_le (mt (nI_lei (by omega) (by omega)).mpr c)
        exact ok_ev (rw_read hr c2) (ok_ev rfl (ok_nme fun y hy => hk _ c2 (by rw [hy, nI_suc (by omega)]; rfl)))
    · have c2 : m < 6 := by
        have := mt (nI_lti (a := 5) (b := m) (by omega) (by omega)).mpr c
        omega
      exact ok_ev (cl_atEnd h ht (hx_of ht) c2) (ok_ev rfl (ok_nme fun y hy => hk _ c2 (by rw [hy, nI_suc (by omega)]; rfl)))
  · have c2 : m < 4 := by
      have := mt (nI_lti (a := 3) (b := m) (by omega) (by omega)).mpr c
      omega
    exact ok_ev (cl_factTrack h ht (hx_of ht) c2) (ok_ev rfl (ok_nme fun y hy => hk _ c2 (by rw [hy, nI_suc (by omega)]; rfl)))
def wkS (τ : MS) (w : Nat) (d : Int64) : Int64 := if τ.2 (5 + 3 * w) = 1 then dgS (fun i => whV τ w (i + 1)) (d * 31 + Int32.toInt64 (whV τ w 0)) 4 else d * 31 + Int32.toInt64 (whV τ w 0)
theorem cl_walkerV (h : RX σ τ) {j : Nat} (hj : j < 2) (d : Int64) : f_X3_withWalker σ d (nI j) = some (wkS τ j d) := by
  have e5 : σ.2 (5 + 3 * j) = τ.2 (5 + 3 * j) := h.1.2.1 _ (by omega) (by omega)
  have key : Ok (f_X3_withWalker σ d (nI j)) fun r => r = wkS τ j d := by
    unfold f_X3_withWalker wkS
    refine ok_ev (cl_ofWalker h hj (hx_of hj) (w := 0) (by omega)) (ok_ev rfl (ok_ev (walkerOf_ok (hx_of hj)) ?_))
    unfold f_X2_isFresh f_X3_withWalker_52
    show Ok ((if σ.2 (5 + 3 * j + 0) = 1 then some 1 else some 0).bind _) _
    rw [show 5 + 3 * j + 0 = 5 + 3 * j from rfl, e5]
    by_cases c : τ.2 (5 + 3 * j) = 1
    · rw [if_pos c, if_pos c, bsm]
      refine ok_f ne10 ?_
      refine up_loop (fun m a => a = (nI j, dgS (fun i => whV τ j (i + 1)) (d * 31 + Int32.toInt64 (whV τ j 0)) m, nI (m + 1))) 4 ?_ 4 0 _ (by omega) rfl 64 (by omega)
      rintro k1 _ m hm rfl hk
      unfold f_X3_withWalker_26 f_X3_withWalker_52
      dsimp only
      refine ok_if (fun q => ?_) fun q => ?_
      · have e4 : m = 4 := by
          have := (nI_lti (a := 4) (by omega) (by omega)).mp q
          omega
        subst e4
        exact ok_some rfl
      · have c2 : m < 4 := by
          have := mt (nI_lti (a := 4) (b := m + 1) (by omega) (by omega)).mpr q
          omega
        exact ok_ev (cl_ofWalker h hj (hx_of hj) (w := m + 1) (by omega)) (ok_ev rfl (ok_nme fun y hy => hk _ c2 (by rw [hy, nI_suc (by omega)]; rfl)))
    · rw [if_neg c, if_neg c, bsm]
      exact ok_t rfl (ok_some rfl)
  obtain ⟨r, e, hr⟩ := key
  rw [e, hr]
theorem cl_yardV (h : RX σ τ) (hD : DH τ) {k : Nat} (hk : k < 8) : f_X3_factOfYard σ (nI k) = some (yaV τ k) := by
  obtain ⟨v, e⟩ := hD.2.2.2.2.2.1 k hk
  obtain ⟨r, er, q⟩ := ri_told h (nI k) v e
  rw [er, q]
  unfold yaV
  rw [e]; rfl
theorem al_among : Al (f_X3_isSidingAmongLine σ) fun r => r = 0 ∨ r = 1 := by
  unfold f_X3_isSidingAmongLine
  refine al_lpn (fun _ => True) (fun kk a _ hk => ?_) 64 _ trivial
  unfold f_X3_isSidingAmongLine_2
  exact al_bind al_any fun z _ => al_if (fun _ => al_some (Or.inr rfl)) fun _ => al_bind al_any fun z _ => al_bind al_any fun z _ => al_if (fun _ => al_some (Or.inl rfl)) fun _ => al_nme fun y _ => hk _ trivial
theorem al_along : Al (f_X3_isSameAllAlong σ) fun r => r = 0 ∨ r = 1 := by
  unfold f_X3_isSameAllAlong
  refine al_bind al_any fun z _ => al_bind al_any fun z _ => al_if (fun _ => ?_) fun _ => al_some (Or.inl rfl)
  refine al_lpn (fun _ => True) (fun kk a _ hk => ?_) 64 _ trivial
  unfold f_X3_isSameAllAlong_21
  exact al_bind al_any fun z _ => al_if (fun _ => al_some (Or.inr rfl)) fun _ => al_bind al_any fun z _ => al_bind al_any fun z _ => al_bind al_any fun z _ => al_bind al_any fun z _ => al_if (fun _ => al_nme fun y _ => hk _ trivial) fun _ => al_some (Or.inl rfl)
theorem cl_cmpV (h : RX σ τ) (hD : DH τ) {b : Nat} (hb : b < 2) : f_X3_compare σ (nI b) = some (coV τ b) := by
  obtain ⟨v, e⟩ := hD.2.2.2.2.2.2 b hb
  have ev : coV τ b = v := by
    unfold coV
    rw [e]; rfl
  rw [ev]
  unfold f_X3_compare
  rcases (by omega : b = 0 ∨ b = 1) with c | c <;> subst c
  · obtain ⟨r, er, q⟩ := ri_cmp0 h v e
    subst q
    rw [if_pos (show nI 0 = (0 : Int32) from rfl), er, bsm, if_pos (al_among r er)]
  · obtain ⟨r, er, q⟩ := ri_cmp1 h (x := nI 1) ne10 v e
    subst q
    rw [if_neg (show ¬ nI 1 = (0 : Int32) from ne10), er, bsm, if_pos (al_along r er)]
theorem cl_d133 (h : RX σ τ) (hw : WK τ) (hD : DH τ) (hs : ∀ j, j < (τ.1 2).length → ∃ v, v < 8000 ∧ (τ.1 2).getD j 0 = nI v) (d : Int64) : Ok (lpn f_X3_digest_133 64 (σ, d, 0)) fun r => r.1 = ((dgS (fun i => (τ.1 3).getD i 0) d (τ.1 3).length * 31 + Int32.toInt64 (one1 (coV τ 0))) * 31 + Int32.toInt64 (one1 (coV τ 1))) * 31 + Int32.toInt64 (ub (unR (svN (τ.1 2)) (τ.1 2).length τ.1)) := by
  have hr3 := h.row (i := 3) (by omega)
  have l3 := hr3.len
  refine up_loop (fun m a => a = (σ, dgS (fun i => (τ.1 3).getD i 0) d m, nI m)) (τ.1 3).length ?_ (τ.1 3).length 0 _ (by omega) rfl 64 (by omega)
  rintro kk _ m hm rfl hk
  unfold f_X3_digest_133
  dsimp only
  refine ok_ev (rw_size hr3) (ok_if (fun c => ?_) fun c => ?_)
  · have c2 := (nI_lei (by omega) (by omega)).mp c
    have em : m = (τ.1 3).length := by omega
    subst em
    have e1 : ∀ v : Int32, f_X3_oneIf v = some (one1 v) := fun v => by
      unfold f_X3_oneIf one1
      split <;> rfl
    refine ok_ev (cl_cmpV h hD (b := 0) (by omega)) (ok_ev (e1 _) (ok_ev rfl (ok_ev (cl_cmpV h hD (b := 1) (by omega)) (ok_ev (e1 _) (ok_ev rfl (ok_bind (cl_sound h hw hs) fun z hz => ok_ev (e1 _) (ok_ev rfl (ok_some ?_))))))))
    show _ * 31 + Int32.toInt64 (one1 z.1) = _
    rw [hz, one_ub]
  · have c2 : m < (τ.1 3).length := Nat.lt_of_not_le (mt (nI_lei (by omega) (by omega)).mpr c)
    exact ok_ev (rw_read hr3 c2) (ok_ev rfl (ok_nme fun y hy => hk _ c2 (by rw [hy, nI_suc (by omega)]; rfl)))
theorem cl_d108 {P : Int64 × CS → Prop} (h : RX σ τ) (d : Int64) (fin : Ok (lpn f_X3_digest_133 64 (σ, dgD (τ.1 2) d (τ.1 2).length, 0)) P) : Ok (lpn f_X3_digest_108 64 (σ, d, nI (τ.1 2).length - 1)) P := by
  have hr2 := h.row (i := 2) (by omega)
  have l2 := hr2.len
  refine up_loop (fun m a => a = (σ, dgD (τ.1 2) d m, nI ((τ.1 2).length - m) - 1)) (τ.1 2).length ?_ (τ.1 2).length 0 _ (by omega) rfl 64 (by omega)
  rintro kk _ m hm rfl hk
  unfold f_X3_digest_108
  dsimp only
  by_cases e : (τ.1 2).length - m = 0
  · have em : m = (τ.1 2).length := by omega
    subst em
    exact ok_t (by rw [e]; decide) fin
  · obtain ⟨p, hp⟩ : ∃ p, (τ.1 2).length - m = p + 1 := ⟨(τ.1 2).length - m - 1, by omega⟩
    rw [hp, nI_dec (by omega)]
    refine ok_f (nI_nn (by omega)) (ok_ev (rw_read hr2 (j := p) (by omega)) (ok_ev rfl (ok_nme fun y hy => hk _ (by omega) ?_)))
    rw [hy, am1, show (τ.1 2).length - (m + 1) = p by omega]
    show (σ, dgD (τ.1 2) d m * 31 + Int32.toInt64 ((τ.1 2).getD p 0), nI p - 1) = (σ, dgD (τ.1 2) d m * 31 + Int32.toInt64 ((τ.1 2).getD ((τ.1 2).length - 1 - m) 0), nI p - 1)
    rw [show (τ.1 2).length - 1 - m = p by omega]
theorem cl_d76 {P : Int64 × CS → Prop} (h : RX σ τ) (hD : DH τ) (d : Int64) (fin : Ok (lpn f_X3_digest_108 64 (σ, dgS (yaV τ) d 8, nI (τ.1 2).length - 1)) P) : Ok (lpn f_X3_digest_76 64 (σ, d, 0)) P := by
  have hr2 := h.row (i := 2) (by omega)
  refine up_loop (fun m a => a = (σ, dgS (yaV τ) d m, nI m)) 8 ?_ 8 0 _ (by omega) rfl 64 (by omega)
  rintro kk _ m hm rfl hk
  unfold f_X3_digest_76
  dsimp only
  refine ok_if (fun c => ?_) fun c => ?_
  · have em : m = 8 := by
      have := (nI_lti (a := 7) (by omega) (by omega)).mp c
      omega
    subst em
    exact ok_ev (rw_size hr2) (ok_nme fun y hy => by rw [hy]; exact fin)
  · have c2 : m < 8 := by
      have := mt (nI_lti (a := 7) (b := m) (by omega) (by omega)).mpr c
      omega
    exact ok_ev (cl_yardV h hD c2) (ok_ev rfl (ok_nme fun y hy => hk _ c2 (by rw [hy, nI_suc (by omega)]; rfl)))
theorem cl_d20 {P : Int64 × CS → Prop} (h : RX σ τ) (d : Int64) (fin : Ok (lpn f_X3_digest_76 64 (σ, wkS τ 1 (wkS τ 0 (dgP (fun k => foV τ k 0) (fun k => foV τ k 1) d 10)), 0)) P) : Ok (lpn f_X3_digest_20 64 (σ, d, 0)) P := by
  have hr1 := h.row (i := 1) (by omega)
  refine up_loop (fun m a => a = (σ, dgP (fun k => foV τ k 0) (fun k => foV τ k 1) d m, nI m)) 10 ?_ 10 0 _ (by omega) rfl 64 (by omega)
  rintro kk _ m hm rfl hk
  unfold f_X3_digest_20
  dsimp only
  refine ok_if (fun c => ?_) fun c => ?_
  · have em : m = 10 := by
      have := (nI_lti (a := 9) (by omega) (by omega)).mp c
      omega
    subst em
    exact ok_ev (cl_walkerV h (j := 0) (by omega) _) (ok_ev (cl_walkerV h (j := 1) (by omega) _) fin)
  · have c2 : m < 10 := by
      have := mt (nI_lti (a := 9) (b := m) (by omega) (by omega)).mpr c
      omega
    exact ok_ev (rw_placeOfKind hr1 (nI m) 0) (ok_ev rfl (ok_ev (rw_placeOfKind hr1 (nI m) 1) (ok_ev rfl (ok_nme fun y hy => hk _ c2 (by rw [hy, nI_suc (by omega)]; rfl)))))
theorem cl_digestV (h : RX σ τ) (hw : WK τ) (hD : DH τ) (hs : ∀ j, j < (τ.1 2).length → ∃ v, v < 8000 ∧ (τ.1 2).getD j 0 = nI v) : Ok (f_X3_digest σ) fun r => r.1 = dgA (ttV τ) (akV τ) (neV τ) (foV τ) (whV τ) (fun w => τ.2 (5 + 3 * w)) (yaV τ) (coV τ) τ.1 (ub (unR (svN (τ.1 2)) (τ.1 2).length τ.1)) := by
  unfold f_X3_digest
  refine ok_bind (cl_trackV h hD (t := 0) (by omega) 8317) fun z1 h1 => ok_bind (cl_trackV h1.2 hD (t := 1) (by omega) z1.1) fun z2 h2 => ?_
  have ed : z2.1 = dgT (ttV τ) (akV τ) (neV τ) τ.1 8317 2 := by
    rw [h2.1, h1.1]; rfl
  rw [ed]
  refine cl_d20 h2.2 _ (cl_d76 h2.2 hD _ (cl_d108 h2.2 _ (ok_mono (cl_d133 h2.2 hw hD hs _) fun r hr => ?_)))
  rw [hr]
  rfl
end L4B
end
