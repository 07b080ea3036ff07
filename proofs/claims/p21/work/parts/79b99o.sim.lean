/-! level 3: shed -/
section L3V
variable {σ : CS} {τ : MS}
theorem cl_shed {P : Nat ⊕ (Int32 × CS) → Prop} {x1 b x3 : Int32} {many j : Nat} {xs : List Int32} {g : Nat → Int32} (hr : RW j (σ.1 j) xs) (hm : many ≤ 20) (hg : ∀ i, i < xs.length → (g (PP b xs.length i) = 0 ↔ ¬ (cntP g (PP b xs.length) i < many ∧ x3 ≤ jrem (xs.getD (PP b xs.length i) 0) 100))) (fin : ∀ ρ, RW j ρ (keepG g 0 xs) → Ok ((f_X3_tearIfAny (va_up σ.1 j ρ, σ.2) x1 (nI (xs.length - (keepG g 0 xs).length))).bind fun z1 => some (.inr (sumP g (PP b xs.length) xs xs.length, z1))) P) : Ok (lpn f_X3_shed_42 64 (σ, x1, b, x3, nI many, j, nI xs.length, 0, 0, 0)) P := by
  have hl := hr.len
  refine up_loop (fun k t => ∃ ρ, t = ((va_up σ.1 j ρ, σ.2), x1, b, x3, nI many, j, nI xs.length, nI (cntP g (PP b xs.length) k), sumP g (PP b xs.length) xs k, nI k) ∧ RW j ρ (ZZ b g xs k)) xs.length ?_ xs.length 0 _ (by omega) ⟨σ.1 j, by rw [us]; rfl, by rw [zz_0]; exact hr⟩ 64 (by omega)
  rintro kk _ k hk2 ⟨ρ, rfl, hρ⟩ hk
  have fin2 : ∀ ρ, RW j ρ (keepG g 0 xs) → Ok (f_X3_shed_119 (va_up σ.1 j ρ, σ.2) x1 (nI (cntP g (PP b xs.length) xs.length)) (sumP g (PP b xs.length) xs xs.length)) P := by
    intro ρ h
    have e := zz_len (b := b) (g := g) (xs := xs) (k := xs.length) (Nat.le_refl _)
    rw [zz_n] at e
    have := fin ρ h
    rw [show xs.length - (keepG g 0 xs).length = cntP g (PP b xs.length) xs.length by omega] at this
    exact this
  have stop : (∀ i, k ≤ i → i < xs.length → g (PP b xs.length i) = 0) → Ok (f_X3_shed_119 (va_up σ.1 j ρ, σ.2) x1 (nI (cntP g (PP b xs.length) k)) (sumP g (PP b xs.length) xs k)) P := by
    intro h
    obtain ⟨s1, s2, s3⟩ := zz_stop (b := b) (g := g) (xs := xs) (xs.length - k) k (by omega) h
    rw [s2, s3]
    exact fin2 ρ (by rw [← s1]; exact hρ)
  have hc := cntP_le g (PP b xs.length) k
  unfold f_X3_shed_42
  dsimp only
  refine ok_if (fun c => ?_) fun c => ?_
  · have c2 := (nI_lei (by omega) (by omega)).mp c
    exact stop fun i h1 h2 => absurd h1 (by omega)
  · have c2 : k < xs.length := Nat.lt_of_not_le (mt (nI_lei (by omega) (by omega)).mpr c)
    refine ok_if (fun d => ?_) fun d => ?_
    · have d2 : many ≤ cntP g (PP b xs.length) k := (nI_lei (by omega) (by omega)).mp d
      refine stop fun i h1 h2 => (hg i h2).mpr fun q => ?_
      have := cntP_mono (g := g) (P := PP b xs.length) (i - k) k
      rw [show k + (i - k) = i by omega] at this
      have := q.1
      omega
    · have d2 : cntP g (PP b xs.length) k < many := Nat.lt_of_not_le (mt (nI_lei (by omega) (by omega)).mpr d)
      obtain ⟨q, a1, a2, a3, a4, a5, a6⟩ := zz_s (b := b) (g := g) c2
      have hρ2 : RW j (va_up σ.1 j ρ j) (ZZ b g xs k) := by rw [up_eq]; exact hρ
      have step : ∀ u, u = nI q → Ok (f_X3_shed_75 kk (va_up σ.1 j ρ, σ.2) x1 b x3 (nI many) j (nI xs.length) (nI (cntP g (PP b xs.length) k)) (sumP g (PP b xs.length) xs k) (nI k) u) P := by
        intro u hu
        subst hu
        unfold f_X3_shed_75 f_X3_loadOf f_X3_shed_113
        have er := rw_read hρ2 a1
        rw [a4] at er
        refine ok_ev er (ok_ev rfl (ok_if (fun z => ?_) fun z => ?_))
        · have e0 : g (PP b xs.length k) = 0 := (hg k c2).mpr fun y => absurd y.2 (Int32.not_le.mpr z)
          refine ok_nme fun y hy => hk _ c2 ⟨ρ, ?_, ?_⟩
          · rw [hy, nI_suc (by omega), cntP_s, if_pos e0, sumP_s, if_pos e0]
          · rw [a5 e0]; exact hρ
        · have e0 : ¬ g (PP b xs.length k) = 0 := fun e => (hg k c2).mp e ⟨d2, Int32.not_lt.mp z⟩
          refine ok_bind (rw_leave hρ2 a1) fun w hw => ok_nme fun t1 e1 => ok_nme fun y2 e2 => ok_nme fun y3 e3 => ok_nme fun y4 e4 => hk _ c2 ⟨w.2, ?_, ?_⟩
          · rw [e1, e2, e3, e4, nI_suc (by omega), nI_suc (by omega), cntP_s, if_neg e0, sumP_s, if_neg e0]
            show ((va_up (va_up σ.1 j ρ) j w.2, σ.2), _) = _
            rw [uu]
          · rw [a6 e0]; exact hw.2
      refine ok_if (fun z => step _ ?_) fun z => step _ ?_
      · have := a2 z
        rw [nI_dif (by omega) (by omega), show k - cntP g (PP b xs.length) k = q by omega]
      · have := a3 z
        rw [nI_prd (by omega) (by omega), nI_dif (by omega) (by omega), this]
theorem ag_shed (h : RX σ τ) (x1 x2 x3 x4 : Int32) : Ri (f_X3_shed σ x1 x2 x3 x4) (f_X6_shed τ x1 x2 x3 x4) (TQ C2 σ) := by
  unfold f_X3_shed f_X6_shed
  refine gd_track (fun j hj hx => ri_tR rfl (ri_eR (mo_isIn _ _ _) ?_)) (ri_fR ne10 (tq_l (h.thr 1) thr0))
  have h0 := h.thr 0
  by_cases c1 : 0 ≤ x3 ∧ x3 ≤ 99
  · rw [if_pos c1]
    refine ri_fR ne10 (ri_obr (cl_within c1) (ri_eR (mo_isIn _ _ _) ?_))
    by_cases c2 : 1 ≤ x4 ∧ x4 ≤ 20
    · rw [if_pos c2]
      refine ri_fR ne10 (ri_obr (cl_within c2) ?_)
      unfold f_X6_shed_39
      refine ri_eR (mo_ref0 thr0 rfl) (ri_tR rfl ?_)
      have hr := h.row (i := j) (by omega)
      have hl := len20 h.1 hj
      refine ri_eL (trackOf_ok hx) (ri_eL (rw_size hr) ?_)
      refine ri_eR (sizeN (gtr_x hx)) (ri_fR (arr_nN hl) (ri_nR fun n hn => ri_nR fun g hg => ?_))
      have hn : n = (τ.1 j).length := hn.trans (nI_cn hl)
      subst hn
      obtain ⟨many, hm, rfl⟩ := nIof (b := 20) (by omega) (Int32.le_trans (by decide) c2.1) c2.2
      have key : ∀ (d m : Nat) (g : Nat → Int32) (f : Nat), m + d = (τ.1 j).length → d < f → (∀ i, i < m → (g (PP x2 (τ.1 j).length i) = 0 ↔ ¬ (cntP g (PP x2 (τ.1 j).length) i < many ∧ x3 ≤ jrem ((τ.1 j).getD (PP x2 (τ.1 j).length i) 0) 100))) → (∀ i, m ≤ i → i < (τ.1 j).length → g (PP x2 (τ.1 j).length i) = 0) → cntP g (PP x2 (τ.1 j).length) m ≤ many → Ri (lpn f_X3_shed_42 64 (σ, x1, x2, x3, nI many, j, nI (τ.1 j).length, 0, 0, 0)) (lpn f_X6_shed_67 f (thr τ 0, x1, x2, x3, (τ.1 j).length, g, nI (many - cntP g (PP x2 (τ.1 j).length) m), sumP g (PP x2 (τ.1 j).length) (τ.1 j) m, nI m)) (TQ C2 σ) := by
        intro d
        induction d with
        | zero =>
          intro m g f hm2 hf hg hz hc
          obtain ⟨f', rfl⟩ : ∃ f', f = f' + 1 := ⟨f - 1, by omega⟩
          have em : m = (τ.1 j).length := by omega
          show Ri _ (f_X6_shed_67 (lpn f_X6_shed_67 f') (thr τ 0, x1, x2, x3, (τ.1 j).length, g, nI (many - cntP g (PP x2 (τ.1 j).length) m), sumP g (PP x2 (τ.1 j).length) (τ.1 j) m, nI m)) _
          unfold f_X6_shed_67
          dsimp only
          refine ri_tR ((nI_lei (by omega) (by omega)).mpr (by omega)) ?_
          rw [em] at hg ⊢
          intro r2 e2
          refine cl_shed (g := g) hr hm hg fun ρ hρ => ?_
          have q := off_end (τ := thr τ 0) (g := g) (ρ := ρ) h0 hj hx hρ
          have q2 : Ri ((f_X3_tearIfAny (va_up σ.1 j ρ, σ.2) x1 (nI ((τ.1 j).length - (keepG g 0 (τ.1 j)).length))).bind fun z3 => some (.inr (sumP g (PP x2 (τ.1 j).length) (τ.1 j) (τ.1 j).length, z3))) ((f_X6_offAll (thr τ 0) x1 (τ.1 j).length g).bind fun z6 => some (sumP g (PP x2 (τ.1 j).length) (τ.1 j) (τ.1 j).length, z6.2)) (TQ C2 σ) := ri_call q fun u w hu => tq_r hu.2.1 (hu.2.2.trans thr0) rfl
          exact q2 r2 e2
        | succ d ih =>
          intro m g f hm2 hf hg hz hc
          obtain ⟨f', rfl⟩ : ∃ f', f = f' + 1 := ⟨f - 1, by omega⟩
          have c3 : m < (τ.1 j).length := by omega
          have hp : PP x2 (τ.1 j).length m < (τ.1 j).length := pp_lt c3
          have gz := hz m (Nat.le_refl _) c3
          show Ri _ (f_X6_shed_67 (lpn f_X6_shed_67 f') (thr τ 0, x1, x2, x3, (τ.1 j).length, g, nI (many - cntP g (PP x2 (τ.1 j).length) m), sumP g (PP x2 (τ.1 j).length) (τ.1 j) m, nI m)) _
          have skip : ¬ (cntP g (PP x2 (τ.1 j).length) m < many ∧ x3 ≤ jrem ((τ.1 j).getD (PP x2 (τ.1 j).length m) 0) 100) → Ri (lpn f_X3_shed_42 64 (σ, x1, x2, x3, nI many, j, nI (τ.1 j).length, 0, 0, 0)) (f_X6_shed_140 (lpn f_X6_shed_67 f') (thr τ 0) x1 x2 x3 (τ.1 j).length g (nI (many - cntP g (PP x2 (τ.1 j).length) m)) (sumP g (PP x2 (τ.1 j).length) (τ.1 j) m) (nI m)) (TQ C2 σ) := by
            intro hs
            unfold f_X6_shed_140
            refine ri_nR fun y hy => ?_
            have e1 : cntP g (PP x2 (τ.1 j).length) (m + 1) = cntP g (PP x2 (τ.1 j).length) m := by rw [cntP_s, if_pos gz]
            have e2 : sumP g (PP x2 (τ.1 j).length) (τ.1 j) (m + 1) = sumP g (PP x2 (τ.1 j).length) (τ.1 j) m := by rw [sumP_s, if_pos gz]
            have q := ih (m + 1) g f' (by omega) (by omega) (fun i hi => by
              by_cases c : i = m
              · rw [c]; exact ⟨fun _ => hs, fun _ => gz⟩
              · exact hg i (by omega)) (fun i h1 h2 => hz i (by omega) h2) (by rw [e1]; exact hc)
            rw [e1, e2] at q
            rw [hy, nI_suc (by omega)]
            exact q
          have st : Ri (lpn f_X3_shed_42 64 (σ, x1, x2, x3, nI many, j, nI (τ.1 j).length, 0, 0, 0)) (f_X6_shed_92 (lpn f_X6_shed_67 f') (thr τ 0) x1 x2 x3 (τ.1 j).length g (nI (many - cntP g (PP x2 (τ.1 j).length) m)) (sumP g (PP x2 (τ.1 j).length) (τ.1 j) m) (nI m) (nI (PP x2 (τ.1 j).length m))) (TQ C2 σ) := by
            unfold f_X6_shed_92
            refine ri_iR (fun z => ?_) fun z => ?_
            · have z2 := (nI_eqz (a := many - cntP g (PP x2 (τ.1 j).length) m) (by omega)).mp z
              exact skip fun q => absurd q.1 (by omega)
            · have z2 := mt (nI_eqz (a := many - cntP g (PP x2 (τ.1 j).length) m) (by omega)).mpr z
              refine ri_eR (getN (τ := thr τ 0) (gtr_x hx) hp hl) (ri_eR (v := jrem ((τ.1 j).getD (PP x2 (τ.1 j).length m) 0) 100) rfl (ri_iR (fun w => ?_) fun w => skip fun q => w q.2))
              refine ri_fR (arr_iN hp (by omega)) (ri_nR fun g1 hg1 => ri_eR (getN (τ := thr τ 0) (gtr_x hx) hp hl) (ri_eR (v := jrem ((τ.1 j).getD (PP x2 (τ.1 j).length m) 0) 100) rfl (ri_nR fun y1 h1 => ri_nR fun y2 h2 => ?_)))
              rw [nI_c (by omega)] at hg1
              have gm : ¬ g1 (PP x2 (τ.1 j).length m) = 0 := by
                rw [hg1, upd_at, if_pos rfl]; decide
              have go : ∀ i, i < (τ.1 j).length → i ≠ m → g1 (PP x2 (τ.1 j).length i) = g (PP x2 (τ.1 j).length i) := fun i hi ne => by
                rw [hg1, upd_at, if_neg (pp_ne c3 hi ne)]
              have cg : ∀ k, k ≤ m → cntP g1 (PP x2 (τ.1 j).length) k = cntP g (PP x2 (τ.1 j).length) k := fun k hk => cntP_cg k fun i hi => by rw [go i (by omega) (by omega)]
              have sg : sumP g1 (PP x2 (τ.1 j).length) (τ.1 j) m = sumP g (PP x2 (τ.1 j).length) (τ.1 j) m := sumP_cg m fun i hi => by rw [go i (by omega) (by omega)]
              have e1 : cntP g1 (PP x2 (τ.1 j).length) (m + 1) = cntP g (PP x2 (τ.1 j).length) m + 1 := by rw [cntP_s, if_neg gm, cg m (Nat.le_refl _)]
              have e2 : sumP g1 (PP x2 (τ.1 j).length) (τ.1 j) (m + 1) = sumP g (PP x2 (τ.1 j).length) (τ.1 j) m + jrem ((τ.1 j).getD (PP x2 (τ.1 j).length m) 0) 100 := by rw [sumP_s, if_neg gm, sg]
              have q := ih (m + 1) g1 f' (by omega) (by omega) (fun i hi => by
                by_cases c : i = m
                · rw [c, cg m (Nat.le_refl _)]; exact ⟨fun e => absurd e gm, fun e => absurd ⟨by omega, w⟩ e⟩
                · rw [go i (by omega) c, cg i (by omega)]; exact hg i (by omega)) (fun i h1 h2 => by rw [go i h2 (by omega)]; exact hz i (by omega) h2) (by rw [e1]; omega)
              rw [e1, e2] at q
              unfold f_X6_shed_140
              refine ri_nR fun y hy => ?_
              rw [hy, h1, h2, nI_suc (by omega), nI_prd2 (by omega) (by omega), show many - cntP g (PP x2 (τ.1 j).length) m - 1 = many - (cntP g (PP x2 (τ.1 j).length) m + 1) by omega]
              exact q
          unfold f_X6_shed_67
          dsimp only
          refine ri_fR (mt (nI_lei (by omega) (by omega)).mp (by omega)) ?_
          by_cases hb : x2 = 0
          · refine ri_tR hb ?_
            have e : PP x2 (τ.1 j).length m = m := by rw [hb]; exact pp_0
            rw [e] at st
            exact st
          · refine ri_fR hb ?_
            rw [pp_1 hb] at st
            rw [nI_prd (by omega) (by omega), nI_dif (by omega) (by omega)]
            exact st
      have hg0 : ∀ i, g i = 0 := fun i => by rw [hg]
      exact key (τ.1 j).length 0 g 24 (by omega) (by omega) (fun i hi => absurd hi (by omega)) (fun i _ _ => hg0 _) (Nat.zero_le _)
    · rw [if_neg c2]
      refine ri_tR rfl (ri_obl (cl_without c2) ?_)
      unfold f_X6_shed_34 f_X6_shed_39
      refine ri_eR (mo_ref1 thr0 ne10 (by decide)) (ri_fR ne10 ?_)
      rw [thr_thr]
      exact tq_l (h.thr 2) thr0
  · rw [if_neg c1]
    refine ri_tR rfl (ri_obl (cl_without c1) ?_)
    unfold f_X6_shed_34 f_X6_shed_39
    refine ri_eR (mo_ref1 thr0 ne10 (by decide)) (ri_fR ne10 ?_)
    rw [thr_thr]
    exact tq_l (h.thr 2) thr0
end L3V
