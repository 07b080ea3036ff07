/-! level 3: the walk, the line by its places -/
section L3F
variable {σ : CS} {τ : MS}
theorem scW {w : Nat → Int32} : (σ.1, scUp σ.2 1 4 w).2 1 = w 0 ∧ (σ.1, scUp σ.2 1 4 w).2 2 = w 1 ∧ (σ.1, scUp σ.2 1 4 w).2 3 = w 2 ∧ (σ.1, scUp σ.2 1 4 w).2 4 = w 3 ∧ ∀ q, ¬ (1 ≤ q ∧ q < 1 + 4) → (σ.1, scUp σ.2 1 4 w).2 q = σ.2 q := by
  refine ⟨?_, ?_, ?_, ?_, fun q hq => ?_⟩
  · show scUp σ.2 1 4 w 1 = w 0
    exact scU_i (q := 1) (by omega)
  · show scUp σ.2 1 4 w 2 = w 1
    exact scU_i (q := 2) (by omega)
  · show scUp σ.2 1 4 w 3 = w 2
    exact scU_i (q := 3) (by omega)
  · show scUp σ.2 1 4 w 4 = w 3
    exact scU_i (q := 4) (by omega)
  · show scUp σ.2 1 4 w q = σ.2 q
    exact scU_o hq
/-- the walk anew on both sides -/
theorem walk_rx {r : CS} {t : MS} (h : RY σ τ) (e1 : r.1 = σ.1) (e2 : ∀ q, ¬ (1 ≤ q ∧ q < 1 + 4) → r.2 q = σ.2 q) (f1 : t.1 = τ.1) (f2 : ∀ q, q ≠ 0 → q ≠ 1 → q ≠ 2 → q ≠ 3 → t.2 q = τ.2 q) (hw : WR r t) : RX r t := by
  refine ⟨h.cg (fun i _ => by rw [e1]) f1 (fun q h1 h2 => ?_) ?_, hw⟩
  · rw [e2 q (by omega), f2 q (by omega) (by omega) (by omega) (by omega)]; exact h.2.1 q h1 h2
  · rw [e2 0 (by omega), f2 4 (by omega) (by omega) (by omega) (by omega)]; exact h.2.2.1
theorem ag_walk (h : RX σ τ) (x1 : Int32) (q1 : x1 = 0 ∨ x1 = 1) : Ri (f_X3_walk σ x1) (f_X6_walk τ x1) UQ := by
  have hr := h.row (i := 0) (by omega)
  have hl := hr.len
  unfold f_X3_walk f_X6_walk
  refine ri_nR fun s hs => ?_
  have hs : s = thr τ 0 := hs
  subst hs
  have main : ∀ (v w n : Int32), (v = 0 ∧ w = 1 ∨ v = 1 ∧ w = 2) → (n = if v = 0 then 0 else nI (τ.1 0).length - 1) → ∀ wv, f_X1_begin (fun k => σ.2 (1 + k)) v (nI (τ.1 0).length) = some wv → Ri (nm ((σ.1, scUp σ.2 1 4 wv) : CS) fun t11 => (f_X0_size (cap 0) (t11.1 0)).bind fun z12 => some (z12, t11)) (f_X6_walk_34 ((thr τ 0).1, va_up (thr τ 0).2 1 w) n) UQ := by
    intro v w n hv hn wv hwv
    have wv0 : wv 0 = 1 ∧ wv 1 = v ∧ wv 2 = n ∧ wv 3 = -1 := by
      unfold f_X1_begin f_X1_begin_22 at hwv
      have hv2 : v = 0 ∨ v = 1 := by
        rcases hv with q | q
        · exact Or.inl q.1
        · exact Or.inr q.1
      have hwv : (if v = 0 ∨ v = 1 then (if v = 0 then some (va_up (va_up (va_up (va_up (fun k => σ.2 (1 + k)) 0 1) 1 v) 2 0) 3 (-1)) else some (va_up (va_up (va_up (va_up (fun k => σ.2 (1 + k)) 0 1) 1 v) 2 (nI (τ.1 0).length - 1)) 3 (-1))) else none) = some wv := hwv
      rw [if_pos hv2] at hwv
      by_cases c : v = 0
      · rw [if_pos c] at hwv hn
        cases hwv
        exact ⟨rfl, rfl, hn.symm, rfl⟩
      · rw [if_neg c] at hwv hn
        cases hwv
        exact ⟨rfl, rfl, hn.symm, rfl⟩
    unfold f_X6_walk_34
    refine ri_nL fun r hr2 => ri_nR fun t1 ht1 => ri_nR fun t2 ht2 => ?_
    obtain ⟨a1, a2, a3, a4, a5⟩ := scW (σ := σ) (w := wv)
    rw [← hr2] at a1 a2 a3 a4 a5
    have r1 : r.1 = σ.1 := by rw [hr2]
    obtain ⟨l1, b1, o1⟩ := up_sc ht1
    obtain ⟨l2, b2, o2⟩ := up_sc ht2
    have o0 : ∀ q, q ≠ 0 → q ≠ 1 → q ≠ 2 → q ≠ 3 → t2.2 q = τ.2 q := fun q h0 h1 h2 h3 => by
      rw [o2 q h3, o1 q h2]
      show va_up (thr τ 0).2 1 w q = _
      rw [up_ne h1]
      exact thrn q h0
    have w1 : t2.2 1 = w := by
      rw [o2 1 (by omega), o1 1 (by omega)]
      show va_up (thr τ 0).2 1 w 1 = w
      exact up_eq
    have hx : RX r t2 := by
      refine walk_rx h.1 r1 a5 (l2.trans l1) o0 ?_
      unfold WR
      rw [a1, a2, a3, a4, w1, o2 2 (by omega), b1, b2, wv0.1, wv0.2.1, wv0.2.2.1, wv0.2.2.2]
      exact Or.inr ⟨rfl, hv, rfl, rfl, fun _ e => absurd rfl e⟩
    have hr0 := hx.row (i := 0) (by omega)
    exact ri_eL (rw_size hr0) (ri_eR (sizeN (j := 0) rfl) (ri_some ⟨rfl, hx⟩))
  refine ri_eL (rw_size hr) ?_
  have hb : ∃ wv, f_X1_begin (fun k => σ.2 (1 + k)) x1 (nI (τ.1 0).length) = some wv := by
    unfold f_X1_begin f_X1_begin_22
    rcases q1 with q | q <;> subst q
    · exact ⟨_, rfl⟩
    · exact ⟨_, rfl⟩
  obtain ⟨wv, hwv⟩ := hb
  refine ri_eL hwv ?_
  unfold f_X6_walk_15
  refine ri_iR (fun c => ri_nR fun t ht => ri_tR c ?_) fun c => ri_nR fun t ht => ri_fR c ?_
  · subst ht
    exact main x1 1 0 (Or.inl ⟨c, rfl⟩) (by rw [if_pos c]) wv hwv
  · subst ht
    refine ri_eR (sizeN (j := 0) rfl) ?_
    exact main x1 2 _ (Or.inr ⟨q1.resolve_left c, rfl⟩) (by rw [if_neg c]; rfl) wv hwv
theorem hasNext_ok (h : RX σ τ) : ∃ b, (b = 0 ∨ b = 1) ∧ f_X1_hasNext (fun k => σ.2 (1 + k)) (nI (τ.1 0).length) = some b ∧ f_X6_hasNext τ = some b ∧ (b = 1 → ∃ i, i < (τ.1 0).length ∧ τ.2 2 = nI i) := by
  have hr := h.row (i := 0) (by omega)
  have hl := hr.len
  unfold f_X1_hasNext f_X6_hasNext
  rcases h.2 with ⟨w1, w2, -, -⟩ | ⟨w1, w2, w3, -, -⟩
  · exact ⟨0, Or.inl rfl, by rw [if_pos (show (fun k => σ.2 (1 + k)) 0 = 0 from w1)], by rw [if_pos w2], fun e => absurd e (by decide)⟩
  · have n1 : ¬ (fun k => σ.2 (1 + k)) 0 = 0 := by
      show ¬ σ.2 1 = 0
      rw [w1]; decide
    have n2 : ¬ τ.2 1 = 0 := by
      rcases w2 with q | q <;> (rw [q.2]; decide)
    have w3 : (fun k => σ.2 (1 + k)) 2 = τ.2 2 := w3
    rw [if_neg n1, if_neg n2, w3, sizeN (j := 0) rfl, bsm, mo_isIn, bsm]
    by_cases c1 : τ.2 2 < 0
    · rw [if_pos c1, if_neg (fun q : 0 ≤ τ.2 2 ∧ _ => absurd q.1 (Int32.not_le.mpr c1)), if_pos rfl]
      exact ⟨0, Or.inl rfl, rfl, rfl, fun e => absurd e (by decide)⟩
    · rw [if_neg c1]
      have c0 : 0 ≤ τ.2 2 := Int32.not_lt.mp c1
      by_cases c2 : nI (τ.1 0).length ≤ τ.2 2
      · rw [if_pos c2]
        have c3 : ¬ (0 ≤ τ.2 2 ∧ τ.2 2 ≤ nI (τ.1 0).length - 1) := by
          rintro ⟨-, q⟩
          rcases Nat.eq_zero_or_pos (τ.1 0).length with e | e
          · rw [e] at q
            exact absurd (Int32.le_trans c0 q) (by decide)
          · rw [nI_prd e (by omega)] at q
            have := (nI_lei (by omega) (by omega)).mp (Int32.le_trans c2 q)
            omega
        rw [if_neg c3, if_pos rfl]
        exact ⟨0, Or.inl rfl, rfl, rfl, fun e => absurd e (by decide)⟩
      · rw [if_neg c2]
        have c4 : τ.2 2 < nI (τ.1 0).length := Int32.not_le.mp c2
        obtain ⟨i, hi, e⟩ := nIof (b := (τ.1 0).length) (by omega) c0 (Int32.le_of_lt c4)
        rw [e] at c4
        have hi2 := (nI_lti (by omega) (by omega)).mp c4
        have c3 : 0 ≤ τ.2 2 ∧ τ.2 2 ≤ nI (τ.1 0).length - 1 := by
          refine ⟨c0, ?_⟩
          rw [e, nI_prd (by omega) (by omega)]
          exact (nI_lei (by omega) (by omega)).mpr (by omega)
        rw [if_pos c3, if_neg ne10]
        exact ⟨1, Or.inr rfl, rfl, rfl, fun _ => ⟨i, hi2, e⟩⟩
theorem needWalk_ok (h : RX σ τ) : (τ.2 1 = 0 ∧ f_X3_needWalk σ = some (.inl 2)) ∨ (¬ τ.2 1 = 0 ∧ f_X3_needWalk σ = some (.inr ())) := by
  unfold f_X3_needWalk
  rcases h.2 with ⟨w1, w2, -, -⟩ | ⟨w1, w2, -, -, -⟩
  · exact Or.inl ⟨w2, by rw [if_pos w1]⟩
  · refine Or.inr ⟨?_, by rw [if_neg (by rw [w1]; decide)]⟩
    rcases w2 with q | q <;> (rw [q.2]; decide)
theorem ag_step (h : RX σ τ) : Ri (f_X3_step σ) (f_X6_step τ) (TQ C22 σ) := by
  have hr := h.row (i := 0) (by omega)
  have hl := hr.len
  have h0 := h.thr 0
  unfold f_X3_step f_X6_step f_X6_step_13
  rcases needWalk_ok h with ⟨c, e⟩ | ⟨c, e⟩
  · exact ri_tR c (ri_eR (mo_st1 ne10 (by decide)) (ri_fR ne10 (ri_obl e (tq_l (h.thr 1) thr0))))
  · refine ri_fR c (ri_eR (mo_st0 rfl) (ri_tR rfl (ri_obr e (ri_eL (rw_size hr) ?_))))
    obtain ⟨b, hb, e1, e2, hi⟩ := hasNext_ok h0
    refine ri_eL e1 (ri_eR e2 ?_)
    rcases hb with hb | hb
    · subst hb
      exact ri_tL rfl (ri_tR rfl (tq_r h0 thr0 rfl))
    · subst hb
      obtain ⟨i, hi, en⟩ := hi rfl
      refine ri_fL ne10 (ri_fR ne10 (ri_nR fun t ht => ?_))
      obtain ⟨lt, et, ot⟩ := up_sc ht
      have et : t.2 3 = nI i := et.trans en
      rcases h0.2 with ⟨-, w2, -, -⟩ | ⟨w1, w2, w3, w4, w5⟩
      · exact absurd w2 c
      · have hg : ∃ wv, f_X1_goOn (fun k => σ.2 (1 + k)) = some wv ∧ wv 0 = σ.2 1 ∧ wv 1 = σ.2 2 ∧ wv 2 = σ.2 3 + (if σ.2 2 = 0 then 1 else -1) ∧ wv 3 = σ.2 3 := by
          unfold f_X1_goOn f_X1_goOn_25
          by_cases d : σ.2 2 = 0
          · refine ⟨va_up (va_up (fun k => σ.2 (1 + k)) 3 (σ.2 (1 + 2))) 2 (σ.2 (1 + 2) + 1), ?_, rfl, rfl, ?_, rfl⟩
            · exact if_pos d
            · rw [if_pos d]; rfl
          · refine ⟨va_up (va_up (fun k => σ.2 (1 + k)) 3 (σ.2 (1 + 2))) 2 (σ.2 (1 + 2) + (-1)), ?_, rfl, rfl, ?_, rfl⟩
            · exact if_neg d
            · rw [if_neg d]; rfl
        obtain ⟨wv, e3, g0, g1, g2, g3⟩ := hg
        refine ri_eL e3 (ri_nL fun r hr2 => ?_)
        obtain ⟨a1, a2, a3, a4, a5⟩ := scW (σ := σ) (w := wv)
        rw [← hr2] at a1 a2 a3 a4 a5
        have r1 : r.1 = σ.1 := by rw [hr2]
        have t11 : t.2 1 = τ.2 1 := (ot 1 (by omega)).trans (thrn 1 (by omega))
        have t22 : t.2 2 = τ.2 2 := (ot 2 (by omega)).trans (thrn 2 (by omega))
        have s22 : (thr τ 0).2 2 = τ.2 2 := thrn 2 (by omega)
        have s11 : (thr τ 0).2 1 = τ.2 1 := thrn 1 (by omega)
        have fin : ∀ d : Int32, d = (if σ.2 2 = 0 then 1 else -1) → Ri ((f_X0_read (cap 0) (r.1 0) (r.2 4)).bind fun z23 => some (.inr (z23, r))) (f_X6_step_58 t (t.2 2) d) (TQ C22 σ) := by
          intro d hd
          unfold f_X6_step_58
          refine ri_nR fun t2 ht2 => ?_
          obtain ⟨l2, b2, o2⟩ := up_sc ht2
          have t3 : t2.2 3 = nI i := (o2 3 (by omega)).trans et
          have hx : RX r t2 := by
            refine walk_rx h.1 r1 a5 (l2.trans lt) (fun q p0 p1 p2 p3 => ?_) ?_
            · rw [o2 q p2, ot q p3]
              exact thrn q p0
            · unfold WR
              have n3 : σ.2 3 = nI i := w3.trans en
              rw [a1, a2, a3, a4, g0, g1, g2, g3, o2 1 (by omega), t11, b2, t3, n3, hd]
              have t22b : t.2 2 = nI i := t22.trans (s22.symm.trans en)
              rw [t22b]
              rw [s11] at w2
              refine Or.inr ⟨w1, w2, rfl, rfl, fun e5 _ => ?_⟩
              rcases w2 with q | q
              · rw [if_pos q.1]
              · rw [q.2] at e5; exact absurd e5 (by decide)
          have hr0 := hx.row (i := 0) (by omega)
          have lt2 : (t2.1 0).length = (τ.1 0).length := by rw [l2, lt]; rfl
          have hi3 : i < (t2.1 0).length := by rw [lt2]; exact hi
          have r4 : r.2 4 = nI i := by rw [a4, g3]; exact w3.trans en
          rw [t3, r4]
          refine ri_eL (rw_read hr0 hi3) (ri_eR (getN (j := 0) rfl hi3 hr0.len) (tq_r hx ?_ rfl))
          rw [o2 0 (by omega), ot 0 (by omega)]; exact thr0
        refine ri_iR (fun d => fin _ ?_) fun d => fin _ ?_
        · rw [t11, ← s11] at d
          rcases w2 with q | q
          · rw [if_pos q.1]
          · rw [q.2] at d; exact absurd d (by decide)
        · rw [t11, ← s11] at d
          rcases w2 with q | q
          · exact absurd q.2 d
          · rw [if_neg (by rw [q.1]; decide)]
theorem ag_pluck (h : RX σ τ) : Ri (f_X3_pluck σ) (f_X6_pluck τ) (TQ C22 σ) := by
  have hr := h.row (i := 0) (by omega)
  have hl := hr.len
  have h0 := h.thr 0
  unfold f_X3_pluck f_X6_pluck f_X6_pluck_13
  rcases needWalk_ok h with ⟨c, e⟩ | ⟨c, e⟩
  · exact ri_tR c (ri_eR (mo_st1 ne10 (by decide)) (ri_fR ne10 (ri_obl e (tq_l (h.thr 1) thr0))))
  · refine ri_fR c (ri_eR (mo_st0 rfl) (ri_tR rfl (ri_obr e ?_)))
    have s33 : (thr τ 0).2 3 = τ.2 3 := thrn 3 (by omega)
    have s22 : (thr τ 0).2 2 = τ.2 2 := thrn 2 (by omega)
    have s11 : (thr τ 0).2 1 = τ.2 1 := thrn 1 (by omega)
    rcases h.2 with ⟨-, w2, -, -⟩ | ⟨w1, w2, w3, w4, w5⟩
    · exact absurd w2 c
    · refine ri_iR (fun d => ri_tL ?_ (tq_r h0 thr0 rfl)) fun d => ri_fL ?_ ?_
      · rw [w4, ← s33]; exact d
      · rw [w4, ← s33]; exact d
      · refine ri_eR (v := 0) rfl (ri_bR fun xs hxs => ri_nR fun t ht => ?_)
        obtain ⟨t2, t1, t0⟩ := up_ls ht
        have hin : ∃ i, i < (τ.1 0).length ∧ τ.2 3 = nI i ∧ xs = delAt (τ.1 0) i := by
          rw [s33] at hxs
          have hxs : ldel (τ.1 0) (τ.2 3) = some xs := hxs
          unfold ldel at hxs
          by_cases q : τ.2 3 < 0 ∨ (τ.1 0).length ≤ (τ.2 3).toNatClampNeg
          · rw [if_pos q] at hxs; cases hxs
          · rw [if_neg q] at hxs
            cases hxs
            refine ⟨(τ.2 3).toNatClampNeg, by omega, ?_, rfl⟩
            have q0 : 0 ≤ τ.2 3 := Int32.not_lt.mp fun q0 => q (Or.inl q0)
            apply Int32.toInt_inj.mp
            have q1 := Int32.le_iff_toInt_le.mp q0
            have z0 : (0 : Int32).toInt = 0 := rfl
            have q2 : (τ.2 3).toNatClampNeg = (τ.2 3).toInt.toNat := rfl
            rw [nI_toInt (by omega)]
            omega
        obtain ⟨i, hi, e3, ex⟩ := hin
        have e4 : σ.2 4 = nI i := w4.trans e3
        rw [e4]
        refine ri_okL (rw_leave hr hi) fun z hz => ri_nL fun r1 er1 => ?_
        have hg : ∃ wv, f_X1_letGo (fun k => r1.2 (1 + k)) = some wv ∧ wv 0 = σ.2 1 ∧ wv 1 = σ.2 2 ∧ wv 2 = (if σ.2 2 = 0 then σ.2 4 else σ.2 3) ∧ wv 3 = -1 := by
          have er : r1.2 = σ.2 := by rw [er1]
          rw [er]
          unfold f_X1_letGo f_X1_letGo_15
          by_cases d2 : σ.2 2 = 0
          · refine ⟨va_up (va_up (fun k => σ.2 (1 + k)) 2 (σ.2 (1 + 3))) 3 (-1), ?_, rfl, rfl, ?_, rfl⟩
            · exact if_pos d2
            · rw [if_pos d2]; rfl
          · refine ⟨va_up (fun k => σ.2 (1 + k)) 3 (-1), ?_, rfl, rfl, ?_, rfl⟩
            · exact if_neg d2
            · rw [if_neg d2]; rfl
        obtain ⟨wv, eg, g0, g1, g2, g3⟩ := hg
        refine ri_eL eg (ri_nL fun r2 er2 => ri_eL (v := ((r2.1 2).1, 0)) rfl (ri_nL fun r3 er3 => ?_))
        obtain ⟨a1, a2, a3, a4, a5⟩ := scW (σ := r1) (w := wv)
        rw [← er2] at a1 a2 a3 a4 a5
        have r31 : r3.1 = va_up (va_up σ.1 0 z.2) 2 ((r2.1 2).1, 0) := by rw [er3, er2, er1]
        have r32 : r3.2 = r2.2 := by rw [er3]
        have y1 : RY (va_up σ.1 0 z.2, σ.2) (va_up τ.1 0 xs, τ.2) := h.1.up (by omega) (by rw [ex]; exact hz.2) (by rw [ex]; exact h.1.2.2.2.del (by omega))
        have y2 : RY (va_up (va_up σ.1 0 z.2) 2 ((r2.1 2).1, 0), σ.2) (va_up (va_up τ.1 0 xs) 2 [], τ.2) := y1.up (by omega) (rw_empty (ρ := r2.1 2)) (y1.2.2.2.slips (xs := []) fun w hw => by cases hw)
        have n3 : ∀ s : MS, s.1 = t.1 → (∀ q, q ≠ 2 → s.2 q = t.2 q) → s.2 2 = (if τ.2 1 = 1 then τ.2 2 - 1 else τ.2 2) → Ri ((f_X0_size (cap 0) (r3.1 0)).bind fun z25 => some (.inr (z25, r3))) (f_X6_pluck_70 s) (TQ C22 σ) := by
          intro s ls os s2
          unfold f_X6_pluck_70
          refine ri_nR fun t4 ht4 => ri_eR mo_tear ?_
          obtain ⟨l4, b4, o4⟩ := up_sc ht4
          have hx : RX r3 (va_up t4.1 2 [], t4.2) := by
            refine walk_rx y2 r31 (fun q hq => ?_) ?_ (fun q p0 p1 p2 p3 => ?_) ?_
            · rw [r32, a5 q hq, er1]
            · show va_up t4.1 2 [] = _
              rw [l4, ls, ht]; rfl
            · show t4.2 q = τ.2 q
              rw [o4 q p3, os q p2, t2]
              exact thrn q p0
            · show WRel (r3.2 1) (r3.2 2) (r3.2 3) (r3.2 4) (t4.2 1) (t4.2 2) (t4.2 3)
              rw [r32, a1, a2, a3, a4, g0, g1, g2, g3, b4, o4 1 (by omega), os 1 (by omega), o4 2 (by omega), s2, t2, s11, w1]
              refine Or.inr ⟨rfl, w2, ?_, rfl, fun _ q => absurd rfl q⟩
              rcases w2 with q | q
              · rw [if_pos q.1, if_pos q.2, w4, w5 q.2 (by rw [← s33]; exact d)]
                grind
              · rw [if_neg (by rw [q.1]; decide), if_neg (by rw [q.2]; decide), w3]
          have hr0 := hx.row (i := 0) (by omega)
          refine ri_eL (rw_size hr0) (ri_eR (sizeN (j := 0) rfl) (tq_r hx ?_ rfl))
          show t4.2 0 = 0
          rw [o4 0 (by omega), os 0 (by omega), t2]; exact thr0
        have tt1 : t.2 1 = τ.2 1 := by rw [t2]; exact s11
        have tt2 : t.2 2 = τ.2 2 := by rw [t2]; exact s22
        refine ri_iR (fun d2 => ri_nR fun s hs => ?_) fun d2 => n3 t rfl (fun _ _ => rfl) ?_
        · obtain ⟨ls, bs, os⟩ := up_sc hs
          refine n3 s ls os ?_
          rw [bs, tt2, if_pos (by rw [← tt1]; exact d2)]
        · rw [tt2, if_neg (by rw [← tt1]; exact d2)]
end L3F
