/-! level 3: walkers who change the line; where they are -/
section L3I
variable {σ : CS} {τ : MS}
theorem tfw (h : RX σ τ) {x : Int32} {j : Nat} (hj : j < 2) (hx : x = 0 ∧ j = 0 ∨ x = 1 ∧ j = 1) : ∃ t1, f_X6_changed τ 1 x = some t1 ∧ Ok (f_X3_tearForWalker σ x) fun r => RX r (va_up t1.1 2 [], t1.2) ∧ t1.2 0 = τ.2 0 ∧ r.2 (5 + 3 * j + 1) = σ.2 (5 + 3 * j + 1) ∧ t1.2 (5 + 3 * j + 1) = τ.2 (5 + 3 * j + 1) := by
  obtain ⟨t1, e1, l1, a5, a8, ao⟩ := mo_chg1 (τ := τ) x
  refine ⟨t1, e1, ?_⟩
  unfold f_X3_tearForWalker
  refine ok_ev (v := ((σ.1 2).1, 0)) rfl (ok_nme fun s es => ?_)
  have s1 : s.1 = va_up σ.1 2 ((σ.1 2).1, 0) := by rw [es]
  have s2 : s.2 = σ.2 := by rw [es]
  have hy : RY s (va_up τ.1 2 [], τ.2) := by
    rw [es]
    exact h.1.up (by omega) rw_empty (h.1.2.2.2.slips (xs := []) fun w hw => by cases hw)
  clear es
  have key : ∀ o, (j = 0 ∧ o = 1 ∨ j = 1 ∧ o = 0) → f_X3_walkerOf s (1 - x) = some o → t1.2 (5 + 3 * o) = grw (τ.2 (5 + 3 * o)) → (∀ q, q ≠ 5 + 3 * o → t1.2 q = τ.2 q) → Ok ((f_X3_walkerOf s (1 - x)).bind fun z7 => (f_X2_growStale (fun k => s.2 (5 + 3 * z7 + k))).bind fun z12 => nm ((s.1, scUp s.2 (5 + 3 * z7) 3 z12) : CS) fun t17 => some t17) fun r => RX r (va_up t1.1 2 [], t1.2) ∧ t1.2 0 = τ.2 0 ∧ r.2 (5 + 3 * j + 1) = σ.2 (5 + 3 * j + 1) ∧ t1.2 (5 + 3 * j + 1) = τ.2 (5 + 3 * j + 1) := by
    intro o ho ew eg en
    refine ok_ev ew ?_
    obtain ⟨w, e, w0, wq⟩ := cl_grow (fun k => s.2 (5 + 3 * o + k))
    refine ok_ev e (ok_nme fun r er => ok_some ?_)
    obtain ⟨u0, uq⟩ := cl_ker (σ := s) (b := 5 + 3 * o) w0 wq
    rw [← er] at u0 uq
    have r1 : r.1 = s.1 := by rw [er]
    refine ⟨⟨hy.cg (fun i _ => by rw [r1]) (by show va_up t1.1 2 [] = _; rw [l1]) (fun q p1 p2 => ?_) ?_, ?_⟩, en 0 (by omega), ?_, en _ (by omega)⟩
    · show r.2 q = t1.2 q
      by_cases c : q = 5 + 3 * o
      · rw [c, u0, eg, s2, h.ker (by omega) (by omega)]
      · rw [uq q c, en q c, s2, h.ker p1 p2]
    · show r.2 0 = t1.2 4
      rw [uq 0 (by omega), en 4 (by omega), s2]; exact h.1.2.2.1
    · show WRel (r.2 1) (r.2 2) (r.2 3) (r.2 4) (t1.2 1) (t1.2 2) (t1.2 3)
      rw [uq 1 (by omega), uq 2 (by omega), uq 3 (by omega), uq 4 (by omega), en 1 (by omega), en 2 (by omega), en 3 (by omega), s2]
      exact h.2
    · rw [uq _ (by omega), s2]
  rcases hx with ⟨p, q⟩ | ⟨p, q⟩ <;> subst p q
  · rw [if_pos rfl] at a5
    rw [if_neg (by decide)] at a8
    refine key 1 (Or.inl ⟨rfl, rfl⟩) rfl a8 fun q hq => ?_
    by_cases c : q = 5
    · rw [c]; exact a5
    · exact ao q c (by omega)
  · rw [if_neg (by decide)] at a5
    rw [if_pos rfl] at a8
    refine key 0 (Or.inr ⟨rfl, rfl⟩) rfl a5 fun q hq => ?_
    by_cases c : q = 8
    · rw [c]; exact a8
    · exact ao q (by omega) c
theorem holds_ok {ω : Nat → Int32} : f_X2_holds ω = some (if ω 0 = 1 ∧ ¬ ω 2 = -1 then 1 else 0) := by
  unfold f_X2_holds
  rw [fresh_ok, bsm]
  by_cases c : ω 0 = 1
  · rw [if_pos c, if_neg ne10]
    by_cases d : ω 2 = -1
    · rw [if_pos d, if_neg (fun q : ω 0 = 1 ∧ ¬ ω 2 = -1 => q.2 d)]
    · rw [if_neg d, if_pos (show ω 0 = 1 ∧ ¬ ω 2 = -1 from ⟨c, d⟩)]
  · rw [if_neg c, if_pos rfl, if_neg (fun q : ω 0 = 1 ∧ ¬ ω 2 = -1 => c q.1)]
theorem ag_takeHeld (h : RX σ τ) (hw : WK τ) (x1 : Int32) : Ri (f_X3_takeHeld σ x1) (f_X6_takeHeld τ x1) (TQ C02 σ) := by
  have hr := h.row (i := 1) (by omega)
  have hl := hr.len
  have h0 := h.thr 0
  unfold f_X3_takeHeld f_X6_takeHeld f_X6_takeHeld_33
  refine gd_nowhere h (fun j hj hx hn => ri_tR rfl (ri_eR (gwk_x hx) ?_)) (ri_fR ne10 (tq_l (h.thr 1) thr0)) (ri_fR ne10 (tq_l (h.thr 2) thr0))
  have k0 : σ.2 (5 + 3 * j) = τ.2 (5 + 3 * j) := h.ker (by omega) (by omega)
  have k1 : σ.2 (5 + 3 * j + 1) = τ.2 (5 + 3 * j + 1) := h.ker (by omega) (by omega)
  have k2 : σ.2 (5 + 3 * j + 2) = τ.2 (5 + 3 * j + 2) := h.ker (by omega) (by omega)
  have t0 : (thr τ 0).2 (5 + 3 * j) = τ.2 (5 + 3 * j) := thrn _ (by omega)
  have t1 : (thr τ 0).2 (5 + 3 * j + 1) = τ.2 (5 + 3 * j + 1) := thrn _ (by omega)
  have t2 : (thr τ 0).2 (5 + 3 * j + 2) = τ.2 (5 + 3 * j + 2) := thrn _ (by omega)
  have fi := fresh_iff hw hj hn
  refine ri_eL (walkerOf_ok hx) (ri_eL holds_ok (ri_iR (fun d => ?_) fun d => ri_iR (fun g => ?_) fun g => ?_))
  · have d : τ.2 (5 + 3 * j) = 2 := t0.symm.trans d
    rw [if_neg (fun q : (fun k => σ.2 (5 + 3 * j + k)) 0 = 1 ∧ ¬ (fun k => σ.2 (5 + 3 * j + k)) 2 = -1 => by
      have q1 : σ.2 (5 + 3 * j) = 1 := q.1
      rw [k0, d] at q1
      exact absurd q1 (by decide))]
    exact ri_tL rfl (tq_r h0 thr0 rfl)
  · have g : σ.2 (5 + 3 * j + 2) = -1 := k2.trans (t2.symm.trans g)
    rw [if_neg (fun q : (fun k => σ.2 (5 + 3 * j + k)) 0 = 1 ∧ ¬ (fun k => σ.2 (5 + 3 * j + k)) 2 = -1 => q.2 g)]
    exact ri_tL rfl (tq_r h0 thr0 rfl)
  · have d : ¬ τ.2 (5 + 3 * j) = 2 := fun e => d (t0.trans e)
    have g : ¬ τ.2 (5 + 3 * j + 2) = -1 := fun e => g (t2.trans e)
    have s1 := fi.mpr d
    rw [if_pos (show (fun k => σ.2 (5 + 3 * j + k)) 0 = 1 ∧ ¬ (fun k => σ.2 (5 + 3 * j + k)) 2 = -1 from ⟨k0.trans s1, fun e => g (k2.symm.trans e)⟩)]
    obtain ⟨⟨c0, c1⟩, ch⟩ := (hw.get hj).2 s1
    obtain ⟨c2, c3⟩ := ch.resolve_left g
    obtain ⟨i, hi, ei⟩ := nIof (b := (τ.1 1).length) (by omega) c2 (Int32.le_of_lt c3)
    rw [ei] at c3
    have hi2 : i < (τ.1 1).length := (nI_lti (by omega) (by omega)).mp c3
    refine ri_fL ne10 (ri_eR (v := 1) rfl ?_)
    have e2 : (thr τ 0).2 (5 + 3 * j + 2) = nI i := t2.trans ei
    have e3 : σ.2 (5 + 3 * j + 2) = nI i := k2.trans ei
    rw [e3]
    have e2' : ldel ((thr τ 0).1 1) ((thr τ 0).2 (5 + 3 * j + 2)) = some (delAt (τ.1 1) i) := by
      rw [e2]
      exact ldelN hi2 (show (τ.1 1).length < 2147483648 by omega)
    refine ri_eR e2' (ri_nR fun t ht => ri_okL (rw_leave hr hi2) fun w hw2 => ri_nL fun s es => ?_)
    have hup : RX s t := by
      rw [es, ht]
      exact h0.up (i := 1) (by omega) hw2.2 (h0.1.2.2.2.del (by omega))
    have s2 : s.2 = σ.2 := by rw [es]
    have tt2 : t.2 = (thr τ 0).2 := by rw [ht]
    have hlo : ∃ wv, f_X2_loseHeld (fun k => s.2 (5 + 3 * j + k)) = some wv ∧ wv 0 = σ.2 (5 + 3 * j) ∧ wv 1 = (if τ.2 (5 + 3 * j + 1) ≤ τ.2 (5 + 3 * j + 2) then τ.2 (5 + 3 * j + 1) else τ.2 (5 + 3 * j + 1) - 1) ∧ wv 2 = -1 := by
      rw [s2]
      unfold f_X2_loseHeld f_X2_loseHeld_21
      by_cases c : σ.2 (5 + 3 * j + 1) ≤ σ.2 (5 + 3 * j + 2)
      · refine ⟨va_up (fun k => σ.2 (5 + 3 * j + k)) 2 (-1), if_pos c, rfl, ?_, rfl⟩
        rw [if_pos (by rw [← k1, ← k2]; exact c)]
        exact k1
      · refine ⟨va_up (va_up (fun k => σ.2 (5 + 3 * j + k)) 1 (σ.2 (5 + 3 * j + 1) - 1)) 2 (-1), if_neg c, rfl, ?_, rfl⟩
        rw [if_neg (by rw [← k1, ← k2]; exact c)]
        show σ.2 (5 + 3 * j + 1) - 1 = _
        rw [k1]
    obtain ⟨wv, elo, w0, w1, w2⟩ := hlo
    refine ri_eL elo (ri_nL fun s3 es3 => ?_)
    obtain ⟨a0, a1, a2, a3⟩ := scK (σ := s) (w := wv) (b := 5 + 3 * j)
    rw [← es3] at a0 a1 a2 a3
    have s31 : s3.1 = s.1 := by rw [es3]
    have m76 : ∀ u, u = (if τ.2 (5 + 3 * j + 1) ≤ τ.2 (5 + 3 * j + 2) then (0 : Int32) else 1) → Ri ((f_X3_tearForWalker s3 x1).bind fun z34 => some (.inr (z34.2 (5 + 3 * j + 1), z34))) (f_X6_takeHeld_76 t x1 j j (t.2 (5 + 3 * j + 1)) u) (TQ C02 σ) := by
      intro u hu
      unfold f_X6_takeHeld_76
      refine ri_eR (mo_one u) (ri_nR fun m1 em1 => ri_nR fun m2 em2 => ?_)
      obtain ⟨l1, b1, o1⟩ := up_sc em1
      obtain ⟨l2, b2, o2⟩ := up_sc em2
      have hx2 : RX s3 m2 := by
        refine ker_rx hj hup s31 a3 (l2.trans l1) (fun q q0 p0 p1 p2 => (o2 q p2).trans (o1 q p1)) ?_ ?_ ?_
        · rw [a0, w0, o2 _ (by omega), o1 _ (by omega), tt2, t0]; exact k0
        · rw [a1, w1, o2 _ (by omega), b1, tt2, t1, hu]
          split
          · rw [if_pos rfl]; grind
          · rw [if_neg ne10]
        · rw [a2, w2, b2]
      obtain ⟨t5, e5, hok⟩ := tfw hx2 hj hx
      refine ri_eR e5 (ri_eR mo_tear (ri_okL hok fun r hr5 => tq_r hr5.1 ?_ ?_))
      · show t5.2 0 = 0
        rw [hr5.2.1, o2 0 (by omega), o1 0 (by omega), tt2]
        exact thr0 (τ := τ) (v := 0)
      · show r.2 (5 + 3 * j + 1) = t5.2 (5 + 3 * j + 1)
        rw [hr5.2.2.1, hr5.2.2.2]
        exact hx2.ker (by omega) (by omega)
    refine ri_iR (fun c => m76 0 ?_) fun c => m76 1 ?_
    · rw [tt2, t1, t2] at c
      rw [if_pos c]
    · rw [tt2, t1, t2] at c
      rw [if_neg c]
theorem ag_setHeld (h : RX σ τ) (hw : WK τ) (x1 x2 x3 : Int32) : Ri (f_X3_setHeld σ x1 x2 x3) (f_X6_setHeld τ x1 x2 x3) (TQ C3 σ) := by
  have hr := h.row (i := 1) (by omega)
  have hl := hr.len
  have h0 := h.thr 0
  unfold f_X3_setHeld f_X6_setHeld
  refine gd_walker (fun j hj hx => ri_tR rfl (ri_eR (mo_noPiece _ _) ?_)) (ri_fR ne10 (tq_l (h.thr 1) thr0))
  refine gd_ref (e := 1) thr0 (by decide) (pc_cases x2 x3) (fun hp => ri_tR rfl (ri_eR (gwk_x hx) ?_)) (ri_fR ne10 (by rw [thr_thr]; exact tq_l (h.thr 2) thr0))
  have k0 : σ.2 (5 + 3 * j) = τ.2 (5 + 3 * j) := h.ker (by omega) (by omega)
  have k1 : σ.2 (5 + 3 * j + 1) = τ.2 (5 + 3 * j + 1) := h.ker (by omega) (by omega)
  have k2 : σ.2 (5 + 3 * j + 2) = τ.2 (5 + 3 * j + 2) := h.ker (by omega) (by omega)
  have t0 : (thr τ 0).2 (5 + 3 * j) = τ.2 (5 + 3 * j) := thrn _ (by omega)
  have t1 : (thr τ 0).2 (5 + 3 * j + 1) = τ.2 (5 + 3 * j + 1) := thrn _ (by omega)
  have t2 : (thr τ 0).2 (5 + 3 * j + 2) = τ.2 (5 + 3 * j + 2) := thrn _ (by omega)
  unfold f_X6_setHeld_43 f_X6_setHeld_78
  refine ri_iR (fun c => ?_) fun c => ?_
  · have c : τ.2 (5 + 3 * j) = 0 := t0.symm.trans c
    have e1 : f_X3_needSomewhere σ x1 = some (.inl 2) := by
      unfold f_X3_needSomewhere
      rw [walkerOf_ok hx, bsm, k0, if_pos c]
    refine ri_eR (mo_ref1 thr0 ne10 (by decide)) (ri_fR ne10 (ri_obl e1 ?_))
    rw [thr_thr]
    exact tq_l (h.thr 3) thr0
  · have hn : ¬ τ.2 (5 + 3 * j) = 0 := fun e => c (t0.trans e)
    have e1 : f_X3_needSomewhere σ x1 = some (.inr ()) := by
      unfold f_X3_needSomewhere
      rw [walkerOf_ok hx, bsm, k0, if_neg hn]
    have fi := fresh_iff hw hj hn
    refine ri_eR (mo_ref0 thr0 rfl) (ri_tR rfl (ri_obr e1 (ri_eR (gwk_x hx) (ri_eL (walkerOf_ok hx) (ri_eL holds_ok (ri_iR (fun d => ?_) fun d => ri_iR (fun g => ?_) fun g => ?_))))))
    · have d : τ.2 (5 + 3 * j) = 2 := t0.symm.trans d
      rw [if_neg (fun q : (fun k => σ.2 (5 + 3 * j + k)) 0 = 1 ∧ ¬ (fun k => σ.2 (5 + 3 * j + k)) 2 = -1 => by
        have q1 : σ.2 (5 + 3 * j) = 1 := q.1
        rw [k0, d] at q1
        exact absurd q1 (by decide))]
      exact ri_tL rfl (tq_r h0 thr0 rfl)
    · have g : σ.2 (5 + 3 * j + 2) = -1 := k2.trans (t2.symm.trans g)
      rw [if_neg (fun q : (fun k => σ.2 (5 + 3 * j + k)) 0 = 1 ∧ ¬ (fun k => σ.2 (5 + 3 * j + k)) 2 = -1 => q.2 g)]
      exact ri_tL rfl (tq_r h0 thr0 rfl)
    · have d : ¬ τ.2 (5 + 3 * j) = 2 := fun e => d (t0.trans e)
      have g : ¬ τ.2 (5 + 3 * j + 2) = -1 := fun e => g (t2.trans e)
      have s1 := fi.mpr d
      rw [if_pos (show (fun k => σ.2 (5 + 3 * j + k)) 0 = 1 ∧ ¬ (fun k => σ.2 (5 + 3 * j + k)) 2 = -1 from ⟨k0.trans s1, fun e => g (k2.symm.trans e)⟩)]
      obtain ⟨⟨c0, c1⟩, ch⟩ := (hw.get hj).2 s1
      obtain ⟨c2, c3⟩ := ch.resolve_left g
      obtain ⟨i, hi, ei⟩ := nIof (b := (τ.1 1).length) (by omega) c2 (Int32.le_of_lt c3)
      rw [ei] at c3
      have hi2 : i < (τ.1 1).length := (nI_lti (by omega) (by omega)).mp c3
      have e3 : σ.2 (5 + 3 * j + 2) = nI i := k2.trans ei
      have e2 : lset ((thr τ 0).1 1) ((thr τ 0).2 (5 + 3 * j + 2)) (cd x2 x3) = some ((τ.1 1).set i (cd x2 x3)) := by
        rw [t2.trans ei]
        exact lsetN hi2 (show (τ.1 1).length < 2147483648 by omega)
      refine ri_fL ne10 (ri_eR (v := 1) rfl (ri_eR (mo_code _ _) (ri_eR e2 (ri_nR fun t ht => ri_eR mo_tear ?_))))
      rw [e3]
      refine ri_eL (cl_code _ _) (ri_okL (lay_rx h0 (i := i) hi2 (pcd hp).1) fun r hr3 => ?_)
      have et : (va_up t.1 2 ([] : List Int32), t.2) = (va_up (va_up (thr τ 0).1 1 (((thr τ 0).1 1).set i (cd x2 x3))) 2 [], (thr τ 0).2) := by
        rw [ht]; rfl
      rw [et]
      refine tq_r hr3.1 (thr0 (τ := τ) (v := 0)) ?_
      show r.2 (5 + 3 * j + 1) = (thr τ 0).2 (5 + 3 * j + 1)
      rw [hr3.2, t1, k1]
theorem ag_put (h : RX σ τ) (hw : WK τ) (x1 x2 x3 : Int32) : Ri (f_X3_put σ x1 x2 x3) (f_X6_put τ x1 x2 x3) (TQ C3 σ) := by
  have hr := h.row (i := 1) (by omega)
  have hl := hr.len
  have h0 := h.thr 0
  unfold f_X3_put f_X6_put f_X6_put_48
  refine gd_walker (fun j hj hx => ri_tR rfl (ri_eR (mo_noPiece _ _) ?_)) (ri_fR ne10 (tq_l (h.thr 1) thr0))
  refine gd_ref (e := 1) thr0 (by decide) (pc_cases x2 x3) (fun hp => ri_tR rfl (ri_eR (gwk_x hx) ?_)) (ri_fR ne10 (by rw [thr_thr]; exact tq_l (h.thr 2) thr0))
  have k0 : σ.2 (5 + 3 * j) = τ.2 (5 + 3 * j) := h.ker (by omega) (by omega)
  have k1 : σ.2 (5 + 3 * j + 1) = τ.2 (5 + 3 * j + 1) := h.ker (by omega) (by omega)
  have t0 : (thr τ 0).2 (5 + 3 * j) = τ.2 (5 + 3 * j) := thrn _ (by omega)
  have t1 : (thr τ 0).2 (5 + 3 * j + 1) = τ.2 (5 + 3 * j + 1) := thrn _ (by omega)
  have ls : ((thr τ 0).1 1).length = (τ.1 1).length := rfl
  unfold f_X6_put_53
  refine ri_iR (fun c => ?_) fun c => ?_
  · have c : τ.2 (5 + 3 * j) = 0 := t0.symm.trans c
    have e1 : f_X3_needSomewhere σ x1 = some (.inl 2) := by
      unfold f_X3_needSomewhere
      rw [walkerOf_ok hx, bsm, k0, if_pos c]
    refine ri_eR (mo_ref1 thr0 ne10 (by decide)) (ri_fR ne10 (ri_obl e1 ?_))
    rw [thr_thr]
    exact tq_l (h.thr 3) thr0
  · have hn : ¬ τ.2 (5 + 3 * j) = 0 := fun e => c (t0.trans e)
    have e1 : f_X3_needSomewhere σ x1 = some (.inr ()) := by
      unfold f_X3_needSomewhere
      rw [walkerOf_ok hx, bsm, k0, if_neg hn]
    have fi := fresh_iff hw hj hn
    refine ri_obr e1 (ri_eR (sizeN (j := 1) rfl) ?_)
    rcases room_cases h (j := 1) (by omega) x11 (n := 1) (by omega) with ⟨r1, r2⟩ | ⟨r1, r2⟩
    · have nq : ¬ nI ((thr τ 0).1 1).length = 20 := by
        rw [ls]
        exact fun q => absurd ((nI_eqi (b := 20) (by omega) (by omega)).mp q) (by omega)
      refine ri_fR nq (ri_obr (v := ()) r2 (ri_eR (mo_ref0 thr0 rfl) (ri_tR rfl (ri_eR (gwk_x hx) (ri_eL (walkerOf_ok hx) (ri_eL fresh_ok (ri_iR (fun d => ?_) fun d => ?_)))))))
      · have d : τ.2 (5 + 3 * j) = 2 := t0.symm.trans d
        have n1 : ¬ (fun k => σ.2 (5 + 3 * j + k)) 0 = 1 := by
          show ¬ σ.2 (5 + 3 * j) = 1
          rw [k0, d]; decide
        rw [if_neg n1]
        exact ri_tL rfl (tq_r h0 thr0 rfl)
      · have d : ¬ τ.2 (5 + 3 * j) = 2 := fun e => d (t0.trans e)
        have s1 := fi.mpr d
        have n1 : (fun k => σ.2 (5 + 3 * j + k)) 0 = 1 := by
          show σ.2 (5 + 3 * j) = 1
          rw [k0, s1]
        rw [if_pos n1]
        obtain ⟨⟨c0, c1⟩, -⟩ := (hw.get hj).2 s1
        obtain ⟨i, hi, ei⟩ := nIof (b := (τ.1 1).length) (by omega) c0 c1
        have e2 : lins ((thr τ 0).1 1) ((thr τ 0).2 (5 + 3 * j + 1)) (cd x2 x3) = some (insAt (τ.1 1) i (cd x2 x3)) := by
          rw [t1.trans ei]
          exact linsN hi (by show (τ.1 1).length ≤ 21; omega)
        have e3 : σ.2 (5 + 3 * j + 1) = nI i := k1.trans ei
        refine ri_fL ne10 (ri_eR (v := 1) rfl (ri_eR (mo_code _ _) (ri_eR e2 (ri_nR fun t ht => ri_nR fun m1 em1 => ri_nR fun m2 em2 => ?_))))
        rw [e3]
        refine ri_eL (cl_code _ _) (ri_okL (rw_enter hr hi (by rw [cap01 (by omega)]; omega)) fun w hw2 => ri_nL fun s es => ?_)
        have hup : RX s t := by
          rw [es, ht]
          exact h0.up (i := 1) (by omega) hw2 (h0.1.2.2.2.ins (by omega) (TV1 (pcd hp).1))
        have s2 : s.2 = σ.2 := by rw [es]
        have tt2 : t.2 = (thr τ 0).2 := by rw [ht]
        have epn : f_X2_passNew (fun k => s.2 (5 + 3 * j + k)) = some (va_up (va_up (fun k => s.2 (5 + 3 * j + k)) 1 (s.2 (5 + 3 * j + 1) + 1)) 2 (-1)) := rfl
        refine ri_eL epn (ri_nL fun s3 es3 => ?_)
        obtain ⟨a0, a1, a2, a3⟩ := scK (σ := s) (w := va_up (va_up (fun k => s.2 (5 + 3 * j + k)) 1 (s.2 (5 + 3 * j + 1) + 1)) 2 (-1)) (b := 5 + 3 * j)
        rw [← es3] at a0 a1 a2 a3
        have s31 : s3.1 = s.1 := by rw [es3]
        obtain ⟨l1, b1, o1⟩ := up_sc em1
        obtain ⟨l2, b2, o2⟩ := up_sc em2
        have hx2 : RX s3 m2 := by
          refine ker_rx hj hup s31 a3 (l2.trans l1) (fun q q0 p0 p1 p2 => (o2 q p2).trans (o1 q p1)) ?_ ?_ ?_
          · rw [a0, o2 _ (by omega), o1 _ (by omega), tt2, t0]
            show s.2 (5 + 3 * j) = _
            rw [s2]; exact k0
          · rw [a1, o2 _ (by omega), b1, tt2, t1]
            show s.2 (5 + 3 * j + 1) + 1 = _
            rw [s2, k1]
          · rw [a2, b2]; rfl
        obtain ⟨t5, e5, hok⟩ := tfw hx2 hj hx
        refine ri_eR e5 (ri_eR mo_tear (ri_okL hok fun r hr5 => tq_r hr5.1 ?_ ?_))
        · show t5.2 0 = 0
          rw [hr5.2.1, o2 0 (by omega), o1 0 (by omega), tt2]
          exact thr0 (τ := τ) (v := 0)
        · show r.2 (5 + 3 * j + 1) = t5.2 (5 + 3 * j + 1)
          rw [hr5.2.2.1, hr5.2.2.2]
          exact hx2.ker (by omega) (by omega)
    · have nq : nI ((thr τ 0).1 1).length = 20 := by
        rw [ls, show (τ.1 1).length = 20 by omega]
        rfl
      refine ri_tR nq (ri_obl (k := 2) r2 (ri_eR (mo_ref1 thr0 ne10 (by decide)) (ri_fR ne10 ?_)))
      rw [thr_thr]
      exact tq_l (h.thr 3) thr0
/-- what is told of a walker -/
def wval (τ : MS) (j w : Nat) : Int32 := if w = 0 then τ.2 (5 + 3 * j) else if w = 1 then τ.2 (5 + 3 * j + 1) else if w = 2 then τ.2 (5 + 3 * j + 1) - 1 else if w = 3 then (if nI (τ.1 1).length ≤ τ.2 (5 + 3 * j + 1) then 0 else 1) else (if τ.2 (5 + 3 * j + 1) ≤ 0 then 0 else 1)
theorem cl_ofWalker (h : RX σ τ) {x : Int32} {j w : Nat} (hj : j < 2) (hx : x = 0 ∧ j = 0 ∨ x = 1 ∧ j = 1) (hw : w < 5) : f_X3_ofWalker σ x (nI w) = some (wval τ j w) := by
  have hr := h.row (i := 1) (by omega)
  have k0 : σ.2 (5 + 3 * j) = τ.2 (5 + 3 * j) := h.ker (by omega) (by omega)
  have k1 : σ.2 (5 + 3 * j + 1) = τ.2 (5 + 3 * j + 1) := h.ker (by omega) (by omega)
  have e72 : ∀ u : Int32, f_X3_ofWalker_72 σ u = some (if u = 0 then 0 else 1) := by
    intro u
    unfold f_X3_ofWalker_72 f_X3_oneIf
    split <;> rfl
  have e88 : ∀ u : Int32, f_X3_ofWalker_88 σ u = some (if u = 0 then 0 else 1) := by
    intro u
    unfold f_X3_ofWalker_88 f_X3_oneIf
    split <;> rfl
  have ne : ∀ a b : Nat, a < 5 → b < 5 → a ≠ b → ¬ nI a = nI b := fun a b h1 h2 h3 e => h3 ((nI_eqi (by omega) (by omega)).mp e)
  unfold f_X3_ofWalker wval
  rw [walkerOf_ok hx, bsm]
  rcases (by omega : w = 0 ∨ w = 1 ∨ w = 2 ∨ w = 3 ∨ w = 4) with e | e | e | e | e <;> subst e
  · rw [if_pos rfl, if_pos rfl, k0]
  · rw [if_neg (ne 1 0 (by omega) (by omega) (by omega)), if_pos rfl, if_neg (by omega), if_pos rfl, k1]
  · rw [if_neg (ne 2 0 (by omega) (by omega) (by omega)), if_neg (ne 2 1 (by omega) (by omega) (by omega)), if_pos rfl, if_neg (by omega), if_neg (by omega), if_pos rfl, k1]
  · rw [if_neg (ne 3 0 (by omega) (by omega) (by omega)), if_neg (ne 3 1 (by omega) (by omega) (by omega)), if_neg (ne 3 2 (by omega) (by omega) (by omega)), if_pos rfl, if_neg (by omega), if_neg (by omega), if_neg (by omega), if_pos rfl, rw_size hr, bsm, k1, e72, e72]
    split <;> rfl
  · rw [if_neg (ne 4 0 (by omega) (by omega) (by omega)), if_neg (ne 4 1 (by omega) (by omega) (by omega)), if_neg (ne 4 2 (by omega) (by omega) (by omega)), if_neg (ne 4 3 (by omega) (by omega) (by omega)), if_neg (show ¬ (4 : Nat) = 0 by omega), if_neg (show ¬ (4 : Nat) = 1 by omega), if_neg (show ¬ (4 : Nat) = 2 by omega), if_neg (show ¬ (4 : Nat) = 3 by omega), k1, e88, e88]
    split <;> rfl
end L3I
