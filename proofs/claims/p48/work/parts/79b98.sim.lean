section
/-! level 3: the line by its places; what is told -/
section L3G
variable {σ : CS} {τ : MS}
theorem cl_place {x m : Int32} (h : 0 ≤ x ∧ x ≤ m) : f_X3_needPlace x m = some (.inr ()) := by
  unfold f_X3_needPlace
  rw [if_neg (Int32.not_lt.mpr h.1), if_pos h.2]
theorem cl_noplace {x m : Int32} (h : ¬ (0 ≤ x ∧ x ≤ m)) : f_X3_needPlace x m = some (.inl 0) := by
  unfold f_X3_needPlace
  by_cases c : x < 0
  · rw [if_pos c]
  · rw [if_neg c, if_neg (fun d => h ⟨Int32.not_lt.mp c, d⟩)]
theorem mo_noPlace (x : Int32) : f_X6_isNoPlace τ x = some (if 0 ≤ x ∧ x ≤ 19 then 0 else 1) := by
  unfold f_X6_isNoPlace
  rw [mo_isIn, bsm]
  by_cases c : 0 ≤ x ∧ x ≤ 19
  · rw [if_pos c, if_pos c, if_neg ne10]
  · rw [if_neg c, if_neg c, if_pos rfl]
theorem up_comm {f : Nat → List Int32} {i j : Nat} {a b : List Int32} (h : i ≠ j) : va_up (va_up f i a) j b = va_up (va_up f j b) i a := by
  funext q
  by_cases e1 : q = i
  · subst e1
    rw [up_ne h, up_eq, up_eq]
  · by_cases e2 : q = j
    · subst e2
      rw [up_eq, up_ne e1, up_eq]
    · rw [up_ne e2, up_ne e1, up_ne e1, up_ne e2]
theorem tear_rx2 {r : CS} {t1 : MS} {j : Nat} {ρ : RS} {xs : List Int32} (h : RX σ τ) (hj : j < 2) (hr : RW j ρ xs) (hv : VC (va_up τ.1 j xs, τ.2)) (h3 : DS j (va_up (va_up σ.1 j ρ) 2 ((va_up σ.1 j ρ 2).1, 0), σ.2) r) (ht : DM j (va_up (va_up τ.1 2 []) j xs, τ.2) t1) : RX r t1 ∧ t1.2 0 = τ.2 0 := by
  have y1 : RY (va_up σ.1 j ρ, σ.2) (va_up τ.1 j xs, τ.2) := h.1.up (by omega) hr hv
  have y2 : RY (va_up (va_up σ.1 j ρ) 2 ((va_up σ.1 j ρ 2).1, 0), σ.2) (va_up (va_up τ.1 j xs) 2 [], τ.2) := y1.up (by omega) rw_empty (hv.slips (xs := []) fun w hw => by cases hw)
  rw [up_comm (by omega)] at ht
  have hw : WR (va_up (va_up σ.1 j ρ) 2 ((va_up σ.1 j ρ 2).1, 0), σ.2) (va_up (va_up τ.1 j xs) 2 [], τ.2) := h.2
  refine ⟨y2.dist hj (fun _ => hw) h3 ht, ?_⟩
  rcases (by omega : j = 0 ∨ j = 1) with e | e <;> subst e
  · exact ((ht.2.1 rfl).2.2.2) 0 (by omega) (by omega) (by omega)
  · exact ((ht.2.2 rfl).2.2) 0 (by omega) (by omega)
theorem x11 : (1 : Int32) = 0 ∧ 1 = 0 ∨ (1 : Int32) = 1 ∧ 1 = 1 := Or.inr ⟨rfl, rfl⟩
theorem TV1 {v : Int32} (h : VT v) : TV 1 v := ⟨h, fun e => absurd e (by omega)⟩
theorem ag_insert (h : RX σ τ) (x1 x2 x3 : Int32) : Ri (f_X3_insert σ x1 x2 x3) (f_X6_insert τ x1 x2 x3) (TQ C3 σ) := by
  have hr := h.row (i := 1) (by omega)
  have hl := hr.len
  have h0 := h.thr 0
  unfold f_X3_insert f_X6_insert f_X6_insert_16
  refine ri_eR (mo_isIn _ _ _) ?_
  by_cases c : 0 ≤ x1 ∧ x1 ≤ 20
  · rw [if_pos c]
    refine ri_fR ne10 (ri_eR (mo_st0 rfl) (ri_tR rfl (ri_obr (cl_place c) (ri_eR (mo_noPiece _ _) ?_))))
    refine gd_ref (e := 1) thr0 (by decide) (pc_cases x2 x3) (fun hp => ri_tR rfl (ri_eR (sizeN (j := 1) rfl) ?_)) (ri_fR ne10 (by rw [thr_thr]; exact tq_l (h.thr 2) thr0))
    obtain ⟨i, hi, rfl⟩ := nIof (b := 20) (by omega) c.1 c.2
    have e1n : (1 : Int32) = nI 1 := rfl
    have ls : ((thr τ 0).1 1).length = (τ.1 1).length := rfl
    rcases room_cases h (j := 1) (by omega) x11 (n := 1) (by omega) with ⟨r1, r2⟩ | ⟨r1, r2⟩
    · have nq : ¬ nI ((thr τ 0).1 1).length = 20 := by
        rw [ls]
        exact fun q => absurd ((nI_eqi (b := 20) (by omega) (by omega)).mp q) (by omega)
      refine ri_fR nq (ri_obr (v := ()) r2 ?_)
      unfold f_X6_insert_52
      refine ri_eR (mo_ref0 thr0 rfl) (ri_tR rfl (ri_eR (sizeN (j := 1) rfl) (ri_eL (rw_size hr) (ri_iR (fun d => ri_tL d ?_) fun d => ri_fL d (tq_r h0 thr0 rfl)))))
      have d : nI i ≤ nI (τ.1 1).length := d
      have d2 := (nI_lei (by omega) (by omega)).mp d
      refine ri_eR (mo_code _ _) (ri_eL (cl_code _ _) (ri_okR (mo_come (τ := thr τ 0) x11 rfl (show i ≤ ((thr τ 0).1 1).length from d2) (show ((thr τ 0).1 1).length ≤ 21 by omega)) fun t1 ht1 => ri_eR mo_tear (ri_okL (rw_enter hr d2 (by rw [cap01 (by omega)]; omega)) fun w hw => ri_nL fun q1 e1 => ?_)))
      subst e1
      refine ri_okL (cl_tearFor x11) fun r hr3 => ?_
      have te := tear_rx (τ := thr τ 0) h0 (j := 1) (by omega) hw (h0.1.2.2.2.ins (by omega) (TV1 (pcd hp).1)) hr3 ht1
      exact ri_eL (rw_size (te.1.row (i := 1) (by omega))) (ri_eR (sizeN (j := 1) rfl) (tq_r te.1 (te.2.1.trans thr0) rfl))
    · have nq : nI ((thr τ 0).1 1).length = 20 := by
        rw [ls, show (τ.1 1).length = 20 by omega]
        rfl
      refine ri_tR nq (ri_obl (k := 2) r2 ?_)
      unfold f_X6_insert_52
      refine ri_eR (mo_ref1 thr0 ne10 (by decide)) (ri_fR ne10 ?_)
      rw [thr_thr]
      exact tq_l (h.thr 3) thr0
  · rw [if_neg c]
    exact ri_tR rfl (ri_eR (mo_st1 ne10 (by decide)) (ri_fR ne10 (ri_obl (cl_noplace c) (tq_l (h.thr 1) thr0))))
theorem ag_cut (h : RX σ τ) (x1 : Int32) : Ri (f_X3_cut σ x1) (f_X6_cut τ x1) (TQ C1 σ) := by
  have hr := h.row (i := 1) (by omega)
  have hl := hr.len
  have h0 := h.thr 0
  have ls : ((thr τ 0).1 1).length = (τ.1 1).length := rfl
  unfold f_X3_cut f_X6_cut
  refine ri_eR (mo_noPlace _) ?_
  by_cases c : 0 ≤ x1 ∧ x1 ≤ 19
  · rw [if_pos c]
    refine ri_eR (mo_st0 rfl) (ri_tR rfl (ri_obr (cl_place c) (ri_eR (sizeN (j := 1) rfl) (ri_eL (rw_size hr) (ri_iR (fun d => ri_tL d ?_) fun d => ri_fL d (tq_r h0 thr0 rfl))))))
    obtain ⟨i, hi, rfl⟩ := nIof (b := 19) (by omega) c.1 c.2
    have d : nI i < nI (τ.1 1).length := d
    have d2 := (nI_lti (by omega) (by omega)).mp d
    have l2 : (va_up (thr τ 0).1 2 ([] : List Int32)) 1 = τ.1 1 := up_ne (by omega)
    refine ri_eR mo_tear (ri_okR (mo_go (τ := (va_up (thr τ 0).1 2 [], (thr τ 0).2)) x11 rfl (i := i) (by show i < (va_up (thr τ 0).1 2 ([] : List Int32) 1).length; rw [l2]; exact d2) (by show (va_up (thr τ 0).1 2 ([] : List Int32) 1).length ≤ 21; rw [l2]; omega)) fun t1 ht1 => ri_okL (rw_leave hr d2) fun w hw => ri_nL fun q1 e1 => ?_)
    subst e1
    refine ri_okL (cl_tearFor x11) fun r hr3 => ?_
    have ht := ht1.2
    have e2 : t1.1 = (τ.1 1).getD i 0 := by
      rw [ht1.1]
      show (va_up (thr τ 0).1 2 ([] : List Int32) 1).getD i 0 = _
      rw [l2]
    have ht : DM 1 (va_up (va_up (thr τ 0).1 2 []) 1 (delAt (τ.1 1) i), (thr τ 0).2) t1.2 := by
      have q := ht
      rw [show (va_up (thr τ 0).1 2 ([] : List Int32), (thr τ 0).2).1 1 = τ.1 1 from l2] at q
      exact q
    have te := tear_rx2 (τ := thr τ 0) h0 (j := 1) (by omega) hw.2 (h0.1.2.2.2.del (by omega)) hr3 ht
    exact tq_r te.1 (te.2.trans thr0) (hw.1.trans e2.symm)
  · rw [if_neg c]
    exact ri_eR (mo_st1 ne10 (by decide)) (ri_fR ne10 (ri_obl (cl_noplace c) (tq_l (h.thr 1) thr0)))
theorem lsetN {xs : List Int32} {i : Nat} {v : Int32} (hi : i < xs.length) (h : xs.length < 2147483648) : lset xs (nI i) v = some (xs.set i v) := by
  unfold lset
  rw [nI_c (by omega), if_neg]
  rintro (h1 | h1)
  · exact nI_nn (by omega) h1
  · omega
theorem lay_rx (h : RX σ τ) {i : Nat} {v : Int32} (hi : i < (τ.1 1).length) (hv : VT v) : Ok (f_X3_layAnew σ (nI i) v) fun r => RX r (va_up (va_up τ.1 1 ((τ.1 1).set i v)) 2 [], τ.2) ∧ r.2 = σ.2 := by
  have hr := h.row (i := 1) (by omega)
  unfold f_X3_layAnew
  refine ok_bind (rw_overwrite hr (v := v) hi) fun w hw => ok_nme fun t1 e1 => ok_ev (v := ((t1.1 2).1, 0)) rfl (ok_nme fun t2 e2 => ok_some ?_)
  subst e1
  subst e2
  have hx := h.up (i := 1) (by omega) hw (h.1.2.2.2.set (by omega) (TV1 hv))
  exact ⟨hx.up (i := 2) (by omega) rw_empty (hx.1.2.2.2.slips (xs := []) fun w hw => by cases hw), rfl⟩
theorem ag_replace (h : RX σ τ) (x1 x2 x3 : Int32) : Ri (f_X3_replace σ x1 x2 x3) (f_X6_replace τ x1 x2 x3) (TQ C2 σ) := by
  have hr := h.row (i := 1) (by omega)
  have hl := hr.len
  have h0 := h.thr 0
  unfold f_X3_replace f_X6_replace
  refine ri_eR (mo_noPlace _) ?_
  by_cases c : 0 ≤ x1 ∧ x1 ≤ 19
  · rw [if_pos c]
    refine ri_eR (mo_st0 rfl) (ri_tR rfl (ri_obr (cl_place c) (ri_eR (mo_noPiece _ _) ?_)))
    refine gd_ref (e := 1) thr0 (by decide) (pc_cases x2 x3) (fun hp => ri_tR rfl (ri_eR (sizeN (j := 1) rfl) (ri_eL (rw_size hr) (ri_iR (fun d => ri_tL d ?_) fun d => ri_fL d (tq_r h0 thr0 rfl))))) (ri_fR ne10 (by rw [thr_thr]; exact tq_l (h.thr 2) thr0))
    obtain ⟨i, hi, rfl⟩ := nIof (b := 19) (by omega) c.1 c.2
    have d : nI i < nI (τ.1 1).length := d
    have d2 := (nI_lti (by omega) (by omega)).mp d
    have l2 : (va_up (thr τ 0).1 2 ([] : List Int32)) 1 = τ.1 1 := up_ne (by omega)
    refine ri_eR mo_tear (ri_eR (v := 1) rfl (ri_eR (mo_code _ _) (ri_eR (lsetN (xs := va_up (thr τ 0).1 2 ([] : List Int32) 1) (i := i) (by rw [l2]; exact d2) (by rw [l2]; omega)) (ri_nR fun t ht => ?_))))
    refine ri_eL (rw_read hr d2) (ri_eL (cl_code _ _) (ri_okL (lay_rx h0 (i := i) d2 (pcd hp).1) fun r hr3 => ?_))
    have et : t = (va_up (va_up (thr τ 0).1 1 (((thr τ 0).1 1).set i (cd x2 x3))) 2 [], (thr τ 0).2) := by
      rw [ht]
      show (va_up (va_up (thr τ 0).1 2 []) 1 ((va_up (thr τ 0).1 2 ([] : List Int32) 1).set i (cd x2 x3)), (thr τ 0).2) = _
      rw [l2, up_comm (by omega)]
      rfl
    refine tq_r (by rw [et]; exact hr3.1) (by rw [et]; exact thr0 (τ := τ) (v := 0)) ?_
    show _ = (va_up (thr τ 0).1 2 ([] : List Int32) 1).getD (nI i).toNatClampNeg 0
    rw [l2, nI_c (by omega)]
  · rw [if_neg c]
    exact ri_eR (mo_st1 ne10 (by decide)) (ri_fR ne10 (ri_obl (cl_noplace c) (tq_l (h.thr 1) thr0)))
theorem ag_at (h : RX σ τ) (x1 : Int32) : Ri (f_X3_at σ x1) (f_X6_at τ x1) (TN C1 σ) := by
  have hr := h.row (i := 1) (by omega)
  have hl := hr.len
  have h0 := h.thr 0
  unfold f_X3_at f_X6_at
  refine ri_eR (mo_noPlace _) ?_
  by_cases c : 0 ≤ x1 ∧ x1 ≤ 19
  · rw [if_pos c]
    refine ri_eR (mo_st0 rfl) (ri_tR rfl (ri_obr (cl_place c) (ri_eR (sizeN (j := 1) rfl) (ri_eL (rw_size hr) (ri_iR (fun d => ri_fL (Int32.not_le.mpr d) ?_) fun d => ri_tL (Int32.not_lt.mp d) (tn_r h0 thr0 rfl))))))
    obtain ⟨i, hi, rfl⟩ := nIof (b := 19) (by omega) c.1 c.2
    have d : nI i < nI (τ.1 1).length := d
    have d2 := (nI_lti (by omega) (by omega)).mp d
    exact ri_eR (getN (j := 1) (τ := thr τ 0) rfl d2 hl) (ri_eL (rw_read hr d2) (tn_r h0 thr0 rfl))
  · rw [if_neg c]
    exact ri_eR (mo_st1 ne10 (by decide)) (ri_fR ne10 (ri_obl (cl_noplace c) (tn_l (h.thr 1) thr0)))
theorem ag_find (h : RX σ τ) (x1 x2 : Int32) : Ri (f_X3_find σ x1 x2) (f_X6_find τ x1 x2) (TN C11 σ) := by
  have hr := h.row (i := 1) (by omega)
  have h0 := h.thr 0
  unfold f_X3_find f_X6_find f_X6_find_16
  refine ri_eR (mo_isIn _ _ _) ?_
  by_cases c : 0 ≤ x1 ∧ x1 ≤ 9
  · rw [if_pos c]
    exact ri_fR ne10 (ri_eR (mo_st0 rfl) (ri_tR rfl (ri_obr (cl_within c) (ri_eL (rw_placeOfKind hr x1 x2) (ri_eR (mo_found (τ := thr τ 0) (j := 1) rfl hr.len x1 x2) (tn_r h0 thr0 rfl))))))
  · rw [if_neg c]
    exact ri_tR rfl (ri_eR (mo_st1 ne10 (by decide)) (ri_fR ne10 (ri_obl (cl_without c) (tn_l (h.thr 1) thr0))))
/-! orders -/
theorem mem_orders {xs : List Int32} {v w : Int32} (h : w ∈ xs ++ [v]) : w ∈ xs ∨ w = v := by
  rcases List.mem_append.mp h with q | q
  · exact Or.inl q
  · exact Or.inr (List.mem_singleton.mp q)
theorem laddN {xs : List Int32} {v : Int32} (h : xs.length ≤ 21) : ladd xs v = some (xs ++ [v]) := by
  unfold ladd
  rw [if_neg (by omega)]
theorem ag_order (h : RX σ τ) (x1 : Int32) : Ri (f_X3_order σ x1) (f_X6_order τ x1) (TQ C12 σ) := by
  have hr := h.row (i := 3) (by omega)
  have hl := hr.len
  have h0 := h.thr 0
  have hc3 : cap 3 = 10 := rfl
  have hl3 : (τ.1 3).length ≤ 10 := hr.2.1
  unfold f_X3_order f_X6_order f_X6_order_16
  refine ri_eR (mo_isIn _ _ _) ?_
  by_cases c : 0 ≤ x1 ∧ x1 ≤ 7
  · rw [if_pos c]
    refine ri_fR ne10 (ri_eR (mo_st0 rfl) (ri_tR rfl (ri_obr (cl_within c) (ri_eL (rw_isFull hr) ?_))))
    by_cases d : (τ.1 3).length < cap 3
    · rw [if_pos d]
      have nq : ¬ nI ((thr τ 0).1 3).length = 10 := fun q => absurd ((nI_eqi (a := (τ.1 3).length) (b := 10) (by omega) (by omega)).mp q) (by omega)
      refine ri_tL rfl (ri_fR nq ?_)
      unfold f_X6_order_41
      refine ri_eR (mo_ref0 thr0 rfl) (ri_tR rfl (ri_eR (laddN (xs := (thr τ 0).1 3) (show (τ.1 3).length ≤ 21 by omega)) (ri_nR fun t ht => ri_okL (rw_enterLast hr (v := x1) d) fun w hw => ri_nL fun r er => ?_)))
      have hx : RX r t := by
        rw [er, ht]
        exact h0.up (i := 3) (by omega) hw (h0.1.2.2.2.orders fun v hv => by
          rcases mem_orders hv with q | q
          · exact h.1.2.2.2.2.2.2 v q
          · rw [q]; exact c)
      have hr3 := hx.row (i := 3) (by omega)
      exact ri_eL (rw_size hr3) (tq_r hx (by rw [ht]; exact thr0 (τ := τ) (v := 0)) rfl)
    · rw [if_neg d]
      have nq : nI ((thr τ 0).1 3).length = 10 := by
        show nI (τ.1 3).length = 10
        rw [show (τ.1 3).length = 10 by omega]
        rfl
      refine ri_fL ne10 (ri_tR nq ?_)
      unfold f_X6_order_41
      refine ri_eR (mo_ref1 thr0 ne10 (by decide)) (ri_fR ne10 ?_)
      rw [thr_thr]
      exact tq_l (h.thr 2) thr0
  · rw [if_neg c]
    exact ri_tR rfl (ri_eR (mo_st1 ne10 (by decide)) (ri_fR ne10 (ri_obl (cl_without c) (tq_l (h.thr 1) thr0))))
theorem mo_cancel {s : MS} (hl : (s.1 3).length ≤ 20) (x1 x2 : Int32) : Ok (lpn f_X6_cancel_30 24 (s, x1, x2, -1, 0)) fun r => (fnG (tSame x1) x2 (s.1 3) 0 (-1) = -1 → r = (0, s)) ∧ ∀ i, i < (s.1 3).length → fnG (tSame x1) x2 (s.1 3) 0 (-1) = nI i → r = (1, (va_up s.1 3 (delAt (s.1 3) i), s.2)) := by
  refine up24 (fun m t => t.1 = s ∧ t.2.1 = x1 ∧ t.2.2.1 = x2 ∧ t.2.2.2.2 = nI m ∧ fnG (tSame x1) x2 ((s.1 3).drop m) m t.2.2.2.1 = fnG (tSame x1) x2 (s.1 3) 0 (-1)) (s.1 3).length (by omega) ?_ ⟨rfl, rfl, rfl, rfl, rfl⟩
  rintro kk ⟨s2, v1, v2, v3, v4⟩ m hm ⟨a0, a1, a2, a3, a4⟩ hk
  dsimp only at a0 a1 a2 a3 a4
  subst a0 a1 a2 a3
  unfold f_X6_cancel_30
  dsimp only
  refine ok_if (fun c => ?_) fun c => ?_
  · have c2 := (nI_lei (by omega) (by omega)).mp c
    rw [List.drop_eq_nil_of_le (by omega)] at a4
    have a4 : v3 = fnG (tSame v1) v2 (s2.1 3) 0 (-1) := a4
    refine ok_if (fun d => ok_some ⟨fun _ => rfl, fun i hi e => ?_⟩) fun d => ?_
    · rw [← a4, d] at e
      exact absurd e.symm (nI_n1 (by omega))
    · have hp := fnG_place (tSame v1) v2 (s2.1 3) 0 (-1) (s2.1 3).length (by omega) (Or.inl rfl)
      rw [← a4] at hp
      obtain ⟨i, hi, e⟩ := hp.resolve_left d
      rw [← a4, e]
      refine ok_ev (ldelN hi (by omega)) (ok_nme fun t ht => ok_some ⟨fun q => absurd q (nI_n1 (by omega)), fun i2 hi2 e2 => ?_⟩)
      have := (nI_eqi (by omega) (by omega)).mp e2
      subst this
      rw [ht]
  · have c2 : m < (s2.1 3).length := Nat.lt_of_not_le (mt (nI_lei (by omega) (by omega)).mpr c)
    rw [drop_cons c2, fnG_cons] at a4
    have m73 : ∀ w, fnG (tSame v1) v2 ((s2.1 3).drop (m + 1)) (m + 1) w = fnG (tSame v1) v2 (s2.1 3) 0 (-1) → Ok (f_X6_cancel_73 kk s2 v1 v2 w (nI m)) fun r => (fnG (tSame v1) v2 (s2.1 3) 0 (-1) = -1 → r = (0, s2)) ∧ ∀ i, i < (s2.1 3).length → fnG (tSame v1) v2 (s2.1 3) 0 (-1) = nI i → r = (1, (va_up s2.1 3 (delAt (s2.1 3) i), s2.2)) := by
      intro w hw
      unfold f_X6_cancel_73
      exact ok_nme fun y hy => hk _ c2 ⟨rfl, rfl, rfl, by rw [hy]; exact nI_suc (by omega), hw⟩
    refine ok_ev (lgetN c2 (by omega)) ?_
    unfold f_X6_cancel_70
    by_cases q : (s2.1 3).getD m 0 = v1
    · have e : tSame v1 ((s2.1 3).getD m 0) = true := decide_eq_true q
      rw [if_pos e] at a4
      refine ok_t q (ok_if (fun q2 => ?_) fun q2 => ?_)
      · rw [if_pos q2] at a4
        refine ok_if (fun q3 => ?_) fun q3 => ?_
        · rw [if_pos q3] at a4; exact m73 _ a4
        · rw [if_neg q3] at a4; exact m73 _ a4
      · rw [if_neg q2] at a4; exact m73 _ a4
    · have e : ¬ tSame v1 ((s2.1 3).getD m 0) = true := by
        intro e
        exact q (of_decide_eq_true e)
      rw [if_neg e] at a4
      exact ok_f q (m73 _ a4)
theorem ag_cancel (h : RX σ τ) (x1 x2 : Int32) : Ri (f_X3_cancel σ x1 x2) (f_X6_cancel τ x1 x2) (TQ C11 σ) := by
  have hr := h.row (i := 3) (by omega)
  have hl := hr.len
  have h0 := h.thr 0
  unfold f_X3_cancel f_X6_cancel f_X6_cancel_16
  refine ri_eR (mo_isIn _ _ _) ?_
  by_cases c : 0 ≤ x1 ∧ x1 ≤ 7
  · rw [if_pos c]
    refine ri_fR ne10 (ri_eR (mo_st0 rfl) (ri_tR rfl (ri_obr (cl_within c) (ri_eL (rw_placeOf hr x1 x2) ?_))))
    obtain ⟨y, ey, hy1, hy2⟩ := mo_cancel (s := thr τ 0) hl x1 x2
    intro r2 er2
    have er2 : lpn f_X6_cancel_30 24 (thr τ 0, x1, x2, -1, 0) = some r2 := er2
    rw [ey] at er2
    cases er2
    have hy1 : fnG (tSame x1) x2 (τ.1 3) 0 (-1) = -1 → y = (0, thr τ 0) := hy1
    by_cases d : fnG (tSame x1) x2 (τ.1 3) 0 (-1) = -1
    · rw [if_pos d, hy1 d]
      exact tq_r h0 thr0 rfl _ rfl
    · rw [if_neg d]
      have hp := fnG_place (tSame x1) x2 (τ.1 3) 0 (-1) (τ.1 3).length (by omega) (Or.inl rfl)
      obtain ⟨i, hi, e⟩ := hp.resolve_left d
      rw [hy2 i hi e, e]
      refine ok_bind (rw_leave hr hi) fun w hw => ok_nme fun r er => ?_
      have hx : RX r (va_up (thr τ 0).1 3 (delAt (τ.1 3) i), (thr τ 0).2) := by
        rw [er]
        exact h0.up (i := 3) (by omega) hw.2 (h0.1.2.2.2.orders fun v hv => h.1.2.2.2.2.2.2 v (mem_del hv))
      exact tq_r (C := C11) (σ := σ) hx (thr0 (τ := τ) (v := 0)) rfl _ rfl
  · rw [if_neg c]
    exact ri_tR rfl (ri_eR (mo_st1 ne10 (by decide)) (ri_fR ne10 (ri_obl (cl_without c) (tq_l (h.thr 1) thr0))))
theorem ag_knock (h : RX σ τ) : Ri (f_X3_knock σ) (f_X6_knock τ) UQ := by
  unfold f_X3_knock f_X6_knock
  refine ri_nL fun r er => ri_nR fun t1 h1 => ri_nR fun t2 h2 => ri_some ?_
  obtain ⟨l1, e1, o1⟩ := up_sc h1
  obtain ⟨l2, e2, o2⟩ := up_sc h2
  have r1 : r.1 = σ.1 := by rw [er]
  have r20 : r.2 0 = σ.2 0 + 1 := by rw [er]; show va_up σ.2 0 (σ.2 0 + 1) 0 = _; exact up_eq
  have r2q : ∀ q, q ≠ 0 → r.2 q = σ.2 q := fun q hq => by rw [er]; show va_up σ.2 0 (σ.2 0 + 1) q = _; exact up_ne hq
  have t4 : t2.2 4 = τ.2 4 + 1 := by rw [e2, o1 4 (by omega)]
  have t2q : ∀ q, q ≠ 0 → q ≠ 4 → t2.2 q = τ.2 q := fun q h0 h4 => (o2 q h4).trans (o1 q h0)
  refine ⟨?_, h.1.cg (fun i _ => by rw [r1]) (l2.trans l1) (fun q p1 p2 => ?_) ?_, ?_⟩
  · rw [r20, t4, h.1.2.2.1]
  · rw [r2q q (by omega), t2q q (by omega) (by omega)]; exact h.1.2.1 q p1 p2
  · rw [r20, t4, h.1.2.2.1]
  · unfold WR
    rw [r2q 1 (by omega), r2q 2 (by omega), r2q 3 (by omega), r2q 4 (by omega), t2q 1 (by omega) (by omega), t2q 2 (by omega) (by omega), t2q 3 (by omega) (by omega)]
    exact h.2
end L3G
end
section
/-! level 3: walkers of the line -/
section L3H
variable {σ : CS} {τ : MS}
theorem cl_walker {x : Int32} (h : x = 0 ∨ x = 1) : f_X3_needWalker x = some (.inr ()) := by
  rcases h with h | h <;> subst h <;> rfl
theorem cl_nowalker {x : Int32} (h : ¬ (x = 0 ∨ x = 1)) : f_X3_needWalker x = some (.inl 0) := by
  unfold f_X3_needWalker
  rw [if_neg (fun e => h (Or.inl e)), if_neg (fun e => h (Or.inr e))]
theorem mo_noWalker (x : Int32) : f_X6_isNoWalker x = some (if x = 0 ∨ x = 1 then 0 else 1) := by
  unfold f_X6_isNoWalker
  rw [mo_isIn]
  by_cases c : x = 0 ∨ x = 1
  · rw [if_pos (in01.mpr c), if_pos c]; rfl
  · rw [if_neg (mt in01.mp c), if_neg c]; rfl
theorem walkerOf_ok {x : Int32} {j : Nat} (hx : x = 0 ∧ j = 0 ∨ x = 1 ∧ j = 1) : f_X3_walkerOf σ x = some j := by
  rcases hx with ⟨a, b⟩ | ⟨a, b⟩ <;> subst a b <;> rfl
theorem gwk_x {x : Int32} {j : Nat} (hx : x = 0 ∧ j = 0 ∨ x = 1 ∧ j = 1) : gwk x = some j := gtr_x hx
theorem RX.ker (h : RX σ τ) {q : Nat} (h5 : 5 ≤ q) (h10 : q ≤ 10) : σ.2 q = τ.2 q := h.1.2.1 q h5 h10
theorem scK {w : Nat → Int32} {b : Nat} : (σ.1, scUp σ.2 b 3 w).2 b = w 0 ∧ (σ.1, scUp σ.2 b 3 w).2 (b + 1) = w 1 ∧ (σ.1, scUp σ.2 b 3 w).2 (b + 2) = w 2 ∧ ∀ q, q ≠ b → q ≠ b + 1 → q ≠ b + 2 → (σ.1, scUp σ.2 b 3 w).2 q = σ.2 q := by
  refine ⟨?_, ?_, ?_, fun q h0 h1 h2 => ?_⟩
  · show scUp σ.2 b 3 w b = w 0
    rw [scU_i (by omega), Nat.sub_self]
  · show scUp σ.2 b 3 w (b + 1) = w 1
    rw [scU_i (by omega), show b + 1 - b = 1 by omega]
  · show scUp σ.2 b 3 w (b + 2) = w 2
    rw [scU_i (by omega), show b + 2 - b = 2 by omega]
  · show scUp σ.2 b 3 w q = σ.2 q
    exact scU_o (by omega)
/-- one walker anew on both sides -/
theorem ker_rx {r : CS} {t : MS} {j : Nat} (hj : j < 2) (h : RX σ τ) (e1 : r.1 = σ.1) (e2 : ∀ q, q ≠ 5 + 3 * j → q ≠ 5 + 3 * j + 1 → q ≠ 5 + 3 * j + 2 → r.2 q = σ.2 q) (f1 : t.1 = τ.1) (f2 : ∀ q, q ≠ 0 → q ≠ 5 + 3 * j → q ≠ 5 + 3 * j + 1 → q ≠ 5 + 3 * j + 2 → t.2 q = τ.2 q) (g0 : r.2 (5 + 3 * j) = t.2 (5 + 3 * j)) (g1 : r.2 (5 + 3 * j + 1) = t.2 (5 + 3 * j + 1)) (g2 : r.2 (5 + 3 * j + 2) = t.2 (5 + 3 * j + 2)) : RX r t := by
  refine ⟨h.1.cg (fun i _ => by rw [e1]) f1 (fun q h1 h2 => ?_) ?_, ?_⟩
  · by_cases c0 : q = 5 + 3 * j
    · rw [c0]; exact g0
    · by_cases c1 : q = 5 + 3 * j + 1
      · rw [c1]; exact g1
      · by_cases c2 : q = 5 + 3 * j + 2
        · rw [c2]; exact g2
        · rw [e2 q c0 c1 c2, f2 q (by omega) c0 c1 c2]; exact h.1.2.1 q h1 h2
  · rw [e2 0 (by omega) (by omega) (by omega), f2 4 (by omega) (by omega) (by omega) (by omega)]; exact h.1.2.2.1
  · unfold WR
    rw [e2 1 (by omega) (by omega) (by omega), e2 2 (by omega) (by omega) (by omega), e2 3 (by omega) (by omega) (by omega), e2 4 (by omega) (by omega) (by omega), f2 1 (by omega) (by omega) (by omega) (by omega), f2 2 (by omega) (by omega) (by omega) (by omega), f2 3 (by omega) (by omega) (by omega) (by omega)]
    exact h.2
theorem gd_walker {α : Type} {x : Int32} {F : Unit → Option (Nat ⊕ α)} {G : Int32 × MS → Option (Int32 × MS)} {Q : Nat ⊕ α → Int32 × MS → Prop} (h0 : ∀ j, j < 2 → (x = 0 ∧ j = 0 ∨ x = 1 ∧ j = 1) → Ri (F ()) (G (0, thr τ 0)) Q) (h1 : Ri (some (.inl 0)) (G (1, thr τ 1)) Q) : Ri (obx (f_X3_needWalker x) F) ((f_X6_isNoWalker x).bind fun z => (f_X6_start τ z 1).bind G) Q := by
  by_cases p : x = 0 ∨ x = 1
  · obtain ⟨j, hj, hx⟩ := tk_ok p
    refine ri_obr (cl_walker p) (ri_eR (mo_noWalker x) ?_)
    rw [if_pos p]
    exact ri_eR (mo_st0 rfl) (h0 j hj hx)
  · refine ri_obl (cl_nowalker p) (ri_eR (mo_noWalker x) ?_)
    rw [if_neg p]
    exact ri_eR (mo_st1 ne10 (by decide)) h1
theorem gd_nowhere {α : Type} {x : Int32} (h : RX σ τ) {F : Unit → Option (Nat ⊕ α)} {G : Int32 × MS → Option (Int32 × MS)} {Q : Nat ⊕ α → Int32 × MS → Prop} (h0 : ∀ j, j < 2 → (x = 0 ∧ j = 0 ∨ x = 1 ∧ j = 1) → ¬ τ.2 (5 + 3 * j) = 0 → Ri (F ()) (G (0, thr τ 0)) Q) (h1 : Ri (some (.inl 0)) (G (1, thr τ 1)) Q) (h2 : Ri (some (.inl 2)) (G (1, thr τ 2)) Q) : Ri (obx (f_X3_needWalker x) fun _ => obx (f_X3_needSomewhere σ x) F) ((f_X6_isNowhere τ x).bind G) Q := by
  by_cases p : x = 0 ∨ x = 1
  · obtain ⟨j, hj, hx⟩ := tk_ok p
    refine ri_obr (cl_walker p) ?_
    have eh : σ.2 (5 + 3 * j) = τ.2 (5 + 3 * j) := h.ker (by omega) (by omega)
    by_cases c : τ.2 (5 + 3 * j) = 0
    · have e1 : f_X3_needSomewhere σ x = some (.inl 2) := by
        unfold f_X3_needSomewhere
        rw [walkerOf_ok hx, bsm, eh, if_pos c]
      have e2 : f_X6_isNowhere τ x = some (1, thr τ 2) := by
        unfold f_X6_isNowhere f_X6_isNowhere_30 f_X6_isNowhere_37
        rw [mo_noWalker, bsm, if_pos p, mo_st0 rfl, bsm, if_pos rfl, gwk_x hx, bsm]
        rw [if_pos (show (thr τ 0).2 (5 + 3 * j) = 0 by rw [thrn _ (by omega)]; exact c), mo_ref1 thr0 ne10 (by decide), thr_thr]; rfl
      exact ri_obl e1 (ri_eR e2 h2)
    · have e1 : f_X3_needSomewhere σ x = some (.inr ()) := by
        unfold f_X3_needSomewhere
        rw [walkerOf_ok hx, bsm, eh, if_neg c]
      have e2 : f_X6_isNowhere τ x = some (0, thr τ 0) := by
        unfold f_X6_isNowhere f_X6_isNowhere_30
        rw [mo_noWalker, bsm, if_pos p, mo_st0 rfl, bsm, if_pos rfl, gwk_x hx, bsm]
        rw [if_neg (show ¬ (thr τ 0).2 (5 + 3 * j) = 0 by rw [thrn _ (by omega)]; exact c), mo_ref0 thr0 rfl]; rfl
      exact ri_obr e1 (ri_eR e2 (h0 j hj hx c))
  · refine ri_obl (cl_nowalker p) (ri_eR (v := (1, thr τ 1)) ?_ h1)
    unfold f_X6_isNowhere f_X6_isNowhere_37
    rw [mo_noWalker, bsm, if_neg p, mo_st1 ne10 (by decide)]; rfl
theorem fresh_ok {ω : Nat → Int32} : f_X2_isFresh ω = some (if ω 0 = 1 then 1 else 0) := by
  unfold f_X2_isFresh
  split <;> rfl
/-- fresh on the one side, not stale on the other -/
theorem fresh_iff (hw : WK τ) {j : Nat} (hj : j < 2) (h0 : ¬ τ.2 (5 + 3 * j) = 0) : τ.2 (5 + 3 * j) = 1 ↔ ¬ τ.2 (5 + 3 * j) = 2 := by
  have q := (hw.get hj).1
  constructor
  · intro e
    rw [e]; decide
  · intro e
    exact (q.resolve_left h0).resolve_right e
theorem ag_stand (h : RX σ τ) (x1 x2 : Int32) : Ri (f_X3_stand σ x1 x2) (f_X6_stand τ x1 x2) (TQ C1 σ) := by
  have hr := h.row (i := 1) (by omega)
  have h0 := h.thr 0
  unfold f_X3_stand f_X6_stand f_X6_stand_18
  have bad : Ri (some (.inl 0)) (f_X6_stand_23 τ x1 x2 1) (TQ C1 σ) := by
    unfold f_X6_stand_23
    exact ri_eR (mo_st1 ne10 (by decide)) (ri_fR ne10 (tq_l (h.thr 1) thr0))
  refine ri_eR (mo_noWalker x1) ?_
  by_cases p : x1 = 0 ∨ x1 = 1
  · obtain ⟨j, hj, hx⟩ := tk_ok p
    rw [if_pos p]
    refine ri_tR rfl (ri_obr (cl_walker p) (ri_eR (mo_isIn _ _ _) ?_))
    by_cases c : 0 ≤ x2 ∧ x2 ≤ 20
    · rw [if_pos c]
      refine ri_fR ne10 (ri_obr (cl_place c) ?_)
      unfold f_X6_stand_23
      refine ri_eR (mo_st0 rfl) (ri_tR rfl (ri_eR (sizeN (j := 1) rfl) (ri_eL (rw_size hr) (ri_iR (fun d => ri_tL d ?_) fun d => ri_fL d (tq_r h0 thr0 rfl)))))
      refine ri_eR (gwk_x hx) (ri_nR fun t1 e1 => ri_eR (gwk_x hx) (ri_nR fun t2 e2 => ri_eR (gwk_x hx) (ri_nR fun t3 e3 => ?_)))
      obtain ⟨l1, b1, o1⟩ := up_sc e1
      obtain ⟨l2, b2, o2⟩ := up_sc e2
      obtain ⟨l3, b3, o3⟩ := up_sc e3
      refine ri_eL (walkerOf_ok hx) (ri_eL (v := va_up (va_up (va_up (fun k => σ.2 (5 + 3 * j + k)) 0 1) 1 x2) 2 (-1)) rfl (ri_nL fun r er => ?_))
      obtain ⟨a0, a1, a2, a3⟩ := scK (σ := σ) (w := va_up (va_up (va_up (fun k => σ.2 (5 + 3 * j + k)) 0 1) 1 x2) 2 (-1)) (b := 5 + 3 * j)
      rw [← er] at a0 a1 a2 a3
      have hx2 : RX r t3 := by
        refine ker_rx hj h (by rw [er]) a3 (l3.trans (l2.trans l1)) (fun q q0 p0 p1 p2 => ?_) ?_ ?_ ?_
        · rw [o3 q p2, o2 q p1, o1 q p0]
          exact thrn q q0
        · rw [a0, o3 _ (by omega), o2 _ (by omega)]
          exact b1.symm
        · rw [a1, o3 _ (by omega)]
          exact b2.symm
        · rw [a2]
          exact b3.symm
      refine tq_r hx2 ?_ rfl
      rw [o3 0 (by omega), o2 0 (by omega), o1 0 (by omega)]
      exact thr0 (τ := τ) (v := 0)
    · rw [if_neg c]
      exact ri_tR rfl (ri_obl (cl_noplace c) bad)
  · rw [if_neg p]
    exact ri_fR ne10 (ri_obl (cl_nowalker p) bad)
theorem ag_forth (h : RX σ τ) (hw : WK τ) (x1 : Int32) : Ri (f_X3_forth σ x1) (f_X6_forth τ x1) (TQ C02 σ) := by
  have hr := h.row (i := 1) (by omega)
  have hl := hr.len
  have h0 := h.thr 0
  unfold f_X3_forth f_X6_forth f_X3_forth_36 f_X6_forth_37
  refine gd_nowhere h (fun j hj hx hn => ri_tR rfl (ri_eR (gwk_x hx) ?_)) (ri_fR ne10 (tq_l (h.thr 1) thr0)) (ri_fR ne10 (tq_l (h.thr 2) thr0))
  have k0 : σ.2 (5 + 3 * j) = τ.2 (5 + 3 * j) := h.ker (by omega) (by omega)
  have k1 : σ.2 (5 + 3 * j + 1) = τ.2 (5 + 3 * j + 1) := h.ker (by omega) (by omega)
  have t0 : (thr τ 0).2 (5 + 3 * j) = τ.2 (5 + 3 * j) := thrn _ (by omega)
  have t1 : (thr τ 0).2 (5 + 3 * j + 1) = τ.2 (5 + 3 * j + 1) := thrn _ (by omega)
  have fi := fresh_iff hw hj hn
  refine ri_eL (walkerOf_ok hx) (ri_eL fresh_ok (ri_iR (fun d => ?_) fun d => ?_))
  · have d : τ.2 (5 + 3 * j) = 2 := t0.symm.trans d
    have n1 : ¬ (fun k => σ.2 (5 + 3 * j + k)) 0 = 1 := by
      show ¬ σ.2 (5 + 3 * j) = 1
      rw [k0, d]; decide
    rw [if_neg n1]
    exact ri_tL rfl (tq_r h0 thr0 rfl)
  · have d : ¬ τ.2 (5 + 3 * j) = 2 := fun e => d (t0.trans e)
    have s1 := fi.mpr d
    have n1 : (fun k => σ.2 (5 + 3 * j + k)) 0 = 1 := by
      show σ.2 (5 + 3 * j) = 1
      rw [k0, s1]
    rw [if_pos n1]
    obtain ⟨⟨c0, c1⟩, -⟩ := (hw.get hj).2 s1
    obtain ⟨i, hi, ei⟩ := nIof (b := (τ.1 1).length) (by omega) c0 c1
    refine ri_fL ne10 (ri_eR (sizeN (j := 1) rfl) (ri_eL (rw_size hr) (ri_iR (fun g => ?_) fun g => ?_)))
    · have g : nI i = nI (τ.1 1).length := by rw [← ei, ← t1]; exact g
      have g2 := (nI_eqi (by omega) (by omega)).mp g
      refine ri_fL ?_ (tq_r h0 thr0 rfl)
      rw [k1, ei]
      exact mt (nI_lti (by omega) (by omega)).mp (by omega)
    · have g : ¬ nI i = nI (τ.1 1).length := by rw [← ei, ← t1]; exact g
      have g2 : i < (τ.1 1).length := by
        have := mt (nI_eqi (a := i) (b := (τ.1 1).length) (by omega) (by omega)).mpr g
        omega
      refine ri_tL (by rw [k1, ei]; exact (nI_lti (by omega) (by omega)).mpr g2) ?_
      refine ri_nR fun s1 e1 => ri_nR fun s2 e2 => ?_
      obtain ⟨l1, b1, o1⟩ := up_sc e1
      obtain ⟨l2, b2, o2⟩ := up_sc e2
      have w0 : f_X2_goForth (fun k => σ.2 (5 + 3 * j + k)) = some (va_up (va_up (fun k => σ.2 (5 + 3 * j + k)) 2 (σ.2 (5 + 3 * j + 1))) 1 (σ.2 (5 + 3 * j + 1) + 1)) := rfl
      refine ri_eL w0 (ri_nL fun r er => ?_)
      obtain ⟨a0, a1, a2, a3⟩ := scK (σ := σ) (w := va_up (va_up (fun k => σ.2 (5 + 3 * j + k)) 2 (σ.2 (5 + 3 * j + 1))) 1 (σ.2 (5 + 3 * j + 1) + 1)) (b := 5 + 3 * j)
      rw [← er] at a0 a1 a2 a3
      have r2 : r.2 (5 + 3 * j + 2) = nI i := by
        rw [a2]
        exact k1.trans ei
      have m2 : s2.2 (5 + 3 * j + 2) = nI i := by
        rw [o2 _ (by omega), b1]
        exact t1.trans ei
      have hx2 : RX r s2 := by
        refine ker_rx hj h (by rw [er]) a3 (l2.trans l1) (fun q q0 p0 p1 p2 => ?_) ?_ ?_ ?_
        · rw [o2 q p1, o1 q p2]
          exact thrn q q0
        · rw [a0, o2 _ (by omega), o1 _ (by omega)]
          exact k0.trans t0.symm
        · rw [a1, b2, o1 _ (by omega)]
          show σ.2 (5 + 3 * j + 1) + 1 = _
          rw [k1]
          show _ = (thr τ 0).2 (5 + 3 * j + 1) + 1
          rw [t1]
        · rw [r2, m2]
      have hr1 := hx2.row (i := 1) (by omega)
      have lq : (s2.1 1).length = (τ.1 1).length := by rw [l2, l1]; rfl
      rw [r2, m2]
      refine ri_eR (getN (j := 1) rfl (by rw [lq]; exact g2) hr1.len) (ri_eL (rw_read hr1 (by rw [lq]; exact g2)) (tq_r hx2 ?_ rfl))
      rw [o2 0 (by omega), o1 0 (by omega)]
      exact thr0 (τ := τ) (v := 0)
theorem ag_back (h : RX σ τ) (hw : WK τ) (x1 : Int32) : Ri (f_X3_back σ x1) (f_X6_back τ x1) (TQ C02 σ) := by
  have hr := h.row (i := 1) (by omega)
  have hl := hr.len
  have h0 := h.thr 0
  unfold f_X3_back f_X6_back f_X3_back_29 f_X6_back_32
  refine gd_nowhere h (fun j hj hx hn => ri_tR rfl (ri_eR (gwk_x hx) ?_)) (ri_fR ne10 (tq_l (h.thr 1) thr0)) (ri_fR ne10 (tq_l (h.thr 2) thr0))
  have k0 : σ.2 (5 + 3 * j) = τ.2 (5 + 3 * j) := h.ker (by omega) (by omega)
  have k1 : σ.2 (5 + 3 * j + 1) = τ.2 (5 + 3 * j + 1) := h.ker (by omega) (by omega)
  have t0 : (thr τ 0).2 (5 + 3 * j) = τ.2 (5 + 3 * j) := thrn _ (by omega)
  have t1 : (thr τ 0).2 (5 + 3 * j + 1) = τ.2 (5 + 3 * j + 1) := thrn _ (by omega)
  have fi := fresh_iff hw hj hn
  refine ri_eL (walkerOf_ok hx) (ri_eL fresh_ok (ri_iR (fun d => ?_) fun d => ?_))
  · have d : τ.2 (5 + 3 * j) = 2 := t0.symm.trans d
    have n1 : ¬ (fun k => σ.2 (5 + 3 * j + k)) 0 = 1 := by
      show ¬ σ.2 (5 + 3 * j) = 1
      rw [k0, d]; decide
    rw [if_neg n1]
    exact ri_tL rfl (tq_r h0 thr0 rfl)
  · have d : ¬ τ.2 (5 + 3 * j) = 2 := fun e => d (t0.trans e)
    have s1 := fi.mpr d
    have n1 : (fun k => σ.2 (5 + 3 * j + k)) 0 = 1 := by
      show σ.2 (5 + 3 * j) = 1
      rw [k0, s1]
    rw [if_pos n1]
    obtain ⟨⟨c0, c1⟩, -⟩ := (hw.get hj).2 s1
    obtain ⟨i, hi, ei⟩ := nIof (b := (τ.1 1).length) (by omega) c0 c1
    refine ri_fL ne10 (ri_iR (fun g => ?_) fun g => ?_)
    · have g : nI i = 0 := by rw [← ei, ← t1]; exact g
      refine ri_fL ?_ (tq_r h0 thr0 rfl)
      rw [k1, ei, g]
      decide
    · have g : ¬ nI i = 0 := by rw [← ei, ← t1]; exact g
      have g2 : 1 ≤ i := by
        have := mt (nI_eqz (a := i) (by omega)).mpr g
        omega
      have gp : (0 : Int32) < nI i := (nI_lti (a := 0) (by omega) (by omega)).mpr g2
      refine ri_tL (by rw [k1, ei]; exact gp) ?_
      refine ri_nR fun s1 e1 => ri_nR fun s2 e2 => ?_
      obtain ⟨l1, b1, o1⟩ := up_sc e1
      obtain ⟨l2, b2, o2⟩ := up_sc e2
      have w0 : f_X2_goBack (fun k => σ.2 (5 + 3 * j + k)) = some (va_up (va_up (fun k => σ.2 (5 + 3 * j + k)) 1 (σ.2 (5 + 3 * j + 1) - 1)) 2 (σ.2 (5 + 3 * j + 1) - 1)) := rfl
      refine ri_eL w0 (ri_nL fun r er => ?_)
      obtain ⟨a0, a1, a2, a3⟩ := scK (σ := σ) (w := va_up (va_up (fun k => σ.2 (5 + 3 * j + k)) 1 (σ.2 (5 + 3 * j + 1) - 1)) 2 (σ.2 (5 + 3 * j + 1) - 1)) (b := 5 + 3 * j)
      rw [← er] at a0 a1 a2 a3
      have ep : nI i - 1 = nI (i - 1) := nI_prd g2 (by omega)
      have r2 : r.2 (5 + 3 * j + 2) = nI (i - 1) := by
        rw [a2]
        show σ.2 (5 + 3 * j + 1) - 1 = _
        rw [k1, ei, ep]
      have m1 : s1.2 (5 + 3 * j + 1) = nI (i - 1) := by
        rw [b1]
        show (thr τ 0).2 (5 + 3 * j + 1) - 1 = _
        rw [t1, ei, ep]
      have m2 : s2.2 (5 + 3 * j + 2) = nI (i - 1) := by rw [b2, m1]
      have hx2 : RX r s2 := by
        refine ker_rx hj h (by rw [er]) a3 (l2.trans l1) (fun q q0 p0 p1 p2 => ?_) ?_ ?_ ?_
        · rw [o2 q p2, o1 q p1]
          exact thrn q q0
        · rw [a0, o2 _ (by omega), o1 _ (by omega)]
          exact k0.trans t0.symm
        · rw [a1, o2 _ (by omega), m1]
          show σ.2 (5 + 3 * j + 1) - 1 = _
          rw [k1, ei, ep]
        · rw [r2, m2]
      have hr1 := hx2.row (i := 1) (by omega)
      have lq : (s2.1 1).length = (τ.1 1).length := by rw [l2, l1]; rfl
      rw [r2, m2]
      refine ri_eR (getN (j := 1) rfl (by rw [lq]; omega) hr1.len) (ri_eL (rw_read hr1 (by rw [lq]; omega)) (tq_r hx2 ?_ rfl))
      rw [o2 0 (by omega), o1 0 (by omega)]
      exact thr0 (τ := τ) (v := 0)
end L3H
end
section
/-! level 3: walkers who change the line; where they are -/
section L3I
variable {σ : CS} {τ : MS}
theorem tfw (h : RX σ τ) {x : Int32} {j : Nat} (hj : j < 2) (hx : x = 0 ∧ j = 0 ∨ x = 1 ∧ j = 1) : ∃ t1, f_X6_changed τ 1 x = some t1 ∧ Ok (f_X3_tearForWalker σ x) fun r => RX r (va_up t1.1 2 [], t1.2) ∧ t1.2 0 = τ.2 0 ∧ r.2 (5 + 3 * j + 1) = σ.2 (5 + 3 * j + 1) ∧ t1.2 (5 + 3 * j + 1) = τ.2 (5 + 3 * j + 1) := by
  obtain ⟨t1, e1, l1, a5, a8, ao⟩ := mo_chg1 (τ := τ) x
  refine ⟨t1, e1, ?_⟩
  unfold f_X3_tearForWalker
  refine ok_ev (v := ((σ.1 2).1, 0)) rfl (ok_nme fun s es => ?_)
  have s1 : s.1 = va_up σ.1 2 ((σ.1 2).1, 0) := by rw [es]
  have s2 : s.2 = σ.2 := by rw [es]
  have hy : RY s (va_up τ.1 2 [], τ.2) := by
    rw [es]
    exact h.1.up (by omega) rw_empty (h.1.2.2.2.slips (xs := []) fun w hw => by cases hw)
  clear es
  have key : ∀ o, (j = 0 ∧ o = 1 ∨ j = 1 ∧ o = 0) → f_X3_walkerOf s (1 - x) = some o → t1.2 (5 + 3 * o) = grw (τ.2 (5 + 3 * o)) → (∀ q, q ≠ 5 + 3 * o → t1.2 q = τ.2 q) → Ok ((f_X3_walkerOf s (1 - x)).bind fun z7 => (f_X2_growStale (fun k => s.2 (5 + 3 * z7 + k))).bind fun z12 => nm ((s.1, scUp s.2 (5 + 3 * z7) 3 z12) : CS) fun t17 => some t17) fun r => RX r (va_up t1.1 2 [], t1.2) ∧ t1.2 0 = τ.2 0 ∧ r.2 (5 + 3 * j + 1) = σ.2 (5 + 3 * j + 1) ∧ t1.2 (5 + 3 * j + 1) = τ.2 (5 + 3 * j + 1) := by
    intro o ho ew eg en
    refine ok_ev ew ?_
    obtain ⟨w, e, w0, wq⟩ := cl_grow (fun k => s.2 (5 + 3 * o + k))
    refine ok_ev e (ok_nme fun r er => ok_some ?_)
    obtain ⟨u0, uq⟩ := cl_ker (σ := s) (b := 5 + 3 * o) w0 wq
    rw [← er] at u0 uq
    have r1 : r.1 = s.1 := by rw [er]
    refine ⟨⟨hy.cg (fun i _ => by rw [r1]) (by show va_up t1.1 2 [] = _; rw [l1]) (fun q p1 p2 => ?_) ?_, ?_⟩, en 0 (by omega), ?_, en _ (by omega)⟩
    · show r.2 q = t1.2 q
      by_cases c : q = 5 + 3 * o
      · rw [c, u0, eg, s2, h.ker (by omega) (by omega)]
      · rw [uq q c, en q c, s2, h.ker p1 p2]
    · show r.2 0 = t1.2 4
      rw [uq 0 (by omega), en 4 (by omega), s2]; exact h.1.2.2.1
    · show WRel (r.2 1) (r.2 2) (r.2 3) (r.2 4) (t1.2 1) (t1.2 2) (t1.2 3)
      rw [uq 1 (by omega), uq 2 (by omega), uq 3 (by omega), uq 4 (by omega), en 1 (by omega), en 2 (by omega), en 3 (by omega), s2]
      exact h.2
    · rw [uq _ (by omega), s2]
  rcases hx with ⟨p, q⟩ | ⟨p, q⟩ <;> subst p q
  · rw [if_pos rfl] at a5
    rw [if_neg (by decide)] at a8
    refine key 1 (Or.inl ⟨rfl, rfl⟩) rfl a8 fun q hq => ?_
    by_cases c : q = 5
    · rw [c]; exact a5
    · exact ao q c (by omega)
  · rw [if_neg (by decide)] at a5
    rw [if_pos rfl] at a8
    refine key 0 (Or.inr ⟨rfl, rfl⟩) rfl a5 fun q hq => ?_
    by_cases c : q = 8
    · rw [c]; exact a8
    · exact ao q (by omega) c
theorem holds_ok {ω : Nat → Int32} : f_X2_holds ω = some (if ω 0 = 1 ∧ ¬ ω 2 = -1 then 1 else 0) := by
  unfold f_X2_holds
  rw [fresh_ok, bsm]
  by_cases c : ω 0 = 1
  · rw [if_pos c, if_neg ne10]
    by_cases d : ω 2 = -1
    · rw [if_pos d, if_neg (fun q : ω 0 = 1 ∧ ¬ ω 2 = -1 => q.2 d)]
    · rw [if_neg d, if_pos (show ω 0 = 1 ∧ ¬ ω 2 = -1 from ⟨c, d⟩)]
  · rw [if_neg c, if_pos rfl, if_neg (fun q : ω 0 = 1 ∧ ¬ ω 2 = -1 => c q.1)]
theorem ag_takeHeld (h : RX σ τ) (hw : WK τ) (x1 : Int32) : Ri (f_X3_takeHeld σ x1) (f_X6_takeHeld τ x1) (TQ C02 σ) := by
  have hr := h.row (i := 1) (by omega)
  have hl := hr.len
  have h0 := h.thr 0
  unfold f_X3_takeHeld f_X6_takeHeld f_X6_takeHeld_33
  refine gd_nowhere h (fun j hj hx hn => ri_tR rfl (ri_eR (gwk_x hx) ?_)) (ri_fR ne10 (tq_l (h.thr 1) thr0)) (ri_fR ne10 (tq_l (h.thr 2) thr0))
  have k0 : σ.2 (5 + 3 * j) = τ.2 (5 + 3 * j) := h.ker (by omega) (by omega)
  have k1 : σ.2 (5 + 3 * j + 1) = τ.2 (5 + 3 * j + 1) := h.ker (by omega) (by omega)
  have k2 : σ.2 (5 + 3 * j + 2) = τ.2 (5 + 3 * j + 2) := h.ker (by omega) (by omega)
  have t0 : (thr τ 0).2 (5 + 3 * j) = τ.2 (5 + 3 * j) := thrn _ (by omega)
  have t1 : (thr τ 0).2 (5 + 3 * j + 1) = τ.2 (5 + 3 * j + 1) := thrn _ (by omega)
  have t2 : (thr τ 0).2 (5 + 3 * j + 2) = τ.2 (5 + 3 * j + 2) := thrn _ (by omega)
  have fi := fresh_iff hw hj hn
  refine ri_eL (walkerOf_ok hx) (ri_eL holds_ok (ri_iR (fun d => ?_) fun d => ri_iR (fun g => ?_) fun g => ?_))
  · have d : τ.2 (5 + 3 * j) = 2 := t0.symm.trans d
    rw [if_neg (fun q : (fun k => σ.2 (5 + 3 * j + k)) 0 = 1 ∧ ¬ (fun k => σ.2 (5 + 3 * j + k)) 2 = -1 => by
      have q1 : σ.2 (5 + 3 * j) = 1 := q.1
      rw [k0, d] at q1
      exact absurd q1 (by decide))]
    exact ri_tL rfl (tq_r h0 thr0 rfl)
  · have g : σ.2 (5 + 3 * j + 2) = -1 := k2.trans (t2.symm.trans g)
    rw [if_neg (fun q : (fun k => σ.2 (5 + 3 * j + k)) 0 = 1 ∧ ¬ (fun k => σ.2 (5 + 3 * j + k)) 2 = -1 => q.2 g)]
    exact ri_tL rfl (tq_r h0 thr0 rfl)
  · have d : ¬ τ.2 (5 + 3 * j) = 2 := fun e => d (t0.trans e)
    have g : ¬ τ.2 (5 + 3 * j + 2) = -1 := fun e => g (t2.trans e)
    have s1 := fi.mpr d
    rw [if_pos (show (fun k => σ.2 (5 + 3 * j + k)) 0 = 1 ∧ ¬ (fun k => σ.2 (5 + 3 * j + k)) 2 = -1 from ⟨k0.trans s1, fun e => g (k2.symm.trans e)⟩)]
    obtain ⟨⟨c0, c1⟩, ch⟩ := (hw.get hj).2 s1
    obtain ⟨c2, c3⟩ := ch.resolve_left g
    obtain ⟨i, hi, ei⟩ := nIof (b := (τ.1 1).length) (by omega) c2 (Int32.le_of_lt c3)
    rw [ei] at c3
    have hi2 : i < (τ.1 1).length := (nI_lti (by omega) (by omega)).mp c3
    refine ri_fL ne10 (ri_eR (v := 1) rfl ?_)
    have e2 : (thr τ 0).2 (5 + 3 * j + 2) = nI i := t2.trans ei
    have e3 : σ.2 (5 + 3 * j + 2) = nI i := k2.trans ei
    rw [e3]
    have e2' : ldel ((thr τ 0).1 1) ((thr τ 0).2 (5 + 3 * j + 2)) = some (delAt (τ.1 1) i) := by
      rw [e2]
      exact ldelN hi2 (show (τ.1 1).length < 2147483648 by omega)
    refine ri_eR e2' (ri_nR fun t ht => ri_okL (rw_leave hr hi2) fun w hw2 => ri_nL fun s es => ?_)
    have hup : RX s t := by
      rw [es, ht]
      exact h0.up (i := 1) (by omega) hw2.2 (h0.1.2.2.2.del (by omega))
    have s2 : s.2 = σ.2 := by rw [es]
    have tt2 : t.2 = (thr τ 0).2 := by rw [ht]
    have hlo : ∃ wv, f_X2_loseHeld (fun k => s.2 (5 + 3 * j + k)) = some wv ∧ wv 0 = σ.2 (5 + 3 * j) ∧ wv 1 = (if τ.2 (5 + 3 * j + 1) ≤ τ.2 (5 + 3 * j + 2) then τ.2 (5 + 3 * j + 1) else τ.2 (5 + 3 * j + 1) - 1) ∧ wv 2 = -1 := by
      rw [s2]
      unfold f_X2_loseHeld f_X2_loseHeld_21
      by_cases c : σ.2 (5 + 3 * j + 1) ≤ σ.2 (5 + 3 * j + 2)
      · refine ⟨va_up (fun k => σ.2 (5 + 3 * j + k)) 2 (-1), if_pos c, rfl, ?_, rfl⟩
        rw [if_pos (by rw [← k1, ← k2]; exact c)]
        exact k1
      · refine ⟨va_up (va_up (fun k => σ.2 (5 + 3 * j + k)) 1 (σ.2 (5 + 3 * j + 1) - 1)) 2 (-1), if_neg c, rfl, ?_, rfl⟩
        rw [if_neg (by rw [← k1, ← k2]; exact c)]
        show σ.2 (5 + 3 * j + 1) - 1 = _
        rw [k1]
    obtain ⟨wv, elo, w0, w1, w2⟩ := hlo
    refine ri_eL elo (ri_nL fun s3 es3 => ?_)
    obtain ⟨a0, a1, a2, a3⟩ := scK (σ := s) (w := wv) (b := 5 + 3 * j)
    rw [← es3] at a0 a1 a2 a3
    have s31 : s3.1 = s.1 := by rw [es3]
    have m76 : ∀ u, u = (if τ.2 (5 + 3 * j + 1) ≤ τ.2 (5 + 3 * j + 2) then (0 : Int32) else 1) → Ri ((f_X3_tearForWalker s3 x1).bind fun z34 => some (.inr (z34.2 (5 + 3 * j + 1), z34))) (f_X6_takeHeld_76 t x1 j j (t.2 (5 + 3 * j + 1)) u) (TQ C02 σ) := by
      intro u hu
      unfold f_X6_takeHeld_76
      refine ri_eR (mo_one u) (ri_nR fun m1 em1 => ri_nR fun m2 em2 => ?_)
      obtain ⟨l1, b1, o1⟩ := up_sc em1
      obtain ⟨l2, b2, o2⟩ := up_sc em2
      have hx2 : RX s3 m2 := by
        refine ker_rx hj hup s31 a3 (l2.trans l1) (fun q q0 p0 p1 p2 => (o2 q p2).trans (o1 q p1)) ?_ ?_ ?_
        · rw [a0, w0, o2 _ (by omega), o1 _ (by omega), tt2, t0]; exact k0
        · rw [a1, w1, o2 _ (by omega), b1, tt2, t1, hu]
          split
          · rw [if_pos rfl]; grind
          · rw [if_neg ne10]
        · rw [a2, w2, b2]
      obtain ⟨t5, e5, hok⟩ := tfw hx2 hj hx
      refine ri_eR e5 (ri_eR mo_tear (ri_okL hok fun r hr5 => tq_r hr5.1 ?_ ?_))
      · show t5.2 0 = 0
        rw [hr5.2.1, o2 0 (by omega), o1 0 (by omega), tt2]
        exact thr0 (τ := τ) (v := 0)
      · show r.2 (5 + 3 * j + 1) = t5.2 (5 + 3 * j + 1)
        rw [hr5.2.2.1, hr5.2.2.2]
        exact hx2.ker (by omega) (by omega)
    refine ri_iR (fun c => m76 0 ?_) fun c => m76 1 ?_
    · rw [tt2, t1, t2] at c
      rw [if_pos c]
    · rw [tt2, t1, t2] at c
      rw [if_neg c]
theorem ag_setHeld (h : RX σ τ) (hw : WK τ) (x1 x2 x3 : Int32) : Ri (f_X3_setHeld σ x1 x2 x3) (f_X6_setHeld τ x1 x2 x3) (TQ C3 σ) := by
  have hr := h.row (i := 1) (by omega)
  have hl := hr.len
  have h0 := h.thr 0
  unfold f_X3_setHeld f_X6_setHeld
  refine gd_walker (fun j hj hx => ri_tR rfl (ri_eR (mo_noPiece _ _) ?_)) (ri_fR ne10 (tq_l (h.thr 1) thr0))
  refine gd_ref (e := 1) thr0 (by decide) (pc_cases x2 x3) (fun hp => ri_tR rfl (ri_eR (gwk_x hx) ?_)) (ri_fR ne10 (by rw [thr_thr]; exact tq_l (h.thr 2) thr0))
  have k0 : σ.2 (5 + 3 * j) = τ.2 (5 + 3 * j) := h.ker (by omega) (by omega)
  have k1 : σ.2 (5 + 3 * j + 1) = τ.2 (5 + 3 * j + 1) := h.ker (by omega) (by omega)
  have k2 : σ.2 (5 + 3 * j + 2) = τ.2 (5 + 3 * j + 2) := h.ker (by omega) (by omega)
  have t0 : (thr τ 0).2 (5 + 3 * j) = τ.2 (5 + 3 * j) := thrn _ (by omega)
  have t1 : (thr τ 0).2 (5 + 3 * j + 1) = τ.2 (5 + 3 * j + 1) := thrn _ (by omega)
  have t2 : (thr τ 0).2 (5 + 3 * j + 2) = τ.2 (5 + 3 * j + 2) := thrn _ (by omega)
  unfold f_X6_setHeld_43 f_X6_setHeld_78
  refine ri_iR (fun c => ?_) fun c => ?_
  · have c : τ.2 (5 + 3 * j) = 0 := t0.symm.trans c
    have e1 : f_X3_needSomewhere σ x1 = some (.inl 2) := by
      unfold f_X3_needSomewhere
      rw [walkerOf_ok hx, bsm, k0, if_pos c]
    refine ri_eR (mo_ref1 thr0 ne10 (by decide)) (ri_fR ne10 (ri_obl e1 ?_))
    rw [thr_thr]
    exact tq_l (h.thr 3) thr0
  · have hn : ¬ τ.2 (5 + 3 * j) = 0 := fun e => c (t0.trans e)
    have e1 : f_X3_needSomewhere σ x1 = some (.inr ()) := by
      unfold f_X3_needSomewhere
      rw [walkerOf_ok hx, bsm, k0, if_neg hn]
    have fi := fresh_iff hw hj hn
    refine ri_eR (mo_ref0 thr0 rfl) (ri_tR rfl (ri_obr e1 (ri_eR (gwk_x hx) (ri_eL (walkerOf_ok hx) (ri_eL holds_ok (ri_iR (fun d => ?_) fun d => ri_iR (fun g => ?_) fun g => ?_))))))
    · have d : τ.2 (5 + 3 * j) = 2 := t0.symm.trans d
      rw [if_neg (fun q : (fun k => σ.2 (5 + 3 * j + k)) 0 = 1 ∧ ¬ (fun k => σ.2 (5 + 3 * j + k)) 2 = -1 => by
        have q1 : σ.2 (5 + 3 * j) = 1 := q.1
        rw [k0, d] at q1
        exact absurd q1 (by decide))]
      exact ri_tL rfl (tq_r h0 thr0 rfl)
    · have g : σ.2 (5 + 3 * j + 2) = -1 := k2.trans (t2.symm.trans g)
      rw [if_neg (fun q : (fun k => σ.2 (5 + 3 * j + k)) 0 = 1 ∧ ¬ (fun k => σ.2 (5 + 3 * j + k)) 2 = -1 => q.2 g)]
      exact ri_tL rfl (tq_r h0 thr0 rfl)
    · have d : ¬ τ.2 (5 + 3 * j) = 2 := fun e => d (t0.trans e)
      have g : ¬ τ.2 (5 + 3 * j + 2) = -1 := fun e => g (t2.trans e)
      have s1 := fi.mpr d
      rw [if_pos (show (fun k => σ.2 (5 + 3 * j + k)) 0 = 1 ∧ ¬ (fun k => σ.2 (5 + 3 * j + k)) 2 = -1 from ⟨k0.trans s1, fun e => g (k2.symm.trans e)⟩)]
      obtain ⟨⟨c0, c1⟩, ch⟩ := (hw.get hj).2 s1
      obtain ⟨c2, c3⟩ := ch.resolve_left g
      obtain ⟨i, hi, ei⟩ := nIof (b := (τ.1 1).length) (by omega) c2 (Int32.le_of_lt c3)
      rw [ei] at c3
      have hi2 : i < (τ.1 1).length := (nI_lti (by omega) (by omega)).mp c3
      have e3 : σ.2 (5 + 3 * j + 2) = nI i := k2.trans ei
      have e2 : lset ((thr τ 0).1 1) ((thr τ 0).2 (5 + 3 * j + 2)) (cd x2 x3) = some ((τ.1 1).set i (cd x2 x3)) := by
        rw [t2.trans ei]
        exact lsetN hi2 (show (τ.1 1).length < 2147483648 by omega)
      refine ri_fL ne10 (ri_eR (v := 1) rfl (ri_eR (mo_code _ _) (ri_eR e2 (ri_nR fun t ht => ri_eR mo_tear ?_))))
      rw [e3]
      refine ri_eL (cl_code _ _) (ri_okL (lay_rx h0 (i := i) hi2 (pcd hp).1) fun r hr3 => ?_)
      have et : (va_up t.1 2 ([] : List Int32), t.2) = (va_up (va_up (thr τ 0).1 1 (((thr τ 0).1 1).set i (cd x2 x3))) 2 [], (thr τ 0).2) := by
        rw [ht]; rfl
      rw [et]
      refine tq_r hr3.1 (thr0 (τ := τ) (v := 0)) ?_
      show r.2 (5 + 3 * j + 1) = (thr τ 0).2 (5 + 3 * j + 1)
      rw [hr3.2, t1, k1]
theorem ag_put (h : RX σ τ) (hw : WK τ) (x1 x2 x3 : Int32) : Ri (f_X3_put σ x1 x2 x3) (f_X6_put τ x1 x2 x3) (TQ C3 σ) := by
  have hr := h.row (i := 1) (by omega)
  have hl := hr.len
  have h0 := h.thr 0
  unfold f_X3_put f_X6_put f_X6_put_48
  refine gd_walker (fun j hj hx => ri_tR rfl (ri_eR (mo_noPiece _ _) ?_)) (ri_fR ne10 (tq_l (h.thr 1) thr0))
  refine gd_ref (e := 1) thr0 (by decide) (pc_cases x2 x3) (fun hp => ri_tR rfl (ri_eR (gwk_x hx) ?_)) (ri_fR ne10 (by rw [thr_thr]; exact tq_l (h.thr 2) thr0))
  have k0 : σ.2 (5 + 3 * j) = τ.2 (5 + 3 * j) := h.ker (by omega) (by omega)
  have k1 : σ.2 (5 + 3 * j + 1) = τ.2 (5 + 3 * j + 1) := h.ker (by omega) (by omega)
  have t0 : (thr τ 0).2 (5 + 3 * j) = τ.2 (5 + 3 * j) := thrn _ (by omega)
  have t1 : (thr τ 0).2 (5 + 3 * j + 1) = τ.2 (5 + 3 * j + 1) := thrn _ (by omega)
  have ls : ((thr τ 0).1 1).length = (τ.1 1).length := rfl
  unfold f_X6_put_53
  refine ri_iR (fun c => ?_) fun c => ?_
  · have c : τ.2 (5 + 3 * j) = 0 := t0.symm.trans c
    have e1 : f_X3_needSomewhere σ x1 = some (.inl 2) := by
      unfold f_X3_needSomewhere
      rw [walkerOf_ok hx, bsm, k0, if_pos c]
    refine ri_eR (mo_ref1 thr0 ne10 (by decide)) (ri_fR ne10 (ri_obl e1 ?_))
    rw [thr_thr]
    exact tq_l (h.thr 3) thr0
  · have hn : ¬ τ.2 (5 + 3 * j) = 0 := fun e => c (t0.trans e)
    have e1 : f_X3_needSomewhere σ x1 = some (.inr ()) := by
      unfold f_X3_needSomewhere
      rw [walkerOf_ok hx, bsm, k0, if_neg hn]
    have fi := fresh_iff hw hj hn
    refine ri_obr e1 (ri_eR (sizeN (j := 1) rfl) ?_)
    rcases room_cases h (j := 1) (by omega) x11 (n := 1) (by omega) with ⟨r1, r2⟩ | ⟨r1, r2⟩
    · have nq : ¬ nI ((thr τ 0).1 1).length = 20 := by
        rw [ls]
        exact fun q => absurd ((nI_eqi (b := 20) (by omega) (by omega)).mp q) (by omega)
      refine ri_fR nq (ri_obr (v := ()) r2 (ri_eR (mo_ref0 thr0 rfl) (ri_tR rfl (ri_eR (gwk_x hx) (ri_eL (walkerOf_ok hx) (ri_eL fresh_ok (ri_iR (fun d => ?_) fun d => ?_)))))))
      · have d : τ.2 (5 + 3 * j) = 2 := t0.symm.trans d
        have n1 : ¬ (fun k => σ.2 (5 + 3 * j + k)) 0 = 1 := by
          show ¬ σ.2 (5 + 3 * j) = 1
          rw [k0, d]; decide
        rw [if_neg n1]
        exact ri_tL rfl (tq_r h0 thr0 rfl)
      · have d : ¬ τ.2 (5 + 3 * j) = 2 := fun e => d (t0.trans e)
        have s1 := fi.mpr d
        have n1 : (fun k => σ.2 (5 + 3 * j + k)) 0 = 1 := by
          show σ.2 (5 + 3 * j) = 1
          rw [k0, s1]
        rw [if_pos n1]
        obtain ⟨⟨c0, c1⟩, -⟩ := (hw.get hj).2 s1
        obtain ⟨i, hi, ei⟩ := nIof (b := (τ.1 1).length) (by omega) c0 c1
        have e2 : lins ((thr τ 0).1 1) ((thr τ 0).2 (5 + 3 * j + 1)) (cd x2 x3) = some (insAt (τ.1 1) i (cd x2 x3)) := by
          rw [t1.trans ei]
          exact linsN hi (by show (τ.1 1).length ≤ 21; omega)
        have e3 : σ.2 (5 + 3 * j + 1) = nI i := k1.trans ei
        refine ri_fL ne10 (ri_eR (v := 1) rfl (ri_eR (mo_code _ _) (ri_eR e2 (ri_nR fun t ht => ri_nR fun m1 em1 => ri_nR fun m2 em2 => ?_))))
        rw [e3]
        refine ri_eL (cl_code _ _) (ri_okL (rw_enter hr hi (by rw [cap01 (by omega)]; omega)) fun w hw2 => ri_nL fun s es => ?_)
        have hup : RX s t := by
          rw [es, ht]
          exact h0.up (i := 1) (by omega) hw2 (h0.1.2.2.2.ins (by omega) (TV1 (pcd hp).1))
        have s2 : s.2 = σ.2 := by rw [es]
        have tt2 : t.2 = (thr τ 0).2 := by rw [ht]
        have epn : f_X2_passNew (fun k => s.2 (5 + 3 * j + k)) = some (va_up (va_up (fun k => s.2 (5 + 3 * j + k)) 1 (s.2 (5 + 3 * j + 1) + 1)) 2 (-1)) := rfl
        refine ri_eL epn (ri_nL fun s3 es3 => ?_)
        obtain ⟨a0, a1, a2, a3⟩ := scK (σ := s) (w := va_up (va_up (fun k => s.2 (5 + 3 * j + k)) 1 (s.2 (5 + 3 * j + 1) + 1)) 2 (-1)) (b := 5 + 3 * j)
        rw [← es3] at a0 a1 a2 a3
        have s31 : s3.1 = s.1 := by rw [es3]
        obtain ⟨l1, b1, o1⟩ := up_sc em1
        obtain ⟨l2, b2, o2⟩ := up_sc em2
        have hx2 : RX s3 m2 := by
          refine ker_rx hj hup s31 a3 (l2.trans l1) (fun q q0 p0 p1 p2 => (o2 q p2).trans (o1 q p1)) ?_ ?_ ?_
          · rw [a0, o2 _ (by omega), o1 _ (by omega), tt2, t0]
            show s.2 (5 + 3 * j) = _
            rw [s2]; exact k0
          · rw [a1, o2 _ (by omega), b1, tt2, t1]
            show s.2 (5 + 3 * j + 1) + 1 = _
            rw [s2, k1]
          · rw [a2, b2]; rfl
        obtain ⟨t5, e5, hok⟩ := tfw hx2 hj hx
        refine ri_eR e5 (ri_eR mo_tear (ri_okL hok fun r hr5 => tq_r hr5.1 ?_ ?_))
        · show t5.2 0 = 0
          rw [hr5.2.1, o2 0 (by omega), o1 0 (by omega), tt2]
          exact thr0 (τ := τ) (v := 0)
        · show r.2 (5 + 3 * j + 1) = t5.2 (5 + 3 * j + 1)
          rw [hr5.2.2.1, hr5.2.2.2]
          exact hx2.ker (by omega) (by omega)
    · have nq : nI ((thr τ 0).1 1).length = 20 := by
        rw [ls, show (τ.1 1).length = 20 by omega]
        rfl
      refine ri_tR nq (ri_obl (k := 2) r2 (ri_eR (mo_ref1 thr0 ne10 (by decide)) (ri_fR ne10 ?_)))
      rw [thr_thr]
      exact tq_l (h.thr 3) thr0
/-- what is told of a walker -/
def wval (τ : MS) (j w : Nat) : Int32 := if w = 0 then τ.2 (5 + 3 * j) else if w = 1 then τ.2 (5 + 3 * j + 1) else if w = 2 then τ.2 (5 + 3 * j + 1) - 1 else if w = 3 then (if nI (τ.1 1).length ≤ τ.2 (5 + 3 * j + 1) then 0 else 1) else (if τ.2 (5 + 3 * j + 1) ≤ 0 then 0 else 1)
theorem cl_ofWalker (h : RX σ τ) {x : Int32} {j w : Nat} (hj : j < 2) (hx : x = 0 ∧ j = 0 ∨ x = 1 ∧ j = 1) (hw : w < 5) : f_X3_ofWalker σ x (nI w) = some (wval τ j w) := by
  have hr := h.row (i := 1) (by omega)
  have k0 : σ.2 (5 + 3 * j) = τ.2 (5 + 3 * j) := h.ker (by omega) (by omega)
  have k1 : σ.2 (5 + 3 * j + 1) = τ.2 (5 + 3 * j + 1) := h.ker (by omega) (by omega)
  have e72 : ∀ u : Int32, f_X3_ofWalker_72 σ u = some (if u = 0 then 0 else 1) := by
    intro u
    unfold f_X3_ofWalker_72 f_X3_oneIf
    split <;> rfl
  have e88 : ∀ u : Int32, f_X3_ofWalker_88 σ u = some (if u = 0 then 0 else 1) := by
    intro u
    unfold f_X3_ofWalker_88 f_X3_oneIf
    split <;> rfl
  have ne : ∀ a b : Nat, a < 5 → b < 5 → a ≠ b → ¬ nI a = nI b := fun a b h1 h2 h3 e => h3 ((nI_eqi (by omega) (by omega)).mp e)
  unfold f_X3_ofWalker wval
  rw [walkerOf_ok hx, bsm]
  rcases (by omega : w = 0 ∨ w = 1 ∨ w = 2 ∨ w = 3 ∨ w = 4) with e | e | e | e | e <;> subst e
  · rw [if_pos rfl, if_pos rfl, k0]
  · rw [if_neg (ne 1 0 (by omega) (by omega) (by omega)), if_pos rfl, if_neg (by omega), if_pos rfl, k1]
  · rw [if_neg (ne 2 0 (by omega) (by omega) (by omega)), if_neg (ne 2 1 (by omega) (by omega) (by omega)), if_pos rfl, if_neg (by omega), if_neg (by omega), if_pos rfl, k1]
  · rw [if_neg (ne 3 0 (by omega) (by omega) (by omega)), if_neg (ne 3 1 (by omega) (by omega) (by omega)), if_neg (ne 3 2 (by omega) (by omega) (by omega)), if_pos rfl, if_neg (by omega), if_neg (by omega), if_neg (by omega), if_pos rfl, rw_size hr, bsm, k1, e72, e72]
    split <;> rfl
  · rw [if_neg (ne 4 0 (by omega) (by omega) (by omega)), if_neg (ne 4 1 (by omega) (by omega) (by omega)), if_neg (ne 4 2 (by omega) (by omega) (by omega)), if_neg (ne 4 3 (by omega) (by omega) (by omega)), if_neg (show ¬ (4 : Nat) = 0 by omega), if_neg (show ¬ (4 : Nat) = 1 by omega), if_neg (show ¬ (4 : Nat) = 2 by omega), if_neg (show ¬ (4 : Nat) = 3 by omega), k1, e88, e88]
    split <;> rfl
end L3I
end
section
/-! level 3: what is asked -/
section L3J
variable {σ : CS} {τ : MS}
theorem z04 : (0 : Int32).toNatClampNeg = 0 ∧ (1 : Int32).toNatClampNeg = 1 ∧ (2 : Int32).toNatClampNeg = 2 ∧ (3 : Int32).toNatClampNeg = 3 ∧ (4 : Int32).toNatClampNeg = 4 := ⟨rfl, rfl, rfl, rfl, rfl⟩
theorem mo_whereNow {x : Int32} {j w : Nat} (hx : x = 0 ∧ j = 0 ∨ x = 1 ∧ j = 1) (hw : w < 5) : f_X6_whereNow τ x (nI w) = some (wval τ j w, τ) := by
  obtain ⟨y0, y1, y2, y3, y4⟩ := z04
  have key : Ok (f_X6_whereNow τ x (nI w)) fun r => r = (wval τ j w, τ) := by
    have fin : ∀ (g : Nat → Int32) (u3 u4 : Int32), g 0 = τ.2 (5 + 3 * j) → g 1 = τ.2 (5 + 3 * j + 1) → g 2 = τ.2 (5 + 3 * j + 1) - 1 → u3 = (if nI (τ.1 1).length ≤ τ.2 (5 + 3 * j + 1) then (0 : Int32) else 1) → u4 = (if τ.2 (5 + 3 * j + 1) ≤ 0 then (0 : Int32) else 1) → ∀ v, v = upd (upd g 3 u3) 4 u4 w → v = wval τ j w := by
      intro g u3 u4 h0 h1 h2 h3 h4 v hv
      subst hv
      unfold wval
      rw [upd_at, upd_at]
      rcases (by omega : w = 0 ∨ w = 1 ∨ w = 2 ∨ w = 3 ∨ w = 4) with e | e | e | e | e <;> subst e
      · exact h0
      · exact h1
      · exact h2
      · exact h3
      · exact h4
    have m70 : ∀ (g : Nat → Int32) (u : Int32), g 0 = τ.2 (5 + 3 * j) → g 1 = τ.2 (5 + 3 * j + 1) → g 2 = τ.2 (5 + 3 * j + 1) - 1 → u = (if τ.2 (5 + 3 * j + 1) ≤ 0 then (0 : Int32) else 1) → ∀ (g0 : Nat → Int32) (u3 : Int32), g = upd g0 3 u3 → g0 0 = g 0 → g0 1 = g 1 → g0 2 = g 2 → u3 = (if nI (τ.1 1).length ≤ τ.2 (5 + 3 * j + 1) then (0 : Int32) else 1) → Ok (f_X6_whereNow_70 τ (nI w) 5 g 4 u) fun r => r = (wval τ j w, τ) := by
      intro g u h0 h1 h2 hu g0 u3 hg e0 e1 e2 h3
      unfold f_X6_whereNow_70
      refine ok_ev (mo_one u) (ok_f (by decide) (ok_nme fun g1 hg1 => ok_f (arr_iN hw (by omega)) (ok_some ?_)))
      rw [y4] at hg1
      have q : (if u = 0 then (0 : Int32) else 1) = u := by
        rw [hu]
        split <;> rfl
      rw [q] at hg1
      rw [nI_c (by omega), fin g0 u3 u (e0.trans h0) (e1.trans h1) (e2.trans h2) h3 hu (g1 w) (by rw [hg1, hg])]
    have m52 : ∀ (g : Nat → Int32) (u : Int32), g 0 = τ.2 (5 + 3 * j) → g 1 = τ.2 (5 + 3 * j + 1) → g 2 = τ.2 (5 + 3 * j + 1) - 1 → u = (if nI (τ.1 1).length ≤ τ.2 (5 + 3 * j + 1) then (0 : Int32) else 1) → Ok (f_X6_whereNow_52 τ (nI w) j 5 g 3 u) fun r => r = (wval τ j w, τ) := by
      intro g u h0 h1 h2 hu
      unfold f_X6_whereNow_52
      refine ok_ev (mo_one u) (ok_f (by decide) (ok_nme fun g1 hg1 => ?_))
      rw [y3] at hg1
      have q : (if u = 0 then (0 : Int32) else 1) = u := by
        rw [hu]
        split <;> rfl
      rw [q] at hg1
      have a0 : g 0 = g1 0 := by rw [hg1]; rfl
      have a1 : g 1 = g1 1 := by rw [hg1]; rfl
      have a2 : g 2 = g1 2 := by rw [hg1]; rfl
      exact ok_if (fun c => m70 g1 0 (a0 ▸ h0) (a1 ▸ h1) (a2 ▸ h2) (by rw [if_pos c]) g u hg1 a0 a1 a2 hu) fun c => m70 g1 1 (a0 ▸ h0) (a1 ▸ h1) (a2 ▸ h2) (by rw [if_neg c]) g u hg1 a0 a1 a2 hu
    unfold f_X6_whereNow
    refine ok_ev (gwk_x hx) (ok_f (by decide) (ok_nme fun n hn => ok_nme fun g hg => ?_))
    have hn : n = 5 := hn
    subst hn
    refine ok_f (by decide) (ok_nme fun g1 hg1 => ok_f (by decide) (ok_nme fun g2 hg2 => ok_f (by decide) (ok_nme fun g3 hg3 => ok_ev (sizeN (j := 1) rfl) ?_)))
    rw [y0] at hg1
    rw [y1] at hg2
    rw [y2] at hg3
    have b0 : g3 0 = τ.2 (5 + 3 * j) := by rw [hg3, hg2, hg1]; rfl
    have b1 : g3 1 = τ.2 (5 + 3 * j + 1) := by rw [hg3, hg2, hg1]; rfl
    have b2 : g3 2 = τ.2 (5 + 3 * j + 1) - 1 := by rw [hg3, hg2, hg1]; rfl
    exact ok_if (fun c => m52 g3 0 b0 b1 b2 (by rw [if_pos c])) fun c => m52 g3 1 b0 b1 b2 (by rw [if_neg c])
  obtain ⟨r, e, hr⟩ := key
  rw [e, hr]
theorem wval_thr {j w : Nat} : wval (thr τ 0) j w = wval τ j w := by
  unfold wval
  rw [thrn _ (by omega), thrn _ (by omega)]
  rfl
theorem ag_where (h : RX σ τ) (hw : WK τ) (x1 x2 : Int32) : Ri (f_X3_where σ x1 x2) (f_X6_where τ x1 x2) (TN C3 σ) := by
  have h0 := h.thr 0
  unfold f_X3_where f_X6_where f_X6_where_64 f_X3_where_35
  refine gd_walker (fun j hj hx => ri_tR rfl (ri_eR (mo_isIn _ _ _) ?_)) (ri_fR ne10 (tn_l (h.thr 1) thr0))
  have k0 : σ.2 (5 + 3 * j) = τ.2 (5 + 3 * j) := h.ker (by omega) (by omega)
  have t0 : (thr τ 0).2 (5 + 3 * j) = τ.2 (5 + 3 * j) := thrn _ (by omega)
  unfold f_X6_where_27 f_X6_where_56 f_X6_where_57 f_X6_where_64
  by_cases c : 0 ≤ x2 ∧ x2 ≤ 4
  · rw [if_pos c]
    obtain ⟨w, hw4, rfl⟩ := nIof (b := 4) (by omega) c.1 c.2
    refine ri_fR ne10 (ri_eR (mo_ref0 thr0 rfl) (ri_tR rfl (ri_obr (cl_within c) ?_)))
    have good : Ri ((f_X3_ofWalker σ x1 (nI w)).bind fun z1 => some (.inr z1)) ((f_X6_refuse (thr τ 0) 0 3).bind fun z5 => if z5.1 = 0 then (f_X6_whereNow z5.2 x1 (nI w)).bind fun z11 => some (z11.1, z11.2) else some (0, z5.2)) (TN C3 σ) :=
      ri_eR (mo_ref0 thr0 rfl) (ri_tR rfl (ri_eR (mo_whereNow hx (by omega)) (ri_eL (cl_ofWalker h hj hx (by omega)) (tn_r h0 thr0 wval_thr.symm))))
    refine ri_iR (fun d => ri_tL d good) fun d => ri_fL d (ri_eR (gwk_x hx) (ri_eL (walkerOf_ok hx) (ri_eL fresh_ok (ri_iR (fun g => ?_) fun g => ?_))))
    · have n1 : (fun k => σ.2 (5 + 3 * j + k)) 0 = 1 := by
        show σ.2 (5 + 3 * j) = 1
        rw [k0, ← t0]; exact g
      rw [if_pos n1]
      exact ri_fL ne10 good
    · have n1 : ¬ (fun k => σ.2 (5 + 3 * j + k)) 0 = 1 := by
        show ¬ σ.2 (5 + 3 * j) = 1
        rw [k0, ← t0]; exact g
      rw [if_neg n1]
      refine ri_tL rfl (ri_eR (mo_ref1 thr0 ne10 (by decide)) (ri_fR ne10 ?_))
      rw [thr_thr]
      exact tn_l (h.thr 3) thr0
  · rw [if_neg c]
    refine ri_tR rfl (ri_eR (mo_ref1 thr0 ne10 (by decide)) (ri_fR ne10 (ri_obl (cl_without c) ?_)))
    rw [thr_thr]
    exact tn_l (h.thr 2) thr0
/-! at an end -/
def aval (xs : List Int32) (w : Nat) : Int32 := if xs.length = 0 then (if w = 0 ∨ w = 1 ∨ w = 4 then -9 else 0) else xs.getD (if w = 1 ∨ w = 3 then xs.length - 1 else 0) 0
theorem nI_ne {a b : Nat} (ha : a < 100) (hb : b < 100) (h : a ≠ b) : ¬ nI a = nI b := fun e => h ((nI_eqi (by omega) (by omega)).mp e)
theorem kn0 {w : Nat} (hw : w < 100) (h : ¬ w = 0) : ¬ nI w = (0 : Int32) := nI_ne (b := 0) hw (by omega) h
theorem kn1 {w : Nat} (hw : w < 100) (h : ¬ w = 1) : ¬ nI w = (1 : Int32) := nI_ne (b := 1) hw (by omega) h
theorem kn2 {w : Nat} (hw : w < 100) (h : ¬ w = 2) : ¬ nI w = (2 : Int32) := nI_ne (b := 2) hw (by omega) h
theorem kn3 {w : Nat} (hw : w < 100) (h : ¬ w = 3) : ¬ nI w = (3 : Int32) := nI_ne (b := 3) hw (by omega) h
theorem kn4 {w : Nat} (hw : w < 100) (h : ¬ w = 4) : ¬ nI w = (4 : Int32) := nI_ne (b := 4) hw (by omega) h
theorem kp0 {w : Nat} (h : w = 0) : nI w = (0 : Int32) := by rw [h]; rfl
theorem kp1 {w : Nat} (h : w = 1) : nI w = (1 : Int32) := by rw [h]; rfl
theorem kp2 {w : Nat} (h : w = 2) : nI w = (2 : Int32) := by rw [h]; rfl
theorem kp3 {w : Nat} (h : w = 3) : nI w = (3 : Int32) := by rw [h]; rfl
theorem kp4 {w : Nat} (h : w = 4) : nI w = (4 : Int32) := by rw [h]; rfl
theorem cl_atEnd (h : RX σ τ) {x : Int32} {j w : Nat} (hj : j < 2) (hx : x = 0 ∧ j = 0 ∨ x = 1 ∧ j = 1) (hw : w < 6) : f_X3_atEnd σ x (nI w) = some (aval (τ.1 j) w) := by
  have hr := h.row (i := j) (by omega)
  unfold f_X3_atEnd f_X3_atEnd_44 f_X3_atEnd_49 f_X3_atEnd_25 aval
  rw [trackOf_ok hx, bsm, rw_isEmpty hr, bsm]
  by_cases c : (τ.1 j).length = 0
  · rw [if_pos c, if_neg ne10, if_pos c]
    by_cases d : w = 0 ∨ w = 1 ∨ w = 4
    · rw [if_pos d]
      by_cases d0 : w = 0
      · rw [if_pos (kp0 d0)]
      · rw [if_neg (kn0 (by omega) d0)]
        by_cases d1 : w = 1
        · rw [if_pos (kp1 d1)]
        · rw [if_neg (kn1 (by omega) d1), if_pos (kp4 (by omega : w = 4))]
    · rw [if_neg d, if_neg (kn0 (by omega) (by omega)), if_neg (kn1 (by omega) (by omega)), if_neg (kn4 (by omega) (by omega))]
  · rw [if_neg c, if_pos rfl, if_neg c]
    by_cases d : w = 1 ∨ w = 3
    · rw [if_pos d]
      have q : f_X3_codeAtEnd σ x 1 = some ((τ.1 j).getD ((τ.1 j).length - 1) 0) := by
        rw [codeAtEnd_ok h hj hx 1, if_neg c, if_neg ne10]
      by_cases d1 : w = 1
      · rw [if_pos (kp1 d1), q]; rfl
      · rw [if_neg (kn1 (by omega) d1), if_pos (kp3 (by omega : w = 3)), q]; rfl
    · rw [if_neg d, if_neg (kn1 (by omega) (by omega)), if_neg (kn3 (by omega) (by omega)), codeAtEnd_ok h hj hx 0, if_neg c, if_pos rfl]; rfl
theorem lt2 {w : Nat} (hw : w < 100) : nI w < (2 : Int32) ↔ w < 2 := nI_lti (b := 2) (by omega) (by omega)
theorem mo_asked {x : Int32} {j w : Nat} (hl : (τ.1 j).length ≤ 20) (hx : x = 0 ∧ j = 0 ∨ x = 1 ∧ j = 1) (hw : w < 6) : f_X6_asked τ x (nI w) = some (aval (τ.1 j) w) := by
  have m15 : ∀ u : Int32, (u = if w = 1 ∨ w = 3 then 1 else 0) → f_X6_asked_15 τ x (nI w) u = some (aval (τ.1 j) w) := by
    intro u hu
    unfold f_X6_asked_15 f_X6_asked_34 f_X6_asked_58 aval
    rw [sizeN (gtr_x hx), bsm]
    by_cases c : (τ.1 j).length = 0
    · rw [if_pos ((nI_eqz (by omega)).mpr c), if_pos c]
      by_cases d : w = 0 ∨ w = 1 ∨ w = 4
      · rw [if_pos d]
        by_cases d2 : w < 2
        · rw [if_pos (lt2 (by omega) |>.mpr d2)]
        · rw [if_neg (mt (lt2 (by omega)).mp d2), if_pos (kp4 (by omega : w = 4))]
      · rw [if_neg d, if_neg (mt (lt2 (w := w) (by omega)).mp (by omega)), if_neg (kn4 (by omega) (by omega))]
    · rw [if_neg (mt (nI_eqz (by omega)).mp c), if_neg c]
      by_cases d : w = 1 ∨ w = 3
      · rw [if_pos d] at hu
        rw [if_pos d, hu, if_neg ne10, bsm, nI_prd (by omega) (by omega), getN (gtr_x hx) (by omega) hl]; rfl
      · rw [if_neg d] at hu
        rw [if_neg d, hu, if_pos rfl]
        have q : f_X6_get τ x 0 = some ((τ.1 j).getD 0 0) := getN (i := 0) (gtr_x hx) (by omega) hl
        rw [q]; rfl
  unfold f_X6_asked f_X6_asked_10
  by_cases d1 : w = 1
  · rw [if_pos (kp1 d1)]
    exact m15 1 (by rw [if_pos (Or.inl d1)])
  · rw [if_neg (kn1 (by omega) d1)]
    by_cases d3 : w = 3
    · rw [if_pos (kp3 d3)]
      exact m15 1 (by rw [if_pos (Or.inr d3)])
    · rw [if_neg (kn3 (by omega) d3)]
      exact m15 0 (by rw [if_neg (by omega)])
theorem ag_ask (h : RX σ τ) (x1 x2 : Int32) : Ri (f_X3_ask σ x1 x2) (f_X6_ask τ x1 x2) (TN C2 σ) := by
  have h0 := h.thr 0
  unfold f_X3_ask f_X6_ask f_X6_ask_34
  refine gd_track (fun j hj hx => ri_tR rfl (ri_eR (mo_isIn _ _ _) ?_)) (ri_fR ne10 (tn_l (h.thr 1) thr0))
  unfold f_X6_ask_27 f_X6_ask_34
  by_cases c : 0 ≤ x2 ∧ x2 ≤ 5
  · rw [if_pos c]
    obtain ⟨w, hw4, rfl⟩ := nIof (b := 5) (by omega) c.1 c.2
    exact ri_fR ne10 (ri_eR (mo_ref0 thr0 rfl) (ri_tR rfl (ri_obr (cl_within c) (ri_eL (cl_atEnd h hj hx (by omega)) (ri_eR (mo_asked (len20 h0.1 hj) hx (by omega)) (tn_r h0 thr0 rfl))))))
  · rw [if_neg c]
    refine ri_tR rfl (ri_eR (mo_ref1 thr0 ne10 (by decide)) (ri_fR ne10 (ri_obl (cl_without c) ?_)))
    rw [thr_thr]
    exact tn_l (h.thr 2) thr0
/-! sums -/
def sumG : List Int32 → Int32 → Int32
  | [], a => a
  | v :: r, a => sumG r (a + jrem v 100)
def sealG : List Int32 → Int32 → Int32
  | [], a => a
  | v :: r, a => sealG r (31 * a + v / 100)
theorem sumG_c {v a : Int32} {r : List Int32} : sumG (v :: r) a = sumG r (a + jrem v 100) := rfl
theorem sealG_c {v a : Int32} {r : List Int32} : sealG (v :: r) a = sealG r (31 * a + v / 100) := rfl
theorem cl_sum (h : RX σ τ) {j : Nat} (hj : j < 4) : f_X3_sumOfLoads σ j = some (sumG (τ.1 j) 0) := by
  have hr := h.row hj
  have hl := hr.len
  have key : Ok (f_X3_sumOfLoads σ j) fun r => r = sumG (τ.1 j) 0 := by
    unfold f_X3_sumOfLoads
    refine up_loop (fun m t => t.1 = j ∧ t.2.2 = nI m ∧ sumG ((τ.1 j).drop m) t.2.1 = sumG (τ.1 j) 0) (τ.1 j).length ?_ (τ.1 j).length 0 _ (by omega) ⟨rfl, rfl, rfl⟩ 64 (by omega)
    rintro kk ⟨v1, v2, v3⟩ m hm ⟨a1, a2, a3⟩ hk
    dsimp only at a1 a2 a3
    subst a1 a2
    unfold f_X3_sumOfLoads_4
    refine ok_ev (rw_size hr) (ok_if (fun c => ok_some ?_) fun c => ?_)
    · have c2 := (nI_lei (by omega) (by omega)).mp c
      rw [List.drop_eq_nil_of_le (by omega)] at a3
      exact a3
    · have c2 : m < (τ.1 v1).length := Nat.lt_of_not_le (mt (nI_lei (by omega) (by omega)).mpr c)
      rw [drop_cons c2, sumG_c] at a3
      exact ok_ev (rw_read hr c2) (ok_ev (v := jrem ((τ.1 v1).getD m 0) 100) rfl (ok_nme fun y hy => ok_nme fun y2 hy2 => hk _ c2 ⟨rfl, by rw [hy2]; exact nI_suc (by omega), by rw [hy]; exact a3⟩))
  obtain ⟨r, e, hr⟩ := key
  rw [e, hr]
theorem cl_seal (h : RX σ τ) {j : Nat} (hj : j < 4) : f_X3_sealOf σ j = some (sealG (τ.1 j) 1) := by
  have hr := h.row hj
  have hl := hr.len
  have key : Ok (f_X3_sealOf σ j) fun r => r = sealG (τ.1 j) 1 := by
    unfold f_X3_sealOf
    refine up_loop (fun m t => t.1 = j ∧ t.2.2 = nI m ∧ sealG ((τ.1 j).drop m) t.2.1 = sealG (τ.1 j) 1) (τ.1 j).length ?_ (τ.1 j).length 0 _ (by omega) ⟨rfl, rfl, rfl⟩ 64 (by omega)
    rintro kk ⟨v1, v2, v3⟩ m hm ⟨a1, a2, a3⟩ hk
    dsimp only at a1 a2 a3
    subst a1 a2
    unfold f_X3_sealOf_4
    refine ok_ev (rw_size hr) (ok_if (fun c => ok_some ?_) fun c => ?_)
    · have c2 := (nI_lei (by omega) (by omega)).mp c
      rw [List.drop_eq_nil_of_le (by omega)] at a3
      exact a3
    · have c2 : m < (τ.1 v1).length := Nat.lt_of_not_le (mt (nI_lei (by omega) (by omega)).mpr c)
      rw [drop_cons c2, sealG_c] at a3
      exact ok_ev (rw_read hr c2) (ok_ev (v := (τ.1 v1).getD m 0 / 100) rfl (ok_nme fun y hy => ok_nme fun y2 hy2 => hk _ c2 ⟨rfl, by rw [hy2]; exact nI_suc (by omega), by rw [hy]; exact a3⟩))
  obtain ⟨r, e, hr⟩ := key
  rw [e, hr]
def tval (xs : List Int32) (w : Nat) : Int32 := if w = 0 then nI xs.length else if w = 1 then (if xs.length = 0 then 1 else 0) else if w = 2 then sumG xs 0 else sealG xs 1
theorem cl_factTrack (h : RX σ τ) {x : Int32} {j w : Nat} (hj : j < 2) (hx : x = 0 ∧ j = 0 ∨ x = 1 ∧ j = 1) (hw : w < 4) : f_X3_factOfTrack σ x (nI w) = some (tval (τ.1 j) w) := by
  have hr := h.row (i := j) (by omega)
  unfold f_X3_factOfTrack tval
  rw [trackOf_ok hx, bsm]
  by_cases d0 : w = 0
  · rw [if_pos (congrArg nI d0), if_pos d0, rw_size hr]; rfl
  · rw [if_neg (nI_ne (b := 0) (by omega) (by omega) d0), if_neg d0]
    by_cases d1 : w = 1
    · rw [if_pos (congrArg nI d1), if_pos d1, rw_isEmpty hr, bsm]
      unfold f_X3_oneIf
      by_cases c : (τ.1 j).length = 0
      · rw [if_pos c]; rfl
      · rw [if_neg c]; rfl
    · rw [if_neg (nI_ne (b := 1) (by omega) (by omega) d1), if_neg d1]
      by_cases d2 : w = 2
      · rw [if_pos (congrArg nI d2), if_pos d2, cl_sum h (by omega)]; rfl
      · rw [if_neg (nI_ne (b := 2) (by omega) (by omega) d2), if_neg d2, cl_seal h (by omega)]; rfl
theorem mo_told {x : Int32} {j w : Nat} (hl : (τ.1 j).length ≤ 20) (hx : x = 0 ∧ j = 0 ∨ x = 1 ∧ j = 1) (hw : w < 4) : f_X6_trackTold τ x (nI w) = some (tval (τ.1 j) w, τ) := by
  obtain ⟨y0, y1, y2, y3, -⟩ := z04
  have hg := gtr_x hx
  have key : Ok (f_X6_trackTold τ x (nI w)) fun r => r = (tval (τ.1 j) w, τ) := by
    unfold f_X6_trackTold
    refine up24 (fun m t => t.1 = x ∧ t.2.1 = nI w ∧ t.2.2.2.2 = nI m ∧ sumG ((τ.1 j).drop m) t.2.2.1 = sumG (τ.1 j) 0 ∧ sealG ((τ.1 j).drop m) t.2.2.2.1 = sealG (τ.1 j) 1) (τ.1 j).length (by omega) ?_ ⟨rfl, rfl, rfl, rfl, rfl⟩
    rintro kk ⟨v1, v2, v3, v4, v5⟩ m hm ⟨a1, a2, a3, a4, a5⟩ hk
    dsimp only at a1 a2 a3 a4 a5
    subst a1 a2 a3
    unfold f_X6_trackTold_8
    dsimp only
    refine ok_ev (sizeN hg) (ok_if (fun c => ?_) fun c => ?_)
    · have c2 := (nI_lei (by omega) (by omega)).mp c
      rw [List.drop_eq_nil_of_le (by omega)] at a4 a5
      have a4 : v3 = sumG (τ.1 j) 0 := a4
      have a5 : v4 = sealG (τ.1 j) 1 := a5
      have m81 : ∀ (g : Nat → Int32) (u : Int32), g 0 = nI (τ.1 j).length → u = (if (τ.1 j).length = 0 then (1 : Int32) else 0) → Ok (f_X6_trackTold_81 τ (nI w) v3 v4 4 g 1 u) fun r => r = (tval (τ.1 j) w, τ) := by
        intro g u h0 hu
        unfold f_X6_trackTold_81
        refine ok_ev (mo_one u) (ok_f (by decide) (ok_nme fun g1 h1 => ok_f (by decide) (ok_nme fun g2 h2 => ok_f (by decide) (ok_nme fun g3 h3 => ok_f (arr_iN hw (by omega)) (ok_some ?_)))))
        rw [y1] at h1
        rw [y2] at h2
        rw [y3] at h3
        rw [nI_c (by omega)]
        have q : g3 w = tval (τ.1 j) w := by
          rw [h3, h2, h1]
          unfold tval
          rw [upd_at, upd_at, upd_at]
          rcases (by omega : w = 0 ∨ w = 1 ∨ w = 2 ∨ w = 3) with e | e | e | e <;> subst e
          · exact h0
          · show (if u = 0 then (0 : Int32) else 1) = (if (τ.1 j).length = 0 then 1 else 0)
            rw [hu]
            split <;> rfl
          · exact a4
          · exact a5
        rw [q]
      refine ok_f (by decide) (ok_nme fun n hn => ok_nme fun g hg0 => ok_ev (sizeN hg) (ok_f (by rw [hn]; decide) (ok_nme fun g1 hg1 => ok_ev (sizeN hg) ?_)))
      have hn : n = 4 := hn
      subst hn
      rw [y0] at hg1
      have b0 : g1 0 = nI (τ.1 j).length := by rw [hg1]; rfl
      refine ok_if (fun d => m81 g1 1 b0 ?_) fun d => m81 g1 0 b0 ?_
      · rw [if_pos ((nI_eqz (by omega)).mp d)]
      · rw [if_neg (mt (nI_eqz (by omega)).mpr d)]
    · have c2 : m < (τ.1 j).length := Nat.lt_of_not_le (mt (nI_lei (by omega) (by omega)).mpr c)
      rw [drop_cons c2, sumG_c] at a4
      rw [drop_cons c2, sealG_c] at a5
      exact ok_ev (getN hg c2 hl) (ok_ev (v := jrem ((τ.1 j).getD m 0) 100) rfl (ok_nme fun u1 hu1 => ok_ev (getN hg c2 hl) (ok_ev (v := (τ.1 j).getD m 0 / 100) rfl (ok_nme fun u2 hu2 => ok_nme fun u3 hu3 => hk _ c2 ⟨rfl, rfl, by rw [hu3]; exact nI_suc (by omega), by rw [hu1]; exact a4, by rw [hu2]; exact a5⟩))))
  obtain ⟨r, e, hr⟩ := key
  rw [e, hr]
theorem ag_ofTrack (h : RX σ τ) (x1 x2 : Int32) : Ri (f_X3_ofTrack σ x1 x2) (f_X6_ofTrack τ x1 x2) (TN C2 σ) := by
  have h0 := h.thr 0
  unfold f_X3_ofTrack f_X6_ofTrack f_X6_ofTrack_34
  refine gd_track (fun j hj hx => ri_tR rfl (ri_eR (mo_isIn _ _ _) ?_)) (ri_fR ne10 (tn_l (h.thr 1) thr0))
  unfold f_X6_ofTrack_27 f_X6_ofTrack_34
  by_cases c : 0 ≤ x2 ∧ x2 ≤ 3
  · rw [if_pos c]
    obtain ⟨w, hw4, rfl⟩ := nIof (b := 3) (by omega) c.1 c.2
    exact ri_fR ne10 (ri_eR (mo_ref0 thr0 rfl) (ri_tR rfl (ri_obr (cl_within c) (ri_eL (cl_factTrack h hj hx (by omega)) (ri_eR (mo_told (len20 h0.1 hj) hx (by omega)) (tn_r h0 thr0 rfl))))))
  · rw [if_neg c]
    refine ri_tR rfl (ri_eR (mo_ref1 thr0 ne10 (by decide)) (ri_fR ne10 (ri_obl (cl_without c) ?_)))
    rw [thr_thr]
    exact tn_l (h.thr 2) thr0
end L3J
end
section
/-! level 3: facts of the yard, comparing, heaviest, ahead -/
section L3K
variable {σ : CS} {τ : MS}
theorem cl_way (h : RX σ τ) : f_X3_wayOfWalk σ = some (τ.2 1) := by
  unfold f_X3_wayOfWalk
  rcases h.2 with ⟨w1, w2, -, -⟩ | ⟨w1, w2 | w2, -⟩
  · rw [if_pos w1, w2]
  · rw [if_neg (by rw [w1]; exact ne10), if_pos w2.1, w2.2]
  · rw [if_neg (by rw [w1]; exact ne10), if_neg (by rw [w2.1]; exact ne10), w2.2]
theorem ri_last {i : Nat} (hr : RW i (σ.1 i) (τ.1 i)) : Ri ((f_X0_isEmpty (cap i) (σ.1 i)).bind fun z20 => (if z20 = 0 then (f_X0_endPlace (cap i) (σ.1 i) 1).bind fun z26 => (f_X0_read (cap i) (σ.1 i) z26).bind fun z31 => some (z31) else some ((-1)))) (nm (if (τ.1 i).length = 0 then 1 else 0 : Int32) fun y28 => (if y28 = 0 then (lget (τ.1 i) ((nI (τ.1 i).length) - 1)).bind fun z38 => some (z38) else some ((-1)))) (fun a b => a = b) := by
  have hl := hr.len
  refine ri_eL (rw_isEmpty hr) (ri_nR fun y hy => ?_)
  subst hy
  by_cases c : (τ.1 i).length = 0
  · rw [if_pos c]
    exact ri_fL ne10 (ri_fR ne10 (ri_some rfl))
  · rw [if_neg c]
    have e1 : f_X0_endPlace (cap i) (σ.1 i) 1 = some (nI ((τ.1 i).length - 1)) := by rw [rw_endPlace hr 1, if_neg ne10, nI_prd (by omega) (by omega)]
    have e2 : lget (τ.1 i) (nI (τ.1 i).length - 1) = some ((τ.1 i).getD ((τ.1 i).length - 1) 0) := by
      rw [nI_prd (by omega) (by omega)]
      exact lgetN (by omega) (by omega)
    exact ri_tL rfl (ri_tR rfl (ri_eL e1 (ri_eL (rw_read hr (by omega)) (ri_eR e2 (ri_some rfl)))))
theorem ri_told (h : RX σ τ) (x : Int32) : Ri (f_X3_factOfYard σ x) (f_X6_yardTold τ x) (fun a b => a = b) := by
  have hr3 := h.row (i := 3) (by omega)
  have hr2 := h.row (i := 2) (by omega)
  have hr0 := h.row (i := 0) (by omega)
  have hl3 := hr3.len
  have hl2 := hr2.len
  unfold f_X3_factOfYard f_X6_yardTold
  by_cases c0 : x = nI 0
  · rw [if_pos c0, if_pos c0]
    exact ri_eL (rw_size hr3) (ri_some rfl)
  rw [if_neg c0, if_neg c0]
  by_cases c1 : x = nI 1
  · rw [if_pos c1, if_pos c1]
    refine ri_eL (rw_isEmpty hr3) (ri_nR fun y hy => ?_)
    subst hy
    by_cases c : (τ.1 3).length = 0
    · rw [if_pos c]
      exact ri_fL ne10 (ri_fR ne10 (ri_some rfl))
    · rw [if_neg c]
      have e1 : f_X0_read (cap 3) (σ.1 3) 0 = some ((τ.1 3).getD 0 0) := rw_read hr3 (j := 0) (by omega)
      have e2 : lget (τ.1 3) 0 = some ((τ.1 3).getD 0 0) := lgetN (i := 0) (by omega) (by omega)
      exact ri_tL rfl (ri_tR rfl (ri_eL e1 (ri_eR e2 (ri_some rfl))))
  rw [if_neg c1, if_neg c1]
  by_cases c2 : x = nI 2
  · rw [if_pos c2, if_pos c2]
    exact ri_last hr3
  rw [if_neg c2, if_neg c2]
  by_cases c3 : x = nI 3
  · rw [if_pos c3, if_pos c3]
    exact ri_eL (rw_size hr2) (ri_some rfl)
  rw [if_neg c3, if_neg c3]
  by_cases c4 : x = nI 4
  · rw [if_pos c4, if_pos c4]
    exact ri_last hr2
  rw [if_neg c4, if_neg c4]
  by_cases c5 : x = nI 5
  · rw [if_pos c5, if_pos c5]
    exact ri_eL (cl_way h) (ri_some rfl)
  rw [if_neg c5, if_neg c5]
  by_cases c6 : x = nI 6
  · rw [if_pos c6, if_pos c6]
    obtain ⟨b, hb, e1, e2, -⟩ := hasNext_ok h
    refine ri_eL (rw_size hr0) (ri_eL e1 (ri_eR e2 (ri_eR (mo_one b) ?_)))
    unfold f_X3_oneIf
    rcases hb with hb | hb
    · subst hb
      rw [if_pos rfl, if_pos rfl]
      exact ri_eL rfl (ri_some rfl)
    · subst hb
      rw [if_neg ne10, if_neg ne10]
      exact ri_eL rfl (ri_some rfl)
  rw [if_neg c6, if_neg c6]
  exact ri_some h.1.2.2.1
theorem ag_yard (h : RX σ τ) (x1 : Int32) : Ri (f_X3_yard σ x1) (f_X6_yard τ x1) (TN C11 σ) := by
  have h0 := h.thr 0
  unfold f_X3_yard f_X6_yard f_X6_yard_16
  refine ri_eR (mo_isIn _ _ _) ?_
  by_cases c : 0 ≤ x1 ∧ x1 ≤ 7
  · rw [if_pos c]
    exact ri_fR ne10 (ri_eR (mo_st0 rfl) (ri_tR rfl (ri_obr (cl_within c) (ri_call (ri_told h0 x1) fun u v e => tn_r h0 thr0 e))))
  · rw [if_neg c]
    exact ri_tR rfl (ri_eR (mo_st1 ne10 (by decide)) (ri_fR ne10 (ri_obl (cl_without c) (tn_l (h.thr 1) thr0))))
/-! comparing -/
theorem ri_none {α β : Type} {o : Option α} {Q : α → β → Prop} : Ri o none Q := fun r e => by cases e
theorem ri_cmp0 (h : RX σ τ) : Ri (f_X3_isSidingAmongLine σ) (f_X6_compared τ 0) (fun a b => a = b) := by
  have hr0 := h.row (i := 0) (by omega)
  have hr1 := h.row (i := 1) (by omega)
  have hl0 := hr0.len
  have hl1 := hr1.len
  unfold f_X3_isSidingAmongLine f_X6_compared f_X6_compared_19
  rw [if_pos rfl]
  refine ri_lpn (fun t p => ∃ m, m ≤ (τ.1 0).length ∧ t = nI m ∧ p = (0, nI m)) ?_ 24 64 _ _ (by omega) ⟨0, by omega, rfl, rfl⟩
  rintro k1 k2 _ _ ⟨m, hm, rfl, rfl⟩ hk
  unfold f_X3_isSidingAmongLine_2 f_X6_compared_21 f_X6_compared_73
  dsimp only
  refine ri_eR (sizeN (j := 0) rfl) (ri_eL (rw_size hr0) (ri_iR (fun c => ri_tL c (ri_some rfl)) fun c => ri_fL c ?_))
  have c2 : m < (τ.1 0).length := Nat.lt_of_not_le (mt (nI_lei (by omega) (by omega)).mpr c)
  have q : f_X3_isLikeOneOf σ 1 ((τ.1 0).getD m 0) = some (if fnG (tKind ((τ.1 0).getD m 0 / 100)) 0 (τ.1 1) 0 (-1) = -1 then 0 else 1) := by
    unfold f_X3_isLikeOneOf f_X3_kindOf
    rw [bsm, rw_placeOfKind hr1, bsm]
    split <;> rfl
  refine ri_eL (rw_read hr0 c2) (ri_eL q (ri_eR (getN (j := 0) rfl c2 hl0) (ri_eR (v := (τ.1 0).getD m 0 / 100) rfl (ri_tR rfl (ri_eR (mo_found (j := 1) rfl hl1 _ _) ?_)))))
  by_cases d : fnG (tKind ((τ.1 0).getD m 0 / 100)) 0 (τ.1 1) 0 (-1) = -1
  · rw [if_pos d]
    exact ri_tL rfl (ri_tR d (ri_some rfl))
  · rw [if_neg d]
    exact ri_fL ne10 (ri_fR d (ri_nL fun y hy => ri_nR fun y2 hy2 => hk _ _ ⟨m + 1, by omega, by rw [hy]; exact nI_suc (by omega), by rw [hy2, nI_suc (by omega)]⟩))
theorem ri_cmp1 (h : RX σ τ) {x : Int32} (hx : ¬ x = 0) : Ri (f_X3_isSameAllAlong σ) (f_X6_compared τ x) (fun a b => a = b) := by
  have hr0 := h.row (i := 0) (by omega)
  have hr1 := h.row (i := 1) (by omega)
  have hl0 := hr0.len
  have hl1 := hr1.len
  unfold f_X3_isSameAllAlong f_X6_compared f_X6_compared_19
  rw [if_neg hx]
  refine ri_eR (sizeN (j := 0) rfl) (ri_eR (sizeN (j := 1) rfl) (ri_eL (rw_size hr0) (ri_eL (rw_size hr1) (ri_iR (fun e => ri_tL e ?_) fun e => ri_fL e (ri_some rfl)))))
  have e2 : (τ.1 0).length = (τ.1 1).length := (nI_eqi (by omega) (by omega)).mp e
  refine ri_lpn (fun t p => ∃ m, m ≤ (τ.1 0).length ∧ t = nI m ∧ p = (x, nI m)) ?_ 24 64 _ _ (by omega) ⟨0, by omega, rfl, rfl⟩
  rintro k1 k2 _ _ ⟨m, hm, rfl, rfl⟩ hk
  unfold f_X3_isSameAllAlong_21 f_X6_compared_21 f_X6_compared_73 f_X3_kindOf f_X6_kind
  dsimp only
  refine ri_eR (sizeN (j := 0) rfl) (ri_eL (rw_size hr1) (ri_iR (fun c => ri_tL (e ▸ c) (ri_some rfl)) fun c => ri_fL (e ▸ c) ?_))
  have c2 : m < (τ.1 0).length := Nat.lt_of_not_le (mt (nI_lei (by omega) (by omega)).mpr c)
  refine ri_eL (rw_read hr0 c2) (ri_eL rfl (ri_eL (rw_read hr1 (by omega)) (ri_eL rfl (ri_eR (getN (j := 0) rfl c2 hl0) (ri_eR rfl (ri_fR hx (ri_eR (getN (j := 1) rfl (by omega) hl1) (ri_eR rfl ?_))))))))
  exact ri_iR (fun d => ri_tL d.symm (ri_nL fun y hy => ri_nR fun y2 hy2 => hk _ _ ⟨m + 1, by omega, by rw [hy]; exact nI_suc (by omega), by rw [hy2, nI_suc (by omega)]⟩)) fun d => ri_fL (fun g => d g.symm) (ri_some rfl)
theorem ag_compare (h : RX σ τ) (x1 : Int32) : Ri (f_X3_compare σ x1) (f_X6_compare τ x1) (fun r r2 => r = r2.1 ∧ RX σ r2.2 ∧ r2.2.2 0 = 0) := by
  have h0 := h.thr 0
  unfold f_X3_compare f_X6_compare
  refine ri_nR fun t ht => ?_
  have ht : t = thr τ 0 := ht
  subst ht
  by_cases c : x1 = 0
  · subst c
    exact ri_tL rfl (ri_call (ri_cmp0 h0) fun u v e => by
      subst e
      exact ri_iR (fun g => ri_tL g (ri_some ⟨rfl, h0, thr0⟩)) fun _ => ri_none)
  · exact ri_fL c (ri_call (ri_cmp1 h0 c) fun u v e => by
      subst e
      exact ri_iR (fun g => ri_tL g (ri_some ⟨rfl, h0, thr0⟩)) fun _ => ri_none)
/-! a track and a place -/
theorem gd_tp {α : Type} {x p : Int32} {F : Unit → Option (Nat ⊕ α)} {A : Int32 → Option (Int32 × MS)} {Q : Nat ⊕ α → Int32 × MS → Prop} (h0 : ∀ j, j < 2 → (x = 0 ∧ j = 0 ∨ x = 1 ∧ j = 1) → (0 ≤ p ∧ p ≤ 19) → Ri (F ()) (A 0) Q) (h1 : Ri (some (.inl 0)) (A 1) Q) : Ri (obx (f_X3_needTrack x) fun _ => obx (f_X3_needPlace p 19) F) ((f_X6_isNoTrack x).bind fun z => if z = 0 then (f_X6_isNoPlace τ p).bind fun z2 => if z2 = 0 then A 0 else A 1 else A 1) Q := by
  by_cases c : x = 0 ∨ x = 1
  · obtain ⟨j, hj, hx⟩ := tk_ok c
    refine ri_obr (cl_track c) (ri_eR (mo_noTrack x) ?_)
    rw [if_pos c]
    refine ri_tR rfl (ri_eR (mo_noPlace p) ?_)
    by_cases d : 0 ≤ p ∧ p ≤ 19
    · rw [if_pos d]
      exact ri_tR rfl (ri_obr (cl_place d) (h0 j hj hx d))
    · rw [if_neg d]
      exact ri_fR ne10 (ri_obl (cl_noplace d) h1)
  · refine ri_obl (cl_notrack c) (ri_eR (mo_noTrack x) ?_)
    rw [if_neg c]
    exact ri_fR ne10 h1
theorem ag_heaviest (h : RX σ τ) (x1 x2 x3 : Int32) : Ri (f_X3_heaviest σ x1 x2 x3) (f_X6_heaviest τ x1 x2 x3) (TN C2 σ) := by
  have h0 := h.thr 0
  unfold f_X3_heaviest f_X6_heaviest f_X6_heaviest_16
  refine gd_tp (A := f_X6_heaviest_21 τ x1 x2 x3) (fun j hj hx hp => ?_) ?_
  · unfold f_X6_heaviest_21 f_X6_heaviest_44
    refine ri_eR (mo_st0 rfl) (ri_tR rfl (ri_eR (mo_isIn _ _ _) ?_))
    by_cases c : 1 ≤ x2 ∧ x2 ≤ 20
    · rw [if_pos c]
      obtain ⟨p, hp19, rfl⟩ := nIof (b := 19) (by omega) hp.1 hp.2
      obtain ⟨n, hn20, rfl⟩ := nIof (b := 20) (x := x2) (by omega) (Int32.le_trans (by decide) c.1) c.2
      have hr := h0.row (i := j) (by omega)
      have hl := hr.len
      have hl20 := len20 h0.1 hj
      refine ri_fR ne10 (ri_eR (mo_ref0 thr0 rfl) (ri_tR rfl (ri_obr (cl_within c) (ri_eL (trackOf_ok hx) (ri_eL (rw_size hr) (ri_eR (sizeN (gtr_x hx)) ?_))))))
      rw [nI_sum (by omega)]
      refine ri_iR (fun d => ri_tL d ?_) fun d => ri_fL d (tn_r h0 thr0 rfl)
      have d2 : p + n ≤ ((thr τ 0).1 j).length := (nI_lei (by omega) (by omega)).mp d
      refine ri_lpn (fun t s => ∃ m mx, m ≤ n ∧ t = (nI n, nI p, j, mx, nI m) ∧ s = (thr τ 0, x1, nI n, nI p, mx, nI m)) ?_ 24 64 _ _ (by omega) ⟨0, 0, by omega, rfl, rfl⟩
      rintro k1 k2 _ _ ⟨m, mx, hm, rfl, rfl⟩ hk
      unfold f_X3_heaviest_43 f_X6_heaviest_72 f_X3_loadOf f_X6_load
      dsimp only
      refine ri_iR (fun g => ri_tL g (tn_r h0 thr0 rfl)) fun g => ri_fL g ?_
      have g2 : m < n := Nat.lt_of_not_le (mt (nI_lei (by omega) (by omega)).mpr g)
      rw [nI_sum (by omega)]
      refine ri_eR (getN (gtr_x hx) (by omega) hl20) (ri_eR rfl (ri_eL (rw_read hr (by omega)) (ri_eL rfl (ri_nL fun y1 e1 => ri_nL fun y2 e2 => ri_nR fun y3 e3 => ri_nR fun y4 e4 => hk _ _ ⟨m + 1, y1, by omega, ?_, ?_⟩))))
      · rw [e2, nI_suc (by omega)]
      · rw [e4, nI_suc (by omega), e3, e1]
    · rw [if_neg c]
      refine ri_tR rfl (ri_eR (mo_ref1 thr0 ne10 (by decide)) (ri_fR ne10 (ri_obl (cl_without c) ?_)))
      rw [thr_thr]
      exact tn_l (h.thr 2) thr0
  · unfold f_X6_heaviest_21
    exact ri_eR (mo_st1 ne10 (by decide)) (ri_fR ne10 (tn_l (h.thr 1) thr0))
/-! ahead -/
def gl (L : Int32) (xs : List Int32) : Nat → Int32
  | 0 => -1
  | n + 1 => if jrem (xs.getD n 0) 100 ≤ L then gl L xs n else nI n
theorem gl_s {L : Int32} {xs : List Int32} {n : Nat} : gl L xs (n + 1) = if jrem (xs.getD n 0) 100 ≤ L then gl L xs n else nI n := rfl
theorem am1 (a : Int32) : a + (-1) = a - 1 := (Int32.sub_eq_add_neg a 1).symm
theorem cl_ahead {j p : Nat} {L : Int32} {xs : List Int32} (hr : RW j (σ.1 j) xs) (hp : p < xs.length) : lpn (f_X3_ahead_42 σ) 64 (j, L, nI p - 1) = some (.inr (gl L xs p)) := by
  have hl := hr.len
  have key : Ok (lpn (f_X3_ahead_42 σ) 64 (j, L, nI p - 1)) fun r => r = .inr (gl L xs p) := by
    refine up_loop (fun m t => t = (j, L, nI (p - m) - 1) ∧ gl L xs (p - m) = gl L xs p) p ?_ p 0 _ (by omega) ⟨rfl, rfl⟩ 64 (by omega)
    rintro kk _ m hm ⟨rfl, a⟩ hk
    unfold f_X3_ahead_42 f_X3_loadOf
    dsimp only
    by_cases c : p - m = 0
    · refine ok_t (by rw [c]; decide) (ok_some ?_)
      rw [← a, c]; rfl
    · obtain ⟨q, hq⟩ : ∃ q, p - m = q + 1 := ⟨p - m - 1, by omega⟩
      rw [hq, nI_prd (by omega) (by omega)]
      rw [hq, gl_s] at a
      show Ok (if nI q < 0 then _ else _) _
      refine ok_f (nI_nn (by omega)) (ok_ev (rw_read hr (j := q) (by omega)) (ok_ev rfl (ok_if (fun d => ok_nme fun y hy => ?_) fun d => ok_some ?_)))
      · rw [if_pos d] at a
        exact hk _ (by omega) ⟨by rw [hy, show p - (m + 1) = q by omega, am1]; rfl, by rw [show p - (m + 1) = q by omega]; exact a⟩
      · rw [if_neg d] at a
        rw [← a]; rfl
  obtain ⟨r, e, hr⟩ := key
  rw [e, hr]
theorem mo_ahead {x : Int32} {j p : Nat} (hl : (τ.1 j).length ≤ 20) (hg : gtr x = some j) (hp : p < (τ.1 j).length) : lpn (f_X6_ahead_47) 24 (τ, x, nI p, (-1), 0) = some (gl (jrem ((τ.1 j).getD p 0) 100) (τ.1 j) p, τ) := by
  have key : Ok (lpn (f_X6_ahead_47) 24 (τ, x, nI p, (-1), 0)) fun r => r = (gl (jrem ((τ.1 j).getD p 0) 100) (τ.1 j) p, τ) := by
    refine up24 (fun m t => t = (τ, x, nI p, gl (jrem ((τ.1 j).getD p 0) 100) (τ.1 j) m, nI m)) p (by omega) ?_ rfl
    rintro kk _ m hm rfl hk
    unfold f_X6_ahead_47 f_X6_ahead_78 f_X6_load
    dsimp only
    refine ok_if (fun c => ok_some ?_) fun c => ?_
    · have c2 := (nI_lei (by omega) (by omega)).mp c
      rw [show m = p by omega]
    · have c2 : m < p := Nat.lt_of_not_le (mt (nI_lei (by omega) (by omega)).mpr c)
      refine ok_ev (getN hg (by omega) hl) (ok_ev rfl (ok_ev (getN hg hp hl) (ok_ev rfl (ok_if (fun d => ok_nme fun y hy => hk _ c2 ?_) fun d => ok_nme fun y hy => hk _ c2 ?_))))
      · rw [hy, nI_suc (by omega), gl_s, if_pos d]
      · rw [hy, nI_suc (by omega), gl_s, if_neg d]
  obtain ⟨r, e, hr⟩ := key
  rw [e, hr]
theorem ag_ahead (h : RX σ τ) (x1 x2 : Int32) : Ri (f_X3_ahead σ x1 x2) (f_X6_ahead τ x1 x2) (TN C1 σ) := by
  have h0 := h.thr 0
  unfold f_X3_ahead f_X6_ahead f_X6_ahead_16
  refine gd_tp (A := f_X6_ahead_21 τ x1 x2) (fun j hj hx hp => ?_) ?_
  · unfold f_X6_ahead_21
    obtain ⟨p, hp19, rfl⟩ := nIof (b := 19) (by omega) hp.1 hp.2
    have hr := h0.row (i := j) (by omega)
    have hl := hr.len
    have hl20 := len20 h0.1 hj
    refine ri_eR (mo_st0 rfl) (ri_tR rfl (ri_eR (sizeN (gtr_x hx)) (ri_eL (trackOf_ok hx) (ri_eL (rw_size hr) (ri_iR (fun d => ri_tL d ?_) fun d => ri_fL d (tn_r h0 thr0 rfl))))))
    have d2 : p < ((thr τ 0).1 j).length := (nI_lti (by omega) (by omega)).mp d
    refine ri_eL (rw_read hr d2) (ri_eL rfl (ri_nL fun y hy => ?_))
    subst hy
    rw [cl_ahead hr d2, mo_ahead hl20 (gtr_x hx) d2]
    exact tn_r h0 thr0 rfl
  · unfold f_X6_ahead_21
    exact ri_eR (mo_st1 ne10 (by decide)) (ri_fR ne10 (tn_l (h.thr 1) thr0))
end L3K
end
section
/-! level 3: work -/
section L3L
variable {σ : CS} {τ : MS}
theorem ok_val {α : Type} {o : Option α} {P : α → Prop} {v : α} (h : Ok o P) (e : o = some v) : P v := by
  obtain ⟨w, e2, hw⟩ := h
  rw [e] at e2
  exact (Option.some.inj e2) ▸ hw
theorem mo_outv (h : RX σ τ) {x b : Int32} {j : Nat} (hj : j < 2) (hx : x = 0 ∧ j = 0 ∨ x = 1 ∧ j = 1) (hl : 0 < (τ.1 j).length) : Ok (f_X6_stepOut τ x b) fun r => r.1 = (τ.1 j).getD (if b = 0 then 0 else (τ.1 j).length - 1) 0 := by
  have hg := gtr_x hx
  have hl20 := len20 h.1 hj
  have m17 : ∀ i, i < (τ.1 j).length → Ok (f_X6_stepOut_17 τ x b x (nI i)) fun r => r.1 = (τ.1 j).getD i 0 := by
    intro i hi
    unfold f_X6_stepOut_17
    refine ok_bind (mo_go hx hg hi (by omega)) fun t1 ht1 => ok_ev (mo_slip ?_ x b 0 t1.1) (ok_some ht1.1)
    rw [ht1.2.1]
    show (va_up τ.1 j _ 2).length ≤ 12
    rw [up_ne (by omega)]; exact len12 h.1
  unfold f_X6_stepOut
  by_cases e : b = 0
  · rw [if_pos e, if_pos e]; exact m17 0 hl
  · rw [if_neg e, if_neg e]
    refine ok_ev (sizeN hg) ?_
    rw [nI_prd (by omega) (by omega)]
    exact m17 _ (by omega)
theorem vt_kind {v : Int32} (h : VT v) : v / 100 = 0 ↔ v = 0 := by
  rcases h with h | h
  · subst h; exact ⟨fun _ => rfl, fun _ => rfl⟩
  · have h1 : (100 : Int32).toInt ≤ v.toInt := Int32.le_iff_toInt_le.mp h.1
    have h100 : (100 : Int32).toInt = 100 := rfl
    have hz : (0 : Int32).toInt = 0 := rfl
    constructor
    · intro e
      have h3 := div_b (x := v) (b := 100) (by omega) (by omega) (Int32.le_iff_toInt_le.mpr (by omega))
      have e2 : (v / nI 100).toInt = 0 := by
        rw [show v / nI 100 = 0 from e]
        rfl
      omega
    · intro e
      rw [e] at h1
      omega
theorem ord_of {o : Int32} (ho : 0 ≤ o ∧ o ≤ 7) : ∃ t f b : Int32, ∃ j j' : Nat, j < 2 ∧ j' < 2 ∧ j' ≠ j ∧ (t = 0 ∧ j = 0 ∨ t = 1 ∧ j = 1) ∧ (1 - t = 0 ∧ j' = 0 ∨ 1 - t = 1 ∧ j' = 1) ∧ o / 4 = t ∧ (f = 0 ∨ f = 1) ∧ (b = 0 ∨ b = 1) ∧ (jrem (o / 2) 2 = 1 ∧ f = 1 ∨ ¬ jrem (o / 2) 2 = 1 ∧ f = 0) ∧ (jrem o 2 = 1 ∧ b = 1 ∨ ¬ jrem o 2 = 1 ∧ b = 0) := by
  obtain ⟨w, hw, rfl⟩ := nIof (b := 7) (by omega) ho.1 ho.2
  rcases (by omega : w = 0 ∨ w = 1 ∨ w = 2 ∨ w = 3 ∨ w = 4 ∨ w = 5 ∨ w = 6 ∨ w = 7) with e | e | e | e | e | e | e | e <;> subst e
  · exact ⟨0, 0, 0, 0, 1, by omega, by omega, by omega, Or.inl ⟨rfl, rfl⟩, Or.inr ⟨rfl, rfl⟩, rfl, Or.inl rfl, Or.inl rfl, Or.inr ⟨by decide, rfl⟩, Or.inr ⟨by decide, rfl⟩⟩
  · exact ⟨0, 0, 1, 0, 1, by omega, by omega, by omega, Or.inl ⟨rfl, rfl⟩, Or.inr ⟨rfl, rfl⟩, rfl, Or.inl rfl, Or.inr rfl, Or.inr ⟨by decide, rfl⟩, Or.inl ⟨by decide, rfl⟩⟩
  · exact ⟨0, 1, 0, 0, 1, by omega, by omega, by omega, Or.inl ⟨rfl, rfl⟩, Or.inr ⟨rfl, rfl⟩, rfl, Or.inr rfl, Or.inl rfl, Or.inl ⟨by decide, rfl⟩, Or.inr ⟨by decide, rfl⟩⟩
  · exact ⟨0, 1, 1, 0, 1, by omega, by omega, by omega, Or.inl ⟨rfl, rfl⟩, Or.inr ⟨rfl, rfl⟩, rfl, Or.inr rfl, Or.inr rfl, Or.inl ⟨by decide, rfl⟩, Or.inl ⟨by decide, rfl⟩⟩
  · exact ⟨1, 0, 0, 1, 0, by omega, by omega, by omega, Or.inr ⟨rfl, rfl⟩, Or.inl ⟨rfl, rfl⟩, rfl, Or.inl rfl, Or.inl rfl, Or.inr ⟨by decide, rfl⟩, Or.inr ⟨by decide, rfl⟩⟩
  · exact ⟨1, 0, 1, 1, 0, by omega, by omega, by omega, Or.inr ⟨rfl, rfl⟩, Or.inl ⟨rfl, rfl⟩, rfl, Or.inl rfl, Or.inr rfl, Or.inr ⟨by decide, rfl⟩, Or.inl ⟨by decide, rfl⟩⟩
  · exact ⟨1, 1, 0, 1, 0, by omega, by omega, by omega, Or.inr ⟨rfl, rfl⟩, Or.inl ⟨rfl, rfl⟩, rfl, Or.inr rfl, Or.inl rfl, Or.inl ⟨by decide, rfl⟩, Or.inr ⟨by decide, rfl⟩⟩
  · exact ⟨1, 1, 1, 1, 0, by omega, by omega, by omega, Or.inr ⟨rfl, rfl⟩, Or.inl ⟨rfl, rfl⟩, rfl, Or.inr rfl, Or.inr rfl, Or.inl ⟨by decide, rfl⟩, Or.inl ⟨by decide, rfl⟩⟩
/-- off one track and on the other -/
theorem off_on (h : RX σ τ) {t f b : Int32} {j j' : Nat} (hj : j < 2) (hj' : j' < 2) (hn : j' ≠ j) (hx : t = 0 ∧ j = 0 ∨ t = 1 ∧ j = 1) (hx' : 1 - t = 0 ∧ j' = 0 ∨ 1 - t = 1 ∧ j' = 1) (hl : 0 < (τ.1 j).length) (hl' : (τ.1 j').length < 20) (hc : j' = 0 → ¬ (τ.1 j).getD (if f = 0 then 0 else (τ.1 j).length - 1) 0 = 0) : Ri ((f_X3_stepOff σ t f).bind fun z11 => (f_X3_stepOn z11.2 (1 - t) b z11.1).bind fun z21 => some z21) ((f_X6_stepOut τ t f).bind fun z5 => (f_X6_stepIn z5.2 (1 - t) b z5.1).bind fun z10 => some ((1 : Int32), z10)) (fun r r2 => r2.1 = 1 ∧ RX r r2.2 ∧ r2.2.2 0 = τ.2 0 ∧ r2.2.1 3 = τ.1 3) := by
  refine ri_bR fun y hy => ?_
  have hv := ok_val (mo_outv h hj hx hl) hy
  obtain ⟨z, ez, e1, tv, hs⟩ := si_out h hj hx hl y hy
  refine ri_eL ez ?_
  have l2 : (y.2.1 j').length < 20 := by rw [hs.2.2.2 j' hn (by omega)]; exact hl'
  have tv2 : TV j' z.1 := ⟨tv.1, fun e => by rw [e1, hv]; exact hc e⟩
  rw [← e1]
  refine ri_call (si_in hs.1 hj' hx' l2 tv2) fun u w hu => ri_some ⟨rfl, hu.1, hu.2.1.trans hs.2.1, ?_⟩
  rw [hu.2.2.2 3 (by omega) (by omega), hs.2.2.2 3 (by omega) (by omega)]
theorem mv_ok (h : RX σ τ) {o : Int32} (ho : 0 ≤ o ∧ o ≤ 7) : (f_X3_canMove σ o = some 0 ∧ f_X6_move τ o = some (0, τ)) ∨ (f_X3_canMove σ o = some 1 ∧ Ri (f_X3_move σ o) (f_X6_move τ o) (fun r r2 => r2.1 = 1 ∧ RX r r2.2 ∧ r2.2.2 0 = τ.2 0 ∧ r2.2.1 3 = τ.1 3)) := by
  obtain ⟨t, f, b, j, j', hj, hj', hn, hx, hx', et, hf, hb, ef, eb⟩ := ord_of ho
  have hr := h.row (i := j) (by omega)
  have hr' := h.row (i := j') (by omega)
  have hl := len20 h.1 hj
  have hl' := len20 h.1 hj'
  have cj : cap j' = 20 := by
    unfold cap
    rw [if_neg (by omega), if_neg (by omega)]
  have em : f_X6_move τ o = f_X6_move_18 τ o t f := by
    unfold f_X6_move
    rw [et]
    show (if jrem (o / 2) 2 = 1 then f_X6_move_18 τ o t 1 else f_X6_move_18 τ o t 0) = _
    rcases ef with ⟨p, q⟩ | ⟨p, q⟩
    · rw [if_pos p, q]
    · rw [if_neg p, q]
  have c1 : f_X3_orderTrack o = some t := by
    unfold f_X3_orderTrack
    rw [et]
  have c2 : f_X3_orderIsFromBack o = some f := by
    unfold f_X3_orderIsFromBack
    rcases ef with ⟨p, q⟩ | ⟨p, q⟩
    · rw [if_pos p, q]
    · rw [if_neg p, q]
  have c3 : f_X3_orderIsToBack o = some b := by
    unfold f_X3_orderIsToBack
    rcases eb with ⟨p, q⟩ | ⟨p, q⟩
    · rw [if_pos p, q]
    · rw [if_neg p, q]
  have ecm : f_X3_canMove σ o = (if (τ.1 j).length = 0 then some 0 else if (τ.1 j').length < 20 then (if 1 - t = 1 then some 1 else (if (τ.1 j).getD (if f = 0 then 0 else (τ.1 j).length - 1) 0 / 100 = 0 then some 0 else some 1)) else some 0) := by
    unfold f_X3_canMove f_X3_canMove_53 f_X3_kindOf
    rw [c1, bsm]
    show (f_X3_trackOf σ t).bind _ = _
    rw [trackOf_ok hx, bsm, rw_isEmpty hr, bsm]
    by_cases d : (τ.1 j).length = 0
    · rw [if_pos d, if_neg ne10, if_pos d]
    · rw [if_neg d, if_pos rfl, if_neg d, trackOf_ok hx', bsm, rw_isFull hr', bsm, cj]
      by_cases d2 : (τ.1 j').length < 20
      · rw [if_pos d2, if_pos rfl, if_pos d2, c2, bsm, codeAtEnd_ok h hj hx f, bsm, if_neg d, bsm]
      · rw [if_neg d2, if_neg ne10, if_neg d2]
  have ecl : f_X3_move σ o = (f_X3_stepOff σ t f).bind fun z11 => (f_X3_stepOn z11.2 (1 - t) b z11.1).bind fun z21 => some z21 := by
    unfold f_X3_move
    rw [c1, bsm, c2, bsm, c3]
    rfl
  rw [ecm, em, ecl]
  unfold f_X6_move_18
  rw [sizeN (gtr_x hx), bsm]
  by_cases d : (τ.1 j).length = 0
  · exact Or.inl ⟨by rw [if_pos d], by rw [if_pos ((nI_eqz (by omega)).mpr d)]⟩
  rw [if_neg d, if_neg (mt (nI_eqz (by omega)).mp d), sizeN (gtr_x hx'), bsm]
  by_cases d2 : (τ.1 j').length < 20
  · have n20 : ¬ nI (τ.1 j').length = 20 := fun q => absurd ((nI_eqi (a := (τ.1 j').length) (b := 20) (by omega) (by omega)).mp q) (by omega)
    rw [if_pos d2, if_neg n20]
    have e59 : (if f = 0 then f_X6_move_59 τ o t f (1 - t) t 0 else (nm (nI (τ.1 j).length) fun z40 => f_X6_move_59 τ o t f (1 - t) t (z40 - 1))) = f_X6_move_59 τ o t f (1 - t) t (nI (if f = 0 then 0 else (τ.1 j).length - 1)) := by
      by_cases e : f = 0
      · rw [if_pos e, if_pos e]; rfl
      · rw [if_neg e, if_neg e, ← nI_prd (by omega) (by omega)]; rfl
    have e59b : (if f = 0 then f_X6_move_59 τ o t f (1 - t) t 0 else ((some (nI (τ.1 j).length)).bind fun z40 => f_X6_move_59 τ o t f (1 - t) t (z40 - 1))) = f_X6_move_59 τ o t f (1 - t) t (nI (if f = 0 then 0 else (τ.1 j).length - 1)) := e59
    rw [e59b]
    have hi : (if f = 0 then 0 else (τ.1 j).length - 1) < (τ.1 j).length := by
      split <;> omega
    unfold f_X6_move_59 f_X6_isBarred
    rw [getN (gtr_x hx) hi hl, bsm]
    have vt : VT ((τ.1 j).getD (if f = 0 then 0 else (τ.1 j).length - 1) 0) := (h.1.2.2.2.tv hj (mem_getD hi)).1
    have good : (j' = 0 → ¬ (τ.1 j).getD (if f = 0 then 0 else (τ.1 j).length - 1) 0 = 0) → Ri ((f_X3_stepOff σ t f).bind fun z11 => (f_X3_stepOn z11.2 (1 - t) b z11.1).bind fun z21 => some z21) (if jrem o 2 = 1 then f_X6_move_86 τ t f (1 - t) 1 else f_X6_move_86 τ t f (1 - t) 0) (fun r r2 => r2.1 = 1 ∧ RX r r2.2 ∧ r2.2.2 0 = τ.2 0 ∧ r2.2.1 3 = τ.1 3) := by
      intro hc
      have g := off_on (b := b) h hj hj' hn hx hx' (by omega) d2 hc
      rcases eb with ⟨p, q⟩ | ⟨p, q⟩
      · rw [if_pos p]; unfold f_X6_move_86; subst q; exact g
      · rw [if_neg p]; unfold f_X6_move_86; subst q; exact g
    by_cases d3 : 1 - t = 0
    · have n1 : ¬ 1 - t = 1 := by rw [d3]; exact fun e => absurd e (by decide)
      rw [if_neg n1, if_pos d3]
      by_cases d4 : (τ.1 j).getD (if f = 0 then 0 else (τ.1 j).length - 1) 0 = 0
      · rw [if_pos ((vt_kind vt).mpr d4), if_pos d4, bsm, if_neg ne10]
        exact Or.inl ⟨rfl, rfl⟩
      · rw [if_neg (mt (vt_kind vt).mp d4), if_neg d4, bsm, if_pos rfl]
        exact Or.inr ⟨rfl, good fun _ => d4⟩
    · have n1 : 1 - t = 1 ∧ ¬ j' = 0 := by
        rcases hx' with q | q
        · exact absurd q.1 d3
        · exact ⟨q.1, by omega⟩
      rw [if_pos n1.1, if_neg d3, bsm, if_pos rfl]
      exact Or.inr ⟨rfl, good fun e => absurd e n1.2⟩
  · have n20 : nI (τ.1 j').length = 20 := by
      rw [show (τ.1 j').length = 20 by omega]; rfl
    rw [if_neg d2, if_pos n20]
    exact Or.inl ⟨rfl, rfl⟩
theorem ag_work (h : RX σ τ) (x1 : Int32) : Ri (f_X3_work σ x1) (f_X6_work τ x1) (TQ C11 σ) := by
  have h0 := h.thr 0
  unfold f_X3_work f_X6_work f_X6_work_16
  refine ri_eR (mo_isIn _ _ _) ?_
  by_cases c : 1 ≤ x1 ∧ x1 ≤ 10
  · rw [if_pos c]
    refine ri_fR ne10 (ri_eR (mo_st0 rfl) (ri_tR rfl (ri_obr (cl_within c) ?_)))
    refine ri_lpn (fun a b => ∃ (s : CS) (t : MS) (n d i : Int32), a = (s, n, d, i) ∧ b = (t, n, d, i) ∧ RX s t ∧ t.2 0 = 0) ?_ 24 64 _ _ (by omega) ⟨σ, thr τ 0, x1, 0, 0, rfl, rfl, h0, thr0⟩
    rintro k1 k2 _ _ ⟨s, t, n, d, i, rfl, rfl, hs, ht⟩ hk
    have hr := hs.row (i := 3) (by omega)
    have hl3 : (t.1 3).length ≤ 10 := hr.2.1
    unfold f_X3_work_11 f_X6_work_29 f_X3_work_72 f_X6_work_94 f_X3_work_66 f_X6_work_88
    dsimp only
    refine ri_iR (fun g => ri_tL g (tq_r hs ht rfl)) fun g => ri_fL g (ri_nR fun y hy => ri_eL (rw_isEmpty hr) ?_)
    subst hy
    by_cases e : (t.1 3).length = 0
    · rw [if_pos e]
      exact ri_fL ne10 (ri_fR ne10 (tq_r hs ht rfl))
    · rw [if_neg e]
      have el : ldel (t.1 3) 0 = some (delAt (t.1 3) 0) := ldelN (i := 0) (by omega) (by omega)
      refine ri_tL rfl (ri_tR rfl (ri_eR el (ri_nR fun t1 et => ri_nR fun o eo => ri_okL (rw_leave hr (j := 0) (by omega)) fun z hz => ri_nL fun s1 es => ?_)))
      have eo : o = (t.1 3).getD 0 0 := eo
      have ho : 0 ≤ o ∧ o ≤ 7 := by rw [eo]; exact hs.1.2.2.2.2.2.2 _ (mem_getD (by omega))
      have ez : z.1 = o := hz.1.trans eo.symm
      have h1 : RX s1 t1 := by
        rw [es, et]
        exact hs.up (i := 3) (by omega) hz.2 (hs.1.2.2.2.orders fun v hv => hs.1.2.2.2.2.2.2 v (mem_del hv))
      have z1 : t1.2 0 = 0 := by rw [et]; exact ht
      have l1 : (t1.1 3).length ≤ 9 := by
        rw [et]
        show (va_up t.1 3 (delAt (t.1 3) 0) 3).length ≤ 9
        rw [up_eq, delAt_len (by omega)]; omega
      rw [ez]
      rcases mv_ok h1 ho with ⟨p, q⟩ | ⟨p, q⟩
      · refine ri_eL p (ri_eR q (ri_tL rfl (ri_tR rfl ?_)))
        have hr1 := h1.row (i := 3) (by omega)
        have hc3 : cap 3 = 10 := rfl
        refine ri_eR (laddN (show (t1.1 3).length ≤ 21 by omega)) (ri_nR fun t2 et2 => ri_okL (rw_enterLast hr1 (by omega)) fun w hw => ri_nL fun s2 es2 => ri_nL fun y1 e1 => ri_nR fun y2 e2 => hk _ _ ⟨s2, t2, n, d, y1, rfl, by rw [e1, e2], ?_, ?_⟩)
        · rw [es2, et2]
          exact h1.up (i := 3) (by omega) hw (h1.1.2.2.2.orders fun v hv => by
            rcases mem_orders hv with q | q
            · exact h1.1.2.2.2.2.2.2 v q
            · rw [q]; exact ho)
        · rw [et2]; exact z1
      · refine ri_eL p (ri_fL ne10 (ri_call q fun u w hu => ri_fR (by rw [hu.1]; exact ne10) (ri_nL fun y1 e1 => ri_nR fun y2 e2 => ri_nL fun y3 e3 => ri_nR fun y4 e4 => hk _ _ ⟨u, w.2, n, y1, y3, rfl, by rw [e1, e2, e3, e4], hu.2.1, hu.2.2.1.trans z1⟩)))
  · rw [if_neg c]
    exact ri_tR rfl (ri_eR (mo_st1 ne10 (by decide)) (ri_fR ne10 (ri_obl (cl_without c) (tq_l (h.thr 1) thr0))))
end L3L
end
section
/-! level 3: a track turned round -/
section L3M
variable {σ : CS} {τ : MS}
theorem uu {α : Type} {f : Nat → α} {i : Nat} {a b : α} : va_up (va_up f i a) i b = va_up f i b := by
  funext k
  by_cases e : k = i
  · subst e; rw [up_eq, up_eq]
  · rw [up_ne e, up_ne e, up_ne e]
theorem us {α : Type} {f : Nat → α} {i : Nat} : va_up f i (f i) = f := by
  funext k
  by_cases e : k = i
  · subst e; rw [up_eq]
  · rw [up_ne e]
theorem getD_set {xs : List Int32} {a q : Nat} {v : Int32} : (xs.set a v).getD q 0 = if a = q ∧ a < xs.length then v else xs.getD q 0 := by
  rw [List.getD_eq_getElem?_getD, List.getD_eq_getElem?_getD, List.getElem?_set]
  by_cases e : a = q
  · subst e
    by_cases c : a < xs.length
    · rw [if_pos rfl, if_pos c, if_pos ⟨rfl, c⟩]; rfl
    · rw [if_pos rfl, if_neg c, if_neg (fun g => c g.2), List.getElem?_eq_none (by omega)]
  · rw [if_neg e, if_neg (fun g => e g.1)]
theorem list_ext0 {xs ys : List Int32} (h : xs.length = ys.length) (h2 : ∀ q, q < xs.length → xs.getD q 0 = ys.getD q 0) : xs = ys := by
  apply List.ext_getElem h
  intro q h3 h4
  have := h2 q h3
  rw [List.getD_eq_getElem?_getD, List.getD_eq_getElem?_getD, List.getElem?_eq_getElem h3, List.getElem?_eq_getElem h4] at this
  exact this
theorem getD_rev {xs : List Int32} {q : Nat} (h : q < xs.length) : xs.reverse.getD q 0 = xs.getD (xs.length - 1 - q) 0 := by
  rw [List.getD_eq_getElem?_getD, List.getD_eq_getElem?_getD, List.getElem?_reverse h]
theorem del_mid (A : List Int32) (v : Int32) (B : List Int32) : delAt (A ++ v :: B) A.length = A ++ B := by
  induction A with
  | nil => rfl
  | cons a A ih =>
    show a :: delAt (A ++ v :: B) A.length = a :: (A ++ B)
    rw [ih]
theorem get_mid (A : List Int32) (v : Int32) (B : List Int32) : (A ++ v :: B).getD A.length 0 = v := by
  induction A with
  | nil => rfl
  | cons a A ih => exact ih
theorem take_snoc {xs : List Int32} {m : Nat} (h : m < xs.length) : xs.take (m + 1) = xs.take m ++ [xs.getD m 0] := by
  rw [List.take_add_one, List.getD_eq_getElem?_getD, List.getElem?_eq_getElem h]
  rfl
def zs (xs : List Int32) (m : Nat) : List Int32 := (xs.take m).reverse ++ xs.drop m
theorem zs_1 {xs : List Int32} (h : 1 ≤ xs.length) : zs xs 1 = xs := by
  cases xs with
  | nil => exact absurd h (by decide)
  | cons a r => rfl
theorem zs_n {xs : List Int32} : zs xs xs.length = xs.reverse := by
  unfold zs
  rw [List.take_length, List.drop_eq_nil_of_le (Nat.le_refl _), List.append_nil]
theorem zs_len {xs : List Int32} {m : Nat} (h : m ≤ xs.length) : (zs xs m).length = xs.length := by
  unfold zs
  rw [List.length_append, List.length_reverse, List.length_take, List.length_drop]
  omega
theorem zs_s {xs : List Int32} {m : Nat} (h : m < xs.length) : (zs xs m).getD m 0 = xs.getD m 0 ∧ insAt (delAt (zs xs m) m) 0 (xs.getD m 0) = zs xs (m + 1) := by
  have hA : (xs.take m).reverse.length = m := by
    rw [List.length_reverse, List.length_take]; omega
  have g := get_mid (xs.take m).reverse (xs.getD m 0) (xs.drop (m + 1))
  have d := del_mid (xs.take m).reverse (xs.getD m 0) (xs.drop (m + 1))
  rw [hA, ← drop_cons h] at g d
  refine ⟨g, ?_⟩
  show xs.getD m 0 :: delAt (zs xs m) m = _
  have d : delAt (zs xs m) m = (xs.take m).reverse ++ xs.drop (m + 1) := d
  rw [d]
  unfold zs
  rw [take_snoc h, List.reverse_append]
  rfl
theorem codeEnd0 {x : Int32} {j : Nat} {ys : List Int32} (hx : x = 0 ∧ j = 0 ∨ x = 1 ∧ j = 1) (hr : RW j (σ.1 j) ys) (hl : 0 < ys.length) : f_X3_codeAtEnd σ x 0 = some (ys.getD 0 0) := by
  unfold f_X3_codeAtEnd
  have e : f_X0_read (cap j) (σ.1 j) 0 = some (ys.getD 0 0) := rw_read hr (j := 0) hl
  rw [trackOf_ok hx, bsm, rw_endPlace hr 0, bsm, if_pos rfl, if_neg (by omega), e]
  rfl
theorem cl_turn {x : Int32} {j : Nat} {xs : List Int32} (hj : j < 2) (hx : x = 0 ∧ j = 0 ∨ x = 1 ∧ j = 1) (hr : RW j (σ.1 j) xs) (hn : 1 ≤ xs.length) : Ok (lpn f_X3_turn_20 64 (σ, x, j, 0, nI xs.length - 1)) fun r => ∃ s ρ, r = .inr (xs.reverse.getD 0 0, s) ∧ RW j ρ xs.reverse ∧ DS j (va_up (va_up σ.1 j ρ) 2 ((va_up σ.1 j ρ 2).1, 0), σ.2) s := by
  have hl := hr.len
  refine up_loop (fun k t => 2 * k ≤ xs.length ∧ ∃ ρ ys, t = ((va_up σ.1 j ρ, σ.2), x, j, nI k, nI (xs.length - k) - 1) ∧ RW j ρ ys ∧ ys.length = xs.length ∧ ∀ q, q < xs.length → ys.getD q 0 = if q < k ∨ xs.length - k ≤ q then xs.getD (xs.length - 1 - q) 0 else xs.getD q 0) xs.length ?_ xs.length 0 _ (by omega) ⟨by omega, σ.1 j, xs, by rw [us]; rfl, hr, rfl, fun q hq => by rw [if_neg (by omega)]⟩ 64 (by omega)
  rintro kk _ k hk2 ⟨h2k, ρ, ys, rfl, hρ, hy, hv⟩ hk
  unfold f_X3_turn_20
  dsimp only
  rw [nI_prd (by omega) (by omega)]
  have hρ2 : RW j (va_up σ.1 j ρ j) ys := by rw [up_eq]; exact hρ
  refine ok_if (fun c => ?_) fun c => ?_
  · have c2 := (nI_lei (by omega) (by omega)).mp c
    have ey : ys = xs.reverse := by
      refine list_ext0 (by rw [hy, List.length_reverse]) fun q hq => ?_
      rw [hv q (by omega), getD_rev (by omega)]
      by_cases d : q < k ∨ xs.length - k ≤ q
      · rw [if_pos d]
      · rw [if_neg d, show xs.length - 1 - q = q by omega]
    have et : f_X3_tearIfAny (va_up σ.1 j ρ, σ.2) x (nI ys.length) = (f_X3_tearFor (va_up σ.1 j ρ, σ.2) x).bind fun z => some z := by
      unfold f_X3_tearIfAny
      rw [if_neg (show ¬ nI ys.length ≤ (0 : Int32) from mt (nI_lei (a := ys.length) (b := 0) (by omega) (by omega)).mp (by omega))]
    refine ok_ev (rw_size hρ2) ?_
    rw [et]
    refine ok_bind (ok_bind (cl_tearFor hx) fun s hs => ok_some (Q := fun s => DS j (va_up (va_up σ.1 j ρ) 2 ((va_up σ.1 j ρ 2).1, 0), σ.2) s) hs) fun s hs => ?_
    have hs1 : s.1 j = ρ := by
      rw [hs.1]
      show va_up (va_up σ.1 j ρ) 2 _ j = ρ
      rw [up_ne (by omega), up_eq]
    refine ok_ev (codeEnd0 (ys := ys) hx (by rw [hs1]; exact hρ) (by omega)) (ok_some ⟨s, ρ, by rw [ey], by rw [← ey]; exact hρ, hs⟩)
  · have c2 : k < xs.length - k - 1 := Nat.lt_of_not_le (mt (nI_lei (by omega) (by omega)).mpr c)
    refine ok_ev (rw_read hρ2 (by omega)) (ok_ev (rw_read hρ2 (by omega)) (ok_bind (rw_overwrite hρ2 (v := ys.getD (xs.length - k - 1) 0) (by omega)) fun z hz => ok_nme fun t1 e1 => ?_))
    have hz2 : RW j (t1.1 j) (ys.set k (ys.getD (xs.length - k - 1) 0)) := by
      rw [e1]
      show RW j (va_up (va_up σ.1 j ρ) j z j) _
      rw [up_eq]; exact hz
    refine ok_bind (rw_overwrite hz2 (v := ys.getD k 0) (j := xs.length - k - 1) (by rw [List.length_set]; omega)) fun w hw => ok_nme fun t2 e2 => ok_nme fun y1 f1 => ok_nme fun y2 f2 => hk _ (by omega) ⟨by omega, w, _, ?_, hw, ?_, fun q hq => ?_⟩
    · rw [e2, e1, f1, f2, nI_suc (by omega), show xs.length - (k + 1) = xs.length - k - 1 by omega, am1]
      show ((va_up (va_up (va_up σ.1 j ρ) j z) j w, σ.2), x, j, nI (k + 1), _) = _
      rw [uu, uu]
    · rw [List.length_set, List.length_set, hy]
    · rw [getD_set, getD_set, List.length_set]
      by_cases d1 : xs.length - k - 1 = q
      · rw [if_pos ⟨d1, by omega⟩, hv k (by omega), if_neg (by omega), if_pos (by omega), show xs.length - 1 - q = k by omega]
      · rw [if_neg (fun g => d1 g.1)]
        by_cases d2 : k = q
        · rw [if_pos ⟨d2, by omega⟩, hv _ (by omega), if_neg (by omega), if_pos (by omega), show xs.length - 1 - q = xs.length - k - 1 by omega]
        · rw [if_neg (fun g => d2 g.1), hv q hq]
          by_cases d3 : q < k ∨ xs.length - k ≤ q
          · rw [if_pos d3, if_pos (by omega)]
          · rw [if_neg d3, if_neg (by omega)]
theorem mo_turn {x : Int32} {j : Nat} (hl : (τ.1 j).length ≤ 20) (hj : j < 2) (hx : x = 0 ∧ j = 0 ∨ x = 1 ∧ j = 1) (hn : 1 ≤ (τ.1 j).length) : Ok (lpn f_X6_turn_28 24 (τ, x, nI (τ.1 j).length, 1)) fun r => ∃ t1, r = ((τ.1 j).reverse.getD 0 0, (va_up t1.1 2 [], t1.2)) ∧ DM j (va_up τ.1 j (τ.1 j).reverse, τ.2) t1 := by
  have hg := gtr_x hx
  refine up24 (fun m t => t = ((va_up τ.1 j (zs (τ.1 j) (m + 1)), τ.2), x, nI (τ.1 j).length, nI (m + 1))) ((τ.1 j).length - 1) (by omega) ?_ (by rw [zs_1 hn, us]; rfl)
  rintro kk _ m hm rfl hk
  unfold f_X6_turn_28
  dsimp only
  refine ok_if (fun c => ?_) fun c => ?_
  · have c2 := (nI_lei (by omega) (by omega)).mp c
    have e : m + 1 = (τ.1 j).length := by omega
    rw [e, zs_n]
    refine ok_bind (mo_chg hx) fun t1 ht => ok_ev mo_tear ?_
    have hl2 : va_up t1.1 2 [] j = (τ.1 j).reverse := by
      rw [up_ne (by omega), ht.1]
      show va_up τ.1 j _ j = _
      rw [up_eq]
    have eg : f_X6_get (va_up t1.1 2 [], t1.2) x 0 = some ((τ.1 j).reverse.getD 0 0) := by
      have := getN (τ := (va_up t1.1 2 [], t1.2)) (x := x) (j := j) (i := 0) hg (by
        show 0 < (va_up t1.1 2 [] j).length
        rw [hl2, List.length_reverse]; exact hn) (by
        show (va_up t1.1 2 [] j).length ≤ 20
        rw [hl2, List.length_reverse]; exact hl)
      have e2 : (va_up t1.1 2 [], t1.2).1 j = (τ.1 j).reverse := hl2
      rw [e2] at this
      exact this
    exact ok_ev eg (ok_some ⟨t1, rfl, ht⟩)
  · have c2 : m + 1 < (τ.1 j).length := Nat.lt_of_not_le (mt (nI_lei (by omega) (by omega)).mpr c)
    have hz := zs_s c2
    have lz := zs_len (xs := τ.1 j) (m := m + 1) (by omega)
    have ed : ldel (va_up τ.1 j (zs (τ.1 j) (m + 1)) j) (nI (m + 1)) = some (delAt (zs (τ.1 j) (m + 1)) (m + 1)) := by
      rw [up_eq]
      exact ldelN (by omega) (by omega)
    refine ok_ev hg (ok_ev hg (ok_ev ed (ok_nme fun t1 e1 => ?_)))
    have l1 : t1.1 j = delAt (zs (τ.1 j) (m + 1)) (m + 1) := by
      rw [e1]
      show va_up _ j _ j = _
      rw [up_eq]
    have ei : lins (t1.1 j) 0 (((va_up τ.1 j (zs (τ.1 j) (m + 1)) j).getD (nI (m + 1)).toNatClampNeg 0)) = some (zs (τ.1 j) (m + 1 + 1)) := by
      rw [l1, up_eq, nI_c (by omega), hz.1, ← hz.2]
      exact linsN (i := 0) (by omega) (by rw [delAt_len (by omega)]; omega)
    refine ok_ev ei (ok_nme fun t2 e2 => ok_nme fun y hy => hk _ (by omega) ?_)
    rw [e2, e1, hy, nI_suc (by omega)]
    show ((va_up (va_up (va_up τ.1 j _) j _) j _, τ.2), x, _, _) = _
    rw [uu, uu]
theorem ag_turn (h : RX σ τ) (x1 : Int32) : Ri (f_X3_turn σ x1) (f_X6_turn τ x1) (TQ C1 σ) := by
  unfold f_X3_turn f_X6_turn
  refine gd_track (fun j hj hx => ri_tR rfl ?_) (ri_fR ne10 (tq_l (h.thr 1) thr0))
  have h0 := h.thr 0
  have hr := h.row (i := j) (by omega)
  have hl := hr.len
  refine ri_eL (trackOf_ok hx) (ri_eL (rw_size hr) (ri_nL fun y hy => ri_eR (sizeN (gtr_x hx)) ?_))
  subst hy
  by_cases c : (τ.1 j).length = 0
  · refine ri_tR ((nI_eqz (a := (τ.1 j).length) (by omega)).mpr c) ?_
    show Ri (f_X3_turn_20 (lpn f_X3_turn_20 63) (σ, x1, j, 0, nI (τ.1 j).length - 1)) _ _
    unfold f_X3_turn_20
    dsimp only
    have et : f_X3_tearIfAny σ x1 (nI (τ.1 j).length) = some σ := by
      unfold f_X3_tearIfAny
      rw [c, if_pos (by decide)]
    have ec : f_X3_codeAtEnd σ x1 0 = some 0 := by rw [codeAtEnd_ok h hj hx 0, if_pos c]
    exact ri_tL (by rw [c]; decide) (ri_eL (rw_size hr) (ri_eL et (ri_eL ec (tq_r h0 thr0 rfl))))
  · refine ri_fR (mt (nI_eqz (a := (τ.1 j).length) (by omega)).mp c) ?_
    intro r2 e2
    obtain ⟨t1, er, ht⟩ := ok_val (mo_turn (τ := thr τ 0) (len20 h0.1 hj) hj hx (show 1 ≤ (τ.1 j).length by omega)) e2
    refine ok_mono (cl_turn hj hx hr (by omega)) fun r hr2 => ?_
    obtain ⟨s, ρ, es, hρ, hs⟩ := hr2
    have te := tear_rx (τ := thr τ 0) h0 hj hρ (h0.1.2.2.2.track hj fun v hv => h0.1.2.2.2.tv hj (List.mem_reverse.mp hv)) hs ht
    have key := tq_r (C := C1) (σ := σ) (u := (τ.1 j).reverse.getD 0 0) te.1 (te.2.1.trans thr0) rfl r2 (by rw [er]; rfl)
    obtain ⟨w, ew, hw⟩ := key
    rw [es, Option.some.inj ew]
    exact hw
end L3M
end
