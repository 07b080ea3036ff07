/-! level 3: the line by its places; what is told -/
section L3G
variable {σ : CS} {τ : MS}
theorem cl_place {x m : Int32} (h : 0 ≤ x ∧ x ≤ m) : f_X3_needPlace x m = some (.inr ()) := by
  unfold f_X3_needPlace
  rw [if_neg (Int32.not_lt.mpr h.1), if_pos h.2]
theorem cl_noplace {x m : Int32} (h : ¬ (0 ≤ x ∧ x ≤ m)) : f_X3_needPlace x m = some (.inl 0) := by
  unfold f_X3_needPlace
  by_cases c : x < 0
  · rw [if_pos c]
  · rw [if_neg c, if_neg (fun d => h ⟨Int32.not_lt.mp c, d⟩)]
theorem mo_noPlace (x : Int32) : f_X6_isNoPlace τ x = some (if 0 ≤ x ∧ x ≤ 19 then 0 else 1) := by
  unfold f_X6_isNoPlace
  rw [mo_isIn, bsm]
  by_cases c : 0 ≤ x ∧ x ≤ 19
  · rw [if_pos c, if_pos c, if_neg ne10]
  · rw [if_neg c, if_neg c, if_pos rfl]
theorem up_comm {f : Nat → List Int32} {i j : Nat} {a b : List Int32} (h : i ≠ j) : va_up (va_up f i a) j b = va_up (va_up f j b) i a := by
  funext q
  by_cases e1 : q = i
  · subst e1
    rw [up_ne h, up_eq, up_eq]
  · by_cases e2 : q = j
    · subst e2
      rw [up_eq, up_ne e1, up_eq]
    · rw [up_ne e2, up_ne e1, up_ne e1, up_ne e2]
theorem tear_rx2 {r : CS} {t1 : MS} {j : Nat} {ρ : RS} {xs : List Int32} (h : RX σ τ) (hj : j < 2) (hr : RW j ρ xs) (hv : VC (va_up τ.1 j xs, τ.2)) (h3 : DS j (va_up (va_up σ.1 j ρ) 2 ((va_up σ.1 j ρ 2).1, 0), σ.2) r) (ht : DM j (va_up (va_up τ.1 2 []) j xs, τ.2) t1) : RX r t1 ∧ t1.2 0 = τ.2 0 := by
  have y1 : RY (va_up σ.1 j ρ, σ.2) (va_up τ.1 j xs, τ.2) := h.1.up (by omega) hr hv
  have y2 : RY (va_up (va_up σ.1 j ρ) 2 ((va_up σ.1 j ρ 2).1, 0), σ.2) (va_up (va_up τ.1 j xs) 2 [], τ.2) := y1.up (by omega) rw_empty (hv.slips (xs := []) fun w hw => by cases hw)
  rw [up_comm (by omega)] at ht
  have hw : WR (va_up (va_up σ.1 j ρ) 2 ((va_up σ.1 j ρ 2).1, 0), σ.2) (va_up (va_up τ.1 j xs) 2 [], τ.2) := h.2
  refine ⟨y2.dist hj (fun _ => hw) h3 ht, ?_⟩
  rcases (by omega : j = 0 ∨ j = 1) with e | e <;> subst e
  · exact ((ht.2.1 rfl).2.2.2) 0 (by omega) (by omega) (by omega)
  · exact ((ht.2.2 rfl).2.2) 0 (by omega) (by omega)
theorem x11 : (1 : Int32) = 0 ∧ 1 = 0 ∨ (1 : Int32) = 1 ∧ 1 = 1 := Or.inr ⟨rfl, rfl⟩
theorem TV1 {v : Int32} (h : VT v) : TV 1 v := ⟨h, fun e => absurd e (by omega)⟩
theorem ag_insert (h : RX σ τ) (x1 x2 x3 : Int32) : Ri (f_X3_insert σ x1 x2 x3) (f_X6_insert τ x1 x2 x3) (TQ C3 σ) := by
  have hr := h.row (i := 1) (by omega)
  have hl := hr.len
  have h0 := h.thr 0
  unfold f_X3_insert f_X6_insert f_X6_insert_16
  refine ri_eR (mo_isIn _ _ _) ?_
  by_cases c : 0 ≤ x1 ∧ x1 ≤ 20
  · rw [if_pos c]
    refine ri_fR ne10 (ri_eR (mo_st0 rfl) (ri_tR rfl (ri_obr (cl_place c) (ri_eR (mo_noPiece _ _) ?_))))
    refine gd_ref (e := 1) thr0 (by decide) (pc_cases x2 x3) (fun hp => ri_tR rfl (ri_eR (sizeN (j := 1) rfl) ?_)) (ri_fR ne10 (by rw [thr_thr]; exact tq_l (h.thr 2) thr0))
    obtain ⟨i, hi, rfl⟩ := nIof (b := 20) (by omega) c.1 c.2
    have e1n : (1 : Int32) = nI 1 := rfl
    have ls : ((thr τ 0).1 1).length = (τ.1 1).length := rfl
    rcases room_cases h (j := 1) (by omega) x11 (n := 1) (by omega) with ⟨r1, r2⟩ | ⟨r1, r2⟩
    · have nq : ¬ nI ((thr τ 0).1 1).length = 20 := by
        rw [ls]
        exact fun q => absurd ((nI_eqi (b := 20) (by omega) (by omega)).mp q) (by omega)
      refine ri_fR nq (ri_obr (v := ()) r2 ?_)
      unfold f_X6_insert_52
      refine ri_eR (mo_ref0 thr0 rfl) (ri_tR rfl (ri_eR (sizeN (j := 1) rfl) (ri_eL (rw_size hr) (ri_iR (fun d => ri_tL d ?_) fun d => ri_fL d (tq_r h0 thr0 rfl)))))
      have d : nI i ≤ nI (τ.1 1).length := d
      have d2 := (nI_lei (by omega) (by omega)).mp d
      refine ri_eR (mo_code _ _) (ri_eL (cl_code _ _) (ri_okR (mo_come (τ := thr τ 0) x11 rfl (show i ≤ ((thr τ 0).1 1).length from d2) (show ((thr τ 0).1 1).length ≤ 21 by omega)) fun t1 ht1 => ri_eR mo_tear (ri_okL (rw_enter hr d2 (by rw [cap01 (by omega)]; omega)) fun w hw => ri_nL fun q1 e1 => ?_)))
      subst e1
      refine ri_okL (cl_tearFor x11) fun r hr3 => ?_
      have te := tear_rx (τ := thr τ 0) h0 (j := 1) (by omega) hw (h0.1.2.2.2.ins (by omega) (TV1 (pcd hp).1)) hr3 ht1
      exact ri_eL (rw_size (te.1.row (i := 1) (by omega))) (ri_eR (sizeN (j := 1) rfl) (tq_r te.1 (te.2.1.trans thr0) rfl))
    · have nq : nI ((thr τ 0).1 1).length = 20 := by
        rw [ls, show (τ.1 1).length = 20 by omega]
        rfl
      refine ri_tR nq (ri_obl (k := 2) r2 ?_)
      unfold f_X6_insert_52
      refine ri_eR (mo_ref1 thr0 ne10 (by decide)) (ri_fR ne10 ?_)
      rw [thr_thr]
      exact tq_l (h.thr 3) thr0
  · rw [if_neg c]
    exact ri_tR rfl (ri_eR (mo_st1 ne10 (by decide)) (ri_fR ne10 (ri_obl (cl_noplace c) (tq_l (h.thr 1) thr0))))
theorem ag_cut (h : RX σ τ) (x1 : Int32) : Ri (f_X3_cut σ x1) (f_X6_cut τ x1) (TQ C1 σ) := by
  have hr := h.row (i := 1) (by omega)
  have hl := hr.len
  have h0 := h.thr 0
  have ls : ((thr τ 0).1 1).length = (τ.1 1).length := rfl
  unfold f_X3_cut f_X6_cut
  refine ri_eR (mo_noPlace _) ?_
  by_cases c : 0 ≤ x1 ∧ x1 ≤ 19
  · rw [if_pos c]
    refine ri_eR (mo_st0 rfl) (ri_tR rfl (ri_obr (cl_place c) (ri_eR (sizeN (j := 1) rfl) (ri_eL (rw_size hr) (ri_iR (fun d => ri_tL d ?_) fun d => ri_fL d (tq_r h0 thr0 rfl))))))
    obtain ⟨i, hi, rfl⟩ := nIof (b := 19) (by omega) c.1 c.2
    have d : nI i < nI (τ.1 1).length := d
    have d2 := (nI_lti (by omega) (by omega)).mp d
    have l2 : (va_up (thr τ 0).1 2 ([] : List Int32)) 1 = τ.1 1 := up_ne (by omega)
    refine ri_eR mo_tear (ri_okR (mo_go (τ := (va_up (thr τ 0).1 2 [], (thr τ 0).2)) x11 rfl (i := i) (by show i < (va_up (thr τ 0).1 2 ([] : List Int32) 1).length; rw [l2]; exact d2) (by show (va_up (thr τ 0).1 2 ([] : List Int32) 1).length ≤ 21; rw [l2]; omega)) fun t1 ht1 => ri_okL (rw_leave hr d2) fun w hw => ri_nL fun q1 e1 => ?_)
    subst e1
    refine ri_okL (cl_tearFor x11) fun r hr3 => ?_
    have ht := ht1.2
    have e2 : t1.1 = (τ.1 1).getD i 0 := by
      rw [ht1.1]
      show (va_up (thr τ 0).1 2 ([] : List Int32) 1).getD i 0 = _
      rw [l2]
    have ht : DM 1 (va_up (va_up (thr τ 0).1 2 []) 1 (delAt (τ.1 1) i), (thr τ 0).2) t1.2 := by
      have q := ht
      rw [show (va_up (thr τ 0).1 2 ([] : List Int32), (thr τ 0).2).1 1 = τ.1 1 from l2] at q
      exact q
    have te := tear_rx2 (τ := thr τ 0) h0 (j := 1) (by omega) hw.2 (h0.1.2.2.2.del (by omega)) hr3 ht
    exact tq_r te.1 (te.2.trans thr0) (hw.1.trans e2.symm)
  · rw [if_neg c]
    exact ri_eR (mo_st1 ne10 (by decide)) (ri_fR ne10 (ri_obl (cl_noplace c) (tq_l (h.thr 1) thr0)))
theorem lsetN {xs : List Int32} {i : Nat} {v : Int32} (hi : i < xs.length) (h : xs.length < 2147483648) : lset xs (nI i) v = some (xs.set i v) := by
  unfold lset
  rw [nI_c (by omega), if_neg]
  rintro (h1 | h1)
  · exact nI_nn (by omega) h1
  · omega
theorem lay_rx (h : RX σ τ) {i : Nat} {v : Int32} (hi : i < (τ.1 1).length) (hv : VT v) : Ok (f_X3_layAnew σ (nI i) v) fun r => RX r (va_up (va_up τ.1 1 ((τ.1 1).set i v)) 2 [], τ.2) ∧ r.2 = σ.2 := by
  have hr := h.row (i := 1) (by omega)
  unfold f_X3_layAnew
  refine ok_bind (rw_overwrite hr (v := v) hi) fun w hw => ok_nme fun t1 e1 => ok_ev (v := ((t1.1 2).1, 0)) rfl (ok_nme fun t2 e2 => ok_some ?_)
  subst e1
  subst e2
  have hx := h.up (i := 1) (by omega) hw (h.1.2.2.2.set (by omega) (TV1 hv))
  exact ⟨hx.up (i := 2) (by omega) rw_empty (hx.1.2.2.2.slips (xs := []) fun w hw => by cases hw), rfl⟩
theorem ag_replace (h : RX σ τ) (x1 x2 x3 : Int32) : Ri (f_X3_replace σ x1 x2 x3) (f_X6_replace τ x1 x2 x3) (TQ C2 σ) := by
  have hr := h.row (i := 1) (by omega)
  have hl := hr.len
  have h0 := h.thr 0
  unfold f_X3_replace f_X6_replace
  refine ri_eR (mo_noPlace _) ?_
  by_cases c : 0 ≤ x1 ∧ x1 ≤ 19
  · rw [if_pos c]
    refine ri_eR (mo_st0 rfl) (ri_tR rfl (ri_obr (cl_place c) (ri_eR (mo_noPiece _ _) ?_)))
    refine gd_ref (e := 1) thr0 (by decide) (pc_cases x2 x3) (fun hp => ri_tR rfl (ri_eR (sizeN (j := 1) rfl) (ri_eL (rw_size hr) (ri_iR (fun d => ri_tL d ?_) fun d => ri_fL d (tq_r h0 thr0 rfl))))) (ri_fR ne10 (by rw [thr_thr]; exact tq_l (h.thr 2) thr0))
    obtain ⟨i, hi, rfl⟩ := nIof (b := 19) (by omega) c.1 c.2
    have d : nI i < nI (τ.1 1).length := d
    have d2 := (nI_lti (by omega) (by omega)).mp d
    have l2 : (va_up (thr τ 0).1 2 ([] : List Int32)) 1 = τ.1 1 := up_ne (by omega)
    refine ri_eR mo_tear (ri_eR (v := 1) rfl (ri_eR (mo_code _ _) (ri_eR (lsetN (xs := va_up (thr τ 0).1 2 ([] : List Int32) 1) (i := i) (by rw [l2]; exact d2) (by rw [l2]; omega)) (ri_nR fun t ht => ?_))))
    refine ri_eL (rw_read hr d2) (ri_eL (cl_code _ _) (ri_okL (lay_rx h0 (i := i) d2 (pcd hp).1) fun r hr3 => ?_))
    have et : t = (va_up (va_up (thr τ 0).1 1 (((thr τ 0).1 1).set i (cd x2 x3))) 2 [], (thr τ 0).2) := by
      rw [ht]
      show (va_up (va_up (thr τ 0).1 2 []) 1 ((va_up (thr τ 0).1 2 ([] : List Int32) 1).set i (cd x2 x3)), (thr τ 0).2) = _
      rw [l2, up_comm (by omega)]
      rfl
    refine tq_r (by rw [et]; exact hr3.1) (by rw [et]; exact thr0 (τ := τ) (v := 0)) ?_
    show _ = (va_up (thr τ 0).1 2 ([] : List Int32) 1).getD (nI i).toNatClampNeg 0
    rw [l2, nI_c (by omega)]
  · rw [if_neg c]
    exact ri_eR (mo_st1 ne10 (by decide)) (ri_fR ne10 (ri_obl (cl_noplace c) (tq_l (h.thr 1) thr0)))
theorem ag_at (h : RX σ τ) (x1 : Int32) : Ri (f_X3_at σ x1) (f_X6_at τ x1) (TN C1 σ) := by
  have hr := h.row (i := 1) (by omega)
  have hl := hr.len
  have h0 := h.thr 0
  unfold f_X3_at f_X6_at
  refine ri_eR (mo_noPlace _) ?_
  by_cases c : 0 ≤ x1 ∧ x1 ≤ 19
  · rw [if_pos c]
    refine ri_eR (mo_st0 rfl) (ri_tR rfl (ri_obr (cl_place c) (ri_eR (sizeN (j := 1) rfl) (ri_eL (rw_size hr) (ri_iR (fun d => ri_fL (Int32.not_le.mpr d) ?_) fun d => ri_tL (Int32.not_lt.mp d) (tn_r h0 thr0 rfl))))))
    obtain ⟨i, hi, rfl⟩ := nIof (b := 19) (by omega) c.1 c.2
    have d : nI i < nI (τ.1 1).length := d
    have d2 := (nI_lti (by omega) (by omega)).mp d
    exact ri_eR (getN (j := 1) (τ := thr τ 0) rfl d2 hl) (ri_eL (rw_read hr d2) (tn_r h0 thr0 rfl))
  · rw [if_neg c]
    exact ri_eR (mo_st1 ne10 (by decide)) (ri_fR ne10 (ri_obl (cl_noplace c) (tn_l (h.thr 1) thr0)))
theorem ag_find (h : RX σ τ) (x1 x2 : Int32) : Ri (f_X3_find σ x1 x2) (f_X6_find τ x1 x2) (TN C11 σ) := by
  have hr := h.row (i := 1) (by omega)
  have h0 := h.thr 0
  unfold f_X3_find f_X6_find f_X6_find_16
  refine ri_eR (mo_isIn _ _ _) ?_
  by_cases c : 0 ≤ x1 ∧ x1 ≤ 9
  · rw [if_pos c]
    exact ri_fR ne10 (ri_eR (mo_st0 rfl) (ri_tR rfl (ri_obr (cl_within c) (ri_eL (rw_placeOfKind hr x1 x2) (ri_eR (mo_found (τ := thr τ 0) (j := 1) rfl hr.len x1 x2) (tn_r h0 thr0 rfl))))))
  · rw [if_neg c]
    exact ri_tR rfl (ri_eR (mo_st1 ne10 (by decide)) (ri_fR ne10 (ri_obl (cl_without c) (tn_l (h.thr 1) thr0))))
/-! orders -/
theorem mem_orders {xs : List Int32} {v w : Int32} (h : w ∈ xs ++ [v]) : w ∈ xs ∨ w = v := by
  rcases List.mem_append.mp h with q | q
  · exact Or.inl q
  · exact Or.inr (List.mem_singleton.mp q)
theorem laddN {xs : List Int32} {v : Int32} (h : xs.length ≤ 21) : ladd xs v = some (xs ++ [v]) := by
  unfold ladd
  rw [if_neg (by omega)]
theorem ag_order (h : RX σ τ) (x1 : Int32) : Ri (f_X3_order σ x1) (f_X6_order τ x1) (TQ C12 σ) := by
  have hr := h.row (i := 3) (by omega)
  have hl := hr.len
  have h0 := h.thr 0
  have hc3 : cap 3 = 10 := rfl
  have hl3 : (τ.1 3).length ≤ 10 := hr.2.1
  unfold f_X3_order f_X6_order f_X6_order_16
  refine ri_eR (mo_isIn _ _ _) ?_
  by_cases c : 0 ≤ x1 ∧ x1 ≤ 7
  · rw [if_pos c]
    refine ri_fR ne10 (ri_eR (mo_st0 rfl) (ri_tR rfl (ri_obr (cl_within c) (ri_eL (rw_isFull hr) ?_))))
    by_cases d : (τ.1 3).length < cap 3
    · rw [if_pos d]
      have nq : ¬ nI ((thr τ 0).1 3).length = 10 := fun q => absurd ((nI_eqi (a := (τ.1 3).length) (b := 10) (by omega) (by omega)).mp q) (by omega)
      refine ri_tL rfl (ri_fR nq ?_)
      unfold f_X6_order_41
      refine ri_eR (mo_ref0 thr0 rfl) (ri_tR rfl (ri_eR (laddN (xs := (thr τ 0).1 3) (show (τ.1 3).length ≤ 21 by omega)) (ri_nR fun t ht => ri_okL (rw_enterLast hr (v := x1) d) fun w hw => ri_nL fun r er => ?_)))
      have hx : RX r t := by
        rw [er, ht]
        exact h0.up (i := 3) (by omega) hw (h0.1.2.2.2.orders fun v hv => by
          rcases mem_orders hv with q | q
          · exact h.1.2.2.2.2.2.2 v q
          · rw [q]; exact c)
      have hr3 := hx.row (i := 3) (by omega)
      exact ri_eL (rw_size hr3) (tq_r hx (by rw [ht]; exact thr0 (τ := τ) (v := 0)) rfl)
    · rw [if_neg d]
      have nq : nI ((thr τ 0).1 3).length = 10 := by
        show nI (τ.1 3).length = 10
        rw [show (τ.1 3).length = 10 by omega]
        rfl
      refine ri_fL ne10 (ri_tR nq ?_)
      unfold f_X6_order_41
      refine ri_eR (mo_ref1 thr0 ne10 (by decide)) (ri_fR ne10 ?_)
      rw [thr_thr]
      exact tq_l (h.thr 2) thr0
  · rw [if_neg c]
    exact ri_tR rfl (ri_eR (mo_st1 ne10 (by decide)) (ri_fR ne10 (ri_obl (cl_without c) (tq_l (h.thr 1) thr0))))
theorem mo_cancel {s : MS} (hl : (s.1 3).length ≤ 20) (x1 x2 : Int32) : Ok (lpn f_X6_cancel_30 24 (s, x1, x2, -1, 0)) fun r => (fnG (tSame x1) x2 (s.1 3) 0 (-1) = -1 → r = (0, s)) ∧ ∀ i, i < (s.1 3).length → fnG (tSame x1) x2 (s.1 3) 0 (-1) = nI i → r = (1, (va_up s.1 3 (delAt (s.1 3) i), s.2)) := by
  refine up24 (fun m t => t.1 = s ∧ t.2.1 = x1 ∧ t.2.2.1 = x2 ∧ t.2.2.2.2 = nI m ∧ fnG (tSame x1) x2 ((s.1 3).drop m) m t.2.2.2.1 = fnG (tSame x1) x2 (s.1 3) 0 (-1)) (s.1 3).length (by omega) ?_ ⟨rfl, rfl, rfl, rfl, rfl⟩
  rintro kk ⟨s2, v1, v2, v3, v4⟩ m hm ⟨a0, a1, a2, a3, a4⟩ hk
  dsimp only at a0 a1 a2 a3 a4
  subst a0 a1 a2 a3
  unfold f_X6_cancel_30
  dsimp only
  refine ok_if (fun c => ?_) fun c => ?_
  · have c2 := (nI_lei (by omega) (by omega)).mp c
    rw [List.drop_eq_nil_of_le (by omega)] at a4
    have a4 : v3 = fnG (tSame v1) v2 (s2.1 3) 0 (-1) := a4
    refine ok_if (fun d => ok_some ⟨fun _ => rfl, fun i hi e => ?_⟩) fun d => ?_
    · rw [← a4, d] at e
      exact absurd e.symm (nI_n1 (by omega))
    · have hp := fnG_place (tSame v1) v2 (s2.1 3) 0 (-1) (s2.1 3).length (by omega) (Or.inl rfl)
      rw [← a4] at hp
      obtain ⟨i, hi, e⟩ := hp.resolve_left d
      rw [← a4, e]
      refine ok_ev (ldelN hi (by omega)) (ok_nme fun t ht => ok_some ⟨fun q => absurd q (nI_n1 (by omega)), fun i2 hi2 e2 => ?_⟩)
      have := (nI_eqi (by omega) (by omega)).mp e2
      subst this
      rw [ht]
  · have c2 : m < (s2.1 3).length := Nat.lt_of_not_le (mt (nI_lei (by omega) (by omega)).mpr c)
    rw [drop_cons c2, fnG_cons] at a4
    have m73 : ∀ w, fnG (tSame v1) v2 ((s2.1 3).drop (m + 1)) (m + 1) w = fnG (tSame v1) v2 (s2.1 3) 0 (-1) → Ok (f_X6_cancel_73 kk s2 v1 v2 w (nI m)) fun r => (fnG (tSame v1) v2 (s2.1 3) 0 (-1) = -1 → r = (0, s2)) ∧ ∀ i, i < (s2.1 3).length → fnG (tSame v1) v2 (s2.1 3) 0 (-1) = nI i → r = (1, (va_up s2.1 3 (delAt (s2.1 3) i), s2.2)) := by
      intro w hw
      unfold f_X6_cancel_73
      exact ok_nme fun y hy => hk _ c2 ⟨rfl, rfl, rfl, by rw [hy]; exact nI_suc (by omega), hw⟩
    refine ok_ev (lgetN c2 (by omega)) ?_
    unfold f_X6_cancel_70
    by_cases q : (s2.1 3).getD m 0 = v1
    · have e : tSame v1 ((s2.1 3).getD m 0) = true := decide_eq_true q
      rw [if_pos e] at a4
      refine ok_t q (ok_if (fun q2 => ?_) fun q2 => ?_)
      · rw [if_pos q2] at a4
        refine ok_if (fun q3 => ?_) fun q3 => ?_
        · rw [if_pos q3] at a4; exact m73 _ a4
        · rw [if_neg q3] at a4; exact m73 _ a4
      · rw [if_neg q2] at a4; exact m73 _ a4
    · have e : ¬ tSame v1 ((s2.1 3).getD m 0) = true := by
        intro e
        exact q (of_decide_eq_true e)
      rw [if_neg e] at a4
      exact ok_f q (m73 _ a4)
theorem ag_cancel (h : RX σ τ) (x1 x2 : Int32) : Ri (f_X3_cancel σ x1 x2) (f_X6_cancel τ x1 x2) (TQ C11 σ) := by
  have hr := h.row (i := 3) (by omega)
  have hl := hr.len
  have h0 := h.thr 0
  unfold f_X3_cancel f_X6_cancel f_X6_cancel_16
  refine ri_eR (mo_isIn _ _ _) ?_
  by_cases c : 0 ≤ x1 ∧ x1 ≤ 7
  · rw [if_pos c]
    refine ri_fR ne10 (ri_eR (mo_st0 rfl) (ri_tR rfl (ri_obr (cl_within c) (ri_eL (rw_placeOf hr x1 x2) ?_))))
    obtain ⟨y, ey, hy1, hy2⟩ := mo_cancel (s := thr τ 0) hl x1 x2
    intro r2 er2
    have er2 : lpn f_X6_cancel_30 24 (thr τ 0, x1, x2, -1, 0) = some r2 := er2
    rw [ey] at er2
    cases er2
    have hy1 : fnG (tSame x1) x2 (τ.1 3) 0 (-1) = -1 → y = (0, thr τ 0) := hy1
    by_cases d : fnG (tSame x1) x2 (τ.1 3) 0 (-1) = -1
    · rw [if_pos d, hy1 d]
      exact tq_r h0 thr0 rfl _ rfl
    · rw [if_neg d]
      have hp := fnG_place (tSame x1) x2 (τ.1 3) 0 (-1) (τ.1 3).length (by omega) (Or.inl rfl)
      obtain ⟨i, hi, e⟩ := hp.resolve_left d
      rw [hy2 i hi e, e]
      refine ok_bind (rw_leave hr hi) fun w hw => ok_nme fun r er => ?_
      have hx : RX r (va_up (thr τ 0).1 3 (delAt (τ.1 3) i), (thr τ 0).2) := by
        rw [er]
        exact h0.up (i := 3) (by omega) hw.2 (h0.1.2.2.2.orders fun v hv => h.1.2.2.2.2.2.2 v (mem_del hv))
      exact tq_r (C := C11) (σ := σ) hx (thr0 (τ := τ) (v := 0)) rfl _ rfl
  · rw [if_neg c]
    exact ri_tR rfl (ri_eR (mo_st1 ne10 (by decide)) (ri_fR ne10 (ri_obl (cl_without c) (tq_l (h.thr 1) thr0))))
theorem ag_knock (h : RX σ τ) : Ri (f_X3_knock σ) (f_X6_knock τ) UQ := by
  unfold f_X3_knock f_X6_knock
  refine ri_nL fun r er => ri_nR fun t1 h1 => ri_nR fun t2 h2 => ri_some ?_
  obtain ⟨l1, e1, o1⟩ := up_sc h1
  obtain ⟨l2, e2, o2⟩ := up_sc h2
  have r1 : r.1 = σ.1 := by rw [er]
  have r20 : r.2 0 = σ.2 0 + 1 := by rw [er]; show va_up σ.2 0 (σ.2 0 + 1) 0 = _; exact up_eq
  have r2q : ∀ q, q ≠ 0 → r.2 q = σ.2 q := fun q hq => by rw [er]; show va_up σ.2 0 (σ.2 0 + 1) q = _; exact up_ne hq
  have t4 : t2.2 4 = τ.2 4 + 1 := by rw [e2, o1 4 (by omega)]
  have t2q : ∀ q, q ≠ 0 → q ≠ 4 → t2.2 q = τ.2 q := fun q h0 h4 => (o2 q h4).trans (o1 q h0)
  refine ⟨?_, h.1.cg (fun i _ => by rw [r1]) (l2.trans l1) (fun q p1 p2 => ?_) ?_, ?_⟩
  · rw [r20, t4, h.1.2.2.1]
  · rw [r2q q (by omega), t2q q (by omega) (by omega)]; exact h.1.2.1 q p1 p2
  · rw [r20, t4, h.1.2.2.1]
  · unfold WR
    rw [r2q 1 (by omega), r2q 2 (by omega), r2q 3 (by omega), r2q 4 (by omega), t2q 1 (by omega) (by omega), t2q 2 (by omega) (by omega), t2q 3 (by omega) (by omega)]
    exact h.2
end L3G
