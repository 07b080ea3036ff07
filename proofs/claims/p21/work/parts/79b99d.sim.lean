/-! level 3: facts of the yard, comparing, heaviest, ahead -/
section L3K
variable {σ : CS} {τ : MS}
theorem cl_way (h : RX σ τ) : f_X3_wayOfWalk σ = some (τ.2 1) := by
  unfold f_X3_wayOfWalk
  rcases h.2 with ⟨w1, w2, -, -⟩ | ⟨w1, w2 | w2, -⟩
  · rw [if_pos w1, w2]
  · rw [if_neg (by rw [w1]; exact ne10), if_pos w2.1, w2.2]
  · rw [if_neg (by rw [w1]; exact ne10), if_neg (by rw [w2.1]; exact ne10), w2.2]
theorem ri_last {i : Nat} (hr : RW i (σ.1 i) (τ.1 i)) : Ri ((f_X0_isEmpty (cap i) (σ.1 i)).bind fun z20 => (if z20 = 0 then (f_X0_endPlace (cap i) (σ.1 i) 1).bind fun z26 => (f_X0_read (cap i) (σ.1 i) z26).bind fun z31 => some (z31) else some ((-1)))) (nm (if (τ.1 i).length = 0 then 1 else 0 : Int32) fun y28 => (if y28 = 0 then (lget (τ.1 i) ((nI (τ.1 i).length) - 1)).bind fun z38 => some (z38) else some ((-1)))) (fun a b => a = b) := by
  have hl := hr.len
  refine ri_eL (rw_isEmpty hr) (ri_nR fun y hy => ?_)
  subst hy
  by_cases c : (τ.1 i).length = 0
  · rw [if_pos c]
    exact ri_fL ne10 (ri_fR ne10 (ri_some rfl))
  · rw [if_neg c]
    have e1 : f_X0_endPlace (cap i) (σ.1 i) 1 = some (nI ((τ.1 i).length - 1)) := by rw [rw_endPlace hr 1, if_neg ne10, nI_prd (by omega) (by omega)]
    have e2 : lget (τ.1 i) (nI (τ.1 i).length - 1) = some ((τ.1 i).getD ((τ.1 i).length - 1) 0) := by
      rw [nI_prd (by omega) (by omega)]
      exact lgetN (by omega) (by omega)
    exact ri_tL rfl (ri_tR rfl (ri_eL e1 (ri_eL (rw_read hr (by omega)) (ri_eR e2 (ri_some rfl)))))
theorem ri_told (h : RX σ τ) (x : Int32) : Ri (f_X3_factOfYard σ x) (f_X6_yardTold τ x) (fun a b => a = b) := by
  have hr3 := h.row (i := 3) (by omega)
  have hr2 := h.row (i := 2) (by omega)
  have hr0 := h.row (i := 0) (by omega)
  have hl3 := hr3.len
  have hl2 := hr2.len
  unfold f_X3_factOfYard f_X6_yardTold
  by_cases c0 : x = nI 0
  · rw [if_pos c0, if_pos c0]
    exact ri_eL (rw_size hr3) (ri_some rfl)
  rw [if_neg c0, if_neg c0]
  by_cases c1 : x = nI 1
  · rw [if_pos c1, if_pos c1]
    refine ri_eL (rw_isEmpty hr3) (ri_nR fun y hy => ?_)
    subst hy
    by_cases c : (τ.1 3).length = 0
    · rw [if_pos c]
      exact ri_fL ne10 (ri_fR ne10 (ri_some rfl))
    · rw [if_neg c]
      have e1 : f_X0_read (cap 3) (σ.1 3) 0 = some ((τ.1 3).getD 0 0) := rw_read hr3 (j := 0) (by omega)
      have e2 : lget (τ.1 3) 0 = some ((τ.1 3).getD 0 0) := lgetN (i := 0) (by omega) (by omega)
      exact ri_tL rfl (ri_tR rfl (ri_eL e1 (ri_eR e2 (ri_some rfl))))
  rw [if_neg c1, if_neg c1]
  by_cases c2 : x = nI 2
  · rw [if_pos c2, if_pos c2]
    exact ri_last hr3
  rw [if_neg c2, if_neg c2]
  by_cases c3 : x = nI 3
  · rw [if_pos c3, if_pos c3]
    exact ri_eL (rw_size hr2) (ri_some rfl)
  rw [if_neg c3, if_neg c3]
  by_cases c4 : x = nI 4
  · rw [if_pos c4, if_pos c4]
    exact ri_last hr2
  rw [if_neg c4, if_neg c4]
  by_cases c5 : x = nI 5
  · rw [if_pos c5, if_pos c5]
    exact ri_eL (cl_way h) (ri_some rfl)
  rw [if_neg c5, if_neg c5]
  by_cases c6 : x = nI 6
  · rw [if_pos c6, if_pos c6]
    obtain ⟨b, hb, e1, e2, -⟩ := hasNext_ok h
    refine ri_eL (rw_size hr0) (ri_eL e1 (ri_eR e2 (ri_eR (mo_one b) ?_)))
    unfold f_X3_oneIf
    rcases hb with hb | hb
    · subst hb
      rw [if_pos rfl, if_pos rfl]
      exact ri_eL rfl (ri_some rfl)
    · subst hb
      rw [if_neg ne10, if_neg ne10]
      exact ri_eL rfl (ri_some rfl)
  rw [if_neg c6, if_neg c6]
  exact ri_some h.1.2.2.1
theorem ag_yard (h : RX σ τ) (x1 : Int32) : Ri (f_X3_yard σ x1) (f_X6_yard τ x1) (TN C11 σ) := by
  have h0 := h.thr 0
  unfold f_X3_yard f_X6_yard f_X6_yard_16
  refine ri_eR (mo_isIn _ _ _) ?_
  by_cases c : 0 ≤ x1 ∧ x1 ≤ 7
  · rw [if_pos c]
    exact ri_fR ne10 (ri_eR (mo_st0 rfl) (ri_tR rfl (ri_obr (cl_within c) (ri_call (ri_told h0 x1) fun u v e => tn_r h0 thr0 e))))
  · rw [if_neg c]
    exact ri_tR rfl (ri_eR (mo_st1 ne10 (by decide)) (ri_fR ne10 (ri_obl (cl_without c) (tn_l (h.thr 1) thr0))))
/-! comparing -/
theorem ri_none {α β : Type} {o : Option α} {Q : α → β → Prop} : Ri o none Q := fun r e => by cases e
theorem ri_cmp0 (h : RX σ τ) : Ri (f_X3_isSidingAmongLine σ) (f_X6_compared τ 0) (fun a b => a = b) := by
  have hr0 := h.row (i := 0) (by omega)
  have hr1 := h.row (i := 1) (by omega)
  have hl0 := hr0.len
  have hl1 := hr1.len
  unfold f_X3_isSidingAmongLine f_X6_compared f_X6_compared_19
  rw [if_pos rfl]
  refine ri_lpn (fun t p => ∃ m, m ≤ (τ.1 0).length ∧ t = nI m ∧ p = (0, nI m)) ?_ 24 64 _ _ (by omega) ⟨0, by omega, rfl, rfl⟩
  rintro k1 k2 _ _ ⟨m, hm, rfl, rfl⟩ hk
  unfold f_X3_isSidingAmongLine_2 f_X6_compared_21 f_X6_compared_73
  dsimp only
  refine ri_eR (sizeN (j := 0) rfl) (ri_eL (rw_size hr0) (ri_iR (fun c => ri_tL c (ri_some rfl)) fun c => ri_fL c ?_))
  have c2 : m < (τ.1 0).length := Nat.lt_of_not_le (mt (nI_lei (by omega) (by omega)).mpr c)
  have q : f_X3_isLikeOneOf σ 1 ((τ.1 0).getD m 0) = some (if fnG (tKind ((τ.1 0).getD m 0 / 100)) 0 (τ.1 1) 0 (-1) = -1 then 0 else 1) := by
    unfold f_X3_isLikeOneOf f_X3_kindOf
    rw [bsm, rw_placeOfKind hr1, bsm]
    split <;> rfl
  refine ri_eL (rw_read hr0 c2) (ri_eL q (ri_eR (getN (j := 0) rfl c2 hl0) (ri_eR (v := (τ.1 0).getD m 0 / 100) rfl (ri_tR rfl (ri_eR (mo_found (j := 1) rfl hl1 _ _) ?_)))))
  by_cases d : fnG (tKind ((τ.1 0).getD m 0 / 100)) 0 (τ.1 1) 0 (-1) = -1
  · rw [if_pos d]
    exact ri_tL rfl (ri_tR d (ri_some rfl))
  · rw [if_neg d]
    exact ri_fL ne10 (ri_fR d (ri_nL fun y hy => ri_nR fun y2 hy2 => hk _ _ ⟨m + 1, by omega, by rw [hy]; exact nI_suc (by omega), by rw [hy2, nI_suc (by omega)]⟩))
theorem ri_cmp1 (h : RX σ τ) {x : Int32} (hx : ¬ x = 0) : Ri (f_X3_isSameAllAlong σ) (f_X6_compared τ x) (fun a b => a = b) := by
  have hr0 := h.row (i := 0) (by omega)
  have hr1 := h.row (i := 1) (by omega)
  have hl0 := hr0.len
  have hl1 := hr1.len
  unfold f_X3_isSameAllAlong f_X6_compared f_X6_compared_19
  rw [if_neg hx]
  refine ri_eR (sizeN (j := 0) rfl) (ri_eR (sizeN (j := 1) rfl) (ri_eL (rw_size hr0) (ri_eL (rw_size hr1) (ri_iR (fun e => ri_tL e ?_) fun e => ri_fL e (ri_some rfl)))))
  have e2 : (τ.1 0).length = (τ.1 1).length := (nI_eqi (by omega) (by omega)).mp e
  refine ri_lpn (fun t p => ∃ m, m ≤ (τ.1 0).length ∧ t = nI m ∧ p = (x, nI m)) ?_ 24 64 _ _ (by omega) ⟨0, by omega, rfl, rfl⟩
  rintro k1 k2 _ _ ⟨m, hm, rfl, rfl⟩ hk
  unfold f_X3_isSameAllAlong_21 f_X6_compared_21 f_X6_compared_73 f_X3_kindOf f_X6_kind
  dsimp only
  refine ri_eR (sizeN (j := 0) rfl) (ri_eL (rw_size hr1) (ri_iR (fun c => ri_tL (e ▸ c) (ri_some rfl)) fun c => ri_fL (e ▸ c) ?_))
  have c2 : m < (τ.1 0).length := Nat.lt_of_not_le (mt (nI_lei (by omega) (by omega)).mpr c)
  refine ri_eL (rw_read hr0 c2) (ri_eL rfl (ri_eL (rw_read hr1 (by omega)) (ri_eL rfl (ri_eR (getN (j := 0) rfl c2 hl0) (ri_eR rfl (ri_fR hx (ri_eR (getN (j := 1) rfl (by omega) hl1) (ri_eR rfl ?_))))))))
  exact ri_iR (fun d => ri_tL d.symm (ri_nL fun y hy => ri_nR fun y2 hy2 => hk _ _ ⟨m + 1, by omega, by rw [hy]; exact nI_suc (by omega), by rw [hy2, nI_suc (by omega)]⟩)) fun d => ri_fL (fun g => d g.symm) (ri_some rfl)
theorem ag_compare (h : RX σ τ) (x1 : Int32) : Ri (f_X3_compare σ x1) (f_X6_compare τ x1) (fun r r2 => r = r2.1 ∧ RX σ r2.2 ∧ r2.2.2 0 = 0) := by
  have h0 := h.thr 0
  unfold f_X3_compare f_X6_compare
  refine ri_nR fun t ht => ?_
  have ht : t = thr τ 0 := ht
  subst ht
  by_cases c : x1 = 0
  · subst c
    exact ri_tL rfl (ri_call (ri_cmp0 h0) fun u v e => by
      subst e
      exact ri_iR (fun g => ri_tL g (ri_some ⟨rfl, h0, thr0⟩)) fun _ => ri_none)
  · exact ri_fL c (ri_call (ri_cmp1 h0 c) fun u v e => by
      subst e
      exact ri_iR (fun g => ri_tL g (ri_some ⟨rfl, h0, thr0⟩)) fun _ => ri_none)
/-! a track and a place -/
theorem gd_tp {α : Type} {x p : Int32} {F : Unit → Option (Nat ⊕ α)} {A : Int32 → Option (Int32 × MS)} {Q : Nat ⊕ α → Int32 × MS → Prop} (h0 : ∀ j, j < 2 → (x = 0 ∧ j = 0 ∨ x = 1 ∧ j = 1) → (0 ≤ p ∧ p ≤ 19) → Ri (F ()) (A 0) Q) (h1 : Ri (some (.inl 0)) (A 1) Q) : Ri (obx (f_X3_needTrack x) fun _ => obx (f_X3_needPlace p 19) F) ((f_X6_isNoTrack x).bind fun z => if z = 0 then (f_X6_isNoPlace τ p).bind fun z2 => if z2 = 0 then A 0 else A 1 else A 1) Q := by
  by_cases c : x = 0 ∨ x = 1
  · obtain ⟨j, hj, hx⟩ := tk_ok c
    refine ri_obr (cl_track c) (ri_eR (mo_noTrack x) ?_)
    rw [if_pos c]
    refine ri_tR rfl (ri_eR (mo_noPlace p) ?_)
    by_cases d : 0 ≤ p ∧ p ≤ 19
    · rw [if_pos d]
      exact ri_tR rfl (ri_obr (cl_place d) (h0 j hj hx d))
    · rw [if_neg d]
      exact ri_fR ne10 (ri_obl (cl_noplace d) h1)
  · refine ri_obl (cl_notrack c) (ri_eR (mo_noTrack x) ?_)
    rw [if_neg c]
    exact ri_fR ne10 h1
theorem ag_heaviest (h : RX σ τ) (x1 x2 x3 : Int32) : Ri (f_X3_heaviest σ x1 x2 x3) (f_X6_heaviest τ x1 x2 x3) (TN C2 σ) := by
  have h0 := h.thr 0
  unfold f_X3_heaviest f_X6_heaviest f_X6_heaviest_16
  refine gd_tp (A := f_X6_heaviest_21 τ x1 x2 x3) (fun j hj hx hp => ?_) ?_
  · unfold f_X6_heaviest_21 f_X6_heaviest_44
    refine ri_eR (mo_st0 rfl) (ri_tR rfl (ri_eR (mo_isIn _ _ _) ?_))
    by_cases c : 1 ≤ x2 ∧ x2 ≤ 20
    · rw [if_pos c]
      obtain ⟨p, hp19, rfl⟩ := nIof (b := 19) (by omega) hp.1 hp.2
      obtain ⟨n, hn20, rfl⟩ := nIof (b := 20) (x := x2) (by omega) (Int32.le_trans (by decide) c.1) c.2
      have hr := h0.row (i := j) (by omega)
      have hl := hr.len
      have hl20 := len20 h0.1 hj
      refine ri_fR ne10 (ri_eR (mo_ref0 thr0 rfl) (ri_tR rfl (ri_obr (cl_within c) (ri_eL (trackOf_ok hx) (ri_eL (rw_size hr) (ri_eR (sizeN (gtr_x hx)) ?_))))))
      rw [nI_sum (by omega)]
      refine ri_iR (fun d => ri_tL d ?_) fun d => ri_fL d (tn_r h0 thr0 rfl)
      have d2 : p + n ≤ ((thr τ 0).1 j).length := (nI_lei (by omega) (by omega)).mp d
      refine ri_lpn (fun t s => ∃ m mx, m ≤ n ∧ t = (nI n, nI p, j, mx, nI m) ∧ s = (thr τ 0, x1, nI n, nI p, mx, nI m)) ?_ 24 64 _ _ (by omega) ⟨0, 0, by omega, rfl, rfl⟩
      rintro k1 k2 _ _ ⟨m, mx, hm, rfl, rfl⟩ hk
      unfold f_X3_heaviest_43 f_X6_heaviest_72 f_X3_loadOf f_X6_load
      dsimp only
      refine ri_iR (fun g => ri_tL g (tn_r h0 thr0 rfl)) fun g => ri_fL g ?_
      have g2 : m < n := Nat.lt_of_not_le (mt (nI_lei (by omega) (by omega)).mpr g)
      rw [nI_sum (by omega)]
      refine ri_eR (getN (gtr_x hx) (by omega) hl20) (ri_eR rfl (ri_eL (rw_read hr (by omega)) (ri_eL rfl (ri_nL fun y1 e1 => ri_nL fun y2 e2 => ri_nR fun y3 e3 => ri_nR fun y4 e4 => hk _ _ ⟨m + 1, y1, by omega, ?_, ?_⟩))))
      · rw [e2, nI_suc (by omega)]
      · rw [e4, nI_suc (by omega), e3, e1]
    · rw [if_neg c]
      refine ri_tR rfl (ri_eR (mo_ref1 thr0 ne10 (by decide)) (ri_fR ne10 (ri_obl (cl_without c) ?_)))
      rw [thr_thr]
      exact tn_l (h.thr 2) thr0
  · unfold f_X6_heaviest_21
    exact ri_eR (mo_st1 ne10 (by decide)) (ri_fR ne10 (tn_l (h.thr 1) thr0))
/-! ahead -/
def gl (L : Int32) (xs : List Int32) : Nat → Int32
  | 0 => -1
  | n + 1 => if jrem (xs.getD n 0) 100 ≤ L then gl L xs n else nI n
theorem gl_s {L : Int32} {xs : List Int32} {n : Nat} : gl L xs (n + 1) = if jrem (xs.getD n 0) 100 ≤ L then gl L xs n else nI n := rfl
theorem am1 (a : Int32) : a + (-1) = a - 1 := (Int32.sub_eq_add_neg a 1).symm
theorem cl_ahead {j p : Nat} {L : Int32} {xs : List Int32} (hr : RW j (σ.1 j) xs) (hp : p < xs.length) : lpn (f_X3_ahead_42 σ) 64 (j, L, nI p - 1) = some (.inr (gl L xs p)) := by
  have hl := hr.len
  have key : Ok (lpn (f_X3_ahead_42 σ) 64 (j, L, nI p - 1)) fun r => r = .inr (gl L xs p) := by
    refine up_loop (fun m t => t = (j, L, nI (p - m) - 1) ∧ gl L xs (p - m) = gl L xs p) p ?_ p 0 _ (by omega) ⟨rfl, rfl⟩ 64 (by omega)
    rintro kk _ m hm ⟨rfl, a⟩ hk
    unfold f_X3_ahead_42 f_X3_loadOf
    dsimp only
    by_cases c : p - m = 0
    · refine ok_t (by rw [c]; decide) (ok_some ?_)
      rw [← a, c]; rfl
    · obtain ⟨q, hq⟩ : ∃ q, p - m = q + 1 := ⟨p - m - 1, by omega⟩
      rw [hq, nI_prd (by omega) (by omega)]
      rw [hq, gl_s] at a
      show Ok (if nI q < 0 then _ else _) _
      refine ok_f (nI_nn (by omega)) (ok_ev (rw_read hr (j := q) (by omega)) (ok_ev rfl (ok_if (fun d => ok_nme fun y hy => ?_) fun d => ok_some ?_)))
      · rw [if_pos d] at a
        exact hk _ (by omega) ⟨by rw [hy, show p - (m + 1) = q by omega, am1]; rfl, by rw [show p - (m + 1) = q by omega]; exact a⟩
      · rw [if_neg d] at a
        rw [← a]; rfl
  obtain ⟨r, e, hr⟩ := key
  rw [e, hr]
theorem mo_ahead {x : Int32} {j p : Nat} (hl : (τ.1 j).length ≤ 20) (hg : gtr x = some j) (hp : p < (τ.1 j).length) : lpn (f_X6_ahead_47) 24 (τ, x, nI p, (-1), 0) = some (gl (jrem ((τ.1 j).getD p 0) 100) (τ.1 j) p, τ) := by
  have key : Ok (lpn (f_X6_ahead_47) 24 (τ, x, nI p, (-1), 0)) fun r => r = (gl (jrem ((τ.1 j).getD p 0) 100) (τ.1 j) p, τ) := by
    refine up24 (fun m t => t = (τ, x, nI p, gl (jrem ((τ.1 j).getD p 0) 100) (τ.1 j) m, nI m)) p (by omega) ?_ rfl
    rintro kk _ m hm rfl hk
    unfold f_X6_ahead_47 f_X6_ahead_78 f_X6_load
    dsimp only
    refine ok_if (fun c => ok_some ?_) fun c => ?_
    · have c2 := (nI_lei (by omega) (by omega)).mp c
      rw [show m = p by omega]
    · have c2 : m < p := Nat.lt_of_not_le (mt (nI_lei (by omega) (by omega)).mpr c)
      refine ok_ev (getN hg (by omega) hl) (ok_ev rfl (ok_ev (getN hg hp hl) (ok_ev rfl (ok_if (fun d => ok_nme fun y hy => hk _ c2 ?_) fun d => ok_nme fun y hy => hk _ c2 ?_))))
      · rw [hy, nI_suc (by omega), gl_s, if_pos d]
      · rw [hy, nI_suc (by omega), gl_s, if_neg d]
  obtain ⟨r, e, hr⟩ := key
  rw [e, hr]
theorem ag_ahead (h : RX σ τ) (x1 x2 : Int32) : Ri (f_X3_ahead σ x1 x2) (f_X6_ahead τ x1 x2) (TN C1 σ) := by
  have h0 := h.thr 0
  unfold f_X3_ahead f_X6_ahead f_X6_ahead_16
  refine gd_tp (A := f_X6_ahead_21 τ x1 x2) (fun j hj hx hp => ?_) ?_
  · unfold f_X6_ahead_21
    obtain ⟨p, hp19, rfl⟩ := nIof (b := 19) (by omega) hp.1 hp.2
    have hr := h0.row (i := j) (by omega)
    have hl := hr.len
    have hl20 := len20 h0.1 hj
    refine ri_eR (mo_st0 rfl) (ri_tR rfl (ri_eR (sizeN (gtr_x hx)) (ri_eL (trackOf_ok hx) (ri_eL (rw_size hr) (ri_iR (fun d => ri_tL d ?_) fun d => ri_fL d (tn_r h0 thr0 rfl))))))
    have d2 : p < ((thr τ 0).1 j).length := (nI_lti (by omega) (by omega)).mp d
    refine ri_eL (rw_read hr d2) (ri_eL rfl (ri_nL fun y hy => ?_))
    subst hy
    rw [cl_ahead hr d2, mo_ahead hl20 (gtr_x hx) d2]
    exact tn_r h0 thr0 rfl
  · unfold f_X6_ahead_21
    exact ri_eR (mo_st1 ne10 (by decide)) (ri_fR ne10 (tn_l (h.thr 1) thr0))
end L3K
