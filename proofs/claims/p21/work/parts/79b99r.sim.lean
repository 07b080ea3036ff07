/-! level 3: nested -/
section L3Y
variable {σ : CS} {τ : MS}
theorem snoc_get {xs : List Int32} {v : Int32} {q : Nat} (h : q < xs.length) : (xs ++ [v]).getD q 0 = xs.getD q 0 := by
  rw [List.getD_eq_getElem?_getD, List.getD_eq_getElem?_getD, List.getElem?_append_left h]
theorem rw_leaveN {i : Nat} {ρ : RS} {x : Int32} (hx : x < 0) : f_X0_leave (cap i) ρ x = some (0, ρ) := by
  unfold f_X0_leave
  rw [if_pos hx]
/-- what the open brackets leave of the yard -/
def NQ (σ : CS) (τ : MS) (r : Int32 × CS) (r2 : Int32 × MS) : Prop := r.1 = r2.1 ∧ (∀ i, i ≠ 6 → r.2.1 i = σ.1 i) ∧ r.2.2 = σ.2 ∧ r2.2 = τ
def NJ (σ : CS) (w : CS) (L : List Int32) (g : Nat → Int32) (k : Nat) : Prop := L.length ≤ k ∧ RW 6 (w.1 6) L ∧ (∀ q, q < L.length → g q = L.getD q 0) ∧ (∀ i, i ≠ 6 → w.1 i = σ.1 i) ∧ w.2 = σ.2
theorem ne_most (h : RX σ τ) {x1 : Int32} {j : Nat} (hj : j < 2) (hx : x1 = 0 ∧ j = 0 ∨ x1 = 1 ∧ j = 1) : Ri (f_X3_mostOpen σ x1) (f_X6_nestedNow τ x1) (NQ σ τ) := by
  have hl := len20 h.1 hj
  have hr := h.row (i := j) (by omega)
  have c6 : cap 6 = 20 := rfl
  unfold f_X3_mostOpen f_X6_nestedNow
  refine ri_eL (trackOf_ok hx) (ri_eL (v := ((σ.1 6).1, 0)) rfl (ri_nL fun t0 ht0 => ri_fR (by decide) (ri_nR fun n hn => ri_nR fun g0 hg0 => ?_)))
  have hn : n = 21 := hn
  subst hn
  refine ri_lpn (fun s t => ∃ (k : Nat) (L : List Int32) (w : CS) (g : Nat → Int32) (mo : Int32), k ≤ (τ.1 j).length ∧ s = (w, j, mo, nI k) ∧ t = (τ, x1, 21, g, nI L.length, mo, nI k) ∧ NJ σ w L g k) ?_ 24 64 _ _ (by omega) ⟨0, [], t0, g0, 0, Nat.zero_le _, rfl, rfl, Nat.le_refl _, ?_, fun q hq => absurd hq (Nat.not_lt_zero q), fun i hi => ?_, ?_⟩
  · rintro k1 k2 _ _ ⟨k, L, w, g, mo, hk20, rfl, rfl, a1, a2, a3, a4, a5⟩ hk
    unfold f_X3_mostOpen_18 f_X6_nestedNow_13
    dsimp only
    have hrw : RW j (w.1 j) (τ.1 j) := by rw [a4 j (by omega)]; exact hr
    refine ri_eL (rw_size hrw) (ri_eR (sizeN (gtr_x hx)) (ri_iR (fun c => ri_tL c ?_) fun c => ri_fL c ?_))
    · refine ri_eL (rw_isEmpty a2) ?_
      by_cases e : L.length = 0
      · rw [if_pos e]
        exact ri_fL ne10 (ri_tR ((nI_eqz (by omega)).mpr e) (ri_some ⟨rfl, a4, a5, rfl⟩))
      · rw [if_neg e]
        exact ri_tL rfl (ri_fR (mt (nI_eqz (by omega)).mp e) (ri_some ⟨rfl, a4, a5, rfl⟩))
    · have c2 : k < (τ.1 j).length := Nat.lt_of_not_le (mt (nI_lei (by omega) (by omega)).mpr c)
      have hv := h.1.2.2.2.tv hj (mem_getD c2)
      refine ri_eL (rw_read hrw c2) (ri_eR (getN (gtr_x hx) c2 hl) (ri_eL (v := (τ.1 j).getD k 0 / 100) rfl (ri_eR (v := (τ.1 j).getD k 0 / 100) rfl ?_)))
      have q := dv100 hv.1.rng.1 hv.1.rng.2
      obtain ⟨κ, hκ, eκ⟩ := nIof (b := 9) (by omega) q.1 q.2
      rw [eκ]
      have hj2 : jrem (nI κ) 2 = nI (κ % 2) := jremN (b := 2) (by omega) (by omega) (by omega)
      rw [hj2]
      have skip : Ri (f_X3_mostOpen_100 k1 w j mo (nI k)) (f_X6_nestedNow_98 k2 τ x1 21 g (nI L.length) mo (nI k)) (NQ σ τ) := by
        unfold f_X3_mostOpen_100 f_X6_nestedNow_98
        refine ri_nR fun a ha => ri_nL fun d hd => ?_
        rw [ha, hd, nI_suc (by omega)]
        exact hk _ _ ⟨k + 1, L, w, g, mo, by omega, rfl, rfl, by omega, a2, a3, a4, a5⟩
      unfold f_X3_mostOpen_77
      rw [hj2]
      have k0 : (nI κ = 0 ↔ κ = 0) := nI_eqz (by omega)
      have k9 : (nI κ = 9 ↔ κ = 9) := nI_eqi (b := 9) (by omega) (by omega)
      have kg : (9 ≤ nI κ ↔ 9 ≤ κ) := nI_lei (a := 9) (by omega) (by omega)
      have m1 : (nI (κ % 2) = 1 ↔ κ % 2 = 1) := nI_eqi (b := 1) (by omega) (by omega)
      have m0 : (nI (κ % 2) = 0 ↔ κ % 2 = 0) := nI_eqz (by omega)
      by_cases e0 : κ = 0
      · exact ri_fL (mt m1.mp (by omega)) (ri_tL (m0.mpr (by omega)) (ri_tL (k0.mpr e0) (ri_tR (k0.mpr e0) skip)))
      by_cases e9 : κ = 9
      · exact ri_tL (m1.mpr (by omega)) (ri_tL (kg.mpr (by omega)) (ri_fL (mt m0.mp (by omega)) (ri_fR (mt k0.mp e0) (ri_tR (k9.mpr e9) skip))))
      by_cases eo : κ % 2 = 1
      · refine ri_tL (m1.mpr eo) (ri_fL (mt kg.mp (by omega)) (ri_fR (mt k0.mp e0) (ri_fR (mt k9.mp e9) (ri_tR (m1.mpr eo) ?_))))
        refine ri_fR (arr_iN (by omega) (by omega)) (ri_nR fun g1 hg1 => ri_nR fun y1 h1 => ri_nR fun y2 h2 => ?_)
        refine ri_okL (rw_enterLast a2 (v := nI κ) (by omega)) fun z hz => ri_nL fun t1 e1 => ?_
        subst e1
        have hz2 : RW 6 (va_up w.1 6 z 6) (L ++ [nI κ]) := by rw [up_eq]; exact hz
        have ll : (L ++ [nI κ]).length = L.length + 1 := List.length_append
        refine ri_eL (rw_size hz2) (ri_nL fun y3 h3 => ?_)
        rw [nI_c (by omega)] at hg1
        have ey : y2 = y3 := by rw [h2, h3, h1, ll, nI_suc (by omega)]
        unfold f_X3_mostOpen_100 f_X6_nestedNow_98
        refine ri_nR fun a ha => ri_nL fun d hd => ?_
        rw [ha, hd, nI_suc (by omega), ey, h1, nI_suc (by omega), ← ll]
        refine hk _ _ ⟨k + 1, L ++ [nI κ], _, g1, y3, by omega, rfl, rfl, by omega, hz2, fun p hp => ?_, fun i hi => ?_, a5⟩
        · rw [hg1, upd_at]
          by_cases e : p = L.length
          · rw [if_pos e, e]; exact (get_mid L (nI κ) []).symm
          · rw [if_neg e, snoc_get (by omega)]; exact a3 p (by omega)
        · show va_up w.1 6 z i = _
          rw [up_ne hi]; exact a4 i hi
      · have ed : nI κ - 1 = nI (κ - 1) := nI_prd (by omega) (by omega)
        refine ri_fL (mt m1.mp eo) (ri_tL (m0.mpr (by omega)) (ri_fL (mt k0.mp e0) (ri_fR (mt k0.mp e0) (ri_fR (mt k9.mp e9) (ri_fR (mt m1.mp eo) ?_)))))
        unfold f_X3_closedBy
        rw [rw_endPlace a2 1, bsm, if_neg ne10, ed]
        by_cases el : L.length = 0
        · refine ri_tR ((nI_eqz (by omega)).mpr el) ?_
          have e1 : nI L.length - 1 = -1 := by rw [el]; rfl
          rw [e1, rw_leaveN (by decide), bsm]
          show Ri (Option.bind (if (0 : Int32) = nI (κ - 1) then some (1, (va_up w.1 6 (w.1 6), w.2)) else some (0, (va_up w.1 6 (w.1 6), w.2))) _) _ _
          rw [if_neg (fun q => absurd ((nI_eqz (a := κ - 1) (by omega)).mp q.symm) (by omega)), bsm, us]
          exact ri_tL rfl (ri_some ⟨rfl, a4, a5, rfl⟩)
        · refine ri_fR (mt (nI_eqz (by omega)).mp el) ?_
          rw [nI_prd (by omega) (by omega)]
          refine ri_fR (arr_iN (by omega) (by omega)) ?_
          rw [nI_c (by omega)]
          have eg := a3 (L.length - 1) (by omega)
          obtain ⟨z, ez, hz1, hz2⟩ := rw_leave a2 (j := L.length - 1) (by omega)
          rw [ez, bsm, hz1]
          have hz3 : RW 6 (va_up w.1 6 z.2 6) (delAt L (L.length - 1)) := by rw [up_eq]; exact hz2
          have ll : (delAt L (L.length - 1)).length = L.length - 1 := delAt_len (by omega)
          have hw : ∀ i, i ≠ 6 → va_up w.1 6 z.2 i = σ.1 i := fun i hi => by rw [up_ne hi]; exact a4 i hi
          show Ri (Option.bind (if L.getD (L.length - 1) 0 = nI (κ - 1) then some (1, (va_up w.1 6 z.2, w.2)) else some (0, (va_up w.1 6 z.2, w.2))) _) _ _
          by_cases em : L.getD (L.length - 1) 0 = nI (κ - 1)
          · rw [if_pos em, bsm]
            refine ri_fL ne10 (ri_tR (eg.trans em) (ri_nR fun y hy => ?_))
            unfold f_X3_mostOpen_100 f_X6_nestedNow_98
            refine ri_nR fun a ha => ri_nL fun d hd => ?_
            rw [ha, hd, hy, nI_suc (by omega), nI_prd2 (by omega) (by omega), ← ll]
            refine hk _ _ ⟨k + 1, delAt L (L.length - 1), _, g, mo, by omega, rfl, rfl, by omega, hz3, fun p hp => ?_, hw, a5⟩
            rw [delAt_get (by omega), if_pos (by omega)]
            exact a3 p (by omega)
          · rw [if_neg em, bsm]
            exact ri_tL rfl (ri_fR (fun q => em (eg.symm.trans q)) (ri_some ⟨rfl, hw, a5, rfl⟩))
  · rw [ht0]
    show RW 6 (va_up σ.1 6 ((σ.1 6).1, 0) 6) []
    rw [up_eq]; exact rw_empty
  · rw [ht0]
    exact up_ne hi
  · rw [ht0]
theorem RX.same {w : CS} (h : RX σ τ) (e1 : ∀ i, i < 4 → w.1 i = σ.1 i) (e2 : w.2 = σ.2) : RX w τ := by
  refine ⟨h.1.cg e1 rfl (fun q q1 q2 => ?_) ?_, ?_⟩
  · rw [e2]; exact h.1.2.1 q q1 q2
  · rw [e2]; exact h.1.2.2.1
  · unfold WR
    rw [e2]; exact h.2
theorem ag_nested (h : RX σ τ) (x1 : Int32) : Ri (f_X3_nested σ x1) (f_X6_nested τ x1) (TQ C1 σ) := by
  unfold f_X3_nested f_X6_nested
  refine gd_track (fun j hj hx => ri_tR rfl ?_) (ri_fR ne10 (tq_l (h.thr 1) thr0))
  refine ri_call (P := NQ σ (thr τ 0)) ?_ fun z z2 hz => ?_
  · exact ne_most (h.thr 0) hj hx
  · obtain ⟨e1, e2, e3, e4⟩ := hz
    rw [e4]
    exact tq_r ((h.thr 0).same (fun i hi => e2 i (by omega)) e3) thr0 e1
end L3Y
