/-! level 3: work -/
section L3L
variable {σ : CS} {τ : MS}
theorem ok_val {α : Type} {o : Option α} {P : α → Prop} {v : α} (h : Ok o P) (e : o = some v) : P v := by
  obtain ⟨w, e2, hw⟩ := h
  rw [e] at e2
  exact (Option.some.inj e2) ▸ hw
theorem mo_outv (h : RX σ τ) {x b : Int32} {j : Nat} (hj : j < 2) (hx : x = 0 ∧ j = 0 ∨ x = 1 ∧ j = 1) (hl : 0 < (τ.1 j).length) : Ok (f_X6_stepOut τ x b) fun r => r.1 = (τ.1 j).getD (if b = 0 then 0 else (τ.1 j).length - 1) 0 := by
  have hg := gtr_x hx
  have hl20 := len20 h.1 hj
  have m17 : ∀ i, i < (τ.1 j).length → Ok (f_X6_stepOut_17 τ x b x (nI i)) fun r => r.1 = (τ.1 j).getD i 0 := by
    intro i hi
    unfold f_X6_stepOut_17
    refine ok_bind (mo_go hx hg hi (by omega)) fun t1 ht1 => ok_ev (mo_slip ?_ x b 0 t1.1) (ok_some ht1.1)
    rw [ht1.2.1]
    show (va_up τ.1 j _ 2).length ≤ 12
    rw [up_ne (by omega)]; exact len12 h.1
  unfold f_X6_stepOut
  by_cases e : b = 0
  · rw [if_pos e, if_pos e]; exact m17 0 hl
  · rw [if_neg e, if_neg e]
    refine ok_ev (sizeN hg) ?_
    rw [nI_prd (by omega) (by omega)]
    exact m17 _ (by omega)
theorem vt_kind {v : Int32} (h : VT v) : v / 100 = 0 ↔ v = 0 := by
  rcases h with h | h
  · subst h; exact ⟨fun _ => rfl, fun _ => rfl⟩
  · have h1 : (100 : Int32).toInt ≤ v.toInt := Int32.le_iff_toInt_le.mp h.1
    have h100 : (100 : Int32).toInt = 100 := rfl
    have hz : (0 : Int32).toInt = 0 := rfl
    constructor
    · intro e
      have h3 := div_b (x := v) (b := 100) (by omega) (by omega) (Int32.le_iff_toInt_le.mpr (by omega))
      have e2 : (v / nI 100).toInt = 0 := by
        rw [show v / nI 100 = 0 from e]
        rfl
      omega
    · intro e
      rw [e] at h1
      omega
theorem ord_of {o : Int32} (ho : 0 ≤ o ∧ o ≤ 7) : ∃ t f b : Int32, ∃ j j' : Nat, j < 2 ∧ j' < 2 ∧ j' ≠ j ∧ (t = 0 ∧ j = 0 ∨ t = 1 ∧ j = 1) ∧ (1 - t = 0 ∧ j' = 0 ∨ 1 - t = 1 ∧ j' = 1) ∧ o / 4 = t ∧ (f = 0 ∨ f = 1) ∧ (b = 0 ∨ b = 1) ∧ (jrem (o / 2) 2 = 1 ∧ f = 1 ∨ ¬ jrem (o / 2) 2 = 1 ∧ f = 0) ∧ (jrem o 2 = 1 ∧ b = 1 ∨ ¬ jrem o 2 = 1 ∧ b = 0) := by
  obtain ⟨w, hw, rfl⟩ := nIof (b := 7) (by omega) ho.1 ho.2
  rcases (by omega : w = 0 ∨ w = 1 ∨ w = 2 ∨ w = 3 ∨ w = 4 ∨ w = 5 ∨ w = 6 ∨ w = 7) with e | e | e | e | e | e | e | e <;> subst e
  · exact ⟨0, 0, 0, 0, 1, by omega, by omega, by omega, Or.inl ⟨rfl, rfl⟩, Or.inr ⟨rfl, rfl⟩, rfl, Or.inl rfl, Or.inl rfl, Or.inr ⟨by decide, rfl⟩, Or.inr ⟨by decide, rfl⟩⟩
  · exact ⟨0, 0, 1, 0, 1, by omega, by omega, by omega, Or.inl ⟨rfl, rfl⟩, Or.inr ⟨rfl, rfl⟩, rfl, Or.inl rfl, Or.inr rfl, Or.inr ⟨by decide, rfl⟩, Or.inl ⟨by decide, rfl⟩⟩
  · exact ⟨0, 1, 0, 0, 1, by omega, by omega, by omega, Or.inl ⟨rfl, rfl⟩, Or.inr ⟨rfl, rfl⟩, rfl, Or.inr rfl, Or.inl rfl, Or.inl ⟨by decide, rfl⟩, Or.inr ⟨by decide, rfl⟩⟩
  · exact ⟨0, 1, 1, 0, 1, by omega, by omega, by omega, Or.inl ⟨rfl, rfl⟩, Or.inr ⟨rfl, rfl⟩, rfl, Or.inr rfl, Or.inr rfl, Or.inl ⟨by decide, rfl⟩, Or.inl ⟨by decide, rfl⟩⟩
  · exact ⟨1, 0, 0, 1, 0, by omega, by omega, by omega, Or.inr ⟨rfl, rfl⟩, Or.inl ⟨rfl, rfl⟩, rfl, Or.inl rfl, Or.inl rfl, Or.inr ⟨by decide, rfl⟩, Or.inr ⟨by decide, rfl⟩⟩
  · exact ⟨1, 0, 1, 1, 0, by omega, by omega, by omega, Or.inr ⟨rfl, rfl⟩, Or.inl ⟨rfl, rfl⟩, rfl, Or.inl rfl, Or.inr rfl, Or.inr ⟨by decide, rfl⟩, Or.inl ⟨by decide, rfl⟩⟩
  · exact ⟨1, 1, 0, 1, 0, by omega, by omega, by omega, Or.inr ⟨rfl, rfl⟩, Or.inl ⟨rfl, rfl⟩, rfl, Or.inr rfl, Or.inl rfl, Or.inl ⟨by decide, rfl⟩, Or.inr ⟨by decide, rfl⟩⟩
  · exact ⟨1, 1, 1, 1, 0, by omega, by omega, by omega, Or.inr ⟨rfl, rfl⟩, Or.inl ⟨rfl, rfl⟩, rfl, Or.inr rfl, Or.inr rfl, Or.inl ⟨by decide, rfl⟩, Or.inl ⟨by decide, rfl⟩⟩
/-- off one track and on the other -/
theorem off_on (h : RX σ τ) {t f b : Int32} {j j' : Nat} (hj : j < 2) (hj' : j' < 2) (hn : j' ≠ j) (hx : t = 0 ∧ j = 0 ∨ t = 1 ∧ j = 1) (hx' : 1 - t = 0 ∧ j' = 0 ∨ 1 - t = 1 ∧ j' = 1) (hl : 0 < (τ.1 j).length) (hl' : (τ.1 j').length < 20) (hc : j' = 0 → ¬ (τ.1 j).getD (if f = 0 then 0 else (τ.1 j).length - 1) 0 = 0) : Ri ((f_X3_stepOff σ t f).bind fun z11 => (f_X3_stepOn z11.2 (1 - t) b z11.1).bind fun z21 => some z21) ((f_X6_stepOut τ t f).bind fun z5 => (f_X6_stepIn z5.2 (1 - t) b z5.1).bind fun z10 => some ((1 : Int32), z10)) (fun r r2 => r2.1 = 1 ∧ RX r r2.2 ∧ r2.2.2 0 = τ.2 0 ∧ r2.2.1 3 = τ.1 3) := by
  refine ri_bR fun y hy => ?_
  have hv := ok_val (mo_outv h hj hx hl) hy
  obtain ⟨z, ez, e1, tv, hs⟩ := si_out h hj hx hl y hy
  refine ri_eL ez ?_
  have l2 : (y.2.1 j').length < 20 := by rw [hs.2.2.2 j' hn (by omega)]; exact hl'
  have tv2 : TV j' z.1 := ⟨tv.1, fun e => by rw [e1, hv]; exact hc e⟩
  rw [← e1]
  refine ri_call (si_in hs.1 hj' hx' l2 tv2) fun u w hu => ri_some ⟨rfl, hu.1, hu.2.1.trans hs.2.1, ?_⟩
  rw [hu.2.2.2 3 (by omega) (by omega), hs.2.2.2 3 (by omega) (by omega)]
theorem mv_ok (h : RX σ τ) {o : Int32} (ho : 0 ≤ o ∧ o ≤ 7) : (f_X3_canMove σ o = some 0 ∧ f_X6_move τ o = some (0, τ)) ∨ (f_X3_canMove σ o = some 1 ∧ Ri (f_X3_move σ o) (f_X6_move τ o) (fun r r2 => r2.1 = 1 ∧ RX r r2.2 ∧ r2.2.2 0 = τ.2 0 ∧ r2.2.1 3 = τ.1 3)) := by
  obtain ⟨t, f, b, j, j', hj, hj', hn, hx, hx', et, hf, hb, ef, eb⟩ := ord_of ho
  have hr := h.row (i := j) (by omega)
  have hr' := h.row (i := j') (by omega)
  have hl := len20 h.1 hj
  have hl' := len20 h.1 hj'
  have cj : cap j' = 20 := by
    unfold cap
    rw [if_neg (by omega), if_neg (by omega)]
  have em : f_X6_move τ o = f_X6_move_18 τ o t f := by
    unfold f_X6_move
    rw [et]
    show (if jrem (o / 2) 2 = 1 then f_X6_move_18 τ o t 1 else f_X6_move_18 τ o t 0) = _
    rcases ef with ⟨p, q⟩ | ⟨p, q⟩
    · rw [if_pos p, q]
    · rw [if_neg p, q]
  have c1 : f_X3_orderTrack o = some t := by
    unfold f_X3_orderTrack
    rw [et]
  have c2 : f_X3_orderIsFromBack o = some f := by
    unfold f_X3_orderIsFromBack
    rcases ef with ⟨p, q⟩ | ⟨p, q⟩
    · rw [if_pos p, q]
    · rw [if_neg p, q]
  have c3 : f_X3_orderIsToBack o = some b := by
    unfold f_X3_orderIsToBack
    rcases eb with ⟨p, q⟩ | ⟨p, q⟩
    · rw [if_pos p, q]
    · rw [if_neg p, q]
  have ecm : f_X3_canMove σ o = (if (τ.1 j).length = 0 then some 0 else if (τ.1 j').length < 20 then (if 1 - t = 1 then some 1 else (if (τ.1 j).getD (if f = 0 then 0 else (τ.1 j).length - 1) 0 / 100 = 0 then some 0 else some 1)) else some 0) := by
    unfold f_X3_canMove f_X3_canMove_53 f_X3_kindOf
    rw [c1, bsm]
    show (f_X3_trackOf σ t).bind _ = _
    rw [trackOf_ok hx, bsm, rw_isEmpty hr, bsm]
    by_cases d : (τ.1 j).length = 0
    · rw [if_pos d, if_neg ne10, if_pos d]
    · rw [if_neg d, if_pos rfl, if_neg d, trackOf_ok hx', bsm, rw_isFull hr', bsm, cj]
      by_cases d2 : (τ.1 j').length < 20
      · rw [if_pos d2, if_pos rfl, if_pos d2, c2, bsm, codeAtEnd_ok h hj hx f, bsm, if_neg d, bsm]
      · rw [if_neg d2, if_neg ne10, if_neg d2]
  have ecl : f_X3_move σ o = (f_X3_stepOff σ t f).bind fun z11 => (f_X3_stepOn z11.2 (1 - t) b z11.1).bind fun z21 => some z21 := by
    unfold f_X3_move
    rw [c1, bsm, c2, bsm, c3]
    rfl
  rw [ecm, em, ecl]
  unfold f_X6_move_18
  rw [sizeN (gtr_x hx), bsm]
  by_cases d : (τ.1 j).length = 0
  · exact Or.inl ⟨by rw [if_pos d], by rw [if_pos ((nI_eqz (by omega)).mpr d)]⟩
  rw [if_neg d, if_neg (mt (nI_eqz (by omega)).mp d), sizeN (gtr_x hx'), bsm]
  by_cases d2 : (τ.1 j').length < 20
  · have n20 : ¬ nI (τ.1 j').length = 20 := fun q => absurd ((nI_eqi (a := (τ.1 j').length) (b := 20) (by omega) (by omega)).mp q) (by omega)
    rw [if_pos d2, if_neg n20]
    have e59 : (if f = 0 then f_X6_move_59 τ o t f (1 - t) t 0 else (nm (nI (τ.1 j).length) fun z40 => f_X6_move_59 τ o t f (1 - t) t (z40 - 1))) = f_X6_move_59 τ o t f (1 - t) t (nI (if f = 0 then 0 else (τ.1 j).length - 1)) := by
      by_cases e : f = 0
      · rw [if_pos e, if_pos e]; rfl
      · rw [if_neg e, if_neg e, ← nI_prd (by omega) (by omega)]; rfl
    have e59b : (if f = 0 then f_X6_move_59 τ o t f (1 - t) t 0 else ((some (nI (τ.1 j).length)).bind fun z40 => f_X6_move_59 τ o t f (1 - t) t (z40 - 1))) = f_X6_move_59 τ o t f (1 - t) t (nI (if f = 0 then 0 else (τ.1 j).length - 1)) := e59
    rw [e59b]
    have hi : (if f = 0 then 0 else (τ.1 j).length - 1) < (τ.1 j).length := by
      split <;> omega
    unfold f_X6_move_59 f_X6_isBarred
    rw [getN (gtr_x hx) hi hl, bsm]
    have vt : VT ((τ.1 j).getD (if f = 0 then 0 else (τ.1 j).length - 1) 0) := (h.1.2.2.2.tv hj (mem_getD hi)).1
    have good : (j' = 0 → ¬ (τ.1 j).getD (if f = 0 then 0 else (τ.1 j).length - 1) 0 = 0) → Ri ((f_X3_stepOff σ t f).bind fun z11 => (f_X3_stepOn z11.2 (1 - t) b z11.1).bind fun z21 => some z21) (if jrem o 2 = 1 then f_X6_move_86 τ t f (1 - t) 1 else f_X6_move_86 τ t f (1 - t) 0) (fun r r2 => r2.1 = 1 ∧ RX r r2.2 ∧ r2.2.2 0 = τ.2 0 ∧ r2.2.1 3 = τ.1 3) := by
      intro hc
      have g := off_on (b := b) h hj hj' hn hx hx' (by omega) d2 hc
      rcases eb with ⟨p, q⟩ | ⟨p, q⟩
      · rw [if_pos p]; unfold f_X6_move_86; subst q; exact g
      · rw [if_neg p]; unfold f_X6_move_86; subst q; exact g
    by_cases d3 : 1 - t = 0
    · have n1 : ¬ 1 - t = 1 := by rw [d3]; exact fun e => absurd e (by decide)
      rw [if_neg n1, if_pos d3]
      by_cases d4 : (τ.1 j).getD (if f = 0 then 0 else (τ.1 j).length - 1) 0 = 0
      · rw [if_pos ((vt_kind vt).mpr d4), if_pos d4, bsm, if_neg ne10]
        exact Or.inl ⟨rfl, rfl⟩
      · rw [if_neg (mt (vt_kind vt).mp d4), if_neg d4, bsm, if_pos rfl]
        exact Or.inr ⟨rfl, good fun _ => d4⟩
    · have n1 : 1 - t = 1 ∧ ¬ j' = 0 := by
        rcases hx' with q | q
        · exact absurd q.1 d3
        · exact ⟨q.1, by omega⟩
      rw [if_pos n1.1, if_neg d3, bsm, if_pos rfl]
      exact Or.inr ⟨rfl, good fun e => absurd e n1.2⟩
  · have n20 : nI (τ.1 j').length = 20 := by
      rw [show (τ.1 j').length = 20 by omega]; rfl
    rw [if_neg d2, if_pos n20]
    exact Or.inl ⟨rfl, rfl⟩
theorem ag_work (h : RX σ τ) (x1 : Int32) : Ri (f_X3_work σ x1) (f_X6_work τ x1) (TQ C11 σ) := by
  have h0 := h.thr 0
  unfold f_X3_work f_X6_work f_X6_work_16
  refine ri_eR (mo_isIn _ _ _) ?_
  by_cases c : 1 ≤ x1 ∧ x1 ≤ 10
  · rw [if_pos c]
    refine ri_fR ne10 (ri_eR (mo_st0 rfl) (ri_tR rfl (ri_obr (cl_within c) ?_)))
    refine ri_lpn (fun a b => ∃ (s : CS) (t : MS) (n d i : Int32), a = (s, n, d, i) ∧ b = (t, n, d, i) ∧ RX s t ∧ t.2 0 = 0) ?_ 24 64 _ _ (by omega) ⟨σ, thr τ 0, x1, 0, 0, rfl, rfl, h0, thr0⟩
    rintro k1 k2 _ _ ⟨s, t, n, d, i, rfl, rfl, hs, ht⟩ hk
    have hr := hs.row (i := 3) (by omega)
    have hl3 : (t.1 3).length ≤ 10 := hr.2.1
    unfold f_X3_work_11 f_X6_work_29 f_X3_work_72 f_X6_work_94 f_X3_work_66 f_X6_work_88
    dsimp only
    refine ri_iR (fun g => ri_tL g (tq_r hs ht rfl)) fun g => ri_fL g (ri_nR fun y hy => ri_eL (rw_isEmpty hr) ?_)
    subst hy
    by_cases e : (t.1 3).length = 0
    · rw [if_pos e]
      exact ri_fL ne10 (ri_fR ne10 (tq_r hs ht rfl))
    · rw [if_neg e]
      have el : ldel (t.1 3) 0 = some (delAt (t.1 3) 0) := ldelN (i := 0) (by omega) (by omega)
      refine ri_tL rfl (ri_tR rfl (ri_eR el (ri_nR fun t1 et => ri_nR fun o eo => ri_okL (rw_leave hr (j := 0) (by omega)) fun z hz => ri_nL fun s1 es => ?_)))
      have eo : o = (t.1 3).getD 0 0 := eo
      have ho : 0 ≤ o ∧ o ≤ 7 := by rw [eo]; exact hs.1.2.2.2.2.2.2 _ (mem_getD (by omega))
      have ez : z.1 = o := hz.1.trans eo.symm
      have h1 : RX s1 t1 := by
        rw [es, et]
        exact hs.up (i := 3) (by omega) hz.2 (hs.1.2.2.2.orders fun v hv => hs.1.2.2.2.2.2.2 v (mem_del hv))
      have z1 : t1.2 0 = 0 := by rw [et]; exact ht
      have l1 : (t1.1 3).length ≤ 9 := by
        rw [et]
        show (va_up t.1 3 (delAt (t.1 3) 0) 3).length ≤ 9
        rw [up_eq, delAt_len (by omega)]; omega
      rw [ez]
      rcases mv_ok h1 ho with ⟨p, q⟩ | ⟨p, q⟩
      · refine ri_eL p (ri_eR q (ri_tL rfl (ri_tR rfl ?_)))
        have hr1 := h1.row (i := 3) (by omega)
        have hc3 : cap 3 = 10 := rfl
        refine ri_eR (laddN (show (t1.1 3).length ≤ 21 by omega)) (ri_nR fun t2 et2 => ri_okL (rw_enterLast hr1 (by omega)) fun w hw => ri_nL fun s2 es2 => ri_nL fun y1 e1 => ri_nR fun y2 e2 => hk _ _ ⟨s2, t2, n, d, y1, rfl, by rw [e1, e2], ?_, ?_⟩)
        · rw [es2, et2]
          exact h1.up (i := 3) (by omega) hw (h1.1.2.2.2.orders fun v hv => by
            rcases mem_orders hv with q | q
            · exact h1.1.2.2.2.2.2.2 v q
            · rw [q]; exact ho)
        · rw [et2]; exact z1
      · refine ri_eL p (ri_fL ne10 (ri_call q fun u w hu => ri_fR (by rw [hu.1]; exact ne10) (ri_nL fun y1 e1 => ri_nR fun y2 e2 => ri_nL fun y3 e3 => ri_nR fun y4 e4 => hk _ _ ⟨u, w.2, n, y1, y3, rfl, by rw [e1, e2, e3, e4], hu.2.1, hu.2.2.1.trans z1⟩)))
  · rw [if_neg c]
    exact ri_tR rfl (ri_eR (mo_st1 ne10 (by decide)) (ri_fR ne10 (ri_obl (cl_without c) (tq_l (h.thr 1) thr0))))
end L3L
