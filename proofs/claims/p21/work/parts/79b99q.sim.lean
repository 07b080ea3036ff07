/-! level 3: shunt -/
section L3X
variable {σ : CS} {τ : MS}
theorem vc_cg {t u : MS} (h : VC t) (e : u.1 = t.1) : VC u := by
  unfold VC
  rw [e]
  exact h
/-- class and model while pieces come over: m turns of N gone, c pieces came -/
def JS (σ : CS) (τ : MS) (p N m c : Nat) (w : CS) (u : MS) : Prop := m ≤ N ∧ c ≤ m ∧ w.2 = σ.2 ∧ (∀ i, i < 4 → RW i (w.1 i) (u.1 i)) ∧ VC u ∧ p + (N - m) ≤ (u.1 1).length ∧ (u.1 0).length + (N - m) ≤ 20 ∧ (grw (u.2 5) = grw (τ.2 5) ∧ grw (u.2 8) = grw (τ.2 8)) ∧ (1 ≤ m → u.2 5 = grw (τ.2 5) ∧ u.2 8 = grw (τ.2 8)) ∧ (c = 0 → u.2 1 = τ.2 1 ∧ u.2 2 = τ.2 2 ∧ u.2 3 = τ.2 3) ∧ (1 ≤ c → u.2 1 = 0 ∧ u.2 2 = 0 ∧ u.2 3 = -1) ∧ ∀ q, q ≠ 1 → q ≠ 2 → q ≠ 3 → q ≠ 5 → q ≠ 8 → u.2 q = τ.2 q
theorem JS.step0 {p N m c : Nat} {w : CS} {u : MS} {ρ : RS} {z : MS} (J : JS σ τ p N m c w u) (hm : m < N) (hρ : RW 1 ρ (delAt (u.1 1) p)) (hz : DM 1 (va_up u.1 1 (delAt (u.1 1) p), u.2) z) : JS σ τ p N (m + 1) c (va_up w.1 1 ρ, w.2) z := by
  obtain ⟨j1, j2, j3, j4, j5, j6, j7, j8, j9, j10, j11, j12⟩ := J
  obtain ⟨z1, -, z2⟩ := hz
  obtain ⟨z5, z8, zq⟩ := z2 rfl
  have z5 : z.2 5 = grw (u.2 5) := z5
  have z8 : z.2 8 = grw (u.2 8) := z8
  have zq : ∀ q, q ≠ 5 → q ≠ 8 → z.2 q = u.2 q := zq
  have z1 : z.1 = va_up u.1 1 (delAt (u.1 1) p) := z1
  refine ⟨by omega, by omega, j3, fun i hi => ?_, vc_cg (VC.del (τ := u) (i := p) j5 (j := 1) (by omega)) z1, ?_, ?_, ⟨?_, ?_⟩, fun _ => ⟨?_, ?_⟩, fun e => ?_, fun e => ?_, fun q q1 q2 q3 q5 q8 => ?_⟩
  · rw [z1]
    show RW i (va_up w.1 1 ρ i) (va_up u.1 1 (delAt (u.1 1) p) i)
    by_cases e : i = 1
    · subst e
      rw [up_eq, up_eq]; exact hρ
    · rw [up_ne e, up_ne e]; exact j4 i hi
  · rw [z1, up_eq, delAt_len (by omega)]; omega
  · rw [z1, up_ne (by omega)]; omega
  · rw [z5, grw2]; exact j8.1
  · rw [z8, grw2]; exact j8.2
  · rw [z5]; exact j8.1
  · rw [z8]; exact j8.2
  · rw [zq 1 (by omega) (by omega), zq 2 (by omega) (by omega), zq 3 (by omega) (by omega)]; exact j10 e
  · rw [zq 1 (by omega) (by omega), zq 2 (by omega) (by omega), zq 3 (by omega) (by omega)]; exact j11 e
  · rw [zq q q5 q8]; exact j12 q q1 q2 q3 q5 q8
theorem JS.step1 {p N m c : Nat} {w : CS} {u : MS} {ρ : RS} {z : MS} {v : Int32} (J : JS σ τ p N (m + 1) c w u) (hc : c ≤ m) (hl : (u.1 0).length + (N - m) ≤ 20) (hm : m < N) (hv : TV 0 v) (hρ : RW 0 ρ (u.1 0 ++ [v])) (hz : DM 0 (va_up u.1 0 (u.1 0 ++ [v]), u.2) z) : JS σ τ p N (m + 1) (c + 1) (va_up w.1 0 ρ, w.2) z := by
  obtain ⟨j1, j2, j3, j4, j5, j6, j7, j8, j9, j10, j11, j12⟩ := J
  obtain ⟨z1, z2, -⟩ := hz
  obtain ⟨y1, y2, y3, zq⟩ := z2 rfl
  have zq : ∀ q, q ≠ 1 → q ≠ 2 → q ≠ 3 → z.2 q = u.2 q := zq
  have z1 : z.1 = va_up u.1 0 (u.1 0 ++ [v]) := z1
  have hvc : VC (va_up u.1 0 (u.1 0 ++ [v]), u.2) := VC.track (τ := u) j5 (j := 0) (by omega) fun x hx => by
    rcases List.mem_append.mp hx with q | q
    · exact j5.tv (by omega) q
    · rw [List.mem_singleton.mp q]; exact hv
  refine ⟨by omega, by omega, j3, fun i hi => ?_, vc_cg hvc z1, ?_, ?_, ⟨?_, ?_⟩, fun _ => ⟨?_, ?_⟩, fun e => absurd e (by omega), fun _ => ⟨y1, y2, y3⟩, fun q q1 q2 q3 q5 q8 => ?_⟩
  · rw [z1]
    show RW i (va_up w.1 0 ρ i) (va_up u.1 0 (u.1 0 ++ [v]) i)
    by_cases e : i = 0
    · subst e
      rw [up_eq, up_eq]; exact hρ
    · rw [up_ne e, up_ne e]; exact j4 i hi
  · rw [z1, up_ne (by omega)]; exact j6
  · rw [z1, up_eq, List.length_append]
    have : [v].length = 1 := rfl
    omega
  · rw [zq 5 (by omega) (by omega) (by omega)]; exact j8.1
  · rw [zq 8 (by omega) (by omega) (by omega)]; exact j8.2
  · rw [zq 5 (by omega) (by omega) (by omega)]; exact (j9 (by omega)).1
  · rw [zq 8 (by omega) (by omega) (by omega)]; exact (j9 (by omega)).2
  · rw [zq q q1 q2 q3]; exact j12 q q1 q2 q3 q5 q8
theorem JS.fin {p N m c : Nat} {w z : CS} {u : MS} (h : RX σ τ) (J : JS σ τ p N m c w u) (hm : 1 ≤ m) (e1 : z.1 = va_up w.1 2 ((w.1 2).1, 0)) (e5 : z.2 5 = grw (w.2 5) ∧ z.2 8 = grw (w.2 8)) (e0 : c = 0 → z.2 1 = w.2 1 ∧ z.2 4 = w.2 4) (e4 : 1 ≤ c → z.2 1 = 0 ∧ z.2 4 = -1) (eq : ∀ q, q ≠ 1 → q ≠ 4 → q ≠ 5 → q ≠ 8 → z.2 q = w.2 q) : RX z (va_up u.1 2 [], u.2) := by
  obtain ⟨j1, j2, j3, j4, j5, j6, j7, j8, j9, j10, j11, j12⟩ := J
  rw [j3] at e5 e0 eq
  refine ⟨⟨fun i hi => ?_, fun q q1 q2 => ?_, ?_, j5.slips (xs := []) fun v hv => absurd hv List.not_mem_nil⟩, ?_⟩
  · rw [e1]
    show RW i (va_up w.1 2 ((w.1 2).1, 0) i) (va_up u.1 2 [] i)
    by_cases e : i = 2
    · subst e
      rw [up_eq, up_eq]; exact rw_empty
    · rw [up_ne e, up_ne e]; exact j4 i hi
  · show z.2 q = u.2 q
    by_cases q5 : q = 5
    · subst q5
      rw [e5.1, (j9 hm).1, h.1.2.1 5 (by omega) (by omega)]
    · by_cases q8 : q = 8
      · subst q8
        rw [e5.2, (j9 hm).2, h.1.2.1 8 (by omega) (by omega)]
      · rw [eq q (by omega) (by omega) q5 q8, j12 q (by omega) (by omega) (by omega) q5 q8]
        exact h.1.2.1 q q1 q2
  · show z.2 0 = u.2 4
    rw [eq 0 (by omega) (by omega) (by omega) (by omega), j12 4 (by omega) (by omega) (by omega) (by omega) (by omega)]
    exact h.1.2.2.1
  · show WRel (z.2 1) (z.2 2) (z.2 3) (z.2 4) (u.2 1) (u.2 2) (u.2 3)
    by_cases c0 : c = 0
    · obtain ⟨a1, a2⟩ := e0 c0
      obtain ⟨b1, b2, b3⟩ := j10 c0
      rw [a1, a2, b1, b2, b3, eq 2 (by omega) (by omega) (by omega) (by omega), eq 3 (by omega) (by omega) (by omega) (by omega)]
      exact h.2
    · obtain ⟨a1, a2⟩ := e4 (by omega)
      obtain ⟨b1, b2, b3⟩ := j11 (by omega)
      rw [a1, a2, b1, b3]
      exact Or.inl ⟨rfl, rfl, rfl, rfl⟩
theorem ag_shuntL (h : RX σ τ) (h0 : τ.2 0 = 0) {p N : Nat} (hN : 1 ≤ N) (hp : p + N ≤ (τ.1 1).length) (hs : (τ.1 0).length + N ≤ 20) : Ri (lpn f_X3_shunt_53 64 (σ, nI p, nI N, 0, 0)) (lpn f_X6_shunt_90 24 (τ, nI p, 0, nI N)) (TQ C3 σ) := by
  have hl1 := len20 h.1 (j := 1) (by omega)
  refine ri_lpn (fun s t => ∃ (m c : Nat) (w : CS) (u : MS), s = (w, nI p, nI N, nI c, nI m) ∧ t = (u, nI p, nI c, nI (N - m)) ∧ JS σ τ p N m c w u) ?_ 24 64 _ _ (by omega) ⟨0, 0, σ, τ, rfl, rfl, ?_⟩
  · rintro k1 k2 _ _ ⟨m, c, w, u, rfl, rfl, J⟩ hk
    obtain ⟨j1, j2, j3, j4, j5, j6, j7, j8, j9, j10, j11, j12⟩ := id J
    unfold f_X3_shunt_53 f_X6_shunt_90
    dsimp only
    have hu1 : (u.1 1).length ≤ 20 := (j4 1 (by omega)).len
    by_cases e : m = N
    · refine ri_tR ((nI_lei (b := 0) (by omega) (by omega)).mpr (by omega)) (ri_tL ((nI_lei (by omega) (by omega)).mpr (by omega)) (ri_eR mo_tear ?_))
      refine ri_okL (cl_tearFor (σ := w) x11) fun z3 h3 => ?_
      obtain ⟨b1, -, b2⟩ := h3
      obtain ⟨b5, b8, bq⟩ := b2 rfl
      have b5 : z3.2 5 = grw (w.2 5) := b5
      have b8 : z3.2 8 = grw (w.2 8) := b8
      have bq : ∀ q, q ≠ 5 → q ≠ 8 → z3.2 q = w.2 q := bq
      have z0 : u.2 0 = 0 := (j12 0 (by omega) (by omega) (by omega) (by omega) (by omega)).trans h0
      unfold f_X3_shunt_110
      by_cases c0 : c = 0
      · refine ri_tL ((nI_lei (b := 0) (by omega) (by omega)).mpr (by omega)) ?_
        exact tq_r (J.fin h (by omega) b1 ⟨b5, b8⟩ (fun _ => ⟨bq 1 (by omega) (by omega), bq 4 (by omega) (by omega)⟩) (fun e => absurd e (by omega)) fun q q1 q4 q5 q8 => bq q q5 q8) z0 rfl
      · refine ri_fL (mt (nI_lei (b := 0) (by omega) (by omega)).mp (by omega)) ?_
        refine ri_okL (cl_dist (σ := z3) (x := 0) (j := 0) (Or.inl ⟨rfl, rfl⟩)) fun z9 h9 => ?_
        obtain ⟨d1, d2, -⟩ := h9
        obtain ⟨d3, d4, dq⟩ := d2 rfl
        exact tq_r (J.fin h (by omega) (d1.trans b1) ⟨by rw [dq 5 (by omega) (by omega)]; exact b5, by rw [dq 8 (by omega) (by omega)]; exact b8⟩ (fun e => absurd e c0) (fun _ => ⟨d3, d4⟩) fun q q1 q4 q5 q8 => (dq q q1 q4).trans (bq q q5 q8)) z0 rfl
    · refine ri_fR (mt (nI_lei (b := 0) (by omega) (by omega)).mp (by omega)) (ri_fL (mt (nI_lei (by omega) (by omega)).mp (by omega)) ?_)
      have hpl : p < (u.1 1).length := by omega
      refine ri_okR (mo_go (τ := u) x11 rfl hpl (by omega)) fun z hz => ri_okL (rw_leave (j4 1 (by omega)) hpl) fun y hy => ri_nL fun t19 e19 => ?_
      obtain ⟨hz1, hz2⟩ := hz
      have J1 := J.step0 (by omega) hy.2 hz2
      have ev : y.1 = z.1 := hy.1.trans hz1.symm
      have hvt : VT z.1 := by rw [hz1]; exact j5.2.1 _ (mem_getD hpl)
      have key : ∀ (w' : CS) (u' : MS) (c' : Nat), c' ≤ m + 1 → JS σ τ p N (m + 1) c' w' u' → Ri (f_X3_shunt_89 k1 w' (nI p) (nI N) (nI c') (nI m)) (f_X6_shunt_126 k2 u' (nI p) (nI c') (nI (N - m))) (TQ C3 σ) := by
        intro w' u' c' hc' J'
        unfold f_X3_shunt_89 f_X6_shunt_126
        refine ri_nR fun a ha => ri_nL fun d hd => ?_
        rw [ha, hd, nI_suc (by omega), nI_prd2 (by omega) (by omega), show N - m - 1 = N - (m + 1) by omega]
        exact hk _ _ ⟨m + 1, c', w', u', rfl, rfl, J'⟩
      refine ri_eL (v := y.1 / 100) rfl ?_
      rw [ev]
      have t1 : t19 = (va_up w.1 1 y.2, w.2) := e19
      subst t1
      by_cases v0 : z.1 = 0
      · refine ri_tR v0 (ri_tL ((vt_kind hvt).mpr v0) ?_)
        exact key _ _ c (by omega) J1
      · refine ri_fR v0 (ri_fL (mt (vt_kind hvt).mp v0) ?_)
        obtain ⟨i1, i2, i3, i4, i5, i6, i7, -⟩ := id J1
        have hz0 : z.2.1 0 = u.1 0 := by
          rw [hz2.1]
          show va_up u.1 1 (delAt (u.1 1) p) 0 = _
          rw [up_ne (by omega)]
        have hl0 : (z.2.1 0).length + (N - m) ≤ 20 := by rw [hz0]; exact j7
        refine ri_eR (sizeN (τ := z.2) (j := 0) rfl) (ri_okR (mo_come (τ := z.2) (x := 0) (j := 0) (i := (z.2.1 0).length) (Or.inl ⟨rfl, rfl⟩) rfl (Nat.le_refl _) (by omega)) fun z23 h23 => ri_nR fun y24 h24 => ?_)
        rw [insAt_last] at h23
        refine ri_okL (rw_enterLast (i4 0 (by omega)) (v := z.1) (by show _ < 20; omega)) fun w26 h26 => ri_nL fun t31 e31 => ri_nL fun y32 h32 => ?_
        subst e31
        rw [h24, h32, nI_suc (by omega)]
        exact key _ _ (c + 1) (by omega) (J1.step1 j2 hl0 (by omega) ⟨hvt, fun _ => v0⟩ h26 h23)
  · exact ⟨Nat.zero_le _, Nat.le_refl _, rfl, fun i hi => h.row hi, h.1.2.2.2, by omega, by omega, ⟨rfl, rfl⟩, fun e => absurd e (by omega), fun _ => ⟨rfl, rfl, rfl⟩, fun e => absurd e (by omega), fun _ _ _ _ _ _ => rfl⟩
theorem min_n20 {a b : Nat} (ha : a ≤ 20) (hb : b ≤ 20) : (if nI a < nI b then nI a else nI b) = nI (if a < b then a else b) := by
  by_cases c : a < b
  · rw [if_pos ((nI_lti (by omega) (by omega)).mpr c), if_pos c]
  · rw [if_neg (mt (nI_lti (by omega) (by omega)).mp c), if_neg c]
theorem ag_shunt (h : RX σ τ) (x1 x2 : Int32) : Ri (f_X3_shunt σ x1 x2) (f_X6_shunt τ x1 x2) (TQ C3 σ) := by
  have h0 := h.thr 0
  have hr1 := h.row (i := 1) (by omega)
  have hl0 := len20 h.1 (j := 0) (by omega)
  have hl1 := len20 h.1 (j := 1) (by omega)
  unfold f_X3_shunt f_X6_shunt
  refine ri_eR (mo_noPlace _) ?_
  by_cases c : 0 ≤ x1 ∧ x1 ≤ 19
  · rw [if_pos c]
    refine ri_eR (mo_st0 rfl) (ri_tR rfl (ri_eR (mo_isIn _ _ _) (ri_obr (cl_place c) ?_)))
    unfold f_X6_shunt_29
    by_cases c2 : 1 ≤ x2 ∧ x2 ≤ 20
    · rw [if_pos c2]
      refine ri_fR ne10 (ri_eR (mo_ref0 thr0 rfl) (ri_tR rfl (ri_obr (cl_within c2) (ri_eR (sizeN (j := 0) rfl) ?_))))
      obtain ⟨p, hp, rfl⟩ := nIof (b := 19) (by omega) c.1 c.2
      obtain ⟨n, hn, rfl⟩ := nIof (b := 20) (by omega) (Int32.le_trans (by decide) c2.1) c2.2
      have hn1 : 1 ≤ n := (nI_lei (a := 1) (by omega) (by omega)).mp c2.1
      unfold f_X6_shunt_54
      rcases room_cases h (x := 0) (j := 0) (by omega) (Or.inl ⟨rfl, rfl⟩) (n := n) hn with ⟨d, e⟩ | ⟨d, e⟩
      · refine ri_tR ((sum_le hl0 hn).mpr d) (ri_eR (mo_ref0 thr0 rfl) (ri_tR rfl (ri_obr e (ri_eR (sizeN (j := 1) rfl) (ri_eL (rw_size hr1) ?_)))))
        refine ri_iR (fun g => ri_tL g ?_) fun g => ri_fL g (tq_r h0 thr0 rfl)
        have g2 : p < (τ.1 1).length := (nI_lti (by omega) (by omega)).mp g
        refine ri_eR (sizeN (j := 1) rfl) (ri_eL (rw_size hr1) (ri_nR fun y hy => ri_nL fun y2 hy2 => ?_))
        have hy : y = nI (if (τ.1 1).length - p < n then (τ.1 1).length - p else n) := by
          rw [hy]
          show (if nI (τ.1 1).length - nI p < nI n then nI (τ.1 1).length - nI p else nI n) = _
          rw [nI_dif (by omega) (by omega), min_n20 (by omega) hn]
        have hy2 : y2 = nI (if (τ.1 1).length - p < n then (τ.1 1).length - p else n) := by
          rw [hy2, nI_dif (by omega) (by omega), min_n20 (by omega) hn]
        have hb : 1 ≤ (if (τ.1 1).length - p < n then (τ.1 1).length - p else n) ∧ p + (if (τ.1 1).length - p < n then (τ.1 1).length - p else n) ≤ (τ.1 1).length ∧ (if (τ.1 1).length - p < n then (τ.1 1).length - p else n) ≤ n := by
          split <;> omega
        rw [hy, hy2]
        have q := ag_shuntL (τ := thr τ 0) h0 thr0 hb.1 (p := p) hb.2.1 (show (τ.1 0).length + _ ≤ 20 by have := hb.2.2; omega)
        exact q
      · refine ri_fR (mt (sum_le hl0 hn).mp d) (ri_eR (mo_ref1 thr0 ne10 (by decide)) (ri_fR ne10 (ri_obl e ?_)))
        rw [thr_thr]
        exact tq_l (h.thr 3) thr0
    · rw [if_neg c2]
      refine ri_tR rfl (ri_eR (mo_ref1 thr0 ne10 (by decide)) (ri_fR ne10 (ri_obl (cl_without c2) ?_)))
      rw [thr_thr]
      exact tq_l (h.thr 2) thr0
  · rw [if_neg c]
    exact ri_eR (mo_st1 ne10 (by decide)) (ri_fR ne10 (ri_obl (cl_noplace c) (tq_l (h.thr 1) thr0)))
end L3X
