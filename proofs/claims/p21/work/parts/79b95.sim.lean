/-! level 3: train, rotate, undo, drop -/
section L3D
variable {σ : CS} {τ : MS}
theorem rng3 (x2 x3 x4 : Int32) {α : Type} {K : Unit → Option (Nat ⊕ α)} (h : ¬ ((1 ≤ x2 ∧ x2 ≤ 9) ∧ (0 ≤ x3 ∧ x3 ≤ 99) ∧ 1 ≤ x4 ∧ x4 ≤ 12)) : (obx (f_X3_needWithin x2 1 9) fun _ => obx (f_X3_needWithin x3 0 99) fun _ => obx (f_X3_needWithin x4 1 12) K) = some (.inl 1) := by
  by_cases h1 : 1 ≤ x2 ∧ x2 ≤ 9
  · rw [cl_within h1]
    show (obx (f_X3_needWithin x3 0 99) fun _ => obx (f_X3_needWithin x4 1 12) K) = _
    by_cases h2 : 0 ≤ x3 ∧ x3 ≤ 99
    · rw [cl_within h2]
      show obx (f_X3_needWithin x4 1 12) K = _
      rw [cl_without (fun h3 => h ⟨h1, h2, h3⟩)]
      rfl
    · rw [cl_without h2]; rfl
  · rw [cl_without h1]; rfl
theorem nI_m7 {m : Nat} (h : m ≤ 20) : 7 * nI m = nI (7 * m) := by
  apply Int32.toInt_inj.mp
  have h1 : (7 : Int32).toInt = 7 := rfl
  rw [Int32.toInt_mul, h1, nI_toInt (by omega), nI_toInt (by omega), Int.bmod_eq_of_le (by omega) (by omega)]
  omega
theorem jrem9 {n : Nat} (h : n < 1000) : ∃ a, a ≤ 8 ∧ jrem (nI n) 9 = nI a := by
  have q := jr9 (x := nI n) (nI_bnd (b := 1000) (by omega) (by omega)).1
  obtain ⟨a, ha, e⟩ := nIof (b := 8) (by omega) q.1 q.2
  exact ⟨a, ha, e⟩
theorem jrem100 {n : Nat} (h : n < 1000) : ∃ a, a ≤ 99 ∧ jrem (nI n) 100 = nI a := by
  have q := jr100 (x := nI n) (nI_bnd (b := 1000) (by omega) (by omega)).1
  obtain ⟨a, ha, e⟩ := nIof (b := 99) (by omega) q.1 q.2
  exact ⟨a, ha, e⟩
theorem ag_trainL (h : RX σ τ) (h0 : τ.2 0 = 0) {x1 : Int32} {j n a b : Nat} (hj : j < 2) (hx : x1 = 0 ∧ j = 0 ∨ x1 = 1 ∧ j = 1) (hn : n ≤ 12) (ha : 1 ≤ a ∧ a ≤ 9) (hb : b ≤ 99) (hl : (τ.1 j).length + n ≤ 20) : Ri (lpn f_X3_train_36 64 (σ, x1, nI a, nI b, nI n, 0)) (lpn f_X6_train_79 24 (τ, x1, nI a, nI b, nI n, 0)) (TQ C3 σ) := by
  refine ri_lpn (fun s t => ∃ m, m ≤ n ∧ s.2 = (x1, nI a, nI b, nI n, nI m) ∧ t.2 = (x1, nI a, nI b, nI n, nI m) ∧ RX s.1 t.1 ∧ t.1.2 0 = 0 ∧ (t.1.1 j).length + (n - m) ≤ 20) ?_ 24 64 _ _ (by omega) ⟨0, Nat.zero_le _, rfl, rfl, h, h0, by show (τ.1 j).length + (n - 0) ≤ 20; omega⟩
  rintro k1 k2 ⟨s, s2⟩ ⟨t, t2⟩ ⟨m, hm, e1, e2, hr, ht, hlen⟩ hk
  dsimp only at e1 e2 hr ht hlen
  subst e1 e2
  unfold f_X3_train_36 f_X6_train_79
  dsimp only
  refine ri_iR (fun c => ri_tL c ?_) fun c => ri_fL c ?_
  · exact ri_eL (trackOf_ok hx) (ri_eL (rw_size (hr.row (by omega))) (ri_eR (sizeN (gtr_x hx)) (tq_r hr ht rfl)))
  · have hml : m < n := Nat.lt_of_not_le (mt (nI_lei (by omega) (by omega)).mpr c)
    refine ri_eR (mo_code _ _) (ri_eL (cl_code _ _) (ri_call (si_in hr hj hx (by omega) ?_) fun s3 t3 h3 => ri_nR fun y hy => ri_nL fun y2 hy2 => ?_))
    · rw [nI_prd (by omega) (by omega), nI_sum (by omega), nI_m7 (by omega), nI_sum (by omega)]
      obtain ⟨u, hu, eu⟩ := jrem9 (n := a - 1 + m) (by omega)
      obtain ⟨v, hv, ev⟩ := jrem100 (n := b + 7 * m) (by omega)
      rw [eu, ev]
      have e1u : (1 : Int32) + nI u = nI (1 + u) := nI_sum (a := 1) (by omega)
      rw [e1u]
      have hp : PC (nI (1 + u)) (nI v) := ⟨⟨(nI_bnd (b := 9) (by omega) (by omega)).1, (nI_bnd (b := 9) (by omega) (by omega)).2⟩, (nI_bnd (b := 99) (by omega) (by omega)).1, (nI_bnd (b := 99) (by omega) (by omega)).2⟩
      refine ⟨(pcd hp).1, fun _ e => ?_⟩
      have := (nI_eqz (a := 1 + u) (by omega)).mp ((pcd hp).2.mp e)
      omega
    · subst hy2 hy
      refine hk _ _ ⟨m + 1, by omega, ?_, ?_, h3.rx, h3.2.1.trans ht, ?_⟩
      · rw [nI_suc (by omega)]
      · rw [nI_suc (by omega)]
      · have := h3.2.2.1
        show (t3.1 j).length + (n - (m + 1)) ≤ 20
        omega
theorem ag_train (h : RX σ τ) (x1 x2 x3 x4 : Int32) : Ri (f_X3_train σ x1 x2 x3 x4) (f_X6_train τ x1 x2 x3 x4) (TQ C3 σ) := by
  unfold f_X3_train f_X6_train
  refine gd_track (fun j hj hx => ri_tR rfl ?_) (ri_fR ne10 (tq_l (h.thr 1) thr0))
  have h0 := h.thr 0
  have bad : ¬ ((1 ≤ x2 ∧ x2 ≤ 9) ∧ (0 ≤ x3 ∧ x3 ≤ 99) ∧ 1 ≤ x4 ∧ x4 ≤ 12) → Ri (obx (f_X3_needWithin x2 1 9) fun _ => obx (f_X3_needWithin x3 0 99) fun _ => obx (f_X3_needWithin x4 1 12) fun _ => obx (f_X3_needRoom σ x1 x4) fun _ => lpn f_X3_train_36 64 (σ, x1, x2, x3, x4, 0)) (f_X6_train_36 (thr τ 0) x1 x2 x3 x4) (TQ C3 σ) := by
    intro hA
    rw [rng3 x2 x3 x4 hA]
    unfold f_X6_train_36 f_X6_train_41
    refine ri_eR (mo_ref1 thr0 ne10 (by decide)) (ri_fR ne10 ?_)
    rw [thr_thr]
    exact tq_l (h.thr 2) thr0
  refine ri_eR (mo_noPiece _ _) ?_
  by_cases c1 : (0 ≤ x2 ∧ x2 ≤ 9) ∧ 0 ≤ x3 ∧ x3 ≤ 99
  · rw [if_pos c1]
    refine ri_tR rfl (ri_iR (fun c2 => bad ?_) fun c2 => ri_eR (mo_isIn _ _ _) ?_)
    · rintro ⟨⟨q, -⟩, -⟩
      rw [c2] at q
      exact absurd q (by decide)
    · by_cases c3 : 1 ≤ x4 ∧ x4 ≤ 12
      · rw [if_pos c3]
        refine ri_fR ne10 ?_
        have c4 : 1 ≤ x2 := by
          have := c1.1.1
          clear c1 c3 bad h0 h
          grind
        obtain ⟨a, ha, rfl⟩ := nIof (b := 9) (by omega) c1.1.1 c1.1.2
        obtain ⟨b, hb, rfl⟩ := nIof (b := 99) (by omega) c1.2.1 c1.2.2
        obtain ⟨n, hn, rfl⟩ := nIof (b := 12) (by omega) (Int32.le_trans (by decide) c3.1) c3.2
        have ha1 : 1 ≤ a := (nI_lei (a := 1) (by omega) (by omega)).mp c4
        refine ri_obr (cl_within ⟨c4, c1.1.2⟩) (ri_obr (cl_within c1.2) (ri_obr (cl_within c3) ?_))
        unfold f_X6_train_41
        have hl := len20 h.1 hj
        refine ri_eR (mo_ref0 thr0 rfl) (ri_tR rfl (ri_eR (sizeN (gtr_x hx)) ?_))
        have es : nI ((thr τ 0).1 j).length + nI n ≤ 20 ↔ (τ.1 j).length + n ≤ 20 := sum_le (by rw [thr1]; omega) (by omega)
        rcases room_cases h hj hx (n := n) (by omega) with ⟨r1, r2⟩ | ⟨r1, r2⟩
        · refine ri_tR (es.mpr r1) ?_
          unfold f_X6_train_67
          exact ri_eR (mo_ref0 thr0 rfl) (ri_tR rfl (ri_obr r2 (ag_trainL h0 thr0 hj hx hn ⟨ha1, ha⟩ hb r1)))
        · refine ri_fR (mt es.mp r1) ?_
          unfold f_X6_train_67
          refine ri_eR (mo_ref1 thr0 ne10 (by decide)) (ri_fR ne10 (ri_obl r2 ?_))
          rw [thr_thr]
          exact tq_l (h.thr 3) thr0
      · rw [if_neg c3]
        exact ri_tR rfl (bad fun q => c3 q.2.2)
  · rw [if_neg c1]
    refine ri_fR ne10 (bad fun q => c1 ⟨⟨Int32.le_trans (by decide) q.1.1, q.1.2⟩, q.2.1⟩)
theorem ag_rotL (h : RX σ τ) (h0 : τ.2 0 = 0) {x1 x2 u0 y : Int32} {j : Nat} (hj : j < 2) (hx : x1 = 0 ∧ j = 0 ∨ x1 = 1 ∧ j = 1) (hl : 0 < (τ.1 j).length) (hu : u0 = if x2 ≤ 0 then 0 else 1) (hy : y = if 0 ≤ x2 then x2 else 0 - x2) (h6 : y ≤ 6) : Ri (f_X3_rotate_41 σ x1 u0 y) (lpn f_X6_rotate_50 24 (τ, x1, x2, 0)) (TQ C2 σ) := by
  unfold f_X3_rotate_41
  refine ri_lpn (fun s t => ∃ i : Int32, (0 ≤ i ∧ i ≤ 6) ∧ s.2 = (x1, u0, y, i) ∧ t.2 = (x1, x2, i) ∧ RX s.1 t.1 ∧ t.1.2 0 = 0 ∧ 0 < (t.1.1 j).length) ?_ 24 64 _ _ (by omega) ⟨0, ⟨by decide, by decide⟩, rfl, rfl, h, h0, hl⟩
  rintro k1 k2 ⟨s, s2⟩ ⟨t, t2⟩ ⟨i, hi, e1, e2, hr, ht, hlen⟩ hk
  dsimp only at e1 e2 hr ht hlen
  subst e1 e2
  have hl20 := len20 hr.1 hj
  unfold f_X3_rotate_46 f_X6_rotate_50
  dsimp only
  refine ri_nR fun y2 hy2 => ?_
  have ey : y2 = y := by rw [hy2, hy]
  subst ey
  refine ri_iR (fun c => ri_tL c ?_) fun c => ri_fL c ?_
  · refine ri_eR (getN (i := 0) (gtr_x hx) hlen hl20) (ri_eL (codeAtEnd_ok hr hj hx 0) ?_)
    rw [if_neg (by omega), if_pos rfl]
    exact tq_r hr ht rfl
  · have ci : i < y2 := Int32.not_le.mp c
    have i1 : 0 ≤ i + 1 ∧ i + 1 ≤ 6 := by
      have a := hi.1
      clear hy hy2 hu c
      constructor <;> grind
    have fin : ∀ (p q : Int32), Ri ((f_X3_stepOff s x1 p).bind fun z13 => f_X3_rotate_72 k1 z13.2 x1 u0 y2 i z13.1 x1 q) (f_X6_rotate_80 k2 t x1 x2 i x1 q x1 p) (TQ C2 σ) := by
      intro p q
      unfold f_X6_rotate_80 f_X3_rotate_72
      refine ri_call (si_out hr hj hx hlen) fun z z2 hz => ?_
      rw [hz.1]
      have hc : TV j z2.1 := by rw [← hz.1]; exact hz.2.1
      have hl2 : (z2.2.1 j).length = (t.1 j).length - 1 := hz.2.2.2.2.1
      refine ri_call (si_in hz.2.2.rx hj hx (by omega) hc) fun s3 t3 h3 => ri_nR fun w hw => ri_nL fun w2 hw2 => ?_
      subst hw2 hw
      refine hk _ _ ⟨i + 1, i1, rfl, rfl, h3.rx, (h3.2.1.trans hz.2.2.2.1).trans ht, ?_⟩
      show 0 < (t3.1 j).length
      rw [h3.2.2.1]; omega
    have e0 : u0 = 0 ∨ u0 = 1 := by
      rw [hu]
      split
      · exact Or.inl rfl
      · exact Or.inr rfl
    have ex : ∀ (G : Int32 × CS → Option (Nat ⊕ (Int32 × CS))) (q : Int32), (∀ z : Int32 × CS, (if u0 = 0 then f_X3_rotate_72 k1 z.2 x1 u0 y2 i z.1 x1 1 else f_X3_rotate_72 k1 z.2 x1 u0 y2 i z.1 x1 0) = f_X3_rotate_72 k1 z.2 x1 u0 y2 i z.1 x1 q) → ((f_X3_stepOff s x1 u0).bind fun z13 => if u0 = 0 then f_X3_rotate_72 k1 z13.2 x1 u0 y2 i z13.1 x1 1 else f_X3_rotate_72 k1 z13.2 x1 u0 y2 i z13.1 x1 0) = ((f_X3_stepOff s x1 u0).bind fun z13 => f_X3_rotate_72 k1 z13.2 x1 u0 y2 i z13.1 x1 q) := by
      intro _ q hq
      congr 1
      funext z
      exact hq z
    by_cases c1 : x2 ≤ 0
    · have eu : u0 = 0 := by rw [hu, if_pos c1]
      rw [ex (fun _ => none) 1 (fun z => if_pos eu), eu]
      have c2 : ¬ 0 ≤ x2 := by
        intro c2
        have : x2 = 0 := Int32.le_antisymm c1 c2
        rw [this] at hy
        have hy : y2 = 0 := hy
        rw [hy] at ci
        exact absurd hi.1 (Int32.not_le.mpr ci)
      refine ri_fR c2 ?_
      unfold f_X6_rotate_69
      rw [eu] at fin
      exact ri_tR c1 (fin 0 1)
    · have eu : u0 = 1 := by rw [hu, if_neg c1]
      rw [ex (fun _ => none) 0 (fun z => if_neg (by rw [eu]; decide)), eu]
      have c2 : 0 ≤ x2 := Int32.le_of_lt (Int32.not_le.mp c1)
      refine ri_tR c2 ?_
      unfold f_X6_rotate_69
      rw [eu] at fin
      exact ri_fR c1 (fin 1 0)
theorem ag_rotate (h : RX σ τ) (x1 x2 : Int32) : Ri (f_X3_rotate σ x1 x2) (f_X6_rotate τ x1 x2) (TQ C2 σ) := by
  unfold f_X3_rotate f_X6_rotate
  refine gd_track (fun j hj hx => ri_tR rfl (ri_eR (mo_isIn _ _ _) ?_)) (ri_fR ne10 (tq_l (h.thr 1) thr0))
  have h0 := h.thr 0
  unfold f_X6_rotate_29
  by_cases c : -6 ≤ x2 ∧ x2 ≤ 6
  · rw [if_pos c]
    refine ri_fR ne10 (ri_eR (mo_ref0 thr0 rfl) (ri_tR rfl (ri_eR (sizeN (gtr_x hx)) (ri_obr (cl_within c) ?_))))
    have hr := h.row (i := j) (by omega)
    have hl := hr.len
    have e21 : (if x2 ≤ 0 then f_X3_rotate_21 σ x1 x2 0 else f_X3_rotate_21 σ x1 x2 1) = f_X3_rotate_21 σ x1 x2 (if x2 ≤ 0 then 0 else 1) := by
      split <;> rfl
    rw [e21]
    unfold f_X3_rotate_21
    refine ri_eL (trackOf_ok hx) (ri_eL (rw_isEmpty hr) ?_)
    by_cases d : (τ.1 j).length = 0
    · rw [if_pos d]
      refine ri_fL ne10 (ri_tR ((nI_eqz (a := ((thr τ 0).1 j).length) (by rw [thr1]; omega)).mpr d) ?_)
      unfold f_X3_rotate_41
      show Ri (f_X3_rotate_46 (lpn f_X3_rotate_46 63) (σ, x1, _, 0, 0)) _ _
      unfold f_X3_rotate_46
      refine ri_tL (show (0 : Int32) ≤ 0 by decide) (ri_eL (codeAtEnd_ok h hj hx 0) ?_)
      rw [if_pos d]
      exact tq_r h0 thr0 rfl
    · rw [if_neg d]
      refine ri_tL rfl (ri_fR (mt (nI_eqz (a := ((thr τ 0).1 j).length) (by rw [thr1]; omega)).mp d) (ri_nL fun y hy => ?_))
      refine ag_rotL h0 thr0 hj hx (by rw [thr1]; omega) rfl hy ?_
      rw [hy]
      split
      · exact c.2
      · have := c.1
        clear hy hl hr e21 h0 h
        grind
  · rw [if_neg c]
    refine ri_tR rfl (ri_eR (mo_ref1 thr0 ne10 (by decide)) (ri_fR ne10 (ri_obl (cl_without c) ?_)))
    rw [thr_thr]
    exact tq_l (h.thr 2) thr0
end L3D
