/-! the model: splice, shunt, walkers, moves, what is told -/
section OKS
variable {k : Int32} {τ : MS}
theorem ok_X6_splice (hb : IB k τ) (hw : WK τ) (hu : UT τ) (x1 : Int32) : Ok (f_X6_splice τ x1) (KQ k) := by
  have m45 : ∀ s u1, s.2 0 = 0 → IB k s → WK s → UT s → 0 ≤ x1 → (u1 = 0 → (s.1 0).length + (s.1 1).length ≤ 20) → Ok (f_X6_splice_45 s x1 u1) (KQ k) := by
    intro s u1 e0 b w u h0 hl
    unfold f_X6_splice_45
    refine ok_refuse b w u e0 (by decide) (fun s2 i2 e _ en b w u => ok_t rfl ?_) fun s b w u => ok_f ne10 (kq b w u)
    have hl := hl i2
    rw [← e] at hl
    refine ok_ev (sizeN (j := 0) rfl) (ok_if (fun _ => kq b w u) fun _ => ok_ev (sizeN (j := 1) rfl) (ok_if (fun c => ?_) fun _ => kq b w u))
    have c : x1 ≤ nI (s2.1 1).length := c
    show Ok (lpn f_X6_splice_80 24 (s2, x1, nI (s2.1 0).length, 0)) (KQ k)
    obtain ⟨i, hi, rfl⟩ := nIof (by omega) h0 c
    generalize hA : (s2.1 0).length = a at *
    generalize hB : (s2.1 1).length = d at *
    refine up24 (fun m t => (IB k t.1 ∧ WK t.1) ∧ t.2.1 = nI i ∧ t.2.2.1 = nI a ∧ t.2.2.2 = nI m ∧ (t.1.1 0).length + m = a ∧ (t.1.1 1).length = d + m) a (by omega) ?_ ⟨⟨b, w⟩, rfl, rfl, rfl, hA, hB⟩
    clear hA hB b w u e0 en e
    rintro kk ⟨s3, v1, v2, v3⟩ m hm ⟨⟨b, w⟩, a1, a2, a3, a4, a5⟩ hk
    dsimp only at b w a1 a2 a3 a4 a5
    subst a1 a2 a3
    unfold f_X6_splice_80
    dsimp only
    refine ok_if (fun _ => ok_tear b w fun s4 b4 w4 u4 _ _ _ => kq b4 w4 u4) fun c1 => ?_
    have hml : m < a := Nat.lt_of_not_le (mt (nI_lei (by omega) (by omega)).mpr c1)
    refine ok_bind (goN b w (j := 0) (x := 0) (i := 0) (by omega) (Or.inl ⟨rfl, rfl⟩) (by omega)) fun z hz => ?_
    obtain ⟨⟨b4, w4, hv, -⟩, l4, o4⟩ := hz
    have l41 : (z.2.1 1).length = d + m := by rw [o4 1 (by omega)]; exact a5
    rw [nI_sum (by omega)]
    refine ok_bind (comeN b4 w4 (j := 1) (x := 1) (by omega) (Or.inr ⟨rfl, rfl⟩) (by omega) (by omega) hv) fun z5 hz5 => ?_
    obtain ⟨⟨b5, w5, -⟩, l5, o5⟩ := hz5
    refine ok_nme fun y hy => hk _ hml ⟨⟨b5, w5⟩, rfl, rfl, by rw [hy]; exact nI_suc (by omega), ?_, ?_⟩
    · show (z5.1 0).length + (m + 1) = a
      rw [o5 0 (by omega)]
      omega
    · show (z5.1 1).length = d + (m + 1)
      omega
  have m16 : ∀ u1, (u1 = 0 → 0 ≤ x1) → Ok (f_X6_splice_16 τ x1 u1) (KQ k) := by
    intro u1 h1
    unfold f_X6_splice_16
    refine ok_start hb hw hu (by decide) (fun s i e e0 en b w u => ok_t rfl ?_) fun s b w u => ok_f ne10 (kq b w u)
    have l0 := b.lenj (j := 0) (by omega)
    have l1 := b.lenj (j := 1) (by omega)
    refine ok_ev (sizeN (j := 0) rfl) (ok_ev (sizeN (j := 1) rfl) (ok_if (fun c => m45 _ _ e0 b w u (h1 i) fun _ => ?_) fun c => m45 _ _ e0 b w u (h1 i) fun h => absurd h ne10))
    have c : nI (s.1 0).length + nI (s.1 1).length ≤ nI 20 := c
    rw [nI_sum (by omega)] at c
    exact (nI_lei (a := (s.1 0).length + (s.1 1).length) (b := 20) (by omega) (by omega)).mp c
  unfold f_X6_splice
  exact ok_bind (ok_X6_isIn _ _ _) fun z hz => ok_if (fun _ => m16 _ fun h => absurd h ne10) fun c => m16 _ fun _ => (hz.2 c).1
theorem ok_X6_shunt (hb : IB k τ) (hw : WK τ) (hu : UT τ) (x1 x2 : Int32) : Ok (f_X6_shunt τ x1 x2) (KQ k) := by
  have m54 : ∀ s u1 n, s.2 0 = 0 → IB k s → WK s → UT s → 0 ≤ x1 → (u1 = 0 → x2 = nI n ∧ n ≤ 20 ∧ (s.1 0).length + n ≤ 20) → Ok (f_X6_shunt_54 s x1 x2 u1) (KQ k) := by
    intro s u1 n e0 b w u h0 hl
    unfold f_X6_shunt_54
    refine ok_refuse b w u e0 (by decide) (fun s2 i2 e _ en b w u => ok_t rfl ?_) fun s b w u => ok_f ne10 (kq b w u)
    obtain ⟨rfl, hn, hl⟩ := hl i2
    rw [← e] at hl
    have l1 := b.lenj (j := 1) (by omega)
    refine ok_ev (sizeN (j := 1) rfl) (ok_if (fun c => ?_) fun _ => kq b w u)
    have c : x1 < nI (s2.1 1).length := c
    obtain ⟨i, hi, rfl⟩ := nIof (by omega) h0 (Int32.le_of_lt c)
    have hi2 := (nI_lti (by omega) (by omega)).mp c
    refine ok_ev (sizeN (j := 1) rfl) (ok_nme fun y hy => ?_)
    obtain ⟨a, ha, ha2, rfl⟩ : ∃ a, a ≤ n ∧ a + i ≤ (s2.1 1).length ∧ y = nI a := by
      have hy : y = if nI (s2.1 1).length - nI i < nI n then nI (s2.1 1).length - nI i else nI n := hy
      rw [nI_dif (by omega) (by omega)] at hy
      by_cases q : nI ((s2.1 1).length - i) < nI n
      · rw [if_pos q] at hy
        have q2 := (nI_lti (by omega) (by omega)).mp q
        exact ⟨_, by omega, by omega, hy⟩
      · rw [if_neg q] at hy
        have q2 := mt (nI_lti (a := (s2.1 1).length - i) (b := n) (by omega) (by omega)).mpr q
        exact ⟨n, by omega, by omega, hy⟩
    show Ok (lpn f_X6_shunt_90 24 (s2, nI i, 0, nI a)) (KQ k)
    clear hy
    refine up24 (fun m t => (IB k t.1 ∧ WK t.1) ∧ t.2.1 = nI i ∧ t.2.2.2 = nI (a - m) ∧ (t.1.1 0).length + (a - m) ≤ 20 ∧ a - m + i ≤ (t.1.1 1).length) a (by omega) ?_ ⟨⟨b, w⟩, rfl, rfl, by show (s2.1 0).length + (a - 0) ≤ 20; omega, ha2⟩
    clear b w u e0 en e hl
    rintro kk ⟨s3, v1, v2, v3⟩ m hm ⟨⟨b, w⟩, a1, a3, a4, a5⟩ hk
    dsimp only at b w a1 a3 a4 a5
    subst a1 a3
    unfold f_X6_shunt_90
    dsimp only
    refine ok_if (fun _ => ok_tear b w fun s4 b4 w4 u4 _ _ _ => kq b4 w4 u4) fun c1 => ?_
    have hml : m < a := by
      have := mt (nI_lei (a := a - m) (b := 0) (by omega) (by omega)).mpr c1
      omega
    refine ok_bind (goN b w (j := 1) (x := 1) (i := i) (by omega) (Or.inr ⟨rfl, rfl⟩) (by omega)) fun z hz => ?_
    obtain ⟨⟨b4, w4, hv, -⟩, l4, o4⟩ := hz
    have l40 : (z.2.1 0).length = (s3.1 0).length := by rw [o4 0 (by omega)]
    have m126 : ∀ s5 v, IB k s5 → WK s5 → (s5.1 0).length ≤ (s3.1 0).length + 1 → (s5.1 1).length = (z.2.1 1).length → Ok (f_X6_shunt_126 kk s5 (nI i) v (nI (a - m))) (KQ k) := by
      intro s5 v b5 w5 h50 h51
      unfold f_X6_shunt_126
      refine ok_nme fun y hy => hk _ hml ⟨⟨b5, w5⟩, rfl, ?_, ?_, ?_⟩
      · show y = _
        rw [hy, nI_prd2 (by omega) (by omega), show a - m - 1 = a - (m + 1) by omega]
      · show (s5.1 0).length + (a - (m + 1)) ≤ 20
        omega
      · show a - (m + 1) + i ≤ (s5.1 1).length
        omega
    refine ok_if (fun _ => m126 _ _ b4 w4 (by omega) rfl) fun _ => ok_ev (sizeN (j := 0) rfl) ?_
    refine ok_bind (comeN b4 w4 (j := 0) (x := 0) (by omega) (Or.inl ⟨rfl, rfl⟩) (Nat.le_refl _) (by omega) hv) fun z5 hz5 => ok_nme fun y _ => ?_
    obtain ⟨⟨b5, w5, -⟩, l5, o5⟩ := hz5
    exact m126 _ _ b5 w5 (by omega) (by rw [o5 1 (by omega)])
  have m29 : ∀ s u1, s.2 0 = 0 → IB k s → WK s → UT s → 0 ≤ x1 → (u1 = 0 → 1 ≤ x2 ∧ x2 ≤ 20) → Ok (f_X6_shunt_29 s x1 x2 u1) (KQ k) := by
    intro s u1 e0 b w u h0 h2
    unfold f_X6_shunt_29
    refine ok_refuse b w u e0 (by decide) (fun s i e e0 en b w u => ok_t rfl ?_) fun s b w u => ok_f ne10 (kq b w u)
    obtain ⟨h21, h22⟩ := h2 i
    have l0 := b.lenj (j := 0) (by omega)
    obtain ⟨n, hn, rfl⟩ := nIof (b := 20) (by omega) (Int32.le_trans (by decide) h21) h22
    refine ok_ev (sizeN (j := 0) rfl) (ok_if (fun c => m54 _ _ n e0 b w u h0 fun _ => ⟨rfl, hn, ?_⟩) fun c => m54 _ _ n e0 b w u h0 fun h => absurd h ne10)
    have c : nI (s.1 0).length + nI n ≤ nI 20 := c
    rw [nI_sum (by omega)] at c
    exact (nI_lei (a := (s.1 0).length + n) (b := 20) (by omega) (by omega)).mp c
  unfold f_X6_shunt
  refine ok_bind (ok_X6_isNoPlace _) fun z hz => ok_start hb hw hu (by decide) (fun s i e e0 en b w u => ok_t rfl ?_) fun s b w u => ok_f ne10 (kq b w u)
  exact ok_bind (ok_X6_isIn _ _ _) fun z2 hz2 => ok_if (fun _ => m29 _ _ e0 b w u (hz i).1 fun h => absurd h ne10) fun c => m29 _ _ e0 b w u (hz i).1 fun _ => hz2.2 c
theorem ok_X6_isNowhere (hb : IB k τ) (hw : WK τ) (hu : UT τ) (x1 : Int32) : Ok (f_X6_isNowhere τ x1) (fun r => (r.1 = 0 ∨ r.1 = 1) ∧ (r.1 = 0 → (x1 = 0 ∨ x1 = 1) ∧ r.2.2 0 = 0 ∧ (x1 = 0 → ¬ r.2.2 5 = 0) ∧ (x1 = 1 → ¬ r.2.2 8 = 0)) ∧ IB k r.2 ∧ WK r.2 ∧ UT r.2) := by
  unfold f_X6_isNowhere
  refine ok_bind (ok_X6_isNoWalker _) fun z hz => ok_bind (ok_X6_start hb hw hu _ _ (by decide)) fun z2 hz2 => ?_
  obtain ⟨⟨-, i⟩, ⟨l, s⟩, b, w, u⟩ := hz2
  have e37 : ∀ s, IB k s → WK s → UT s → Ok (f_X6_isNowhere_37 s) (fun r => (r.1 = 0 ∨ r.1 = 1) ∧ (r.1 = 0 → (x1 = 0 ∨ x1 = 1) ∧ r.2.2 0 = 0 ∧ (x1 = 0 → ¬ r.2.2 5 = 0) ∧ (x1 = 1 → ¬ r.2.2 8 = 0)) ∧ IB k r.2 ∧ WK r.2 ∧ UT r.2) := fun s b w u => ok_some ⟨Or.inr rfl, fun e => absurd e ne10, b, w, u⟩
  refine ok_if (fun c => ?_) fun c => e37 _ b w u
  obtain ⟨i0, i1⟩ := i c
  have p := hz i0
  obtain ⟨j, hj, hx, hg⟩ := gwk_ok p
  have e30 : ∀ v, (v = 0 → ¬ z2.2.2 (5 + 3 * j) = 0) → Ok (f_X6_isNowhere_30 z2.2 v) (fun r => (r.1 = 0 ∨ r.1 = 1) ∧ (r.1 = 0 → (x1 = 0 ∨ x1 = 1) ∧ r.2.2 0 = 0 ∧ (x1 = 0 → ¬ r.2.2 5 = 0) ∧ (x1 = 1 → ¬ r.2.2 8 = 0)) ∧ IB k r.2 ∧ WK r.2 ∧ UT r.2) := by
    intro v hv
    unfold f_X6_isNowhere_30
    refine ok_bind (ok_X6_refuse b w u _ _ i1 (by decide)) fun z3 hz3 => ?_
    obtain ⟨⟨-, i3⟩, ⟨l3, s3⟩, b3, w3, u3⟩ := hz3
    refine ok_if (fun c3 => ok_some ⟨Or.inl rfl, fun _ => ⟨p, (i3 c3).2, fun e => ?_, fun e => ?_⟩, b3, w3, u3⟩) fun _ => e37 _ b3 w3 u3
    · have hv := hv (i3 c3).1
      rcases hx with ⟨a, a2⟩ | ⟨a, a2⟩
      · subst a2
        show ¬ z3.2.2 5 = 0
        rw [s3 5 (by omega)]; exact hv
      · rw [a] at e; exact absurd e ne10
    · have hv := hv (i3 c3).1
      rcases hx with ⟨a, a2⟩ | ⟨a, a2⟩
      · rw [a] at e; exact absurd e (by decide)
      · subst a2
        show ¬ z3.2.2 8 = 0
        rw [s3 8 (by omega)]; exact hv
  exact ok_ev hg (ok_if (fun _ => e30 _ fun h => absurd h ne10) fun c => e30 _ fun _ => c)
theorem ok_move (hb : IB k τ) (hw : WK τ) (hu : UT τ) (x1 : Int32) (p0 : 0 ≤ x1) (p1 : x1 ≤ 7) : Ok (f_X6_move τ x1) (KQ k) := by
  have m86 : ∀ v2 v3 u1 u2, (v2 = 0 ∨ v2 = 1) → (u1 = 0 ∨ u1 = 1) → v2 ≠ u1 → 1 ≤ TS τ v2 → TS τ u1 < 20 → Ok (f_X6_move_86 τ v2 v3 u1 u2) (KQ k) := by
    intro v2 v3 u1 u2 q1 q2 q3 h1 h2
    unfold f_X6_move_86
    refine ok_bind (ok_X6_stepOut hb hw hu v2 v3 q1 h1) fun z hz => ?_
    obtain ⟨b, w, u, hv, -, s⟩ := hz
    have e : TS z.2 u1 = TS τ u1 := by
      obtain ⟨s0, s1⟩ := s
      rcases q1 with q1 | q1 <;> rcases q2 with q2 | q2 <;> subst q1 q2
      · exact absurd rfl q3
      · rw [if_neg (by decide)] at s1
        exact s1
      · rw [if_neg (by decide)] at s0
        exact s0
      · exact absurd rfl q3
    refine ok_bind (ok_X6_stepIn b w u _ _ _ q2 (show TS z.2 u1 < 20 by rw [e]; exact h2) hv) fun z2 hz2 => ok_some ⟨hz2.1, hz2.2.1, hz2.2.2.1⟩
  have hq := dv4 p0 p1
  have q1 : x1 / 4 = 0 ∨ x1 / 4 = 1 := by
    have h0 := hq.1
    have h1 := hq.2
    generalize x1 / 4 = y at *
    clear hq
    grind
  have q2 : ∀ y : Int32, (y = 0 ∨ y = 1) → (1 - y = 0 ∨ 1 - y = 1) ∧ y ≠ 1 - y := by
    rintro y (h | h) <;> subst h <;> decide
  have m18 : ∀ y v0, (y = 0 ∨ y = 1) → Ok (f_X6_move_18 τ x1 y v0) (KQ k) := by
    intro y v0 hy
    obtain ⟨p2, p3⟩ := q2 y hy
    unfold f_X6_move_18
    refine ok_bind (ok_X6_size hb _ hy) fun z hz => ok_if (fun _ => kq hb hw hu) fun c => ok_bind (ok_X6_size hb _ p2) fun z2 hz2 => ok_if (fun _ => kq hb hw hu) fun c2 => ?_
    have hz : z = TS τ y ∧ 0 ≤ z ∧ z ≤ 20 := hz
    have hz2 : z2 = TS τ (1 - y) ∧ 0 ≤ z2 ∧ z2 ≤ 20 := hz2
    have h1 : 1 ≤ TS τ y := by
      rw [← hz.1]
      have := hz.2.1
      clear hz hz2
      grind
    have h2 : TS τ (1 - y) < 20 := by
      rw [← hz2.1]
      have := hz2.2.2
      clear hz hz2
      grind
    have m59 : ∀ i, 0 ≤ i → i < TS τ y → Ok (f_X6_move_59 τ x1 y v0 (1 - y) y i) (KQ k) := by
      intro i i0 i1
      unfold f_X6_move_59
      refine ok_bind (ok_X6_get hb _ _ hy i0 i1) fun z3 hz3 => ok_bind (ok_X6_isBarred _ _) fun z4 _ => ok_if (fun _ => ?_) fun _ => kq hb hw hu
      exact ok_if (fun _ => m86 _ _ _ _ hy p2 p3 h1 h2) fun _ => m86 _ _ _ _ hy p2 p3 h1 h2
    refine ok_if (fun _ => m59 0 (by decide) ?_) fun _ => ok_bind (ok_X6_size hb _ hy) fun z5 hz5 => m59 _ ?_ ?_
    · clear hz hz2
      grind
    · have hz5 : z5 = TS τ y ∧ 0 ≤ z5 ∧ z5 ≤ 20 := hz5
      rw [← hz5.1] at h1
      clear hz hz2 hz5
      grind
    · have hz5 : z5 = TS τ y ∧ 0 ≤ z5 ∧ z5 ≤ 20 := hz5
      rw [← hz5.1] at h1 ⊢
      have := hz5.2.2
      clear hz hz2 hz5
      grind
  unfold f_X6_move
  exact ok_nme fun y hy => ok_if (fun _ => m18 _ _ (by rw [hy]; exact q1)) fun _ => m18 _ _ (by rw [hy]; exact q1)
theorem ok_X6_move (hb : IB k τ) (hw : WK τ) (hu : UT τ) (x1 : Int32) (p0 : 0 ≤ x1) (p1 : x1 ≤ 7) : Ok (f_X6_move τ x1) (fun r => IB k r.2 ∧ WK r.2 ∧ UT r.2) := ok_move hb hw hu x1 p0 p1
/-! what is asked -/
theorem ok_X6_asked (hb : IB k τ) (x1 x2 : Int32) (p : x1 = 0 ∨ x1 = 1) : Ok (f_X6_asked τ x1 x2) fun _ => True := by
  obtain ⟨j, hj, hx, hg⟩ := trk_ok p
  have hl := hb.lenj hj
  have m15 : ∀ u, Ok (f_X6_asked_15 τ x1 x2 u) fun _ => True := by
    intro u
    unfold f_X6_asked_15
    have m34 : Ok (f_X6_asked_34 τ) fun _ => True := ok_some trivial
    have m58 : ∀ i, i < (τ.1 j).length → Ok (f_X6_asked_58 τ x1 (nI i)) fun _ => True := by
      intro i hi
      unfold f_X6_asked_58
      exact ok_ev (getN hg hi hl) (ok_some trivial)
    refine ok_ev (sizeN hg) (ok_if (fun _ => ok_if (fun _ => m34) fun _ => ok_if (fun _ => m34) fun _ => ok_some trivial) fun c => ?_)
    have h1 : 1 ≤ (τ.1 j).length := by
      have := mt (nI_eqi (a := (τ.1 j).length) (b := 0) (by omega) (by omega)).mpr c
      omega
    refine ok_if (fun _ => m58 0 (by omega)) fun _ => ok_ev (sizeN hg) ?_
    rw [nI_prd h1 (by omega)]
    exact m58 _ (by omega)
  have m10 : Ok (f_X6_asked_10 τ x1 x2) fun _ => True := m15 1
  unfold f_X6_asked
  exact ok_if (fun _ => m10) fun _ => ok_if (fun _ => m10) fun _ => m15 0
theorem ok_ask27 (hb : IB k τ) (hw : WK τ) (hu : UT τ) (h0 : τ.2 0 = 0) (x1 x2 u1 : Int32) (p : x1 = 0 ∨ x1 = 1) : Ok (f_X6_ask_27 τ x1 x2 u1) (KQ k) := by
  unfold f_X6_ask_27
  refine ok_refuse hb hw hu h0 (by decide) (fun s i e e0 en b w u => ok_t rfl ?_) fun s b w u => ok_f ne10 (kq b w u)
  exact ok_bind (ok_X6_asked b _ _ p) fun z _ => kq b w u
theorem ok_X6_ask (hb : IB k τ) (hw : WK τ) (hu : UT τ) (x1 x2 : Int32) : Ok (f_X6_ask τ x1 x2) (KQ k) := by
  unfold f_X6_ask
  refine ok_bind (ok_X6_isNoTrack _) fun z hz => ok_start hb hw hu (by decide) (fun s i e e0 en b w u => ok_t rfl ?_) fun s b w u => ok_f ne10 (kq b w u)
  exact ok_bind (ok_X6_isIn _ _ _) fun z2 _ => ok_if (fun _ => ok_ask27 b w u e0 _ _ _ (hz i)) fun _ => ok_ask27 b w u e0 _ _ _ (hz i)
theorem ok_X6_trackTold (hb : IB k τ) (hw : WK τ) (hu : UT τ) (x1 x2 : Int32) (p : x1 = 0 ∨ x1 = 1) (p0 : 0 ≤ x2) (p1 : x2 ≤ 3) : Ok (f_X6_trackTold τ x1 x2) (fun r => IB k r.2 ∧ WK r.2 ∧ UT r.2) := by
  obtain ⟨j, hj, hx, hg⟩ := trk_ok p
  have hl := hb.lenj hj
  obtain ⟨w2, hw2, rfl⟩ := nIof (b := 3) (by omega) p0 p1
  unfold f_X6_trackTold
  refine up24 (fun m t => t.1 = x1 ∧ t.2.1 = nI w2 ∧ t.2.2.2.2 = nI m) (τ.1 j).length (by omega) ?_ ⟨rfl, rfl, rfl⟩
  rintro kk ⟨v1, v2, v3, v4, v5⟩ m hm ⟨a1, a2, a3⟩ hk
  dsimp only at a1 a2 a3
  subst a1 a2 a3
  have m81 : ∀ g u, Ok (f_X6_trackTold_81 τ (nI w2) v3 v4 4 g 1 u) (fun r => IB k r.2 ∧ WK r.2 ∧ UT r.2) := by
    intro g u
    unfold f_X6_trackTold_81
    exact ok_bind (ok_X6_one _) fun z _ => ok_f (by decide) (ok_nme fun g1 _ => ok_f (by decide) (ok_nme fun g2 _ => ok_f (by decide) (ok_nme fun g3 _ => ok_f (arr_iN (by omega) (by omega)) (ok_some ⟨hb, hw, hu⟩))))
  unfold f_X6_trackTold_8
  dsimp only
  refine ok_ev (sizeN hg) (ok_if (fun _ => ?_) fun c => ?_)
  · refine ok_f (by decide) (ok_nme fun n hn => ok_nme fun g _ => ?_)
    have hn : n = 4 := hn
    subst hn
    exact ok_ev (sizeN hg) (ok_f (by decide) (ok_nme fun g1 _ => ok_ev (sizeN hg) (ok_if (fun _ => m81 _ _) fun _ => m81 _ _)))
  · have hml : m < (τ.1 j).length := Nat.lt_of_not_le (mt (nI_lei (by omega) (by omega)).mpr c)
    refine ok_ev (getN hg hml hl) (ok_bind (P := fun _ => True) (ok_some trivial) fun z _ => ok_nme fun y1 _ => ok_ev (getN hg hml hl) (ok_bind (P := fun _ => True) (ok_some trivial) fun z2 _ => ok_nme fun y2 _ => ok_nme fun y3 hy3 => hk _ hml ⟨rfl, rfl, by rw [hy3]; exact nI_suc (by omega)⟩))
theorem ok_ofTrack27 (hb : IB k τ) (hw : WK τ) (hu : UT τ) (h0 : τ.2 0 = 0) (x1 x2 u1 : Int32) (p : x1 = 0 ∨ x1 = 1) (q : u1 = 0 → 0 ≤ x2 ∧ x2 ≤ 3) : Ok (f_X6_ofTrack_27 τ x1 x2 u1) (KQ k) := by
  unfold f_X6_ofTrack_27
  refine ok_refuse hb hw hu h0 (by decide) (fun s i e e0 en b w u => ok_t rfl ?_) fun s b w u => ok_f ne10 (kq b w u)
  exact ok_bind (ok_X6_trackTold b w u _ _ p (q i).1 (q i).2) fun z hz => ok_some hz
theorem ok_X6_ofTrack (hb : IB k τ) (hw : WK τ) (hu : UT τ) (x1 x2 : Int32) : Ok (f_X6_ofTrack τ x1 x2) (KQ k) := by
  unfold f_X6_ofTrack
  refine ok_bind (ok_X6_isNoTrack _) fun z hz => ok_start hb hw hu (by decide) (fun s i e e0 en b w u => ok_t rfl ?_) fun s b w u => ok_f ne10 (kq b w u)
  exact ok_bind (ok_X6_isIn _ _ _) fun z2 hz2 => ok_if (fun _ => ok_ofTrack27 b w u e0 _ _ _ (hz i) fun h => absurd h ne10) fun c => ok_ofTrack27 b w u e0 _ _ _ (hz i) fun _ => hz2.2 c
theorem ok_X6_compared (hb : IB k τ) (x1 : Int32) : Ok (f_X6_compared τ x1) fun r => r = 0 ∨ r = 1 := by
  have l0 := hb.lenj (j := 0) (by omega)
  have m19 : (¬ x1 = 0 → (τ.1 0).length = (τ.1 1).length) → Ok (f_X6_compared_19 τ x1) fun r => r = 0 ∨ r = 1 := by
    intro he
    unfold f_X6_compared_19
    refine up24 (fun m t => t.1 = x1 ∧ t.2 = nI m) (τ.1 0).length (by omega) ?_ ⟨rfl, rfl⟩
    rintro kk ⟨v1, v2⟩ m hm ⟨a1, a2⟩ hk
    dsimp only at a1 a2
    subst a1 a2
    unfold f_X6_compared_21
    dsimp only
    refine ok_ev (sizeN (j := 0) rfl) (ok_if (fun _ => ok_some (Or.inr rfl)) fun c => ?_)
    have hml : m < (τ.1 0).length := Nat.lt_of_not_le (mt (nI_lei (by omega) (by omega)).mpr c)
    have m73 : Ok (f_X6_compared_73 τ kk v1 (nI m)) fun r => r = 0 ∨ r = 1 := by
      unfold f_X6_compared_73
      exact ok_nme fun y hy => hk _ hml ⟨rfl, by rw [hy]; exact nI_suc (by omega)⟩
    refine ok_ev (getN (j := 0) rfl hml l0) (ok_bind (P := fun _ => True) (ok_some trivial) fun z _ => ok_if (fun _ => ok_bind (ok_X6_found hb _ _ _ (Or.inr rfl)) fun z2 _ => ok_if (fun _ => ok_some (Or.inl rfl)) fun _ => m73) fun c2 => ?_)
    have e := he c2
    exact ok_ev (getN (j := 1) rfl (by omega) (by omega)) (ok_bind (P := fun _ => True) (ok_some trivial) fun z3 _ => ok_if (fun _ => m73) fun _ => ok_some (Or.inl rfl))
  unfold f_X6_compared
  refine ok_if (fun c => m19 fun h => absurd c h) fun _ => ok_ev (sizeN (j := 0) rfl) (ok_ev (sizeN (j := 1) rfl) (ok_if (fun c => m19 fun _ => ?_) fun _ => ok_some (Or.inl rfl)))
  have l1 := hb.lenj (j := 1) (by omega)
  exact (nI_eqi (by omega) (by omega)).mp c
theorem ok_X6_compare (hb : IB k τ) (hw : WK τ) (hu : UT τ) (x1 : Int32) : Ok (f_X6_compare τ x1) (KQ k) := by
  unfold f_X6_compare
  refine ok_nme fun s hs => ?_
  have b : IB k s := by rw [hs]; exact hb.sc (by omega)
  have w : WK s := by rw [hs]; exact hw.sc (by omega)
  have u : UT s := by rw [hs]; exact hu.sc
  exact ok_bind (ok_X6_compared b _) fun z hz => ok_yes hz (kq b w u)
theorem ok_X6_nestedNow (hb : IB k τ) (hw : WK τ) (hu : UT τ) (x1 : Int32) (p : x1 = 0 ∨ x1 = 1) : Ok (f_X6_nestedNow τ x1) (fun r => IB k r.2 ∧ WK r.2 ∧ UT r.2) := by
  obtain ⟨j, hj, hx, hg⟩ := trk_ok p
  have hl := hb.lenj hj
  have fin : ∀ v : Int32, Ok (some (v, τ)) (fun r => IB k r.2 ∧ WK r.2 ∧ UT r.2) := fun v => ok_some ⟨hb, hw, hu⟩
  unfold f_X6_nestedNow
  refine ok_f (by decide) (ok_nme fun n hn => ok_nme fun g _ => ?_)
  have hn : n = 21 := hn
  subst hn
  refine up24 (fun m t => t.1 = τ ∧ t.2.1 = x1 ∧ t.2.2.1 = 21 ∧ (∃ c, c ≤ m ∧ t.2.2.2.2.1 = nI c) ∧ t.2.2.2.2.2.2 = nI m) (τ.1 j).length (by omega) ?_ ⟨rfl, rfl, rfl, ⟨0, Nat.le_refl _, rfl⟩, rfl⟩
  rintro kk ⟨s, v1, n, g2, v3, v4, v5⟩ m hm ⟨a1, a2, a3, ⟨c, hc, a4⟩, a5⟩ hk
  dsimp only at a1 a2 a3 a4 a5
  subst a1 a2 a3 a4 a5
  unfold f_X6_nestedNow_13
  dsimp only
  refine ok_ev (sizeN hg) (ok_if (fun _ => ok_if (fun _ => fin _) fun _ => fin _) fun c1 => ?_)
  have hml : m < (s.1 j).length := Nat.lt_of_not_le (mt (nI_lei (by omega) (by omega)).mpr c1)
  have m98 : ∀ g3 c3 v, c3 ≤ m + 1 → Ok (f_X6_nestedNow_98 kk s v1 21 g3 (nI c3) v (nI m)) (fun r => IB k r.2 ∧ WK r.2 ∧ UT r.2) := by
    intro g3 c3 v h3
    unfold f_X6_nestedNow_98
    exact ok_nme fun y hy => hk _ hml ⟨rfl, rfl, rfl, ⟨c3, h3, rfl⟩, by rw [hy]; exact nI_suc (by omega)⟩
  refine ok_ev (getN hg hml hl) (ok_bind (P := fun _ => True) (ok_some trivial) fun z _ => ok_if (fun _ => m98 _ _ _ (by omega)) fun _ => ok_if (fun _ => m98 _ _ _ (by omega)) fun _ => ok_if (fun _ => ?_) fun _ => ok_if (fun _ => fin _) fun c2 => ?_)
  · refine ok_f (arr_iN (by omega) (by omega)) (ok_nme fun g3 _ => ok_nme fun y hy => ok_nme fun y2 _ => ?_)
    rw [hy, nI_suc (by omega)]
    exact m98 _ _ _ (by omega)
  · have h1 : 1 ≤ c := by
      have := mt (nI_eqi (a := c) (b := 0) (by omega) (by omega)).mpr c2
      omega
    rw [nI_prd h1 (by omega)]
    refine ok_f (arr_iN (by omega) (by omega)) (ok_if (fun _ => ok_nme fun y hy => ?_) fun _ => fin _)
    rw [hy, nI_prd2 h1 (by omega)]
    exact m98 _ _ _ (by omega)
theorem ok_X6_nested (hb : IB k τ) (hw : WK τ) (hu : UT τ) (x1 : Int32) : Ok (f_X6_nested τ x1) (KQ k) := by
  unfold f_X6_nested
  refine ok_bind (ok_X6_isNoTrack _) fun z hz => ok_start hb hw hu (by decide) (fun s i e e0 en b w u => ok_t rfl ?_) fun s b w u => ok_f ne10 (kq b w u)
  exact ok_bind (ok_X6_nestedNow b w u _ (hz i)) fun z2 hz2 => ok_some hz2
theorem ok_X6_heaviest (hb : IB k τ) (hw : WK τ) (hu : UT τ) (x1 x2 x3 : Int32) : Ok (f_X6_heaviest τ x1 x2 x3) (KQ k) := by
  have m44 : ∀ s u1, s.2 0 = 0 → IB k s → WK s → UT s → (x1 = 0 ∨ x1 = 1) → (0 ≤ x3 ∧ x3 ≤ 19) → (u1 = 0 → 1 ≤ x2 ∧ x2 ≤ 20) → Ok (f_X6_heaviest_44 s x1 x2 x3 u1) (KQ k) := by
    intro s u1 e0 b w u p h3 h2
    unfold f_X6_heaviest_44
    refine ok_refuse b w u e0 (by decide) (fun s i e e0 en b w u => ok_t rfl ?_) fun s b w u => ok_f ne10 (kq b w u)
    obtain ⟨h21, h22⟩ := h2 i
    obtain ⟨j, hj, hx, hg⟩ := trk_ok p
    have hl := b.lenj hj
    obtain ⟨n, hn, rfl⟩ := nIof (b := 20) (by omega) (Int32.le_trans (by decide) h21) h22
    obtain ⟨a, ha, rfl⟩ := nIof (b := 19) (by omega) h3.1 h3.2
    refine ok_ev (sizeN hg) (ok_if (fun c => ?_) fun _ => kq b w u)
    have c : nI a + nI n ≤ nI (s.1 j).length := c
    rw [nI_sum (by omega)] at c
    have c := (nI_lei (by omega) (by omega)).mp c
    show Ok (lpn f_X6_heaviest_72 24 (s, x1, nI n, nI a, 0, 0)) (KQ k)
    refine up24 (fun m t => t.1 = s ∧ t.2.1 = x1 ∧ t.2.2.1 = nI n ∧ t.2.2.2.1 = nI a ∧ t.2.2.2.2.2 = nI m) n (by omega) ?_ ⟨rfl, rfl, rfl, rfl, rfl⟩
    rintro kk ⟨s2, v1, v2, v3, v4, v5⟩ m hm ⟨a1, a2, a3, a4, a5⟩ hk
    dsimp only at a1 a2 a3 a4 a5
    subst a1 a2 a3 a4 a5
    unfold f_X6_heaviest_72
    dsimp only
    refine ok_if (fun _ => kq b w u) fun c1 => ?_
    have hml : m < n := Nat.lt_of_not_le (mt (nI_lei (by omega) (by omega)).mpr c1)
    rw [nI_sum (by omega)]
    exact ok_ev (getN hg (by omega) hl) (ok_bind (P := fun _ => True) (ok_some trivial) fun z _ => ok_nme fun y _ => ok_nme fun y2 hy2 => hk _ hml ⟨rfl, rfl, rfl, rfl, by rw [hy2]; exact nI_suc (by omega)⟩)
  have m21 : ∀ u1, (u1 = 0 → (x1 = 0 ∨ x1 = 1) ∧ 0 ≤ x3 ∧ x3 ≤ 19) → Ok (f_X6_heaviest_21 τ x1 x2 x3 u1) (KQ k) := by
    intro u1 h
    unfold f_X6_heaviest_21
    refine ok_start hb hw hu (by decide) (fun s i e e0 en b w u => ok_t rfl ?_) fun s b w u => ok_f ne10 (kq b w u)
    obtain ⟨p, h3⟩ := h i
    exact ok_bind (ok_X6_isIn _ _ _) fun z hz => ok_if (fun _ => m44 _ _ e0 b w u p h3 fun h => absurd h ne10) fun c => m44 _ _ e0 b w u p h3 fun _ => hz.2 c
  have m16 : Ok (f_X6_heaviest_16 τ x1 x2 x3) (KQ k) := m21 1 fun h => absurd h ne10
  unfold f_X6_heaviest
  exact ok_bind (ok_X6_isNoTrack _) fun z hz => ok_if (fun c => ok_bind (ok_X6_isNoPlace _) fun z2 hz2 => ok_if (fun c2 => m21 0 fun _ => ⟨hz c, hz2 c2⟩) fun _ => m16) fun _ => m16
theorem ok_X6_ahead (hb : IB k τ) (hw : WK τ) (hu : UT τ) (x1 x2 : Int32) : Ok (f_X6_ahead τ x1 x2) (KQ k) := by
  have m21 : ∀ u1, (u1 = 0 → (x1 = 0 ∨ x1 = 1) ∧ 0 ≤ x2 ∧ x2 ≤ 19) → Ok (f_X6_ahead_21 τ x1 x2 u1) (KQ k) := by
    intro u1 h
    unfold f_X6_ahead_21
    refine ok_start hb hw hu (by decide) (fun s i e e0 en b w u => ok_t rfl ?_) fun s b w u => ok_f ne10 (kq b w u)
    obtain ⟨p, h3⟩ := h i
    obtain ⟨j, hj, hx, hg⟩ := trk_ok p
    have hl := b.lenj hj
    obtain ⟨n, hn, rfl⟩ := nIof (b := 19) (by omega) h3.1 h3.2
    refine ok_ev (sizeN hg) (ok_if (fun c => ?_) fun _ => kq b w u)
    have c : nI n < nI (s.1 j).length := c
    have c := (nI_lti (by omega) (by omega)).mp c
    show Ok (lpn f_X6_ahead_47 24 (s, x1, nI n, -1, 0)) (KQ k)
    refine up24 (fun m t => t.1 = s ∧ t.2.1 = x1 ∧ t.2.2.1 = nI n ∧ t.2.2.2.2 = nI m) n (by omega) ?_ ⟨rfl, rfl, rfl, rfl⟩
    rintro kk ⟨s2, v1, v2, v3, v5⟩ m hm ⟨a1, a2, a3, a5⟩ hk
    dsimp only at a1 a2 a3 a5
    subst a1 a2 a3 a5
    unfold f_X6_ahead_47
    dsimp only
    refine ok_if (fun _ => kq b w u) fun c1 => ?_
    have hml : m < n := Nat.lt_of_not_le (mt (nI_lei (by omega) (by omega)).mpr c1)
    have m78 : ∀ v, Ok (f_X6_ahead_78 kk s2 v1 (nI n) v (nI m)) (KQ k) := by
      intro v
      unfold f_X6_ahead_78
      exact ok_nme fun y hy => hk _ hml ⟨rfl, rfl, rfl, by rw [hy]; exact nI_suc (by omega)⟩
    exact ok_ev (getN hg (by omega) hl) (ok_bind (P := fun _ => True) (ok_some trivial) fun z _ => ok_ev (getN hg c hl) (ok_bind (P := fun _ => True) (ok_some trivial) fun z2 _ => ok_if (fun _ => m78 _) fun _ => m78 _))
  have m16 : Ok (f_X6_ahead_16 τ x1 x2) (KQ k) := m21 1 fun h => absurd h ne10
  unfold f_X6_ahead
  exact ok_bind (ok_X6_isNoTrack _) fun z hz => ok_if (fun c => ok_bind (ok_X6_isNoPlace _) fun z2 hz2 => ok_if (fun c2 => m21 0 fun _ => ⟨hz c, hz2 c2⟩) fun _ => m16) fun _ => m16
theorem ok_X6_whereNow (hb : IB k τ) (hw : WK τ) (hu : UT τ) (x1 x2 : Int32) (p : x1 = 0 ∨ x1 = 1) (p0 : 0 ≤ x2) (p1 : x2 ≤ 4) : Ok (f_X6_whereNow τ x1 x2) (fun r => IB k r.2 ∧ WK r.2 ∧ UT r.2) := by
  obtain ⟨j, hj, hx, hg⟩ := gwk_ok p
  obtain ⟨w2, hw2, rfl⟩ := nIof (b := 4) (by omega) p0 p1
  have m70 : ∀ g u, Ok (f_X6_whereNow_70 τ (nI w2) 5 g 4 u) (fun r => IB k r.2 ∧ WK r.2 ∧ UT r.2) := by
    intro g u
    unfold f_X6_whereNow_70
    exact ok_bind (ok_X6_one _) fun z _ => ok_f (by decide) (ok_nme fun g1 _ => ok_f (arr_iN (by omega) (by omega)) (ok_some ⟨hb, hw, hu⟩))
  have m52 : ∀ v3 g u, Ok (f_X6_whereNow_52 τ (nI w2) v3 5 g 3 u) (fun r => IB k r.2 ∧ WK r.2 ∧ UT r.2) := by
    intro v3 g u
    unfold f_X6_whereNow_52
    exact ok_bind (ok_X6_one _) fun z _ => ok_f (by decide) (ok_nme fun g1 _ => ok_if (fun _ => m70 _ _) fun _ => m70 _ _)
  unfold f_X6_whereNow
  refine ok_ev hg (ok_f (by decide) (ok_nme fun n hn => ok_nme fun g _ => ?_))
  have hn : n = 5 := hn
  subst hn
  exact ok_f (by decide) (ok_nme fun g1 _ => ok_f (by decide) (ok_nme fun g2 _ => ok_f (by decide) (ok_nme fun g3 _ => ok_ev (sizeN (j := 1) rfl) (ok_if (fun _ => m52 _ _ _) fun _ => m52 _ _ _))))
theorem ok_X6_where (hb : IB k τ) (hw : WK τ) (hu : UT τ) (x1 x2 : Int32) : Ok (f_X6_where τ x1 x2) (KQ k) := by
  have m57 : ∀ s u1, s.2 0 = 0 → IB k s → WK s → UT s → (x1 = 0 ∨ x1 = 1) → (0 ≤ x2 ∧ x2 ≤ 4) → Ok (f_X6_where_57 s x1 x2 u1) (KQ k) := by
    intro s u1 e0 b w u p h2
    unfold f_X6_where_57
    refine ok_refuse b w u e0 (by decide) (fun s i e e0 en b w u => ok_t rfl ?_) fun s b w u => ok_f ne10 (kq b w u)
    exact ok_bind (ok_X6_whereNow b w u _ _ p h2.1 h2.2) fun z hz => ok_some hz
  have m27 : ∀ s u1, s.2 0 = 0 → IB k s → WK s → UT s → (x1 = 0 ∨ x1 = 1) → (u1 = 0 → 0 ≤ x2 ∧ x2 ≤ 4) → Ok (f_X6_where_27 s x1 x2 u1) (KQ k) := by
    intro s u1 e0 b w u p h2
    unfold f_X6_where_27
    refine ok_refuse b w u e0 (by decide) (fun s i e e0 en b w u => ok_t rfl ?_) fun s b w u => ok_f ne10 (kq b w u)
    have m56 : Ok (f_X6_where_56 s x1 x2) (KQ k) := m57 s 0 e0 b w u p (h2 i)
    obtain ⟨j, hj, hx, hg⟩ := gwk_ok p
    exact ok_if (fun _ => m56) fun _ => ok_ev hg (ok_if (fun _ => m56) fun _ => m57 s 1 e0 b w u p (h2 i))
  unfold f_X6_where
  refine ok_bind (ok_X6_isNoWalker _) fun z hz => ok_start hb hw hu (by decide) (fun s i e e0 en b w u => ok_t rfl ?_) fun s b w u => ok_f ne10 (kq b w u)
  exact ok_bind (ok_X6_isIn _ _ _) fun z2 hz2 => ok_if (fun _ => m27 _ _ e0 b w u (hz i) fun h => absurd h ne10) fun c => m27 _ _ e0 b w u (hz i) fun _ => hz2.2 c
end OKS
