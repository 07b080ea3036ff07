/-! the model: walkers and orders by hand -/
section OKV
variable {k : Int32} {τ : MS}
/-- a call of a walker that passed: its walker, alive -/
theorem nowj {z : Int32 × MS} {x1 : Int32} {j : Nat} (hj : x1 = 0 ∧ j = 0 ∨ x1 = 1 ∧ j = 1) (a : x1 = 0 → ¬ z.2.2 5 = 0) (b : x1 = 1 → ¬ z.2.2 8 = 0) : ¬ z.2.2 (5 + 3 * j) = 0 := by
  rcases hj with ⟨e, f⟩ | ⟨e, f⟩
  · rw [f]; exact a e
  · rw [f]; exact b e
theorem ok_X6_forth (hb : IB k τ) (hw : WK τ) (hu : UT τ) (x1 : Int32) : Ok (f_X6_forth τ x1) (KQ k) := by
  unfold f_X6_forth
  refine ok_bind (ok_X6_isNowhere hb hw hu _) fun z hz => ?_
  obtain ⟨-, hi, b, w, u⟩ := hz
  refine ok_if (fun c => ?_) fun c => ok_some ⟨b, w, u⟩
  obtain ⟨p, -, q0, q1⟩ := hi c
  obtain ⟨j, hj, hx, hg⟩ := gwk_ok p
  have G : Ok (gwk x1) (fun y => j = y) := ⟨j, hg, rfl⟩
  refine ok_bind G fun _ e => ?_
  subst e
  have m37 : Ok (f_X6_forth_37 z.2) (KQ k) := ok_some ⟨b, w, u⟩
  refine ok_if (fun _ => m37) fun c2 => ok_bind (ok_size1 b) fun y hy => ok_if (fun _ => m37) fun c3 => ?_
  obtain ⟨s1, ⟨g0, g1⟩, -⟩ := (w.get hj).live (nowj hx q0 q1) c2
  refine ok_nme fun t ht => ok_nme fun t2 ht2 => ?_
  obtain ⟨l1, e1, n1⟩ := up_sc ht
  obtain ⟨l2, e2, n2⟩ := up_sc ht2
  have L : t2.1 = z.2.1 := l2.trans l1
  have O : ∀ q, q ≠ 5 + 3 * j + 0 → q ≠ 5 + 3 * j + 1 → q ≠ 5 + 3 * j + 2 → t2.2 q = z.2.2 q := fun q _ b c => (n2 q b).trans (n1 q c)
  have f0 : t2.2 (5 + 3 * j) = z.2.2 (5 + 3 * j) := (n2 _ (by omega)).trans (n1 _ (by omega))
  have f1 : t2.2 (5 + 3 * j + 1) = z.2.2 (5 + 3 * j + 1) + 1 := by rw [e2, n1 _ (by omega)]
  have f2 : t2.2 (5 + 3 * j + 2) = z.2.2 (5 + 3 * j + 1) := (n2 _ (by omega)).trans e1
  have hn := SL_n (b.l (i := 1) (by omega))
  have g2 : z.2.2 (5 + 3 * j + 1) < SL (z.2.1 1) := by rw [hy.1] at c3; clear hy e2 e1 f0 f1 f2 hn; grind
  have b2 : IB k t2 := b.eq L (O 4 (by omega) (by omega) (by omega))
  have w2 : WK t2 := w.one hj L O (by rw [f0, f1, f2, s1]; exact ⟨Or.inr (Or.inl rfl), fun _ => ⟨⟨by grind, by grind⟩, Or.inr ⟨g0, g2⟩⟩⟩)
  exact ok_bind (ok_get1 b2 _ (by rw [f2]; exact g0) (by rw [f2, L]; exact g2)) fun y hy => ok_some ⟨b2, w2, u.eq L⟩
theorem ok_X6_back (hb : IB k τ) (hw : WK τ) (hu : UT τ) (x1 : Int32) : Ok (f_X6_back τ x1) (KQ k) := by
  unfold f_X6_back
  refine ok_bind (ok_X6_isNowhere hb hw hu _) fun z hz => ?_
  obtain ⟨-, hi, b, w, u⟩ := hz
  refine ok_if (fun c => ?_) fun c => ok_some ⟨b, w, u⟩
  obtain ⟨p, -, q0, q1⟩ := hi c
  obtain ⟨j, hj, hx, hg⟩ := gwk_ok p
  have G : Ok (gwk x1) (fun y => j = y) := ⟨j, hg, rfl⟩
  refine ok_bind G fun _ e => ?_
  subst e
  have m37 : Ok (f_X6_back_32 z.2) (KQ k) := ok_some ⟨b, w, u⟩
  refine ok_if (fun _ => m37) fun c2 => ok_if (fun _ => m37) fun c3 => ?_
  obtain ⟨s1, ⟨g0, g1⟩, -⟩ := (w.get hj).live (nowj hx q0 q1) c2
  refine ok_nme fun t ht => ok_nme fun t2 ht2 => ?_
  obtain ⟨l1, e1, n1⟩ := up_sc ht
  obtain ⟨l2, e2, n2⟩ := up_sc ht2
  have L : t2.1 = z.2.1 := l2.trans l1
  have O : ∀ q, q ≠ 5 + 3 * j + 0 → q ≠ 5 + 3 * j + 1 → q ≠ 5 + 3 * j + 2 → t2.2 q = z.2.2 q := fun q _ b c => (n2 q c).trans (n1 q b)
  have f0 : t2.2 (5 + 3 * j) = z.2.2 (5 + 3 * j) := (n2 _ (by omega)).trans (n1 _ (by omega))
  have f1 : t2.2 (5 + 3 * j + 1) = z.2.2 (5 + 3 * j + 1) - 1 := (n2 _ (by omega)).trans e1
  have f2 : t2.2 (5 + 3 * j + 2) = z.2.2 (5 + 3 * j + 1) - 1 := e2.trans e1
  have hn := SL_n (b.l (i := 1) (by omega))
  generalize hP : z.2.2 (5 + 3 * j + 1) = P at *
  have g3 : 0 ≤ P - 1 := by clear hn f0 f1 f2 e1 e2 n1 n2 O; grind
  have g4 : P - 1 < SL (z.2.1 1) := by clear f0 f1 f2 e1 e2 n1 n2 O; grind
  have g5 : P - 1 ≤ SL (z.2.1 1) := by clear f0 f1 f2 e1 e2 n1 n2 O; grind
  have b2 : IB k t2 := b.eq L (O 4 (by omega) (by omega) (by omega))
  have w2 : WK t2 := w.one hj L O (by rw [f0, f1, f2, s1]; exact ⟨Or.inr (Or.inl rfl), fun _ => ⟨⟨g3, g5⟩, Or.inr ⟨g3, g4⟩⟩⟩)
  exact ok_bind (ok_get1 b2 _ (by rw [f2]; exact g3) (by rw [f2, L]; exact g4)) fun y hy => ok_some ⟨b2, w2, u.eq L⟩
theorem ok_X6_takeHeld (hb : IB k τ) (hw : WK τ) (hu : UT τ) (x1 : Int32) : Ok (f_X6_takeHeld τ x1) (KQ k) := by
  unfold f_X6_takeHeld
  refine ok_bind (ok_X6_isNowhere hb hw hu _) fun z hz => ?_
  obtain ⟨-, hi, b, w, u⟩ := hz
  refine ok_if (fun c => ?_) fun c => ok_some ⟨b, w, u⟩
  obtain ⟨p, -, q0, q1⟩ := hi c
  obtain ⟨j, hj, hx, hg⟩ := gwk_ok p
  have G : Ok (gwk x1) (fun y => j = y) := ⟨j, hg, rfl⟩
  refine ok_bind G fun _ e => ?_
  subst e
  have m37 : Ok (f_X6_takeHeld_33 z.2) (KQ k) := ok_some ⟨b, w, u⟩
  refine ok_if (fun _ => m37) fun c2 => ok_if (fun _ => m37) fun c3 => ?_
  obtain ⟨s1, ⟨g0, g1⟩, g2⟩ := (w.get hj).live (nowj hx q0 q1) c2
  obtain ⟨h0, h1⟩ := g2.resolve_left c3
  have G1 : Ok (gtr 1) (fun y => 1 = y) := ⟨1, rfl, rfl⟩
  refine ok_bind G1 fun _ e => ?_
  subst e
  refine ok_bind (ok_ldel (b.l (i := 1) (by omega)) _ h0 h1) fun x hx2 => ok_nme fun t ht => ?_
  obtain ⟨t2, t1, t0⟩ := up_ls ht
  have bt : IB k t := by rw [ht]; exact b.lst hx2.1
  have hsl : SL (z.2.1 1) = SL (t.1 1) + 1 := by
    rw [t1]
    exact SL_up (b.l (i := 1) (by omega)) hx2.2.1.symm
  have hn := SL_n (bt.l (i := 1) (by omega))
  have main : ∀ u2 : Int32, (u2 = 0 → z.2.2 (5 + 3 * j + 1) ≤ z.2.2 (5 + 3 * j + 2)) → (¬ u2 = 0 → ¬ z.2.2 (5 + 3 * j + 1) ≤ z.2.2 (5 + 3 * j + 2)) → Ok (f_X6_takeHeld_76 t x1 j j (t.2 (5 + 3 * j + 1)) u2) (KQ k) := by
    intro u2 a0 a1
    unfold f_X6_takeHeld_76
    refine ok_bind (ok_X6_one _) fun o ho => ok_nme fun t3 ht3 => ok_nme fun t4 ht4 => ?_
    obtain ⟨l3, e3, n3⟩ := up_sc ht3
    obtain ⟨l4, e4, n4⟩ := up_sc ht4
    have L : t4.1 = t.1 := l4.trans l3
    have O : ∀ q, q ≠ 5 + 3 * j + 1 → q ≠ 5 + 3 * j + 2 → t4.2 q = z.2.2 q := fun q a b => (n4 q b).trans ((n3 q a).trans (by rw [t2]))
    have b4 : IB k t4 := bt.eq L (by rw [O 4 (by omega) (by omega), t2])
    have f0 : t4.2 (5 + 3 * j) = 1 := (O _ (by omega) (by omega)).trans s1
    have f1 : t4.2 (5 + 3 * j + 1) = z.2.2 (5 + 3 * j + 1) - o := (n4 _ (by omega)).trans (e3.trans (by rw [t2]))
    refine ok_bind (ok_X6_changed _ _) fun r hr => ?_
    have br := hr.ib b4
    have hW0 : WH t4 := by
      unfold WH
      rw [O 3 (by omega) (by omega), L, t0 0 (by omega)]; exact w.1
    have pos : 0 ≤ z.2.2 (5 + 3 * j + 1) - o ∧ z.2.2 (5 + 3 * j + 1) - o ≤ SL (t.1 1) := by
      clear f0 f1 e3 n3 e4 n4 O hr br hW0 ht ht3 ht4
      generalize z.2.2 (5 + 3 * j + 1) = P at *
      generalize z.2.2 (5 + 3 * j + 2) = H at *
      generalize SL (t.1 1) = M at *
      generalize SL (z.2.1 1) = S at *
      obtain ⟨o1, o2⟩ := ho
      by_cases e : u2 = 0
      · have e0 := o2.mpr e
        have := a0 e
        subst e0
        clear a0 a1 o1 o2
        constructor <;> grind
      · have e0 : o = 1 := o1.resolve_left fun q => e (o2.mp q)
        have := a1 e
        subst e0
        clear a0 a1 o1 o2
        constructor <;> grind
    have wr : WK r := CH.wkj hx hW0 (by rw [f0, f1, e4, L]; exact ⟨Or.inr (Or.inl rfl), fun _ => ⟨pos, Or.inl rfl⟩⟩) hr
    refine ok_bind (ok_X6_tear br wr) fun r2 hr2 => ok_some ?_
    obtain ⟨b5, w5, u5, -, -, -⟩ := hr2
    exact ⟨b5, w5, u5⟩
  rw [show t.2 (5 + 3 * j + 1) = z.2.2 (5 + 3 * j + 1) by rw [t2], show t.2 (5 + 3 * j + 2) = z.2.2 (5 + 3 * j + 2) by rw [t2]]
  rw [show t.2 (5 + 3 * j + 1) = z.2.2 (5 + 3 * j + 1) by rw [t2]] at main
  exact ok_if (fun d => main 0 (fun _ => d) fun e => absurd rfl e) fun d => main 1 (fun e => absurd e (by decide)) fun _ => d
theorem ok_setHeld43 (hb : IB k τ) (hw : WK τ) (hu : UT τ) (x1 x2 x3 u1 : Int32) (h0 : τ.2 0 = 0) (p : x1 = 0 ∨ x1 = 1) (pc : (0 ≤ x2 ∧ x2 ≤ 9) ∧ 0 ≤ x3 ∧ x3 ≤ 99) (q : u1 = 0 → ∀ j, gwk x1 = some j → ¬ τ.2 (5 + 3 * j) = 0) : Ok (f_X6_setHeld_43 τ x1 x2 x3 u1) (KQ k) := by
  unfold f_X6_setHeld_43
  refine ok_bind (ok_X6_refuse hb hw hu _ _ h0 (by decide)) fun z hz => ?_
  obtain ⟨⟨-, hi⟩, ⟨hl, hs⟩, b, w, u⟩ := hz
  refine ok_if (fun c => ?_) fun c => ok_some ⟨b, w, u⟩
  obtain ⟨i0, i1⟩ := hi c
  obtain ⟨j, hj, hx, hg⟩ := gwk_ok p
  have live := q i0 j hg
  have G : Ok (gwk x1) (fun y => j = y) := ⟨j, hg, rfl⟩
  refine ok_bind G fun _ e => ?_
  subst e
  have m37 : Ok (f_X6_setHeld_78 z.2) (KQ k) := ok_some ⟨b, w, u⟩
  refine ok_if (fun _ => m37) fun c2 => ok_if (fun _ => m37) fun c3 => ?_
  obtain ⟨s1, ⟨g0, g1⟩, g2⟩ := (w.get hj).live (by rw [hs _ (by omega)]; exact live) c2
  obtain ⟨h0, h1⟩ := g2.resolve_left c3
  have G1 : Ok (gtr 1) (fun y => 1 = y) := ⟨1, rfl, rfl⟩
  refine ok_bind G1 fun _ e => ?_
  subst e
  refine ok_bind (ok_X6_code _ _ pc) fun v hv => ok_bind (ok_lset (b.l (i := 1) (by omega)) _ _ h0 h1 hv) fun x hx => ok_nme fun r hr => ?_
  obtain ⟨r2, r1, r0⟩ := up_ls hr
  have len : ∀ q, (r.1 q).length = (z.2.1 q).length := by
    intro q
    by_cases e : q = 1
    · subst e
      rw [r1]; exact hx.2
    · rw [r0 q e]
  have br : IB k r := by rw [hr]; exact b.lst hx.1
  refine ok_bind (ok_X6_tear br (w.len r2 (len 0) (len 1))) fun r2 hr2 => ok_some ?_
  obtain ⟨b5, w5, u5, -, -, -⟩ := hr2
  exact ⟨b5, w5, u5⟩
theorem ok_X6_setHeld (hb : IB k τ) (hw : WK τ) (hu : UT τ) (x1 x2 x3 : Int32) : Ok (f_X6_setHeld τ x1 x2 x3) (KQ k) := by
  unfold f_X6_setHeld
  refine ok_bind (ok_X6_isNoWalker _) fun z hz => ok_bind (ok_X6_start hb hw hu _ _ (by decide)) fun z2 hz2 => ?_
  obtain ⟨⟨-, hi⟩, -, b, w, u⟩ := hz2
  refine ok_if (fun c => ?_) fun c => ok_some ⟨b, w, u⟩
  obtain ⟨i0, i1⟩ := hi c
  have p := hz i0
  refine ok_bind (ok_X6_isNoPiece _ _) fun z3 hz3 => ok_bind (ok_X6_refuse b w u _ _ i1 (by decide)) fun z4 hz4 => ?_
  obtain ⟨⟨-, hi4⟩, -, b4, w4, u4⟩ := hz4
  refine ok_if (fun c4 => ?_) fun c4 => ok_some ⟨b4, w4, u4⟩
  obtain ⟨i4, j4⟩ := hi4 c4
  obtain ⟨j, hj, hx, hg⟩ := gwk_ok p
  have G : Ok (gwk x1) (fun y => j = y) := ⟨j, hg, rfl⟩
  refine ok_bind G fun _ e => ?_
  subst e
  exact ok_if (fun _ => ok_setHeld43 b4 w4 u4 _ _ _ _ j4 p (hz3 i4) fun e => absurd e (by decide)) fun c5 => ok_setHeld43 b4 w4 u4 _ _ _ _ j4 p (hz3 i4) fun _ y hy => by
    rw [hg] at hy
    cases hy
    exact c5
theorem ok_put53 (hb : IB k τ) (hw : WK τ) (x1 x2 x3 u1 : Int32) (hu : UT τ) (h0 : τ.2 0 = 0) (p : x1 = 0 ∨ x1 = 1) (pc : (0 ≤ x2 ∧ x2 ≤ 9) ∧ 0 ≤ x3 ∧ x3 ≤ 99) (q : u1 = 0 → (∀ j, gwk x1 = some j → ¬ τ.2 (5 + 3 * j) = 0) ∧ ¬ SL (τ.1 1) = 20) : Ok (f_X6_put_53 τ x1 x2 x3 u1) (KQ k) := by
  unfold f_X6_put_53
  refine ok_bind (ok_X6_refuse hb hw hu _ _ h0 (by decide)) fun z hz => ?_
  obtain ⟨⟨-, hi⟩, ⟨hl, hs⟩, b, w, u⟩ := hz
  refine ok_if (fun c => ?_) fun c => ok_some ⟨b, w, u⟩
  obtain ⟨i0, i1⟩ := hi c
  obtain ⟨j, hj, hx, hg⟩ := gwk_ok p
  have live := (q i0).1 j hg
  have full := (q i0).2
  have G : Ok (gwk x1) (fun y => j = y) := ⟨j, hg, rfl⟩
  refine ok_bind G fun _ e => ?_
  subst e
  refine ok_if (fun _ => ok_some ⟨b, w, u⟩) fun c2 => ?_
  obtain ⟨s1, ⟨g0, g1⟩, g2⟩ := (w.get hj).live (by rw [hs _ (by omega)]; exact live) c2
  have G1 : Ok (gtr 1) (fun y => 1 = y) := ⟨1, rfl, rfl⟩
  refine ok_bind G1 fun _ e => ?_
  subst e
  have hl1 := b.l (i := 1) (by omega)
  have hn := SL_n hl1
  have hlen : (z.2.1 1).length < cap 1 := by
    refine SL_lt hl1 ?_
    rw [← hl] at full
    show SL (z.2.1 1) < 20
    clear g1 g2
    grind
  refine ok_bind (ok_X6_code _ _ pc) fun v hv => ok_bind (ok_lins hl1 _ _ g0 g1 hlen hv) fun x hx2 => ok_nme fun t ht => ok_nme fun t3 ht3 => ok_nme fun t4 ht4 => ?_
  obtain ⟨t2, t1, t0⟩ := up_ls ht
  obtain ⟨l3, e3, n3⟩ := up_sc ht3
  obtain ⟨l4, e4, n4⟩ := up_sc ht4
  have bt : IB k t := by rw [ht]; exact b.lst hx2.1
  have hsl : SL (t.1 1) = SL (z.2.1 1) + 1 := by rw [t1]; exact SL_up hx2.1 hx2.2
  have L : t4.1 = t.1 := l4.trans l3
  have O : ∀ q, q ≠ 5 + 3 * j + 1 → q ≠ 5 + 3 * j + 2 → t4.2 q = z.2.2 q := fun q a b => (n4 q b).trans ((n3 q a).trans (by rw [t2]))
  have b4 : IB k t4 := bt.eq L (by rw [O 4 (by omega) (by omega), t2])
  have f0 : t4.2 (5 + 3 * j) = 1 := (O _ (by omega) (by omega)).trans s1
  have f1 : t4.2 (5 + 3 * j + 1) = z.2.2 (5 + 3 * j + 1) + 1 := (n4 _ (by omega)).trans (e3.trans (by rw [t2]))
  refine ok_bind (ok_X6_changed _ _) fun r hr => ?_
  have br := hr.ib b4
  have hW0 : WH t4 := by
    unfold WH
    rw [O 3 (by omega) (by omega), L, t0 0 (by omega)]; exact w.1
  have pos : 0 ≤ z.2.2 (5 + 3 * j + 1) + 1 ∧ z.2.2 (5 + 3 * j + 1) + 1 ≤ SL (t.1 1) := by
    rw [hsl]
    clear f0 f1 e3 n3 e4 n4 O hr br hW0 ht ht3 ht4 hsl g2
    generalize z.2.2 (5 + 3 * j + 1) = P at *
    generalize SL (z.2.1 1) = S at *
    constructor <;> grind
  have wr : WK r := CH.wkj hx hW0 (by rw [f0, f1, e4, L]; exact ⟨Or.inr (Or.inl rfl), fun _ => ⟨pos, Or.inl rfl⟩⟩) hr
  refine ok_bind (ok_X6_tear br wr) fun r2 hr2 => ok_some ?_
  obtain ⟨b5, w5, u5, -, -, -⟩ := hr2
  exact ⟨b5, w5, u5⟩
theorem ok_X6_put (hb : IB k τ) (hw : WK τ) (hu : UT τ) (x1 x2 x3 : Int32) : Ok (f_X6_put τ x1 x2 x3) (KQ k) := by
  unfold f_X6_put
  refine ok_bind (ok_X6_isNoWalker _) fun z hz => ok_bind (ok_X6_start hb hw hu _ _ (by decide)) fun z2 hz2 => ?_
  obtain ⟨⟨-, hi⟩, -, b, w, u⟩ := hz2
  refine ok_if (fun c => ?_) fun c => ok_some ⟨b, w, u⟩
  obtain ⟨i0, i1⟩ := hi c
  have p := hz i0
  refine ok_bind (ok_X6_isNoPiece _ _) fun z3 hz3 => ok_bind (ok_X6_refuse b w u _ _ i1 (by decide)) fun z4 hz4 => ?_
  obtain ⟨⟨-, hi4⟩, -, b4, w4, u4⟩ := hz4
  refine ok_if (fun c4 => ?_) fun c4 => ok_some ⟨b4, w4, u4⟩
  obtain ⟨i4, j4⟩ := hi4 c4
  obtain ⟨j, hj, hx, hg⟩ := gwk_ok p
  have G : Ok (gwk x1) (fun y => j = y) := ⟨j, hg, rfl⟩
  refine ok_bind G fun _ e => ?_
  subst e
  have m1 : Ok (f_X6_put_48 z4.2 x1 x2 x3) (KQ k) := ok_put53 b4 w4 _ _ _ _ u4 j4 p (hz3 i4) fun e => absurd e (by decide)
  refine ok_if (fun _ => m1) fun c5 => ok_bind (ok_size1 b4) fun y hy => ok_if (fun _ => m1) fun c6 => ?_
  refine ok_put53 b4 w4 _ _ _ _ u4 j4 p (hz3 i4) fun _ => ⟨fun y hy => ?_, by rw [← hy.1]; exact c6⟩
  rw [hg] at hy
  cases hy
  exact c5
/-! orders -/
theorem ok_order41 (hb : IB k τ) (hw : WK τ) (hu : UT τ) (v1 u1 : Int32) (h0 : τ.2 0 = 0) (q : u1 = 0 → (0 ≤ v1 ∧ v1 ≤ 7) ∧ ¬ nI (τ.1 3).length = 10) : Ok (f_X6_order_41 τ v1 u1) (KQ k) := by
  unfold f_X6_order_41
  refine ok_bind (ok_X6_refuse hb hw hu _ _ h0 (by decide)) fun z hz => ?_
  obtain ⟨⟨-, hi⟩, ⟨hl, hs⟩, b, w, u⟩ := hz
  refine ok_if (fun c => ?_) fun c => ok_some ⟨b, w, u⟩
  obtain ⟨q1, q2⟩ := q (hi c).1
  have hl3 := b.l (i := 3) (by omega)
  have hl4 : (z.2.1 3).length ≤ 10 := hl3.1
  refine ok_bind (ok_ladd hl3 v1 ?_ q1) fun x hx => ok_nme fun r hr => ok_some ?_
  · show (z.2.1 3).length < 10
    rcases Nat.lt_or_ge (z.2.1 3).length 10 with e | e
    · exact e
    · exfalso
      rw [← hl, show (z.2.1 3).length = 10 by omega] at q2
      exact q2 rfl
  · obtain ⟨r2, r1, r0⟩ := up_ls hr
    exact ⟨by rw [hr]; exact b.lst hx.2, w.len r2 (by rw [r0 0 (by omega)]) (by rw [r0 1 (by omega)]), u.len (r0 2 (by omega)) (by rw [r0 0 (by omega)]) (by rw [r0 1 (by omega)])⟩
theorem ok_X6_order (hb : IB k τ) (hw : WK τ) (hu : UT τ) (x1 : Int32) : Ok (f_X6_order τ x1) (KQ k) := by
  have main : ∀ u1 : Int32, (u1 = 0 → 0 ≤ x1 ∧ x1 ≤ 7) → Ok (f_X6_order_16 τ x1 u1) (KQ k) := by
    intro u1 hh
    unfold f_X6_order_16
    refine ok_bind (ok_X6_start hb hw hu _ _ (by decide)) fun z hz => ?_
    obtain ⟨⟨-, hi⟩, -, b, w, u⟩ := hz
    refine ok_if (fun c => ?_) fun c => ok_some ⟨b, w, u⟩
    obtain ⟨i0, i1⟩ := hi c
    exact ok_if (fun _ => ok_order41 b w u _ _ i1 fun e => absurd e (by decide)) fun c2 => ok_order41 b w u _ _ i1 fun _ => ⟨hh i0, c2⟩
  unfold f_X6_order
  exact ok_bind (ok_X6_isIn _ _ _) fun z hz => ok_if (fun _ => main 1 fun e => absurd e (by decide)) fun c => main 0 fun _ => hz.2 c
def WoI (k N : Int32) (t : MS × Int32 × Int32 × Int32) : Prop := (IB k t.1 ∧ WK t.1 ∧ UT t.1) ∧ t.2.1 ≤ 10 ∧ 0 ≤ t.2.2.2 ∧ t.2.2.2 ≤ 20 ∧ 20 ≤ t.2.2.2 + N
theorem st_X6_work (N : Int32) (kk) (t) (hN : 0 ≤ N) (hN2 : N ≤ 63) (ha : WoI k N t) (hk : ∀ b, 1 ≤ N → WoI k (N - 1) b → Ok (kk b) (KQ k)) : Ok (f_X6_work_29 kk t) (KQ k) := by
  obtain ⟨s, v1, v2, i⟩ := t
  obtain ⟨⟨b, w, u⟩, a1, a2, a3, a4⟩ := ha
  dsimp only at b w u a1 a2 a3 a4
  unfold f_X6_work_29
  dsimp only
  have fin : Ok (f_X6_work_94 s v2) (KQ k) := ok_some ⟨b, w, u⟩
  refine ok_if (fun _ => fin) fun c => ok_nme fun y hy => ok_if (fun c2 => ?_) fun _ => fin
  have next : ∀ r v, IB k r → WK r → UT r → Ok (f_X6_work_88 kk r v1 v i) (KQ k) := by
    intro r v br wr ur
    unfold f_X6_work_88
    refine ok_nme fun y2 hy2 => hk _ (by clear hy hy2 c2; grind) ⟨⟨br, wr, ur⟩, a1, ?_, ?_, ?_⟩ <;> dsimp only
    · rw [hy2]; clear hy c2 a4 hN hN2; grind
    · rw [hy2]; clear hy c2 a4 hN hN2; grind
    · rw [hy2]; clear hy c2; grind
  have hne : (s.1 3).length ≠ 0 := by
    intro e
    rw [if_pos e] at hy
    rw [hy] at c2
    exact absurd c2 (by decide)
  have hl := b.l (i := 3) (by omega)
  have hl3 : (s.1 3).length ≤ 10 := hl.1
  have hpos : (0 : Int32) < SL (s.1 3) := by
    refine Int32.lt_iff_toInt_lt.mpr ?_
    rw [(SL_n hl).2.2]
    show (0 : Int) < _
    omega
  refine ok_bind (ok_ldel hl 0 (by decide) hpos) fun x hx => ok_nme fun t ht => ok_nme fun o ho => ?_
  obtain ⟨t2, t1, t0⟩ := up_ls ht
  have bt : IB k t := by rw [ht]; exact b.lst hx.1
  have wt : WK t := w.len t2 (by rw [t0 0 (by omega)]) (by rw [t0 1 (by omega)])
  have ut : UT t := u.len (t0 2 (by omega)) (by rw [t0 0 (by omega)]) (by rw [t0 1 (by omega)])
  have o7 : 0 ≤ o ∧ o ≤ 7 := by rw [ho]; exact hl.getD _
  refine ok_bind (al_ok (ok_X6_move bt wt ut o o7.1 o7.2) move3) fun z hz => ?_
  obtain ⟨⟨bz, wz, uz⟩, z3⟩ := hz
  refine ok_if (fun c3 => ?_) fun c3 => ok_nme fun y3 _ => next _ _ bz wz uz
  refine ok_bind (ok_ladd (bz.l (i := 3) (by omega)) o (by rw [z3, t1]; show _ < 10; have := hx.2.1; omega) o7) fun x2 hx2 => ok_nme fun r hr => ?_
  obtain ⟨r2, r1, r0⟩ := up_ls hr
  exact next _ _ (by rw [hr]; exact bz.lst hx2.2) (wz.len r2 (by rw [r0 0 (by omega)]) (by rw [r0 1 (by omega)])) (uz.len (r0 2 (by omega)) (by rw [r0 0 (by omega)]) (by rw [r0 1 (by omega)]))
theorem ok_X6_work (hb : IB k τ) (hw : WK τ) (hu : UT τ) (x1 : Int32) : Ok (f_X6_work τ x1) (KQ k) := by
  have main : ∀ u1 : Int32, (u1 = 0 → x1 ≤ 10) → Ok (f_X6_work_16 τ x1 u1) (KQ k) := by
    intro u1 hh
    unfold f_X6_work_16
    refine ok_bind (ok_X6_start hb hw hu _ _ (by decide)) fun z hz => ?_
    obtain ⟨⟨-, hi⟩, -, b, w, u⟩ := hz
    refine ok_if (fun c => ?_) fun c => ok_some ⟨b, w, u⟩
    exact lpn24 (WoI k) (fun N kk t hN hN2 ha hk => st_X6_work N kk t hN hN2 ha hk) ⟨⟨b, w, u⟩, hh (hi c).1, (by dsimp only; decide), (by dsimp only; decide), (by dsimp only; decide)⟩
  unfold f_X6_work
  exact ok_bind (ok_X6_isIn _ _ _) fun z hz => ok_if (fun _ => main 1 fun e => absurd e (by decide)) fun c => main 0 fun _ => (hz.2 c).2
def CaI (k N : Int32) (t : MS × Int32 × Int32 × Int32 × Int32) : Prop := (IB k t.1 ∧ WK t.1 ∧ UT t.1) ∧ (t.2.2.2.1 = -1 ∨ (0 ≤ t.2.2.2.1 ∧ t.2.2.2.1 < SL (t.1.1 3))) ∧ 0 ≤ t.2.2.2.2 ∧ t.2.2.2.2 ≤ 20 ∧ 20 ≤ t.2.2.2.2 + N
theorem st_X6_cancel (N : Int32) (kk) (t) (hN : 0 ≤ N) (hN2 : N ≤ 63) (ha : CaI k N t) (hk : ∀ b, 1 ≤ N → CaI k (N - 1) b → Ok (kk b) (KQ k)) : Ok (f_X6_cancel_30 kk t) (KQ k) := by
  obtain ⟨s, v1, v2, f, i⟩ := t
  obtain ⟨⟨b, w, u⟩, a1, a2, a3, a4⟩ := ha
  dsimp only at b w u a1 a2 a3 a4
  unfold f_X6_cancel_30
  dsimp only
  have hl := b.l (i := 3) (by omega)
  have hn := SL_n hl
  refine ok_if (fun c => ok_if (fun _ => ok_some ⟨b, w, u⟩) fun c2 => ?_) fun c => ?_
  · obtain ⟨f0, f1⟩ := a1.resolve_left c2
    refine ok_bind (ok_ldel hl _ f0 f1) fun x hx => ok_nme fun r hr => ok_some ?_
    obtain ⟨r2, r1, r0⟩ := up_ls hr
    exact ⟨by rw [hr]; exact b.lst hx.1, w.len r2 (by rw [r0 0 (by omega)]) (by rw [r0 1 (by omega)]), u.len (r0 2 (by omega)) (by rw [r0 0 (by omega)]) (by rw [r0 1 (by omega)])⟩
  · have ci : i < SL (s.1 3) := by
      show i < nI _
      clear a1 a4 hn; grind
    have m73 : ∀ g, (g = -1 ∨ (0 ≤ g ∧ g < SL (s.1 3))) → Ok (f_X6_cancel_73 kk s v1 v2 g i) (KQ k) := by
      intro g hg
      unfold f_X6_cancel_73
      have i20 : i < 20 := by clear hg a1 a4 c; grind
      refine ok_nme fun y hy => hk _ (by clear hg hy hn ci c a1; grind) ⟨⟨b, w, u⟩, hg, ?_, ?_, ?_⟩ <;> dsimp only
      · rw [hy]; clear hg hn ci c a1 a4 hN hN2; grind
      · rw [hy]; clear hg hn ci c a1 a4 hN hN2; grind
      · rw [hy]; clear hg hn ci c a1; grind
    have m70 : Ok (f_X6_cancel_70 kk s v1 v2 i) (KQ k) := m73 i (Or.inr ⟨a2, ci⟩)
    exact ok_bind (ok_lget hl i a2 ci) fun z hz => ok_if (fun _ => ok_if (fun _ => ok_if (fun _ => m70) fun _ => m73 _ a1) fun _ => m70) fun _ => m73 _ a1
theorem ok_X6_cancel (hb : IB k τ) (hw : WK τ) (hu : UT τ) (x1 x2 : Int32) : Ok (f_X6_cancel τ x1 x2) (KQ k) := by
  have main : ∀ u1 : Int32, Ok (f_X6_cancel_16 τ x1 x2 u1) (KQ k) := by
    intro u1
    unfold f_X6_cancel_16
    refine ok_bind (ok_X6_start hb hw hu _ _ (by decide)) fun z hz => ?_
    obtain ⟨⟨-, hi⟩, -, b, w, u⟩ := hz
    refine ok_if (fun c => ?_) fun c => ok_some ⟨b, w, u⟩
    exact lpn24 (CaI k) (fun N kk t hN hN2 ha hk => st_X6_cancel N kk t hN hN2 ha hk) ⟨⟨b, w, u⟩, Or.inl rfl, (by dsimp only; decide), (by dsimp only; decide), (by dsimp only; decide)⟩
  unfold f_X6_cancel
  exact ok_bind (ok_X6_isIn _ _ _) fun z hz => ok_if (fun _ => main 1) fun c => main 0
/-! told of the yard, knock -/
theorem ok_X6_yardTold (hb : IB k τ) (x1 : Int32) : Ok (f_X6_yardTold τ x1) fun _ => True := by
  have first : ∀ i, i < 4 → ∀ y : Int32, y = (if (τ.1 i).length = 0 then 1 else 0) → y = 0 → 0 < SL (τ.1 i) ∧ SL (τ.1 i) ≤ 20 := by
    intro i hi y hy c
    have hl := SL_n (hb.l hi)
    refine ⟨Int32.lt_iff_toInt_lt.mpr ?_, hl.2.1⟩
    rw [hl.2.2]
    show (0 : Int) < _
    by_cases e : (τ.1 i).length = 0
    · rw [if_pos e] at hy
      rw [hy] at c
      exact absurd c (by decide)
    · omega
  have last : ∀ i, i < 4 → ∀ y : Int32, y = (if (τ.1 i).length = 0 then 1 else 0) → Ok (if y = 0 then (lget (τ.1 i) ((nI (τ.1 i).length) - 1)).bind fun z => some z else some (-1)) fun _ => True := by
    intro i hi y hy
    refine ok_if (fun c => ?_) fun c => ok_some trivial
    obtain ⟨q0, q1⟩ := first i hi y hy c
    have q2 : 0 ≤ SL (τ.1 i) - 1 ∧ SL (τ.1 i) - 1 < SL (τ.1 i) := by
      clear hy c
      generalize SL (τ.1 i) = S at *
      constructor <;> grind
    exact ok_bind (ok_lget (hb.l hi) _ q2.1 q2.2) fun z hz => ok_some trivial
  unfold f_X6_yardTold
  refine ok_if (fun _ => ok_some trivial) fun _ => ok_if (fun _ => ok_nme fun y hy => ?_) fun _ => ok_if (fun _ => ok_nme fun y hy => last 3 (by omega) y hy) fun _ => ok_if (fun _ => ok_some trivial) fun _ => ok_if (fun _ => ok_nme fun y hy => last 2 (by omega) y hy) fun _ => ok_if (fun _ => ok_some trivial) fun _ => ok_if (fun _ => ok_bind (ok_hasNext hb) fun z hz => ok_bind (ok_X6_one _) fun z hz => ok_some trivial) fun _ => ok_some trivial
  refine ok_if (fun c => ?_) fun c => ok_some trivial
  exact ok_bind (ok_lget (hb.l (i := 3) (by omega)) _ (by decide) (first 3 (by omega) y hy c).1) fun z hz => ok_some trivial
theorem ok_X6_yard (hb : IB k τ) (hw : WK τ) (hu : UT τ) (x1 : Int32) : Ok (f_X6_yard τ x1) (KQ k) := by
  have main : ∀ u1 : Int32, Ok (f_X6_yard_16 τ x1 u1) (KQ k) := by
    intro u1
    unfold f_X6_yard_16
    refine ok_bind (ok_X6_start hb hw hu _ _ (by decide)) fun z hz => ?_
    obtain ⟨⟨-, hi⟩, -, b, w, u⟩ := hz
    exact ok_if (fun c => ok_bind (ok_X6_yardTold b _) fun y hy => ok_some ⟨b, w, u⟩) fun c => ok_some ⟨b, w, u⟩
  unfold f_X6_yard
  exact ok_bind (ok_X6_isIn _ _ _) fun z hz => ok_if (fun _ => main 1) fun c => main 0
theorem ok_X6_knock (hb : IB k τ) (hw : WK τ) (hu : UT τ) : Ok (f_X6_knock τ) fun r => r.1 = k + 1 ∧ KQ (k + 1) r := by
  unfold f_X6_knock
  refine ok_nme fun t ht => ok_nme fun t2 ht2 => ok_some ?_
  obtain ⟨l1, e1, n1⟩ := up_sc ht
  obtain ⟨l2, e2, n2⟩ := up_sc ht2
  have e : t2.2 4 = k + 1 := by rw [e2, n1 4 (by omega), hb.2]
  refine ⟨e, ⟨by dsimp only; rw [l2, l1]; exact hb.1, e⟩, ?_, hu.eq (l2.trans l1)⟩
  have w1 : WK t := by rw [ht]; exact hw.sc (by omega)
  rw [ht2]; exact w1.sc (by omega)
end OKV
