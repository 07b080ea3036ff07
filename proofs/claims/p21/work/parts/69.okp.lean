/-! a step in, a step out, undo -/
section STEPS
variable {k : Int32} {τ : MS}
/-- the sizes behind a step of d on track x1 -/
def SZ (τ : MS) (x1 d : Int32) (r : MS) : Prop := SL (r.1 0) = (if x1 = 0 then SL (τ.1 0) + d else SL (τ.1 0)) ∧ SL (r.1 1) = (if x1 = 1 then SL (τ.1 1) + d else SL (τ.1 1))
theorem CM.sz {x1 : Int32} {r : MS} (p : x1 = 0 ∨ x1 = 1) (h : CM k τ x1 r) : SZ τ x1 1 r := by
  obtain ⟨b, -, -, -, h0, h1⟩ := h
  rcases p with p | p <;> subst p
  · obtain ⟨a, c⟩ := h0 rfl
    exact ⟨by rw [if_pos rfl]; exact SL_up (b.l (i := 0) (by omega)) a, by rw [if_neg (by decide), c]⟩
  · obtain ⟨a, c⟩ := h1 rfl
    exact ⟨by rw [if_neg (by decide), c], by rw [if_pos rfl]; exact SL_up (b.l (i := 1) (by omega)) a⟩
theorem GO.sz {x1 : Int32} {r : MS} (hb : IB k τ) (p : x1 = 0 ∨ x1 = 1) (h : GO k τ x1 r) : SZ τ x1 (-1) r := by
  obtain ⟨b, -, -, -, h0, h1⟩ := h
  rcases p with p | p <;> subst p
  · obtain ⟨a, c⟩ := h0 rfl
    have q := SL_up (xs := r.1 0) (hb.l (i := 0) (by omega)) a.symm
    exact ⟨by rw [if_pos rfl, q]; grind, by rw [if_neg (by decide), c]⟩
  · obtain ⟨a, c⟩ := h1 rfl
    have q := SL_up (xs := r.1 1) (hb.l (i := 1) (by omega)) a.symm
    exact ⟨by rw [if_neg (by decide), c], by rw [if_pos rfl, q]; grind⟩
theorem SL_len {i : Nat} {xs : List Int32} (h : LB i xs) {n : Int32} {m : Nat} (hn : n.toInt = (m : Int)) (hl : SL xs < n) : xs.length < m := by
  have h1 := (SL_n h).2.2
  have h3 := Int32.lt_iff_toInt_lt.mp hl
  omega
theorem ok_X6_come (hb : IB k τ) (hw : WK τ) (x1 x2 x3 : Int32) (p : x1 = 0 ∨ x1 = 1) (p1 : 0 ≤ x2) (p2 : x2 ≤ if x1 = 0 then SL (τ.1 0) else SL (τ.1 1)) (p3 : (if x1 = 0 then SL (τ.1 0) else SL (τ.1 1)) < 20) (p4 : 0 ≤ x3 ∧ x3 ≤ 999) : Ok (f_X6_come τ x1 x2 x3) fun r => IB k r ∧ WK r ∧ r.2 0 = τ.2 0 ∧ SZ τ x1 1 r :=
  ok_mono (come0 hb hw x1 x2 x3 p p1 p2 p3 p4) fun r h => ⟨h.1, h.2.1, h.2.2.1, h.sz p⟩
theorem ok_X6_go (hb : IB k τ) (hw : WK τ) (x1 x2 : Int32) (p : x1 = 0 ∨ x1 = 1) (p1 : 0 ≤ x2) (p2 : x2 < if x1 = 0 then SL (τ.1 0) else SL (τ.1 1)) : Ok (f_X6_go τ x1 x2) fun r => IB k r.2 ∧ WK r.2 ∧ (0 ≤ r.1 ∧ r.1 ≤ 999) ∧ r.2.2 0 = τ.2 0 ∧ SZ τ x1 (-1) r.2 :=
  ok_mono (go0 hb hw x1 x2 p p1 p2) fun r h => ⟨h.1.1, h.1.2.1, h.2, h.1.2.2.1, h.1.sz hb p⟩
theorem ok_X6_tear (hb : IB k τ) (hw : WK τ) : Ok (f_X6_tear τ) fun r => IB k r ∧ WK r ∧ UT r ∧ r.2 = τ.2 ∧ r.1 0 = τ.1 0 ∧ r.1 1 = τ.1 1 := by
  unfold f_X6_tear
  refine ok_nme fun t ht => ok_some ?_
  subst ht
  exact ⟨hb.lst ⟨by show 0 ≤ _; omega, fun v hv => by cases hv⟩, hw.l2 (by omega), UT.nil, rfl, l_ne (by omega), l_ne (by omega)⟩
theorem SZ.of {r r2 : MS} {x1 d : Int32} (h : SZ τ x1 d r) (e0 : r2.1 0 = r.1 0) (e1 : r2.1 1 = r.1 1) : SZ τ x1 d r2 := by
  unfold SZ
  rw [e0, e1]; exact h
theorem ok_X6_stepIn (hb : IB k τ) (hw : WK τ) (hu : UT τ) (x1 x2 x3 : Int32) (p : x1 = 0 ∨ x1 = 1) (p3 : (if x1 = 0 then SL (τ.1 0) else SL (τ.1 1)) < 20) (p4 : 0 ≤ x3 ∧ x3 ≤ 999) : Ok (f_X6_stepIn τ x1 x2 x3) fun r => IB k r ∧ WK r ∧ UT r ∧ r.2 0 = τ.2 0 ∧ SZ τ x1 1 r := by
  have main : ∀ x : Int32, 0 ≤ x → (x ≤ if x1 = 0 then SL (τ.1 0) else SL (τ.1 1)) → Ok (f_X6_stepIn_15 τ x1 x2 x3 x1 x) fun r => IB k r ∧ WK r ∧ UT r ∧ r.2 0 = τ.2 0 ∧ SZ τ x1 1 r := by
    intro x q1 q2
    unfold f_X6_stepIn_15
    refine ok_bind (come0 hb hw x1 x x3 p q1 q2 p3 p4) fun z hz => ok_bind (ok_X6_slip hz.1 hz.2.1 _ _ _ _ p p4 fun s h1 h2 => ?_) fun r hr => ok_some ⟨hr.1, hr.2.1, hr.2.2.1, by rw [hr.2.2.2.1]; exact hz.2.2.1, (hz.sz p).of hr.2.2.2.2.1 hr.2.2.2.2.2⟩
    obtain ⟨b, w, e, e2, c0, c1⟩ := hz
    have hs : jrem (s / 1000) 2 = 1 := h2.mpr (by decide)
    rw [e2 2 (by omega)]
    refine ⟨fun a => ⟨fun _ => ?_, fun n => absurd hs n⟩, fun a => ⟨fun _ => ?_, fun n => absurd hs n⟩⟩
    · obtain ⟨d1, d2⟩ := c0 (h1.mp a)
      rw [d1, d2]; exact ⟨by omega, hu⟩
    · have p1 : x1 = 1 := p.resolve_left (fun h => a (h1.mpr h))
      obtain ⟨d1, d2⟩ := c1 p1
      rw [d1, d2]; exact ⟨by omega, hu⟩
  unfold f_X6_stepIn
  refine ok_if (fun _ => main 0 (by decide) ?_) fun _ => ok_bind (ok_X6_size hb _ p) fun z hz => main z hz.2.1 (by rw [← hz.1]; exact Int32.le_refl _)
  have q0 := (SL_n (hb.l (i := 0) (by omega))).1
  have q1 := (SL_n (hb.l (i := 1) (by omega))).1
  split <;> assumption
theorem ok_X6_stepOut (hb : IB k τ) (hw : WK τ) (hu : UT τ) (x1 x2 : Int32) (p : x1 = 0 ∨ x1 = 1) (p3 : 1 ≤ if x1 = 0 then SL (τ.1 0) else SL (τ.1 1)) : Ok (f_X6_stepOut τ x1 x2) fun r => IB k r.2 ∧ WK r.2 ∧ UT r.2 ∧ (0 ≤ r.1 ∧ r.1 ≤ 999) ∧ r.2.2 0 = τ.2 0 ∧ SZ τ x1 (-1) r.2 := by
  have main : ∀ x : Int32, 0 ≤ x → (x < if x1 = 0 then SL (τ.1 0) else SL (τ.1 1)) → Ok (f_X6_stepOut_17 τ x1 x2 x1 x) fun r => IB k r.2 ∧ WK r.2 ∧ UT r.2 ∧ (0 ≤ r.1 ∧ r.1 ≤ 999) ∧ r.2.2 0 = τ.2 0 ∧ SZ τ x1 (-1) r.2 := by
    intro x q1 q2
    unfold f_X6_stepOut_17
    refine ok_bind (go0 hb hw x1 x p q1 q2) fun z hz => ?_
    obtain ⟨hz, hv⟩ := hz
    have hsz := hz.sz hb p
    refine ok_bind (ok_X6_slip hz.1 hz.2.1 _ _ _ _ p hv fun s h1 h2 => ?_) fun r hr => ok_some ⟨hr.1, hr.2.1, hr.2.2.1, hv, by dsimp only; rw [hr.2.2.2.1]; exact hz.2.2.1, hsz.of hr.2.2.2.2.1 hr.2.2.2.2.2⟩
    obtain ⟨b, w, e, e2, c0, c1⟩ := hz
    have hs : ¬ jrem (s / 1000) 2 = 1 := fun h => h2.mp h rfl
    have l0 : (τ.1 0).length ≤ 20 := (hb.l (i := 0) (by omega)).1
    have l1 : (τ.1 1).length ≤ 20 := (hb.l (i := 1) (by omega)).1
    rw [e2 2 (by omega)]
    refine ⟨fun a => ⟨fun n => absurd n hs, fun _ => ?_⟩, fun a => ⟨fun n => absurd n hs, fun _ => ?_⟩⟩
    · obtain ⟨d1, d2⟩ := c0 (h1.mp a)
      rw [d1, d2]; exact ⟨by omega, hu⟩
    · have p1 : x1 = 1 := p.resolve_left (fun h => a (h1.mpr h))
      obtain ⟨d1, d2⟩ := c1 p1
      rw [d1, d2]; exact ⟨by omega, hu⟩
  unfold f_X6_stepOut
  refine ok_if (fun _ => main 0 (by decide) ?_) fun _ => ok_bind (ok_X6_size hb _ p) fun z hz => main (z - 1) (by (first | assumption | trivial | grind)) (by rw [← hz.1]; (first | assumption | trivial | grind))
  rcases p with p | p <;> subst p <;> (first | assumption | trivial | grind)
theorem delAt_last {xs : List Int32} (h : xs ≠ []) : xs.reverse = xs.getD (xs.length - 1) 0 :: (delAt xs (xs.length - 1)).reverse := by
  have e : delAt xs (xs.length - 1) = xs.dropLast := by
    unfold delAt
    have : 0 < xs.length := List.length_pos_iff.mpr h
    rw [show xs.length - 1 + 1 = xs.length by omega, List.drop_length, List.append_nil, List.dropLast_eq_take]
  have e2 : xs.getD (xs.length - 1) 0 = xs.getLast h := by
    have : 0 < xs.length := List.length_pos_iff.mpr h
    rw [List.getD_eq_getElem?_getD, List.getElem?_eq_getElem (by omega), List.getLast_eq_getElem]
    rfl
  rw [e, e2]
  conv => lhs; rw [← List.dropLast_concat_getLast h]
  rw [List.reverse_append]; rfl
theorem ok_X6_undo (hb : IB k τ) (hw : WK τ) (hu : UT τ) : Ok (f_X6_undo τ) fun r => IB k r.2 ∧ WK r.2 ∧ UT r.2 := by
  unfold f_X6_undo
  refine ok_nme fun t ht => ?_
  have b : IB k t := by rw [ht]; exact hb.sc (by omega)
  have w : WK t := by rw [ht]; exact hw.sc (by omega)
  have u : UT t := by rw [ht]; exact hu.sc
  clear ht hb hw hu
  refine ok_nme fun y hy => ok_if (fun c => ?_) fun c => ok_some ⟨b, w, u⟩
  have hne : t.1 2 ≠ [] := by
    intro e
    rw [e] at hy
    rw [hy] at c
    cases c
  have hl := b.l (i := 2) (by omega)
  have hl1 : (t.1 2).length ≤ 12 := hl.1
  have hpos : 0 < (t.1 2).length := List.length_pos_iff.mpr hne
  have hi : ((nI (t.1 2).length) - 1).toNatClampNeg = (t.1 2).length - 1 := by
    have := nI_dec (m := (t.1 2).length - 1) (by omega)
    rw [show (t.1 2).length - 1 + 1 = (t.1 2).length by omega] at this
    rw [this]
    have h2 := nI_toInt (n := (t.1 2).length - 1) (by omega)
    show (nI _).toInt.toNat = _
    rw [h2]; omega
  have hsl := SL_n hl
  have hge : 1 ≤ nI (t.1 2).length := by
    have h2 := hsl.2.2
    have h3 : (1 : Int32).toInt = 1 := rfl
    refine Int32.le_iff_toInt_le.mpr ?_
    show _ ≤ (SL (t.1 2)).toInt
    omega
  have hle : nI (t.1 2).length ≤ 20 := hsl.2.1
  refine ok_bind (ok_ldel hl _ (by (first | assumption | trivial | grind)) (by show _ < nI _; (first | assumption | trivial | grind))) fun z hz => ok_nme fun t2 ht2 => ok_nme fun s hs => ok_nme fun x hx => ?_
  rw [hi] at hs hz
  have hud : UD (s :: z.reverse) (t.1 0).length (t.1 1).length := by
    have := u
    unfold UT at this
    rw [delAt_last hne, ← hs, ← hz.2.2] at this
    exact this
  have hv := hl.getD ((t.1 2).length - 1)
  rw [← hs] at hv
  have hv2 : s ≤ 7999 := hv.2
  have hx2 : x = 0 ∨ x = 1 := by
    have := dv4000 hv.1 hv2
    rw [← hx] at this
    (first | assumption | trivial | grind)
  have hc := jr1000 hv.1
  have b2 : IB k t2 := by rw [ht2]; exact b.lst hz.1
  have w2 : WK t2 := by rw [ht2]; exact w.l2 (by omega)
  have e0 : t2.1 0 = t.1 0 := by rw [ht2]; exact l_ne (by omega)
  have e1 : t2.1 1 = t.1 1 := by rw [ht2]; exact l_ne (by omega)
  have e2 : t2.1 2 = z := by rw [ht2]; exact l_eq
  rw [← e0, ← e1, ← e2] at hud
  have key : ∀ v : Int32, Ok (f_X6_undo_63 t2 s x v) fun r => IB k r.2 ∧ WK r.2 ∧ UT r.2 := by
    intro v
    have bz := SL_n (b2.l (i := 0) (by omega))
    have bo := SL_n (b2.l (i := 1) (by omega))
    have hx0 : s / 4000 = 0 ↔ x = 0 := by rw [hx]
    have fin1 : (jrem (s / 1000) 2 = 1) → ∀ i : Int32, 0 ≤ i → (i < if x = 0 then SL (t2.1 0) else SL (t2.1 1)) → Ok (f_X6_undo_92 t2 s x i) fun r => IB k r.2 ∧ WK r.2 ∧ UT r.2 := by
      intro hp i q1 q2
      unfold f_X6_undo_92 f_X6_undo_122
      refine ok_bind (go0 b2 w2 x i hx2 q1 q2) fun r hr => ok_some ⟨hr.1.1, hr.1.2.1, ?_⟩
      obtain ⟨⟨-, -, -, g2, g0, g1⟩, -⟩ := hr
      show UD (r.2.1 2).reverse (r.2.1 0).length (r.2.1 1).length
      rw [g2 2 (by omega)]
      rcases hx2 with h | h
      · have := ((hud.1 (hx0.mpr h)).1 hp).2
        obtain ⟨a1, a2⟩ := g0 h
        rw [a2, show (r.2.1 0).length = (t2.1 0).length - 1 by omega]; exact this
      · have := ((hud.2 (fun e => absurd (hx0.mp e) (by rw [h]; decide))).1 hp).2
        obtain ⟨a1, a2⟩ := g1 h
        rw [a2, show (r.2.1 1).length = (t2.1 1).length - 1 by omega]; exact this
    have fin2 : (¬ jrem (s / 1000) 2 = 1) → ∀ i : Int32, 0 ≤ i → (i ≤ if x = 0 then SL (t2.1 0) else SL (t2.1 1)) → Ok (f_X6_undo_114 t2 s x i) fun r => IB k r.2 ∧ WK r.2 ∧ UT r.2 := by
      intro hp i q1 q2
      have h20 : (20 : Int32).toInt = 20 := rfl
      unfold f_X6_undo_114 f_X6_undo_122
      refine ok_bind (come0 b2 w2 x i (jrem s 1000) hx2 q1 q2 ?_ hc) fun r hr => ok_some ⟨hr.1, hr.2.1, ?_⟩
      · rcases hx2 with h | h
        · have := ((hud.1 (hx0.mpr h)).2 hp).1
          rw [if_pos h]; exact Int32.lt_iff_toInt_lt.mpr (by omega)
        · have := ((hud.2 (fun e => absurd (hx0.mp e) (by rw [h]; decide))).2 hp).1
          rw [if_neg (by rw [h]; decide)]; exact Int32.lt_iff_toInt_lt.mpr (by omega)
      obtain ⟨-, -, -, g2, g0, g1⟩ := hr
      show UD (r.1 2).reverse (r.1 0).length (r.1 1).length
      rw [g2 2 (by omega)]
      rcases hx2 with h | h
      · have := ((hud.1 (hx0.mpr h)).2 hp).2
        obtain ⟨a1, a2⟩ := g0 h
        rw [a2, a1]; exact this
      · have := ((hud.2 (fun e => absurd (hx0.mp e) (by rw [h]; decide))).2 hp).2
        obtain ⟨a1, a2⟩ := g1 h
        rw [a2, a1]; exact this
    have hone : jrem (s / 1000) 2 = 1 → 1 ≤ if x = 0 then SL (t2.1 0) else SL (t2.1 1) := by
      intro hp
      have h1 : (1 : Int32).toInt = 1 := rfl
      rcases hx2 with h | h
      · have := ((hud.1 (hx0.mpr h)).1 hp).1
        rw [if_pos h]; exact Int32.le_iff_toInt_le.mpr (by omega)
      · have := ((hud.2 (fun e => absurd (hx0.mp e) (by rw [h]; decide))).1 hp).1
        rw [if_neg (by rw [h]; decide)]; exact Int32.le_iff_toInt_le.mpr (by omega)
    have hnn : 0 ≤ if x = 0 then SL (t2.1 0) else SL (t2.1 1) := by
      split
      · exact bz.1
      · exact bo.1
    unfold f_X6_undo_63
    refine ok_if (fun hp => ok_if (fun _ => fin1 hp 0 (by decide) (by have := hone hp; (first | assumption | trivial | grind))) fun _ => ok_bind (ok_X6_size b2 _ hx2) fun r hr => fin1 hp _ ?_ ?_) fun hp => ok_if (fun _ => fin2 hp 0 (by decide) hnn) fun _ => ok_bind (ok_X6_size b2 _ hx2) fun r hr => fin2 hp _ hr.2.1 (by rw [← hr.1]; exact Int32.le_refl _)
    · have h1 := hone hp
      rw [← hr.1] at h1
      (first | assumption | trivial | grind)
    · have h1 := hone hp
      rw [← hr.1] at h1
      rw [← hr.1]
      (first | assumption | trivial | grind)
  exact ok_if (fun _ => key 1) fun _ => key 0
end STEPS
