/-! pieces come and go; slips -/
theorem CH.wk {τ t r : MS} {x1 : Int32} (hw : WK τ) (e2 : t.2 = τ.2) (p : x1 = 0 ∨ x1 = 1) (e0 : x1 = 1 → t.1 0 = τ.1 0) (e1 : x1 = 0 → t.1 1 = τ.1 1) (h : CH t x1 (-1) r) : WK r := by
  obtain ⟨h1, -, -, h2, h3⟩ := h
  obtain ⟨w0, w1, w2⟩ := hw
  rcases p with p | p
  · obtain ⟨a, b⟩ := h2 p
    have c : r.1 1 = τ.1 1 := by rw [h1]; exact e1 p
    rw [e2] at b
    refine ⟨Or.inl a, ?_, ?_⟩ <;> unfold Wj
    · rw [b (5 + 3 * 0) (by omega), b (5 + 3 * 0 + 1) (by omega), b (5 + 3 * 0 + 2) (by omega), c]; exact w1
    · rw [b (5 + 3 * 1) (by omega), b (5 + 3 * 1 + 1) (by omega), b (5 + 3 * 1 + 2) (by omega), c]; exact w2
  · obtain ⟨a, -, -, b, d⟩ := h3 (by rw [p]; decide)
    have c : r.1 0 = τ.1 0 := by rw [h1]; exact e0 p
    have b := b (by decide)
    have d := d (by decide)
    refine ⟨?_, ⟨?_, fun e => ?_⟩, ⟨?_, fun e => ?_⟩⟩
    · unfold WH; rw [a 3 (by omega) (by omega), c, e2]; exact w0
    · rcases b with b | b
      · exact Or.inl b
      · exact Or.inr (Or.inr b)
    · exfalso
      have e : r.2 5 = 1 := e
      rcases b with b | b <;> (rw [b] at e; exact absurd e (by decide))
    · rcases d with b | b
      · exact Or.inl b
      · exact Or.inr (Or.inr b)
    · exfalso
      have e : r.2 8 = 1 := e
      rcases d with b | b <;> (rw [b] at e; exact absurd e (by decide))
theorem CH.ib {k : Int32} {t r : MS} {x1 x2 : Int32} (hb : IB k t) (h : CH t x1 x2 r) : IB k r := by
  obtain ⟨h1, -, h2, -⟩ := h
  exact ⟨by rw [h1]; exact hb.1, by rw [h2]; exact hb.2⟩
def CM (k : Int32) (τ : MS) (x1 : Int32) (r : MS) : Prop := IB k r ∧ WK r ∧ r.2 0 = τ.2 0 ∧ (∀ q, 2 ≤ q → r.1 q = τ.1 q) ∧
  (x1 = 0 → (r.1 0).length = (τ.1 0).length + 1 ∧ r.1 1 = τ.1 1) ∧ (x1 = 1 → (r.1 1).length = (τ.1 1).length + 1 ∧ r.1 0 = τ.1 0)
def GO (k : Int32) (τ : MS) (x1 : Int32) (r : MS) : Prop := IB k r ∧ WK r ∧ r.2 0 = τ.2 0 ∧ (∀ q, 2 ≤ q → r.1 q = τ.1 q) ∧
  (x1 = 0 → (r.1 0).length + 1 = (τ.1 0).length ∧ r.1 1 = τ.1 1) ∧ (x1 = 1 → (r.1 1).length + 1 = (τ.1 1).length ∧ r.1 0 = τ.1 0)
theorem l_eq {f : Nat → List Int32} {g : Nat → Int32} {i : Nat} {z : List Int32} : ((va_up f i z, g) : MS).1 i = z := by
  show va_up f i z i = z
  exact up_eq
theorem l_ne {f : Nat → List Int32} {g : Nat → Int32} {i j : Nat} {z : List Int32} (h : j ≠ i) : ((va_up f i z, g) : MS).1 j = f j := by
  show va_up f i z j = f j
  exact up_ne h
section MOVES
variable {k : Int32} {τ : MS}
theorem come0 (hb : IB k τ) (hw : WK τ) (x1 x2 x3 : Int32) (p : x1 = 0 ∨ x1 = 1) (p1 : 0 ≤ x2) (p2 : x2 ≤ if x1 = 0 then SL (τ.1 0) else SL (τ.1 1)) (p3 : (if x1 = 0 then SL (τ.1 0) else SL (τ.1 1)) < 20) (p4 : 0 ≤ x3 ∧ x3 ≤ 999) : Ok (f_X6_come τ x1 x2 x3) (CM k τ x1) := by
  unfold f_X6_come
  rcases p with p | p <;> subst p
  · refine ok_bind (P := fun z => z = 0) ⟨0, rfl, rfl⟩ fun z hz => ?_
    subst hz
    refine ok_bind (ok_lins (hb.l (by omega)) _ _ p1 p2 (SL_lt (hb.l (by omega)) p3) p4) fun z hz => ok_nme fun t ht => ok_bind (ok_X6_changed _ _) fun r hr => ok_some ?_
    subst ht
    have e : ∀ q, q ≠ 0 → r.1 q = τ.1 q := fun q hq => by rw [hr.1]; exact l_ne hq
    exact ⟨hr.ib (hb.lst hz.1), CH.wk (t := (va_up τ.1 0 z, τ.2)) hw rfl (Or.inl rfl) (fun h => (by cases h)) (fun _ => l_ne (by omega)) hr, hr.2.1, fun q hq => e q (by omega), fun _ => ⟨by rw [hr.1, show (va_up τ.1 0 z, τ.2).1 0 = z from l_eq]; exact hz.2, e 1 (by omega)⟩, fun h => (by cases h)⟩
  · refine ok_bind (P := fun z => z = 1) ⟨1, rfl, rfl⟩ fun z hz => ?_
    subst hz
    refine ok_bind (ok_lins (hb.l (by omega)) _ _ p1 p2 (SL_lt (hb.l (by omega)) p3) p4) fun z hz => ok_nme fun t ht => ok_bind (ok_X6_changed _ _) fun r hr => ok_some ?_
    subst ht
    have e : ∀ q, q ≠ 1 → r.1 q = τ.1 q := fun q hq => by rw [hr.1]; exact l_ne hq
    exact ⟨hr.ib (hb.lst hz.1), CH.wk (t := (va_up τ.1 1 z, τ.2)) hw rfl (Or.inr rfl) (fun _ => l_ne (by omega)) (fun h => (by cases h)) hr, hr.2.1, fun q hq => e q (by omega), fun h => (by cases h), fun _ => ⟨by rw [hr.1, show (va_up τ.1 1 z, τ.2).1 1 = z from l_eq]; exact hz.2, e 0 (by omega)⟩⟩
theorem go0 (hb : IB k τ) (hw : WK τ) (x1 x2 : Int32) (p : x1 = 0 ∨ x1 = 1) (p1 : 0 ≤ x2) (p2 : x2 < if x1 = 0 then SL (τ.1 0) else SL (τ.1 1)) : Ok (f_X6_go τ x1 x2) fun r => GO k τ x1 r.2 ∧ 0 ≤ r.1 ∧ r.1 ≤ 999 := by
  unfold f_X6_go
  rcases p with p | p <;> subst p
  · refine ok_bind (P := fun z => z = 0) ⟨0, rfl, rfl⟩ fun z hz => ?_
    subst hz
    refine ok_bind (ok_ldel (hb.l (by omega)) _ p1 p2) fun z hz => ok_nme fun t ht => ok_nme fun y hy => ok_bind (ok_X6_changed _ _) fun r hr => ok_some ?_
    subst ht
    have e : ∀ q, q ≠ 0 → r.1 q = τ.1 q := fun q hq => by rw [hr.1]; exact l_ne hq
    refine ⟨⟨hr.ib (hb.lst hz.1), CH.wk (t := (va_up τ.1 0 z, τ.2)) hw rfl (Or.inl rfl) (fun h => (by cases h)) (fun _ => l_ne (by omega)) hr, hr.2.1, fun q hq => e q (by omega), fun _ => ⟨by dsimp only; rw [hr.1, show (va_up τ.1 0 z, τ.2).1 0 = z from l_eq]; exact hz.2.1, e 1 (by omega)⟩, fun h => (by cases h)⟩, ?_⟩
    dsimp only
    rw [hy]
    exact (hb.l (i := 0) (by omega)).getD _
  · refine ok_bind (P := fun z => z = 1) ⟨1, rfl, rfl⟩ fun z hz => ?_
    subst hz
    refine ok_bind (ok_ldel (hb.l (by omega)) _ p1 p2) fun z hz => ok_nme fun t ht => ok_nme fun y hy => ok_bind (ok_X6_changed _ _) fun r hr => ok_some ?_
    subst ht
    have e : ∀ q, q ≠ 1 → r.1 q = τ.1 q := fun q hq => by rw [hr.1]; exact l_ne hq
    refine ⟨⟨hr.ib (hb.lst hz.1), CH.wk (t := (va_up τ.1 1 z, τ.2)) hw rfl (Or.inr rfl) (fun _ => l_ne (by omega)) (fun h => (by cases h)) hr, hr.2.1, fun q hq => e q (by omega), fun h => (by cases h), fun _ => ⟨by dsimp only; rw [hr.1, show (va_up τ.1 1 z, τ.2).1 1 = z from l_eq]; exact hz.2.1, e 0 (by omega)⟩⟩, ?_⟩
    dsimp only
    rw [hy]
    exact (hb.l (i := 1) (by omega)).getD _
theorem WK.l2 (h : WK τ) {i : Nat} {xs : List Int32} (hi : 2 ≤ i) : WK (va_up τ.1 i xs, τ.2) := by
  have e0 : (va_up τ.1 i xs, τ.2).1 0 = τ.1 0 := l_ne (by omega)
  have e1 : (va_up τ.1 i xs, τ.2).1 1 = τ.1 1 := l_ne (by omega)
  refine ⟨?_, ?_, ?_⟩
  · unfold WH; rw [e0]; exact h.1
  · unfold Wj; rw [e1]; exact h.2.1
  · unfold Wj; rw [e1]; exact h.2.2
theorem slipv {v b q c : Int32} (hv : v = 0 ∨ v = 1) (hb : b = 0 ∨ b = 1) (hq : q = 0 ∨ q = 1) (hc : 0 ≤ c ∧ c ≤ 999) : (1000 * (((4 * v) + (2 * b)) + q) + c) / 4000 = v ∧ jrem ((1000 * (((4 * v) + (2 * b)) + q) + c) / 1000) 2 = q ∧ 0 ≤ 1000 * (((4 * v) + (2 * b)) + q) + c ∧ 1000 * (((4 * v) + (2 * b)) + q) + c ≤ 7999 := by
  have h0 : 0 ≤ c.toInt := Int32.le_iff_toInt_le.mp hc.1
  have h9 : c.toInt ≤ 999 := Int32.le_iff_toInt_le.mp hc.2
  have key : ∀ m : Nat, m < 8 → (nI (1000 * m) + c).toInt = (1000 * m : Nat) + c.toInt := by
    intro m hm
    rw [Int32.toInt_add, nI_toInt (by omega)]
    exact Int.bmod_eq_of_le (by omega) (by omega)
  have fin : ∀ m : Nat, m < 8 → (nI (1000 * m) + c) / 4000 = nI (m / 4) ∧ jrem ((nI (1000 * m) + c) / 1000) 2 = jrem (nI m) 2 ∧ 0 ≤ nI (1000 * m) + c ∧ nI (1000 * m) + c ≤ 7999 := by
    intro m hm
    have e := key m hm
    have z0 : (0 : Int32).toInt = 0 := rfl
    have z7 : (7999 : Int32).toInt = 7999 := rfl
    have p0 : 0 ≤ nI (1000 * m) + c := Int32.le_iff_toInt_le.mpr (by omega)
    have d4 := div_b (b := 4000) (by omega) (by omega) p0
    have d1 := div_b (b := 1000) (by omega) (by omega) p0
    refine ⟨?_, ?_, p0, Int32.le_iff_toInt_le.mpr (by omega)⟩
    · apply Int32.toInt_inj.mp
      rw [nI_toInt (by omega)]
      refine d4.trans ?_
      rw [e]; omega
    · congr 1
      apply Int32.toInt_inj.mp
      rw [nI_toInt (by omega)]
      refine d1.trans ?_
      rw [e]; omega
  rcases hv with hv | hv <;> rcases hb with hb | hb <;> rcases hq with hq | hq <;> subst hv hb hq
  · exact fin 0 (by omega)
  · exact fin 1 (by omega)
  · exact fin 2 (by omega)
  · exact fin 3 (by omega)
  · exact fin 4 (by omega)
  · exact fin 5 (by omega)
  · exact fin 6 (by omega)
  · exact fin 7 (by omega)
theorem ok_X6_slip (hb : IB k τ) (hw : WK τ) (x1 x2 x3 x4 : Int32) (p : x1 = 0 ∨ x1 = 1) (p4 : 0 ≤ x4 ∧ x4 ≤ 999) (hu : ∀ s, (s / 4000 = 0 ↔ x1 = 0) → (jrem (s / 1000) 2 = 1 ↔ ¬ x3 = 0) → UD (s :: (τ.1 2).reverse) (τ.1 0).length (τ.1 1).length) : Ok (f_X6_slip τ x1 x2 x3 x4) fun r => IB k r ∧ WK r ∧ UT r ∧ r.2 = τ.2 ∧ r.1 0 = τ.1 0 ∧ r.1 1 = τ.1 1 := by
  have main : ∀ t : MS, IB k t → WK t → (t.1 2).length < 12 → t.2 = τ.2 → t.1 0 = τ.1 0 → t.1 1 = τ.1 1 → (∀ s, (s / 4000 = 0 ↔ x1 = 0) → (jrem (s / 1000) 2 = 1 ↔ ¬ x3 = 0) → UD (s :: (t.1 2).reverse) (t.1 0).length (t.1 1).length) → Ok (f_X6_slip_21 t x1 x2 x3 x4) fun r => IB k r ∧ WK r ∧ UT r ∧ r.2 = τ.2 ∧ r.1 0 = τ.1 0 ∧ r.1 1 = τ.1 1 := by
    intro t b w hl e2 e0 e1 u
    unfold f_X6_slip_21
    refine ok_bind (ok_X6_one _) fun z5 h5 => ok_bind (ok_X6_one _) fun z10 h10 => ?_
    obtain ⟨v1, v2, v3, v4⟩ := slipv p h5.1 h10.1 p4
    refine ok_bind (ok_ladd (b.l (i := 2) (by omega)) _ hl ⟨v3, v4⟩) fun z hz => ok_nme fun r hr => ok_some ?_
    subst hr
    refine ⟨b.lst hz.2, w.l2 (by omega), ?_, e2, (l_ne (by omega)).trans e0, (l_ne (by omega)).trans e1⟩
    show UD (va_up t.1 2 z 2).reverse (va_up t.1 2 z 0).length (va_up t.1 2 z 1).length
    rw [up_eq, up_ne (by omega), up_ne (by omega), hz.1, List.reverse_append]
    refine u _ (by rw [v1]) ?_
    rw [v2]
    have := h10.2
    rcases h10.1 with q | q <;> (subst q; (first | assumption | trivial | grind))
  unfold f_X6_slip
  have hl := hb.l (i := 2) (by omega)
  have hl1 : (τ.1 2).length ≤ 12 := hl.1
  refine ok_if (fun c => ?_) fun c => ?_
  · have c2 : SL (τ.1 2) = 12 := c
    have c3 := (SL_n hl).2.2
    rw [c2] at c3
    have c3 : (12 : Int) = ((τ.1 2).length : Int) := c3
    refine ok_bind (ok_ldel hl 0 (by decide) (by rw [c2]; decide)) fun z hz => ok_nme fun t ht => ?_
    subst ht
    have e0 : (va_up τ.1 2 z, τ.2).1 0 = τ.1 0 := l_ne (by omega)
    have e1 : (va_up τ.1 2 z, τ.2).1 1 = τ.1 1 := l_ne (by omega)
    have e2 : (va_up τ.1 2 z, τ.2).1 2 = z := l_eq
    refine main _ (hb.lst hz.1) (hw.l2 (by omega)) ?_ rfl e0 e1 fun s h1 h2 => ?_
    · rw [e2]; have := hz.2.1; omega
    · rw [e0, e1, e2]
      have h3 := hu s h1 h2
      cases hx : τ.1 2 with
      | nil => rw [hx] at c3; simp at c3
      | cons y r =>
        have hz3 := hz.2.2
        rw [hx] at hz3
        have hz4 : z = r := hz3
        rw [hx, List.reverse_cons] at h3
        rw [hz4]
        exact UD.front (s := s :: r.reverse) (x := y) h3
  · refine main τ hb hw ?_ rfl rfl rfl hu
    rcases Nat.lt_or_ge (τ.1 2).length 12 with q | q
    · exact q
    · exfalso
      have : (τ.1 2).length = 12 := by omega
      rw [this] at c
      exact c rfl
end MOVES
