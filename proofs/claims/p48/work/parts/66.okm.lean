section
/-! the model: nothing throws; what its states keep -/
def LB (i : Nat) (xs : List Int32) : Prop := xs.length ≤ cap i ∧ ∀ v ∈ xs, 0 ≤ v ∧ v ≤ hiR i
def SL (xs : List Int32) : Int32 := nI xs.length
def IB (k : Int32) (τ : MS) : Prop := (∀ i, i < 4 → LB i (τ.1 i)) ∧ τ.2 4 = k
def WH (τ : MS) : Prop := τ.2 3 = -1 ∨ (0 ≤ τ.2 3 ∧ τ.2 3 < SL (τ.1 0))
def Wj (τ : MS) (j : Nat) : Prop := (τ.2 (5 + 3 * j) = 0 ∨ τ.2 (5 + 3 * j) = 1 ∨ τ.2 (5 + 3 * j) = 2) ∧ (τ.2 (5 + 3 * j) = 1 → (0 ≤ τ.2 (5 + 3 * j + 1) ∧ τ.2 (5 + 3 * j + 1) ≤ SL (τ.1 1)) ∧ (τ.2 (5 + 3 * j + 2) = -1 ∨ (0 ≤ τ.2 (5 + 3 * j + 2) ∧ τ.2 (5 + 3 * j + 2) < SL (τ.1 1))))
def WK (τ : MS) : Prop := WH τ ∧ Wj τ 0 ∧ Wj τ 1
/-- what was laid down can be undone (newest first) -/
def UD : List Int32 → Nat → Nat → Prop
  | [], _, _ => True
  | s :: r, a, b => (s / 4000 = 0 → (jrem (s / 1000) 2 = 1 → 1 ≤ a ∧ UD r (a - 1) b) ∧ (¬ jrem (s / 1000) 2 = 1 → a + 1 ≤ 20 ∧ UD r (a + 1) b)) ∧ (¬ s / 4000 = 0 → (jrem (s / 1000) 2 = 1 → 1 ≤ b ∧ UD r a (b - 1)) ∧ (¬ jrem (s / 1000) 2 = 1 → b + 1 ≤ 20 ∧ UD r a (b + 1)))
def UT (τ : MS) : Prop := UD (τ.1 2).reverse (τ.1 0).length (τ.1 1).length
theorem UD.front {s : List Int32} {x : Int32} : ∀ {a b : Nat}, UD (s ++ [x]) a b → UD s a b := by
  induction s with
  | nil => intro a b _; trivial
  | cons y r ih =>
    intro a b h
    refine ⟨fun e => ⟨fun q => ?_, fun q => ?_⟩, fun e => ⟨fun q => ?_, fun q => ?_⟩⟩
    · have := (h.1 e).1 q; exact ⟨this.1, ih this.2⟩
    · have := (h.1 e).2 q; exact ⟨this.1, ih this.2⟩
    · have := (h.2 e).1 q; exact ⟨this.1, ih this.2⟩
    · have := (h.2 e).2 q; exact ⟨this.1, ih this.2⟩
theorem UT.sc {τ : MS} (h : UT τ) {g : Nat → Int32} : UT (τ.1, g) := h
theorem UT.nil {τ : MS} {g : Nat → Int32} : UT (va_up τ.1 2 [], g) := by
  show UD (va_up τ.1 2 [] 2).reverse _ _
  rw [up_eq]; trivial
theorem IB.l {k : Int32} {τ : MS} (h : IB k τ) {i : Nat} (hi : i < 4) : LB i (τ.1 i) := h.1 i hi
theorem IB.lst {k : Int32} {τ : MS} (h : IB k τ) {i : Nat} {xs : List Int32} (hx : LB i xs) : IB k (va_up τ.1 i xs, τ.2) := by
  refine ⟨fun j hj => ?_, h.2⟩
  show LB j (va_up τ.1 i xs j)
  by_cases e : j = i
  · subst e; rw [up_eq]; exact hx
  · rw [up_ne e]; exact h.1 j hj
theorem IB.sc {k : Int32} {τ : MS} (h : IB k τ) {i : Nat} {v : Int32} (hi : i ≠ 4) : IB k (τ.1, va_up τ.2 i v) := ⟨h.1, by show va_up τ.2 i v 4 = k; rw [up_ne (fun e => hi e.symm)]; exact h.2⟩
theorem WK.sc {τ : MS} (h : WK τ) {i : Nat} {v : Int32} (hi : i < 3 ∨ i = 4) : WK (τ.1, va_up τ.2 i v) := by
  have e : ∀ q, q ≠ i → (τ.1, va_up τ.2 i v).2 q = τ.2 q := fun q hq => up_ne hq
  refine ⟨?_, ?_, ?_⟩
  · unfold WH; rw [e 3 (by omega)]; exact h.1
  · unfold Wj; rw [e (5 + 3 * 0) (by omega), e (5 + 3 * 0 + 1) (by omega), e (5 + 3 * 0 + 2) (by omega)]; exact h.2.1
  · unfold Wj; rw [e (5 + 3 * 1) (by omega), e (5 + 3 * 1 + 1) (by omega), e (5 + 3 * 1 + 2) (by omega)]; exact h.2.2
theorem capn (i : Nat) : cap i ≤ 20 := (capN i).2.2.1
section LISTS
variable {i : Nat} {xs : List Int32}
theorem SL_n (h : LB i xs) : 0 ≤ SL xs ∧ SL xs ≤ 20 ∧ (SL xs).toInt = (xs.length : Int) := by
  have h1 := h.1
  have h2 := capn i
  have q := nI_bnd (n := xs.length) (b := 20) (by omega) (by omega)
  exact ⟨q.1, q.2, nI_toInt (by omega)⟩
theorem SL_in (h : LB i xs) {x : Int32} (h0 : 0 ≤ x) (h1 : x < SL xs) : ¬ (x < 0 ∨ xs.length ≤ x.toNatClampNeg) := by
  have h3 := (SL_n h).2.2
  have h4 : x.toInt < (SL xs).toInt := Int32.lt_iff_toInt_lt.mp h1
  have h5 : x.toNatClampNeg = x.toInt.toNat := rfl
  have h6 : (0 : Int32).toInt ≤ x.toInt := Int32.le_iff_toInt_le.mp h0
  have h7 : (0 : Int32).toInt = 0 := rfl
  intro e
  cases e with
  | inl e => have := Int32.lt_iff_toInt_lt.mp e; omega
  | inr e => omega
theorem LB.getD (h : LB i xs) (n : Nat) : 0 ≤ xs.getD n 0 ∧ xs.getD n 0 ≤ hiR i := by
  by_cases e : n < xs.length
  · rw [List.getD_eq_getElem?_getD, List.getElem?_eq_getElem e]
    exact h.2 _ (List.getElem_mem e)
  · rw [List.getD_eq_getElem?_getD, List.getElem?_eq_none (by omega)]
    have := hiR0 i
    exact ⟨by decide, Int32.le_trans (by decide) this.1⟩
theorem ok_lget (h : LB i xs) (x : Int32) (h0 : 0 ≤ x) (h1 : x < SL xs) : Ok (lget xs x) fun r => 0 ≤ r ∧ r ≤ hiR i := by
  unfold lget
  exact ok_no (SL_in h h0 h1) (ok_some (h.getD _))
theorem ok_lset (h : LB i xs) (x v : Int32) (h0 : 0 ≤ x) (h1 : x < SL xs) (hv : 0 ≤ v ∧ v ≤ hiR i) : Ok (lset xs x v) fun r => LB i r ∧ r.length = xs.length := by
  unfold lset
  refine ok_no (SL_in h h0 h1) (ok_some ⟨⟨?_, fun w hw => ?_⟩, ?_⟩)
  · rw [List.length_set]; exact h.1
  · rcases List.mem_or_eq_of_mem_set hw with q | q
    · exact h.2 _ q
    · subst q; exact hv
  · rw [List.length_set]
theorem ok_ladd (h : LB i xs) (v : Int32) (hl : xs.length < cap i) (hv : 0 ≤ v ∧ v ≤ hiR i) : Ok (ladd xs v) fun r => r = xs ++ [v] ∧ LB i r := by
  have := capn i
  unfold ladd
  refine ok_no (by omega) (ok_some ⟨rfl, ?_, fun w hw => ?_⟩)
  · rw [List.length_append]; show xs.length + 1 ≤ _; omega
  · rcases List.mem_append.mp hw with q | q
    · exact h.2 _ q
    · rw [List.mem_singleton.mp q]; exact hv
theorem ok_lins (h : LB i xs) (x v : Int32) (h0 : 0 ≤ x) (h1 : x ≤ SL xs) (hl : xs.length < cap i) (hv : 0 ≤ v ∧ v ≤ hiR i) : Ok (lins xs x v) fun r => LB i r ∧ r.length = xs.length + 1 := by
  have := capn i
  have h3 := (SL_n h).2.2
  have h4 : x.toInt ≤ (SL xs).toInt := Int32.le_iff_toInt_le.mp h1
  have h5 : x.toNatClampNeg = x.toInt.toNat := rfl
  have h6 : (0 : Int32).toInt ≤ x.toInt := Int32.le_iff_toInt_le.mp h0
  have h7 : (0 : Int32).toInt = 0 := rfl
  have hx : x.toNatClampNeg ≤ xs.length := by omega
  unfold lins
  refine ok_no ?_ (ok_some ⟨⟨?_, fun w hw => ?_⟩, insAt_len hx⟩)
  · rintro (e | e | e)
    · omega
    · have := Int32.lt_iff_toInt_lt.mp e; omega
    · omega
  · rw [insAt_len hx]; omega
  · unfold insAt at hw
    rcases List.mem_append.mp hw with q | q
    · exact h.2 _ (List.mem_of_mem_take q)
    · rcases List.mem_cons.mp q with q | q
      · subst q; exact hv
      · exact h.2 _ (List.mem_of_mem_drop q)
theorem ok_ldel (h : LB i xs) (x : Int32) (h0 : 0 ≤ x) (h1 : x < SL xs) : Ok (ldel xs x) fun r => LB i r ∧ r.length + 1 = xs.length ∧ r = delAt xs x.toNatClampNeg := by
  have h2 := SL_in h h0 h1
  have hx : x.toNatClampNeg < xs.length := by omega
  have h3 : (delAt xs x.toNatClampNeg).length = xs.length - 1 := delAt_len hx
  have h4 := h.1
  unfold ldel
  refine ok_no h2 (ok_some ⟨⟨?_, fun w hw => ?_⟩, ?_, rfl⟩)
  · omega
  · unfold delAt at hw
    rcases List.mem_append.mp hw with q | q
    · exact h.2 _ (List.mem_of_mem_take q)
    · exact h.2 _ (List.mem_of_mem_drop q)
  · omega
theorem SL_up {ys : List Int32} (h : LB i ys) (e : ys.length = xs.length + 1) : SL ys = SL xs + 1 := by
  have h1 := (SL_n h).2.2
  have hc := capn i
  have hl := h.1
  have h2 := nI_dec (m := xs.length) (by omega)
  have h3 : SL ys = nI (xs.length + 1) := by unfold SL; rw [e]
  have h4 : SL xs = nI xs.length := rfl
  rw [h3, h4, ← h2]
  grind
theorem SL_lt (h : LB i xs) (hl : SL xs < nI (cap i)) : xs.length < cap i := by
  have h1 := (SL_n h).2.2
  have h2 := (capN i).2.2.2
  have h3 := Int32.lt_iff_toInt_lt.mp hl
  omega
end LISTS
end
section
/-! the model's inner methods -/
section INNER
variable {k : Int32} {τ : MS}
theorem ok_gtr (x : Int32) (p : x = 0 ∨ x = 1) : Ok (gtr x) fun z => (x = 0 → z = 0) ∧ (x = 1 → z = 1) ∧ z < 2 := by
  rcases p with p | p <;> subst p
  · exact ⟨0, rfl, by decide, by decide, by decide⟩
  · exact ⟨1, rfl, by decide, by decide, by decide⟩
theorem ok_gwk (x : Int32) (p : x = 0 ∨ x = 1) : Ok (gwk x) fun z => (x = 0 → z = 0) ∧ (x = 1 → z = 1) ∧ z < 2 := ok_gtr x p
theorem ok_X6_isIn (x1 x2 x3 : Int32) : Ok (f_X6_isIn x1 x2 x3) fun r => (r = 0 ∨ r = 1) ∧ (¬ r = 0 → x2 ≤ x1 ∧ x1 ≤ x3) := by
  unfold f_X6_isIn
  exact ok_if (fun _ => ok_some (by (first | assumption | trivial | grind))) fun _ => ok_if (fun _ => ok_some (by (first | assumption | trivial | grind))) fun _ => ok_some (by (first | assumption | trivial | grind))
theorem ok_X6_one (x1 : Int32) : Ok (f_X6_one x1) fun r => (r = 0 ∨ r = 1) ∧ (r = 0 ↔ x1 = 0) := by
  unfold f_X6_one
  exact ok_if (fun _ => ok_some (by (first | assumption | trivial | grind))) fun _ => ok_some (by (first | assumption | trivial | grind))
theorem ok_X6_isNoTrack (x1 : Int32) : Ok (f_X6_isNoTrack x1) fun r => (r = 0 → x1 = 0 ∨ x1 = 1) := by
  unfold f_X6_isNoTrack
  exact ok_bind (ok_X6_isIn _ _ _) fun z hz => ok_if (fun _ => ok_some (by (first | assumption | trivial | grind))) fun _ => ok_some (by (first | assumption | trivial | grind))
theorem ok_X6_isNoWalker (x1 : Int32) : Ok (f_X6_isNoWalker x1) fun r => (r = 0 → x1 = 0 ∨ x1 = 1) := by
  unfold f_X6_isNoWalker
  exact ok_bind (ok_X6_isIn _ _ _) fun z hz => ok_if (fun _ => ok_some (by (first | assumption | trivial | grind))) fun _ => ok_some (by (first | assumption | trivial | grind))
theorem ok_X6_isNoPlace (x1 : Int32) : Ok (f_X6_isNoPlace τ x1) fun r => (r = 0 → 0 ≤ x1 ∧ x1 ≤ 19) := by
  unfold f_X6_isNoPlace
  exact ok_bind (ok_X6_isIn _ _ _) fun z hz => ok_if (fun _ => ok_some (by (first | assumption | trivial | grind))) fun _ => ok_some (by (first | assumption | trivial | grind))
theorem ok_X6_isNoPiece (x1 x2 : Int32) : Ok (f_X6_isNoPiece x1 x2) fun r => (r = 0 → (0 ≤ x1 ∧ x1 ≤ 9) ∧ 0 ≤ x2 ∧ x2 ≤ 99) := by
  unfold f_X6_isNoPiece f_X6_isNoPiece_20
  exact ok_bind (ok_X6_isIn _ _ _) fun z hz => ok_if (fun _ => ok_some (by (first | assumption | trivial | grind))) fun _ => ok_bind (ok_X6_isIn _ _ _) fun z2 hz2 => ok_if (fun _ => ok_some (by (first | assumption | trivial | grind))) fun _ => ok_some (by (first | assumption | trivial | grind))
theorem ok_X6_code (x1 x2 : Int32) (p : (0 ≤ x1 ∧ x1 ≤ 9) ∧ 0 ≤ x2 ∧ x2 ≤ 99) : Ok (f_X6_code x1 x2) fun r => 0 ≤ r ∧ r ≤ 999 := by
  unfold f_X6_code
  exact ok_if (fun _ => ok_some (by (first | assumption | trivial | grind))) fun _ => ok_some (by (first | assumption | trivial | grind))
theorem ok_X6_kind (x1 : Int32) : Ok (f_X6_kind x1) fun r => 0 ≤ x1 → x1 ≤ 999 → 0 ≤ r ∧ r ≤ 9 := ok_some fun h h2 => dv100 h h2
theorem ok_X6_load (x1 : Int32) : Ok (f_X6_load x1) fun r => True := ok_some trivial
theorem ok_X6_isBarred (x1 x2 : Int32) : Ok (f_X6_isBarred x1 x2) fun r => True := by
  unfold f_X6_isBarred
  exact ok_if (fun _ => ok_if (fun _ => ok_some trivial) fun _ => ok_some trivial) fun _ => ok_some trivial
theorem ok_X6_size (hb : IB k τ) (x1 : Int32) (p : x1 = 0 ∨ x1 = 1) : Ok (f_X6_size τ x1) fun r => r = (if x1 = 0 then SL (τ.1 0) else SL (τ.1 1)) ∧ 0 ≤ r ∧ r ≤ 20 := by
  unfold f_X6_size
  rcases p with p | p <;> subst p
  · exact ok_bind (P := fun z => z = 0) ⟨0, rfl, rfl⟩ fun z hz => by subst hz; exact ok_some ⟨rfl, (SL_n (hb.l (by omega))).1, (SL_n (hb.l (by omega))).2.1⟩
  · exact ok_bind (P := fun z => z = 1) ⟨1, rfl, rfl⟩ fun z hz => by subst hz; exact ok_some ⟨rfl, (SL_n (hb.l (by omega))).1, (SL_n (hb.l (by omega))).2.1⟩
theorem ok_X6_get (hb : IB k τ) (x1 x2 : Int32) (p : x1 = 0 ∨ x1 = 1) (p1 : 0 ≤ x2) (p2 : x2 < if x1 = 0 then SL (τ.1 0) else SL (τ.1 1)) : Ok (f_X6_get τ x1 x2) fun r => 0 ≤ r ∧ r ≤ 999 := by
  unfold f_X6_get
  rcases p with p | p <;> subst p
  · exact ok_bind (P := fun z => z = 0) ⟨0, rfl, rfl⟩ fun z hz => by subst hz; exact ok_bind (ok_lget (hb.l (by omega)) _ p1 p2) fun z hz => ok_some hz
  · exact ok_bind (P := fun z => z = 1) ⟨1, rfl, rfl⟩ fun z hz => by subst hz; exact ok_bind (ok_lget (hb.l (by omega)) _ p1 p2) fun z hz => ok_some hz
/-- what a refusal leaves -/
def RF (k : Int32) (τ : MS) (x1 : Int32) (r : Int32 × MS) : Prop := ((r.1 = 0 ∨ r.1 = 1) ∧ (r.1 = 0 → x1 = 0 ∧ r.2.2 0 = 0)) ∧ (r.2.1 = τ.1 ∧ ∀ j, j ≠ 0 → r.2.2 j = τ.2 j) ∧ IB k r.2 ∧ WK r.2 ∧ UT r.2
theorem ok_X6_refuse (hb : IB k τ) (hw : WK τ) (hu : UT τ) (x1 x2 : Int32) (h0 : τ.2 0 = 0) (p : 1 ≤ x2) : Ok (f_X6_refuse τ x1 x2) (RF k τ x1) := by
  have hz : ∀ t : MS, (t = τ → x1 = 0) → t.1 = τ.1 → (∀ j, j ≠ 0 → t.2 j = τ.2 j) → (t.2 0 ≤ 0 → x1 = 0 ∧ t.2 0 = 0) → IB k t → WK t → UT t → Ok (f_X6_refuse_16 t) (RF k τ x1) := by
    intro t _ e1 e2 e3 b w u
    unfold f_X6_refuse_16
    refine ok_if (fun c => ok_some ⟨⟨Or.inl rfl, fun _ => e3 c⟩, ⟨e1, e2⟩, b, w, u⟩) fun c => ok_some ⟨⟨Or.inr rfl, fun e => by cases e⟩, ⟨e1, e2⟩, b, w, u⟩
  unfold f_X6_refuse
  refine ok_if (fun c => hz τ (fun _ => c) rfl (fun _ _ => rfl) (fun _ => ⟨c, h0⟩) hb hw hu) fun c => ok_if (fun c2 => ?_) fun c2 => absurd h0 c2
  refine ok_nme fun t ht => ?_
  subst ht
  refine hz _ (fun e => ?_) rfl (fun j hj => up_ne hj) (fun e => ?_) (hb.sc (by omega)) (hw.sc (by omega)) hu.sc
  · exfalso
    have := congrArg (fun q : MS => q.2 0) e
    have e2 : va_up τ.2 0 x2 0 = x2 := up_eq
    dsimp only at this
    rw [e2, h0] at this
    subst this
    exact absurd p (by decide)
  · exfalso
    have e2 : (τ.1, va_up τ.2 0 x2).2 0 = x2 := show va_up τ.2 0 x2 0 = x2 from up_eq
    rw [e2] at e
    (first | assumption | trivial | grind)
theorem ok_X6_start (hb : IB k τ) (hw : WK τ) (hu : UT τ) (x1 x2 : Int32) (p : 1 ≤ x2) : Ok (f_X6_start τ x1 x2) (RF k τ x1) := by
  unfold f_X6_start
  refine ok_nme fun t ht => ?_
  subst ht
  refine ok_bind (ok_X6_refuse (hb.sc (by omega)) (hw.sc (by omega)) hu.sc _ _ (show va_up τ.2 0 0 0 = 0 from up_eq) p) fun z hz => ?_
  obtain ⟨⟨h1, h2⟩, ⟨h3, h4⟩, h5⟩ := hz
  refine ok_yes h1 (ok_some ⟨⟨h1, h2⟩, ⟨h3, fun j hj => (h4 j hj).trans (up_ne hj)⟩, h5⟩)
/-- what a change of a track's pieces leaves of the walks -/
def CH (τ : MS) (x1 x2 : Int32) (r : MS) : Prop := r.1 = τ.1 ∧ r.2 0 = τ.2 0 ∧ r.2 4 = τ.2 4 ∧
  (x1 = 0 → r.2 3 = -1 ∧ ∀ q, 5 ≤ q → r.2 q = τ.2 q) ∧
  (¬ x1 = 0 → (∀ q, q ≠ 5 → q ≠ 8 → r.2 q = τ.2 q) ∧ (x2 = 0 → r.2 5 = τ.2 5) ∧ (x2 = 1 → r.2 8 = τ.2 8) ∧ (¬ x2 = 0 → r.2 5 = 0 ∨ r.2 5 = 2) ∧ (¬ x2 = 1 → r.2 8 = 0 ∨ r.2 8 = 2))
theorem ok_X6_changed (x1 x2 : Int32) : Ok (f_X6_changed τ x1 x2) (CH τ x1 x2) := by
  unfold f_X6_changed
  refine ok_if (fun c => ?_) fun c => ?_
  · refine ok_nme fun t ht => ok_nme fun t2 ht2 => ok_nme fun t3 ht3 => ok_some ?_
    subst ht ht2 ht3
    refine ⟨rfl, rfl, rfl, fun _ => ⟨show va_up (va_up (va_up τ.2 1 0) 2 0) 3 (-1) 3 = -1 from up_eq, fun q hq => ?_⟩, fun h => absurd c h⟩
    show va_up (va_up (va_up τ.2 1 0) 2 0) 3 (-1) q = _
    rw [up_ne (by omega), up_ne (by omega), up_ne (by omega)]
  · refine lpn24 (fun N t => t.1.1 = τ.1 ∧ (∀ q, q ≠ 5 → q ≠ 8 → t.1.2 q = τ.2 q) ∧ t.2.1 = x2 ∧ 0 ≤ t.2.2 ∧ t.2.2 ≤ 2 ∧ 2 ≤ t.2.2 + N ∧ (x2 = 0 → t.1.2 5 = τ.2 5) ∧ (x2 = 1 → t.1.2 8 = τ.2 8) ∧ (1 ≤ t.2.2 → ¬ x2 = 0 → t.1.2 5 = 0 ∨ t.1.2 5 = 2) ∧ (2 ≤ t.2.2 → ¬ x2 = 1 → t.1.2 8 = 0 ∨ t.1.2 8 = 2)) ?_ ⟨rfl, fun _ _ _ => rfl, rfl, by ((try dsimp only) <;> (first | decide | assumption | trivial | grind)), by ((try dsimp only) <;> (first | decide | assumption | trivial | grind)), by ((try dsimp only) <;> (first | decide | assumption | trivial | grind)), fun _ => rfl, fun _ => rfl, fun h => absurd h (by ((try dsimp only) <;> (first | decide | assumption | trivial | grind))), fun h => absurd h (by ((try dsimp only) <;> (first | decide | assumption | trivial | grind)))⟩
    rintro N kk ⟨t, sk, j⟩ hN hN2 ⟨a1, a2, a3, a4, a5, a6, a7, a8, a9, a10⟩ hk
    dsimp only at a1 a2 a3 a4 a5 a6 a7 a8 a9 a10
    subst a3
    unfold f_X6_changed_22 f_X6_changed_54
    dsimp only
    refine ok_if (fun d => ok_some ⟨a1, a2 0 (by ((try dsimp only) <;> (first | decide | assumption | trivial | grind))) (by ((try dsimp only) <;> (first | decide | assumption | trivial | grind))), a2 4 (by ((try dsimp only) <;> (first | decide | assumption | trivial | grind))) (by ((try dsimp only) <;> (first | decide | assumption | trivial | grind))), fun h => absurd h c, fun _ => ⟨a2, a7, a8, a9 (by (first | assumption | trivial | grind)), a10 (by (first | assumption | trivial | grind))⟩⟩) fun d => ?_
    have hj : j = 0 ∨ j = 1 := by (first | assumption | trivial | grind)
    refine ok_if (fun e => ok_nme fun y hy => hk _ (by (first | assumption | trivial | grind)) ?_) fun e => ?_
    · subst e hy
      refine ⟨a1, a2, rfl, ?_, ?_, ?_, a7, a8, ?_, ?_⟩ <;> ((try dsimp only) <;> (first | decide | assumption | trivial | grind))
    · rcases hj with hj | hj <;> subst hj
      · refine ok_bind (P := fun z => z = 0) ⟨0, rfl, rfl⟩ fun z hz => ?_
        subst hz
        refine ok_if (fun f => ok_nme fun y hy => hk _ (by (first | assumption | trivial | grind)) ?_) fun f => ?_
        · subst hy
          refine ⟨a1, a2, rfl, by ((try dsimp only) <;> (first | decide | assumption | trivial | grind)), by ((try dsimp only) <;> (first | decide | assumption | trivial | grind)), ?_, a7, a8, fun _ _ => Or.inl f, fun h => absurd h (by ((try dsimp only) <;> (first | decide | assumption | trivial | grind)))⟩
          ((try dsimp only) <;> (first | decide | assumption | trivial | grind))
        · refine ok_bind (P := fun z => z = 0) ⟨0, rfl, rfl⟩ fun z hz => ?_
          subst hz
          refine ok_nme fun t2 ht2 => ok_nme fun y hy => hk _ (by (first | assumption | trivial | grind)) ?_
          subst hy ht2
          refine ⟨a1, fun q h5 h8 => (show va_up t.2 (5 + 3 * 0 + 0) 2 q = t.2 q from up_ne h5).trans (a2 q h5 h8), rfl, by ((try dsimp only) <;> (first | decide | assumption | trivial | grind)), by ((try dsimp only) <;> (first | decide | assumption | trivial | grind)), ?_, fun h => absurd h.symm e, fun h => (show va_up t.2 (5 + 3 * 0 + 0) 2 8 = t.2 8 from up_ne (by omega)).trans (a8 h), fun _ _ => Or.inr (by (dsimp only; exact up_eq)), fun h => absurd h (by ((try dsimp only) <;> (first | decide | assumption | trivial | grind)))⟩
          ((try dsimp only) <;> (first | decide | assumption | trivial | grind))
      · refine ok_bind (P := fun z => z = 1) ⟨1, rfl, rfl⟩ fun z hz => ?_
        subst hz
        refine ok_if (fun f => ok_nme fun y hy => hk _ (by (first | assumption | trivial | grind)) ?_) fun f => ?_
        · subst hy
          refine ⟨a1, a2, rfl, by ((try dsimp only) <;> (first | decide | assumption | trivial | grind)), by ((try dsimp only) <;> (first | decide | assumption | trivial | grind)), ?_, a7, a8, fun _ => a9 (by ((try dsimp only) <;> (first | decide | assumption | trivial | grind))), fun _ _ => Or.inl f⟩
          ((try dsimp only) <;> (first | decide | assumption | trivial | grind))
        · refine ok_bind (P := fun z => z = 1) ⟨1, rfl, rfl⟩ fun z hz => ?_
          subst hz
          refine ok_nme fun t2 ht2 => ok_nme fun y hy => hk _ (by (first | assumption | trivial | grind)) ?_
          subst hy ht2
          refine ⟨a1, fun q h5 h8 => (show va_up t.2 (5 + 3 * 1 + 0) 2 q = t.2 q from up_ne h8).trans (a2 q h5 h8), rfl, by ((try dsimp only) <;> (first | decide | assumption | trivial | grind)), by ((try dsimp only) <;> (first | decide | assumption | trivial | grind)), ?_, fun h => (show va_up t.2 (5 + 3 * 1 + 0) 2 5 = t.2 5 from up_ne (by omega)).trans (a7 h), fun h => absurd h.symm e, fun _ h => ?_, fun _ _ => Or.inr (by (dsimp only; exact up_eq))⟩
          · ((try dsimp only) <;> (first | decide | assumption | trivial | grind))
          · have := a9 (by ((try dsimp only) <;> (first | decide | assumption | trivial | grind))) h
            rw [show (t.1, va_up t.2 (5 + 3 * 1 + 0) 2).2 5 = t.2 5 from (show va_up t.2 (5 + 3 * 1 + 0) 2 5 = t.2 5 from up_ne (by omega))]
            exact this
end INNER
end
section
/-! pieces come and go; slips -/
theorem CH.wk {τ t r : MS} {x1 : Int32} (hw : WK τ) (e2 : t.2 = τ.2) (p : x1 = 0 ∨ x1 = 1) (e0 : x1 = 1 → t.1 0 = τ.1 0) (e1 : x1 = 0 → t.1 1 = τ.1 1) (h : CH t x1 (-1) r) : WK r := by
  obtain ⟨h1, -, -, h2, h3⟩ := h
  obtain ⟨w0, w1, w2⟩ := hw
  rcases p with p | p
  · obtain ⟨a, b⟩ := h2 p
    have c : r.1 1 = τ.1 1 := by rw [h1]; exact e1 p
    rw [e2] at b
    refine ⟨Or.inl a, ?_, ?_⟩ <;> unfold Wj
    · rw [b (5 + 3 * 0) (by omega), b (5 + 3 * 0 + 1) (by omega), b (5 + 3 * 0 + 2) (by omega), c]; exact w1
    · rw [b (5 + 3 * 1) (by omega), b (5 + 3 * 1 + 1) (by omega), b (5 + 3 * 1 + 2) (by omega), c]; exact w2
  · obtain ⟨a, -, -, b, d⟩ := h3 (by rw [p]; decide)
    have c : r.1 0 = τ.1 0 := by rw [h1]; exact e0 p
    have b := b (by decide)
    have d := d (by decide)
    refine ⟨?_, ⟨?_, fun e => ?_⟩, ⟨?_, fun e => ?_⟩⟩
    · unfold WH; rw [a 3 (by omega) (by omega), c, e2]; exact w0
    · rcases b with b | b
      · exact Or.inl b
      · exact Or.inr (Or.inr b)
    · exfalso
      have e : r.2 5 = 1 := e
      rcases b with b | b <;> (rw [b] at e; exact absurd e (by decide))
    · rcases d with b | b
      · exact Or.inl b
      · exact Or.inr (Or.inr b)
    · exfalso
      have e : r.2 8 = 1 := e
      rcases d with b | b <;> (rw [b] at e; exact absurd e (by decide))
theorem CH.ib {k : Int32} {t r : MS} {x1 x2 : Int32} (hb : IB k t) (h : CH t x1 x2 r) : IB k r := by
  obtain ⟨h1, -, h2, -⟩ := h
  exact ⟨by rw [h1]; exact hb.1, by rw [h2]; exact hb.2⟩
def CM (k : Int32) (τ : MS) (x1 : Int32) (r : MS) : Prop := IB k r ∧ WK r ∧ r.2 0 = τ.2 0 ∧ (∀ q, 2 ≤ q → r.1 q = τ.1 q) ∧
  (x1 = 0 → (r.1 0).length = (τ.1 0).length + 1 ∧ r.1 1 = τ.1 1) ∧ (x1 = 1 → (r.1 1).length = (τ.1 1).length + 1 ∧ r.1 0 = τ.1 0)
def GO (k : Int32) (τ : MS) (x1 : Int32) (r : MS) : Prop := IB k r ∧ WK r ∧ r.2 0 = τ.2 0 ∧ (∀ q, 2 ≤ q → r.1 q = τ.1 q) ∧
  (x1 = 0 → (r.1 0).length + 1 = (τ.1 0).length ∧ r.1 1 = τ.1 1) ∧ (x1 = 1 → (r.1 1).length + 1 = (τ.1 1).length ∧ r.1 0 = τ.1 0)
theorem l_eq {f : Nat → List Int32} {g : Nat → Int32} {i : Nat} {z : List Int32} : ((va_up f i z, g) : MS).1 i = z := by
  show va_up f i z i = z
  exact up_eq
theorem l_ne {f : Nat → List Int32} {g : Nat → Int32} {i j : Nat} {z : List Int32} (h : j ≠ i) : ((va_up f i z, g) : MS).1 j = f j := by
  show va_up f i z j = f j
  exact up_ne h
section MOVES
variable {k : Int32} {τ : MS}
theorem come0 (hb : IB k τ) (hw : WK τ) (x1 x2 x3 : Int32) (p : x1 = 0 ∨ x1 = 1) (p1 : 0 ≤ x2) (p2 : x2 ≤ if x1 = 0 then SL (τ.1 0) else SL (τ.1 1)) (p3 : (if x1 = 0 then SL (τ.1 0) else SL (τ.1 1)) < 20) (p4 : 0 ≤ x3 ∧ x3 ≤ 999) : Ok (f_X6_come τ x1 x2 x3) (CM k τ x1) := by
  unfold f_X6_come
  rcases p with p | p <;> subst p
  · refine ok_bind (P := fun z => z = 0) ⟨0, rfl, rfl⟩ fun z hz => ?_
    subst hz
    refine ok_bind (ok_lins (hb.l (by omega)) _ _ p1 p2 (SL_lt (hb.l (by omega)) p3) p4) fun z hz => ok_nme fun t ht => ok_bind (ok_X6_changed _ _) fun r hr => ok_some ?_
    subst ht
    have e : ∀ q, q ≠ 0 → r.1 q = τ.1 q := fun q hq => by rw [hr.1]; exact l_ne hq
    exact ⟨hr.ib (hb.lst hz.1), CH.wk (t := (va_up τ.1 0 z, τ.2)) hw rfl (Or.inl rfl) (fun h => (by cases h)) (fun _ => l_ne (by omega)) hr, hr.2.1, fun q hq => e q (by omega), fun _ => ⟨by rw [hr.1, show (va_up τ.1 0 z, τ.2).1 0 = z from l_eq]; exact hz.2, e 1 (by omega)⟩, fun h => (by cases h)⟩
  · refine ok_bind (P := fun z => z = 1) ⟨1, rfl, rfl⟩ fun z hz => ?_
    subst hz
    refine ok_bind (ok_lins (hb.l (by omega)) _ _ p1 p2 (SL_lt (hb.l (by omega)) p3) p4) fun z hz => ok_nme fun t ht => ok_bind (ok_X6_changed _ _) fun r hr => ok_some ?_
    subst ht
    have e : ∀ q, q ≠ 1 → r.1 q = τ.1 q := fun q hq => by rw [hr.1]; exact l_ne hq
    exact ⟨hr.ib (hb.lst hz.1), CH.wk (t := (va_up τ.1 1 z, τ.2)) hw rfl (Or.inr rfl) (fun _ => l_ne (by omega)) (fun h => (by cases h)) hr, hr.2.1, fun q hq => e q (by omega), fun h => (by cases h), fun _ => ⟨by rw [hr.1, show (va_up τ.1 1 z, τ.2).1 1 = z from l_eq]; exact hz.2, e 0 (by omega)⟩⟩
theorem go0 (hb : IB k τ) (hw : WK τ) (x1 x2 : Int32) (p : x1 = 0 ∨ x1 = 1) (p1 : 0 ≤ x2) (p2 : x2 < if x1 = 0 then SL (τ.1 0) else SL (τ.1 1)) : Ok (f_X6_go τ x1 x2) fun r => GO k τ x1 r.2 ∧ 0 ≤ r.1 ∧ r.1 ≤ 999 := by
  unfold f_X6_go
  rcases p with p | p <;> subst p
  · refine ok_bind (P := fun z => z = 0) ⟨0, rfl, rfl⟩ fun z hz => ?_
    subst hz
    refine ok_bind (ok_ldel (hb.l (by omega)) _ p1 p2) fun z hz => ok_nme fun t ht => ok_nme fun y hy => ok_bind (ok_X6_changed _ _) fun r hr => ok_some ?_
    subst ht
    have e : ∀ q, q ≠ 0 → r.1 q = τ.1 q := fun q hq => by rw [hr.1]; exact l_ne hq
    refine ⟨⟨hr.ib (hb.lst hz.1), CH.wk (t := (va_up τ.1 0 z, τ.2)) hw rfl (Or.inl rfl) (fun h => (by cases h)) (fun _ => l_ne (by omega)) hr, hr.2.1, fun q hq => e q (by omega), fun _ => ⟨by dsimp only; rw [hr.1, show (va_up τ.1 0 z, τ.2).1 0 = z from l_eq]; exact hz.2.1, e 1 (by omega)⟩, fun h => (by cases h)⟩, ?_⟩
    dsimp only
    rw [hy]
    exact (hb.l (i := 0) (by omega)).getD _
  · refine ok_bind (P := fun z => z = 1) ⟨1, rfl, rfl⟩ fun z hz => ?_
    subst hz
    refine ok_bind (ok_ldel (hb.l (by omega)) _ p1 p2) fun z hz => ok_nme fun t ht => ok_nme fun y hy => ok_bind (ok_X6_changed _ _) fun r hr => ok_some ?_
    subst ht
    have e : ∀ q, q ≠ 1 → r.1 q = τ.1 q := fun q hq => by rw [hr.1]; exact l_ne hq
    refine ⟨⟨hr.ib (hb.lst hz.1), CH.wk (t := (va_up τ.1 1 z, τ.2)) hw rfl (Or.inr rfl) (fun _ => l_ne (by omega)) (fun h => (by cases h)) hr, hr.2.1, fun q hq => e q (by omega), fun h => (by cases h), fun _ => ⟨by dsimp only; rw [hr.1, show (va_up τ.1 1 z, τ.2).1 1 = z from l_eq]; exact hz.2.1, e 0 (by omega)⟩⟩, ?_⟩
    dsimp only
    rw [hy]
    exact (hb.l (i := 1) (by omega)).getD _
theorem WK.l2 (h : WK τ) {i : Nat} {xs : List Int32} (hi : 2 ≤ i) : WK (va_up τ.1 i xs, τ.2) := by
  have e0 : (va_up τ.1 i xs, τ.2).1 0 = τ.1 0 := l_ne (by omega)
  have e1 : (va_up τ.1 i xs, τ.2).1 1 = τ.1 1 := l_ne (by omega)
  refine ⟨?_, ?_, ?_⟩
  · unfold WH; rw [e0]; exact h.1
  · unfold Wj; rw [e1]; exact h.2.1
  · unfold Wj; rw [e1]; exact h.2.2
theorem slipv {v b q c : Int32} (hv : v = 0 ∨ v = 1) (hb : b = 0 ∨ b = 1) (hq : q = 0 ∨ q = 1) (hc : 0 ≤ c ∧ c ≤ 999) : (1000 * (((4 * v) + (2 * b)) + q) + c) / 4000 = v ∧ jrem ((1000 * (((4 * v) + (2 * b)) + q) + c) / 1000) 2 = q ∧ 0 ≤ 1000 * (((4 * v) + (2 * b)) + q) + c ∧ 1000 * (((4 * v) + (2 * b)) + q) + c ≤ 7999 := by
  have h0 : 0 ≤ c.toInt := Int32.le_iff_toInt_le.mp hc.1
  have h9 : c.toInt ≤ 999 := Int32.le_iff_toInt_le.mp hc.2
  have key : ∀ m : Nat, m < 8 → (nI (1000 * m) + c).toInt = (1000 * m : Nat) + c.toInt := by
    intro m hm
    rw [Int32.toInt_add, nI_toInt (by omega)]
    exact Int.bmod_eq_of_le (by omega) (by omega)
  have fin : ∀ m : Nat, m < 8 → (nI (1000 * m) + c) / 4000 = nI (m / 4) ∧ jrem ((nI (1000 * m) + c) / 1000) 2 = jrem (nI m) 2 ∧ 0 ≤ nI (1000 * m) + c ∧ nI (1000 * m) + c ≤ 7999 := by
    intro m hm
    have e := key m hm
    have z0 : (0 : Int32).toInt = 0 := rfl
    have z7 : (7999 : Int32).toInt = 7999 := rfl
    have p0 : 0 ≤ nI (1000 * m) + c := Int32.le_iff_toInt_le.mpr (by omega)
    have d4 := div_b (b := 4000) (by omega) (by omega) p0
    have d1 := div_b (b := 1000) (by omega) (by omega) p0
    refine ⟨?_, ?_, p0, Int32.le_iff_toInt_le.mpr (by omega)⟩
    · apply Int32.toInt_inj.mp
      rw [nI_toInt (by omega)]
      refine d4.trans ?_
      rw [e]; omega
    · congr 1
      apply Int32.toInt_inj.mp
      rw [nI_toInt (by omega)]
      refine d1.trans ?_
      rw [e]; omega
  rcases hv with hv | hv <;> rcases hb with hb | hb <;> rcases hq with hq | hq <;> subst hv hb hq
  · exact fin 0 (by omega)
  · exact fin 1 (by omega)
  · exact fin 2 (by omega)
  · exact fin 3 (by omega)
  · exact fin 4 (by omega)
  · exact fin 5 (by omega)
  · exact fin 6 (by omega)
  · exact fin 7 (by omega)
theorem ok_X6_slip (hb : IB k τ) (hw : WK τ) (x1 x2 x3 x4 : Int32) (p : x1 = 0 ∨ x1 = 1) (p4 : 0 ≤ x4 ∧ x4 ≤ 999) (hu : ∀ s, (s / 4000 = 0 ↔ x1 = 0) → (jrem (s / 1000) 2 = 1 ↔ ¬ x3 = 0) → UD (s :: (τ.1 2).reverse) (τ.1 0).length (τ.1 1).length) : Ok (f_X6_slip τ x1 x2 x3 x4) fun r => IB k r ∧ WK r ∧ UT r ∧ r.2 = τ.2 ∧ r.1 0 = τ.1 0 ∧ r.1 1 = τ.1 1 := by
  have main : ∀ t : MS, IB k t → WK t → (t.1 2).length < 12 → t.2 = τ.2 → t.1 0 = τ.1 0 → t.1 1 = τ.1 1 → (∀ s, (s / 4000 = 0 ↔ x1 = 0) → (jrem (s / 1000) 2 = 1 ↔ ¬ x3 = 0) → UD (s :: (t.1 2).reverse) (t.1 0).length (t.1 1).length) → Ok (f_X6_slip_21 t x1 x2 x3 x4) fun r => IB k r ∧ WK r ∧ UT r ∧ r.2 = τ.2 ∧ r.1 0 = τ.1 0 ∧ r.1 1 = τ.1 1 := by
    intro t b w hl e2 e0 e1 u
    unfold f_X6_slip_21
    refine ok_bind (ok_X6_one _) fun z5 h5 => ok_bind (ok_X6_one _) fun z10 h10 => ?_
    obtain ⟨v1, v2, v3, v4⟩ := slipv p h5.1 h10.1 p4
    refine ok_bind (ok_ladd (b.l (i := 2) (by omega)) _ hl ⟨v3, v4⟩) fun z hz => ok_nme fun r hr => ok_some ?_
    subst hr
    refine ⟨b.lst hz.2, w.l2 (by omega), ?_, e2, (l_ne (by omega)).trans e0, (l_ne (by omega)).trans e1⟩
    show UD (va_up t.1 2 z 2).reverse (va_up t.1 2 z 0).length (va_up t.1 2 z 1).length
    rw [up_eq, up_ne (by omega), up_ne (by omega), hz.1, List.reverse_append]
    refine u _ (by rw [v1]) ?_
    rw [v2]
    have := h10.2
    rcases h10.1 with q | q <;> (subst q; (first | assumption | trivial | grind))
  unfold f_X6_slip
  have hl := hb.l (i := 2) (by omega)
  have hl1 : (τ.1 2).length ≤ 12 := hl.1
  refine ok_if (fun c => ?_) fun c => ?_
  · have c2 : SL (τ.1 2) = 12 := c
    have c3 := (SL_n hl).2.2
    rw [c2] at c3
    have c3 : (12 : Int) = ((τ.1 2).length : Int) := c3
    refine ok_bind (ok_ldel hl 0 (by decide) (by rw [c2]; decide)) fun z hz => ok_nme fun t ht => ?_
    subst ht
    have e0 : (va_up τ.1 2 z, τ.2).1 0 = τ.1 0 := l_ne (by omega)
    have e1 : (va_up τ.1 2 z, τ.2).1 1 = τ.1 1 := l_ne (by omega)
    have e2 : (va_up τ.1 2 z, τ.2).1 2 = z := l_eq
    refine main _ (hb.lst hz.1) (hw.l2 (by omega)) ?_ rfl e0 e1 fun s h1 h2 => ?_
    · rw [e2]; have := hz.2.1; omega
    · rw [e0, e1, e2]
      have h3 := hu s h1 h2
      cases hx : τ.1 2 with
      | nil => rw [hx] at c3; simp at c3
      | cons y r =>
        have hz3 := hz.2.2
        rw [hx] at hz3
        have hz4 : z = r := hz3
        rw [hx, List.reverse_cons] at h3
        rw [hz4]
        exact UD.front (s := s :: r.reverse) (x := y) h3
  · refine main τ hb hw ?_ rfl rfl rfl hu
    rcases Nat.lt_or_ge (τ.1 2).length 12 with q | q
    · exact q
    · exfalso
      have : (τ.1 2).length = 12 := by omega
      rw [this] at c
      exact c rfl
end MOVES
end
section
/-! a step in, a step out, undo -/
section STEPS
variable {k : Int32} {τ : MS}
/-- the sizes behind a step of d on track x1 -/
def SZ (τ : MS) (x1 d : Int32) (r : MS) : Prop := SL (r.1 0) = (if x1 = 0 then SL (τ.1 0) + d else SL (τ.1 0)) ∧ SL (r.1 1) = (if x1 = 1 then SL (τ.1 1) + d else SL (τ.1 1))
theorem CM.sz {x1 : Int32} {r : MS} (p : x1 = 0 ∨ x1 = 1) (h : CM k τ x1 r) : SZ τ x1 1 r := by
  obtain ⟨b, -, -, -, h0, h1⟩ := h
  rcases p with p | p <;> subst p
  · obtain ⟨a, c⟩ := h0 rfl
    exact ⟨by rw [if_pos rfl]; exact SL_up (b.l (i := 0) (by omega)) a, by rw [if_neg (by decide), c]⟩
  · obtain ⟨a, c⟩ := h1 rfl
    exact ⟨by rw [if_neg (by decide), c], by rw [if_pos rfl]; exact SL_up (b.l (i := 1) (by omega)) a⟩
theorem GO.sz {x1 : Int32} {r : MS} (hb : IB k τ) (p : x1 = 0 ∨ x1 = 1) (h : GO k τ x1 r) : SZ τ x1 (-1) r := by
  obtain ⟨b, -, -, -, h0, h1⟩ := h
  rcases p with p | p <;> subst p
  · obtain ⟨a, c⟩ := h0 rfl
    have q := SL_up (xs := r.1 0) (hb.l (i := 0) (by omega)) a.symm
    exact ⟨by rw [if_pos rfl, q]; grind, by rw [if_neg (by decide), c]⟩
  · obtain ⟨a, c⟩ := h1 rfl
    have q := SL_up (xs := r.1 1) (hb.l (i := 1) (by omega)) a.symm
    exact ⟨by rw [if_neg (by decide), c], by rw [if_pos rfl, q]; grind⟩
theorem SL_len {i : Nat} {xs : List Int32} (h : LB i xs) {n : Int32} {m : Nat} (hn : n.toInt = (m : Int)) (hl : SL xs < n) : xs.length < m := by
  have h1 := (SL_n h).2.2
  have h3 := Int32.lt_iff_toInt_lt.mp hl
  omega
theorem ok_X6_come (hb : IB k τ) (hw : WK τ) (x1 x2 x3 : Int32) (p : x1 = 0 ∨ x1 = 1) (p1 : 0 ≤ x2) (p2 : x2 ≤ if x1 = 0 then SL (τ.1 0) else SL (τ.1 1)) (p3 : (if x1 = 0 then SL (τ.1 0) else SL (τ.1 1)) < 20) (p4 : 0 ≤ x3 ∧ x3 ≤ 999) : Ok (f_X6_come τ x1 x2 x3) fun r => IB k r ∧ WK r ∧ r.2 0 = τ.2 0 ∧ SZ τ x1 1 r :=
  ok_mono (come0 hb hw x1 x2 x3 p p1 p2 p3 p4) fun r h => ⟨h.1, h.2.1, h.2.2.1, h.sz p⟩
theorem ok_X6_go (hb : IB k τ) (hw : WK τ) (x1 x2 : Int32) (p : x1 = 0 ∨ x1 = 1) (p1 : 0 ≤ x2) (p2 : x2 < if x1 = 0 then SL (τ.1 0) else SL (τ.1 1)) : Ok (f_X6_go τ x1 x2) fun r => IB k r.2 ∧ WK r.2 ∧ (0 ≤ r.1 ∧ r.1 ≤ 999) ∧ r.2.2 0 = τ.2 0 ∧ SZ τ x1 (-1) r.2 :=
  ok_mono (go0 hb hw x1 x2 p p1 p2) fun r h => ⟨h.1.1, h.1.2.1, h.2, h.1.2.2.1, h.1.sz hb p⟩
theorem ok_X6_tear (hb : IB k τ) (hw : WK τ) : Ok (f_X6_tear τ) fun r => IB k r ∧ WK r ∧ UT r ∧ r.2 = τ.2 ∧ r.1 0 = τ.1 0 ∧ r.1 1 = τ.1 1 := by
  unfold f_X6_tear
  refine ok_nme fun t ht => ok_some ?_
  subst ht
  exact ⟨hb.lst ⟨by show 0 ≤ _; omega, fun v hv => by cases hv⟩, hw.l2 (by omega), UT.nil, rfl, l_ne (by omega), l_ne (by omega)⟩
theorem SZ.of {r r2 : MS} {x1 d : Int32} (h : SZ τ x1 d r) (e0 : r2.1 0 = r.1 0) (e1 : r2.1 1 = r.1 1) : SZ τ x1 d r2 := by
  unfold SZ
  rw [e0, e1]; exact h
theorem ok_X6_stepIn (hb : IB k τ) (hw : WK τ) (hu : UT τ) (x1 x2 x3 : Int32) (p : x1 = 0 ∨ x1 = 1) (p3 : (if x1 = 0 then SL (τ.1 0) else SL (τ.1 1)) < 20) (p4 : 0 ≤ x3 ∧ x3 ≤ 999) : Ok (f_X6_stepIn τ x1 x2 x3) fun r => IB k r ∧ WK r ∧ UT r ∧ r.2 0 = τ.2 0 ∧ SZ τ x1 1 r := by
  have main : ∀ x : Int32, 0 ≤ x → (x ≤ if x1 = 0 then SL (τ.1 0) else SL (τ.1 1)) → Ok (f_X6_stepIn_15 τ x1 x2 x3 x1 x) fun r => IB k r ∧ WK r ∧ UT r ∧ r.2 0 = τ.2 0 ∧ SZ τ x1 1 r := by
    intro x q1 q2
    unfold f_X6_stepIn_15
    refine ok_bind (come0 hb hw x1 x x3 p q1 q2 p3 p4) fun z hz => ok_bind (ok_X6_slip hz.1 hz.2.1 _ _ _ _ p p4 fun s h1 h2 => ?_) fun r hr => ok_some ⟨hr.1, hr.2.1, hr.2.2.1, by rw [hr.2.2.2.1]; exact hz.2.2.1, (hz.sz p).of hr.2.2.2.2.1 hr.2.2.2.2.2⟩
    obtain ⟨b, w, e, e2, c0, c1⟩ := hz
    have hs : jrem (s / 1000) 2 = 1 := h2.mpr (by decide)
    rw [e2 2 (by omega)]
    refine ⟨fun a => ⟨fun _ => ?_, fun n => absurd hs n⟩, fun a => ⟨fun _ => ?_, fun n => absurd hs n⟩⟩
    · obtain ⟨d1, d2⟩ := c0 (h1.mp a)
      rw [d1, d2]; exact ⟨by omega, hu⟩
    · have p1 : x1 = 1 := p.resolve_left (fun h => a (h1.mpr h))
      obtain ⟨d1, d2⟩ := c1 p1
      rw [d1, d2]; exact ⟨by omega, hu⟩
  unfold f_X6_stepIn
  refine ok_if (fun _ => main 0 (by decide) ?_) fun _ => ok_bind (ok_X6_size hb _ p) fun z hz => main z hz.2.1 (by rw [← hz.1]; exact Int32.le_refl _)
  have q0 := (SL_n (hb.l (i := 0) (by omega))).1
  have q1 := (SL_n (hb.l (i := 1) (by omega))).1
  split <;> assumption
theorem ok_X6_stepOut (hb : IB k τ) (hw : WK τ) (hu : UT τ) (x1 x2 : Int32) (p : x1 = 0 ∨ x1 = 1) (p3 : 1 ≤ if x1 = 0 then SL (τ.1 0) else SL (τ.1 1)) : Ok (f_X6_stepOut τ x1 x2) fun r => IB k r.2 ∧ WK r.2 ∧ UT r.2 ∧ (0 ≤ r.1 ∧ r.1 ≤ 999) ∧ r.2.2 0 = τ.2 0 ∧ SZ τ x1 (-1) r.2 := by
  have main : ∀ x : Int32, 0 ≤ x → (x < if x1 = 0 then SL (τ.1 0) else SL (τ.1 1)) → Ok (f_X6_stepOut_17 τ x1 x2 x1 x) fun r => IB k r.2 ∧ WK r.2 ∧ UT r.2 ∧ (0 ≤ r.1 ∧ r.1 ≤ 999) ∧ r.2.2 0 = τ.2 0 ∧ SZ τ x1 (-1) r.2 := by
    intro x q1 q2
    unfold f_X6_stepOut_17
    refine ok_bind (go0 hb hw x1 x p q1 q2) fun z hz => ?_
    obtain ⟨hz, hv⟩ := hz
    have hsz := hz.sz hb p
    refine ok_bind (ok_X6_slip hz.1 hz.2.1 _ _ _ _ p hv fun s h1 h2 => ?_) fun r hr => ok_some ⟨hr.1, hr.2.1, hr.2.2.1, hv, by dsimp only; rw [hr.2.2.2.1]; exact hz.2.2.1, hsz.of hr.2.2.2.2.1 hr.2.2.2.2.2⟩
    obtain ⟨b, w, e, e2, c0, c1⟩ := hz
    have hs : ¬ jrem (s / 1000) 2 = 1 := fun h => h2.mp h rfl
    have l0 : (τ.1 0).length ≤ 20 := (hb.l (i := 0) (by omega)).1
    have l1 : (τ.1 1).length ≤ 20 := (hb.l (i := 1) (by omega)).1
    rw [e2 2 (by omega)]
    refine ⟨fun a => ⟨fun n => absurd n hs, fun _ => ?_⟩, fun a => ⟨fun n => absurd n hs, fun _ => ?_⟩⟩
    · obtain ⟨d1, d2⟩ := c0 (h1.mp a)
      rw [d1, d2]; exact ⟨by omega, hu⟩
    · have p1 : x1 = 1 := p.resolve_left (fun h => a (h1.mpr h))
      obtain ⟨d1, d2⟩ := c1 p1
      rw [d1, d2]; exact ⟨by omega, hu⟩
  unfold f_X6_stepOut
  refine ok_if (fun _ => main 0 (by decide) ?_) fun _ => ok_bind (ok_X6_size hb _ p) fun z hz => main (z - 1) (by (first | assumption | trivial | grind)) (by rw [← hz.1]; (first | assumption | trivial | grind))
  rcases p with p | p <;> subst p <;> (first | assumption | trivial | grind)
theorem delAt_last {xs : List Int32} (h : xs ≠ []) : xs.reverse = xs.getD (xs.length - 1) 0 :: (delAt xs (xs.length - 1)).reverse := by
  have e : delAt xs (xs.length - 1) = xs.dropLast := by
    unfold delAt
    have : 0 < xs.length := List.length_pos_iff.mpr h
    rw [show xs.length - 1 + 1 = xs.length by omega, List.drop_length, List.append_nil, List.dropLast_eq_take]
  have e2 : xs.getD (xs.length - 1) 0 = xs.getLast h := by
    have : 0 < xs.length := List.length_pos_iff.mpr h
    rw [List.getD_eq_getElem?_getD, List.getElem?_eq_getElem (by omega), List.getLast_eq_getElem]
    rfl
  rw [e, e2]
  conv => lhs; rw [← List.dropLast_concat_getLast h]
  rw [List.reverse_append]; rfl
theorem ok_X6_undo (hb : IB k τ) (hw : WK τ) (hu : UT τ) : Ok (f_X6_undo τ) fun r => IB k r.2 ∧ WK r.2 ∧ UT r.2 := by
  unfold f_X6_undo
  refine ok_nme fun t ht => ?_
  have b : IB k t := by rw [ht]; exact hb.sc (by omega)
  have w : WK t := by rw [ht]; exact hw.sc (by omega)
  have u : UT t := by rw [ht]; exact hu.sc
  clear ht hb hw hu
  refine ok_nme fun y hy => ok_if (fun c => ?_) fun c => ok_some ⟨b, w, u⟩
  have hne : t.1 2 ≠ [] := by
    intro e
    rw [e] at hy
    rw [hy] at c
    cases c
  have hl := b.l (i := 2) (by omega)
  have hl1 : (t.1 2).length ≤ 12 := hl.1
  have hpos : 0 < (t.1 2).length := List.length_pos_iff.mpr hne
  have hi : ((nI (t.1 2).length) - 1).toNatClampNeg = (t.1 2).length - 1 := by
    have := nI_dec (m := (t.1 2).length - 1) (by omega)
    rw [show (t.1 2).length - 1 + 1 = (t.1 2).length by omega] at this
    rw [this]
    have h2 := nI_toInt (n := (t.1 2).length - 1) (by omega)
    show (nI _).toInt.toNat = _
    rw [h2]; omega
  have hsl := SL_n hl
  have hge : 1 ≤ nI (t.1 2).length := by
    have h2 := hsl.2.2
    have h3 : (1 : Int32).toInt = 1 := rfl
    refine Int32.le_iff_toInt_le.mpr ?_
    show _ ≤ (SL (t.1 2)).toInt
    omega
  have hle : nI (t.1 2).length ≤ 20 := hsl.2.1
  refine ok_bind (ok_ldel hl _ (by (first | assumption | trivial | grind)) (by show _ < nI _; (first | assumption | trivial | grind))) fun z hz => ok_nme fun t2 ht2 => ok_nme fun s hs => ok_nme fun x hx => ?_
  rw [hi] at hs hz
  have hud : UD (s :: z.reverse) (t.1 0).length (t.1 1).length := by
    have := u
    unfold UT at this
    rw [delAt_last hne, ← hs, ← hz.2.2] at this
    exact this
  have hv := hl.getD ((t.1 2).length - 1)
  rw [← hs] at hv
  have hv2 : s ≤ 7999 := hv.2
  have hx2 : x = 0 ∨ x = 1 := by
    have := dv4000 hv.1 hv2
    rw [← hx] at this
    (first | assumption | trivial | grind)
  have hc := jr1000 hv.1
  have b2 : IB k t2 := by rw [ht2]; exact b.lst hz.1
  have w2 : WK t2 := by rw [ht2]; exact w.l2 (by omega)
  have e0 : t2.1 0 = t.1 0 := by rw [ht2]; exact l_ne (by omega)
  have e1 : t2.1 1 = t.1 1 := by rw [ht2]; exact l_ne (by omega)
  have e2 : t2.1 2 = z := by rw [ht2]; exact l_eq
  rw [← e0, ← e1, ← e2] at hud
  have key : ∀ v : Int32, Ok (f_X6_undo_63 t2 s x v) fun r => IB k r.2 ∧ WK r.2 ∧ UT r.2 := by
    intro v
    have bz := SL_n (b2.l (i := 0) (by omega))
    have bo := SL_n (b2.l (i := 1) (by omega))
    have hx0 : s / 4000 = 0 ↔ x = 0 := by rw [hx]
    have fin1 : (jrem (s / 1000) 2 = 1) → ∀ i : Int32, 0 ≤ i → (i < if x = 0 then SL (t2.1 0) else SL (t2.1 1)) → Ok (f_X6_undo_92 t2 s x i) fun r => IB k r.2 ∧ WK r.2 ∧ UT r.2 := by
      intro hp i q1 q2
      unfold f_X6_undo_92 f_X6_undo_122
      refine ok_bind (go0 b2 w2 x i hx2 q1 q2) fun r hr => ok_some ⟨hr.1.1, hr.1.2.1, ?_⟩
      obtain ⟨⟨-, -, -, g2, g0, g1⟩, -⟩ := hr
      show UD (r.2.1 2).reverse (r.2.1 0).length (r.2.1 1).length
      rw [g2 2 (by omega)]
      rcases hx2 with h | h
      · have := ((hud.1 (hx0.mpr h)).1 hp).2
        obtain ⟨a1, a2⟩ := g0 h
        rw [a2, show (r.2.1 0).length = (t2.1 0).length - 1 by omega]; exact this
      · have := ((hud.2 (fun e => absurd (hx0.mp e) (by rw [h]; decide))).1 hp).2
        obtain ⟨a1, a2⟩ := g1 h
        rw [a2, show (r.2.1 1).length = (t2.1 1).length - 1 by omega]; exact this
    have fin2 : (¬ jrem (s / 1000) 2 = 1) → ∀ i : Int32, 0 ≤ i → (i ≤ if x = 0 then SL (t2.1 0) else SL (t2.1 1)) → Ok (f_X6_undo_114 t2 s x i) fun r => IB k r.2 ∧ WK r.2 ∧ UT r.2 := by
      intro hp i q1 q2
      have h20 : (20 : Int32).toInt = 20 := rfl
      unfold f_X6_undo_114 f_X6_undo_122
      refine ok_bind (come0 b2 w2 x i (jrem s 1000) hx2 q1 q2 ?_ hc) fun r hr => ok_some ⟨hr.1, hr.2.1, ?_⟩
      · rcases hx2 with h | h
        · have := ((hud.1 (hx0.mpr h)).2 hp).1
          rw [if_pos h]; exact Int32.lt_iff_toInt_lt.mpr (by omega)
        · have := ((hud.2 (fun e => absurd (hx0.mp e) (by rw [h]; decide))).2 hp).1
          rw [if_neg (by rw [h]; decide)]; exact Int32.lt_iff_toInt_lt.mpr (by omega)
      obtain ⟨-, -, -, g2, g0, g1⟩ := hr
      show UD (r.1 2).reverse (r.1 0).length (r.1 1).length
      rw [g2 2 (by omega)]
      rcases hx2 with h | h
      · have := ((hud.1 (hx0.mpr h)).2 hp).2
        obtain ⟨a1, a2⟩ := g0 h
        rw [a2, a1]; exact this
      · have := ((hud.2 (fun e => absurd (hx0.mp e) (by rw [h]; decide))).2 hp).2
        obtain ⟨a1, a2⟩ := g1 h
        rw [a2, a1]; exact this
    have hone : jrem (s / 1000) 2 = 1 → 1 ≤ if x = 0 then SL (t2.1 0) else SL (t2.1 1) := by
      intro hp
      have h1 : (1 : Int32).toInt = 1 := rfl
      rcases hx2 with h | h
      · have := ((hud.1 (hx0.mpr h)).1 hp).1
        rw [if_pos h]; exact Int32.le_iff_toInt_le.mpr (by omega)
      · have := ((hud.2 (fun e => absurd (hx0.mp e) (by rw [h]; decide))).1 hp).1
        rw [if_neg (by rw [h]; decide)]; exact Int32.le_iff_toInt_le.mpr (by omega)
    have hnn : 0 ≤ if x = 0 then SL (t2.1 0) else SL (t2.1 1) := by
      split
      · exact bz.1
      · exact bo.1
    unfold f_X6_undo_63
    refine ok_if (fun hp => ok_if (fun _ => fin1 hp 0 (by decide) (by have := hone hp; (first | assumption | trivial | grind))) fun _ => ok_bind (ok_X6_size b2 _ hx2) fun r hr => fin1 hp _ ?_ ?_) fun hp => ok_if (fun _ => fin2 hp 0 (by decide) hnn) fun _ => ok_bind (ok_X6_size b2 _ hx2) fun r hr => fin2 hp _ hr.2.1 (by rw [← hr.1]; exact Int32.le_refl _)
    · have h1 := hone hp
      rw [← hr.1] at h1
      (first | assumption | trivial | grind)
    · have h1 := hone hp
      rw [← hr.1] at h1
      rw [← hr.1]
      (first | assumption | trivial | grind)
  exact ok_if (fun _ => key 1) fun _ => key 0
end STEPS
end
section
/-! the model: its methods come to their ends (written by okgenm.py) -/
section OKM
variable {k : Int32} {τ : MS}
theorem arr_in {x : Int32} {n : Nat} (h0 : 0 ≤ x) (h1 : x < nI n) (hn : n ≤ 32) : ¬ (x < 0 ∨ n ≤ x.toNatClampNeg) := by
  have h3 := nI_toInt (n := n) (by omega)
  have h4 := Int32.lt_iff_toInt_lt.mp h1
  have h5 : x.toNatClampNeg = x.toInt.toNat := rfl
  have h6 := Int32.le_iff_toInt_le.mp h0
  have h7 : (0 : Int32).toInt = 0 := rfl
  intro e
  cases e with
  | inl e => have := Int32.lt_iff_toInt_lt.mp e; omega
  | inr e => omega
theorem nIz {z : Int32} (h0 : 0 ≤ z) (h1 : z ≤ 32) : nI z.toNatClampNeg = z ∧ z.toNatClampNeg ≤ 32 := by
  have h6 := Int32.le_iff_toInt_le.mp h0
  have h8 := Int32.le_iff_toInt_le.mp h1
  have h7 : (0 : Int32).toInt = 0 := rfl
  have h9 : (32 : Int32).toInt = 32 := rfl
  have h5 : z.toNatClampNeg = z.toInt.toNat := rfl
  refine ⟨?_, by omega⟩
  apply Int32.toInt_inj.mp
  rw [nI_toInt (by omega)]; omega
theorem arr_new {z : Int32} (h0 : 0 ≤ z) (h1 : z ≤ 32) : ¬ (z < 0 ∨ 32 < z.toNatClampNeg) := by
  have h2 := (nIz h0 h1).2
  have h6 := Int32.le_iff_toInt_le.mp h0
  intro e
  cases e with
  | inl e => have := Int32.lt_iff_toInt_lt.mp e; omega
  | inr e => omega
theorem ok_X6_mayNot (hb : IB k τ) (hw : WK τ) (hu : UT τ) (x1 : Int32) (x2 : Int32) (x3 : Int32) (x4 : Int32) (p0 : 0 ≤ x4) (p1 : x4 ≤ 20) : Ok (f_X6_mayNot τ x1 x2 x3 x4) (fun r => (r.1 = 0 ∨ r.1 = 1) ∧ (r.1 = 0 → (x1 = 0 ∨ x1 = 1) ∧ ((0 ≤ x2 ∧ x2 ≤ 9) ∧ 0 ≤ x3 ∧ x3 ≤ 99) ∧ r.2.2 0 = 0 ∧ 0 ≤ (if x1 = 0 then SL (r.2.1 0) else SL (r.2.1 1)) ∧ (if x1 = 0 then SL (r.2.1 0) else SL (r.2.1 1)) ≤ 20 ∧ (if x1 = 0 then SL (r.2.1 0) else SL (r.2.1 1)) + x4 ≤ 20) ∧ IB k r.2 ∧ WK r.2 ∧ UT r.2) := by
  unfold f_X6_mayNot
  refine ok_bind (ok_X6_isNoTrack _) fun z11 hz11 => ?_
  refine ok_bind (ok_X6_start (k := k) (by (first | assumption | trivial | exact arr_in (by grind) (by grind) (by omega) | exact arr_new (by grind) (by grind) | decide | grind)) (by (first | assumption | trivial | exact arr_in (by grind) (by grind) (by omega) | exact arr_new (by grind) (by grind) | decide | grind)) (by (first | assumption | trivial | exact arr_in (by grind) (by grind) (by omega) | exact arr_new (by grind) (by grind) | decide | grind)) _ _ (by (first | assumption | trivial | exact arr_in (by grind) (by grind) (by omega) | exact arr_new (by grind) (by grind) | decide | grind))) fun z16 hz16 => ?_
  obtain ⟨⟨hz16o, hz16i⟩, ⟨hz16l, hz16s⟩, hz16b, hz16w, hz16u⟩ := hz16
  have hz16l0 := congrFun hz16l 0
  have hz16l1 := congrFun hz16l 1
  refine ok_if (fun hc => ?_) (fun hc => ?_)
  · refine ok_bind (ok_X6_isNoPiece _ _) fun z22 hz22 => ?_
    refine ok_bind (ok_X6_refuse (k := k) (by (first | assumption | trivial | exact arr_in (by grind) (by grind) (by omega) | exact arr_new (by grind) (by grind) | decide | grind)) (by (first | assumption | trivial | exact arr_in (by grind) (by grind) (by omega) | exact arr_new (by grind) (by grind) | decide | grind)) (by (first | assumption | trivial | exact arr_in (by grind) (by grind) (by omega) | exact arr_new (by grind) (by grind) | decide | grind)) _ _ (by (first | assumption | trivial | exact arr_in (by grind) (by grind) (by omega) | exact arr_new (by grind) (by grind) | decide | grind)) (by (first | assumption | trivial | exact arr_in (by grind) (by grind) (by omega) | exact arr_new (by grind) (by grind) | decide | grind))) fun z27 hz27 => ?_
    obtain ⟨⟨hz27o, hz27i⟩, ⟨hz27l, hz27s⟩, hz27b, hz27w, hz27u⟩ := hz27
    have hz27l0 := congrFun hz27l 0
    have hz27l1 := congrFun hz27l 1
    refine ok_if (fun hc => ?_) (fun hc => ?_)
    · refine ok_bind (ok_X6_size (k := k) (by (first | assumption | trivial | exact arr_in (by grind) (by grind) (by omega) | exact arr_new (by grind) (by grind) | decide | grind)) _ (by (first | assumption | trivial | exact arr_in (by grind) (by grind) (by omega) | exact arr_new (by grind) (by grind) | decide | grind))) fun z33 hz33 => ?_
      obtain ⟨hz33e, hz33n, hz33m⟩ := hz33
      refine ok_if (fun hc => ?_) (fun hc => ?_)
      · unfold f_X6_mayNot_44
        try dsimp only
        refine ok_bind (ok_X6_refuse (k := k) (by (first | assumption | trivial | exact arr_in (by grind) (by grind) (by omega) | exact arr_new (by grind) (by grind) | decide | grind)) (by (first | assumption | trivial | exact arr_in (by grind) (by grind) (by omega) | exact arr_new (by grind) (by grind) | decide | grind)) (by (first | assumption | trivial | exact arr_in (by grind) (by grind) (by omega) | exact arr_new (by grind) (by grind) | decide | grind)) _ _ (by (first | assumption | trivial | exact arr_in (by grind) (by grind) (by omega) | exact arr_new (by grind) (by grind) | decide | grind)) (by (first | assumption | trivial | exact arr_in (by grind) (by grind) (by omega) | exact arr_new (by grind) (by grind) | decide | grind))) fun z5 hz5 => ?_
        obtain ⟨⟨hz5o, hz5i⟩, ⟨hz5l, hz5s⟩, hz5b, hz5w, hz5u⟩ := hz5
        have hz5l0 := congrFun hz5l 0
        have hz5l1 := congrFun hz5l 1
        refine ok_if (fun hc => ?_) (fun hc => ?_)
        · refine ok_some ?_
          refine ⟨?_, ?_, ?_, ?_, ?_⟩ <;> (try dsimp only) <;> (first | assumption | trivial | exact arr_in (by grind) (by grind) (by omega) | exact arr_new (by grind) (by grind) | decide | grind)
        · unfold f_X6_mayNot_51
          try dsimp only
          refine ok_some ?_
          refine ⟨?_, ?_, ?_, ?_, ?_⟩ <;> (try dsimp only) <;> (first | assumption | trivial | exact arr_in (by grind) (by grind) (by omega) | exact arr_new (by grind) (by grind) | decide | grind)
      · unfold f_X6_mayNot_44
        try dsimp only
        refine ok_bind (ok_X6_refuse (k := k) (by (first | assumption | trivial | exact arr_in (by grind) (by grind) (by omega) | exact arr_new (by grind) (by grind) | decide | grind)) (by (first | assumption | trivial | exact arr_in (by grind) (by grind) (by omega) | exact arr_new (by grind) (by grind) | decide | grind)) (by (first | assumption | trivial | exact arr_in (by grind) (by grind) (by omega) | exact arr_new (by grind) (by grind) | decide | grind)) _ _ (by (first | assumption | trivial | exact arr_in (by grind) (by grind) (by omega) | exact arr_new (by grind) (by grind) | decide | grind)) (by (first | assumption | trivial | exact arr_in (by grind) (by grind) (by omega) | exact arr_new (by grind) (by grind) | decide | grind))) fun z5 hz5 => ?_
        obtain ⟨⟨hz5o, hz5i⟩, ⟨hz5l, hz5s⟩, hz5b, hz5w, hz5u⟩ := hz5
        have hz5l0 := congrFun hz5l 0
        have hz5l1 := congrFun hz5l 1
        refine ok_if (fun hc => ?_) (fun hc => ?_)
        · refine ok_some ?_
          refine ⟨?_, ?_, ?_, ?_, ?_⟩ <;> (try dsimp only) <;> (first | assumption | trivial | exact arr_in (by grind) (by grind) (by omega) | exact arr_new (by grind) (by grind) | decide | grind)
        · unfold f_X6_mayNot_51
          try dsimp only
          refine ok_some ?_
          refine ⟨?_, ?_, ?_, ?_, ?_⟩ <;> (try dsimp only) <;> (first | assumption | trivial | exact arr_in (by grind) (by grind) (by omega) | exact arr_new (by grind) (by grind) | decide | grind)
    · unfold f_X6_mayNot_51
      try dsimp only
      refine ok_some ?_
      refine ⟨?_, ?_, ?_, ?_, ?_⟩ <;> (try dsimp only) <;> (first | assumption | trivial | exact arr_in (by grind) (by grind) (by omega) | exact arr_new (by grind) (by grind) | decide | grind)
  · unfold f_X6_mayNot_51
    try dsimp only
    refine ok_some ?_
    refine ⟨?_, ?_, ?_, ?_, ?_⟩ <;> (try dsimp only) <;> (first | assumption | trivial | exact arr_in (by grind) (by grind) (by omega) | exact arr_new (by grind) (by grind) | decide | grind)
theorem ok_X6_join (hb : IB k τ) (hw : WK τ) (hu : UT τ) (x1 : Int32) (x2 : Int32) (x3 : Int32) (x4 : Int32) : Ok (f_X6_join τ x1 x2 x3 x4) (fun r => IB k r.2 ∧ WK r.2 ∧ UT r.2) := by
  unfold f_X6_join
  refine ok_bind (ok_X6_mayNot (k := k) (by (first | assumption | trivial | exact arr_in (by grind) (by grind) (by omega) | exact arr_new (by grind) (by grind) | decide | grind)) (by (first | assumption | trivial | exact arr_in (by grind) (by grind) (by omega) | exact arr_new (by grind) (by grind) | decide | grind)) (by (first | assumption | trivial | exact arr_in (by grind) (by grind) (by omega) | exact arr_new (by grind) (by grind) | decide | grind)) _ _ _ _ (by (first | assumption | trivial | exact arr_in (by grind) (by grind) (by omega) | exact arr_new (by grind) (by grind) | decide | grind)) (by (first | assumption | trivial | exact arr_in (by grind) (by grind) (by omega) | exact arr_new (by grind) (by grind) | decide | grind))) fun z5 hz5 => ?_
  obtain ⟨hz5_0, hz5_1, hz5_2, hz5_3, hz5_4⟩ := hz5
  refine ok_if (fun hc => ?_) (fun hc => ?_)
  · refine ok_bind (ok_X6_code _ _ (by (first | assumption | trivial | exact arr_in (by grind) (by grind) (by omega) | exact arr_new (by grind) (by grind) | decide | grind))) fun z11 hz11 => ?_
    obtain ⟨hz11n, hz11m⟩ := hz11
    refine ok_bind (ok_X6_isBarred _ _) fun z16 hz16 => ?_
    refine ok_if (fun hc => ?_) (fun hc => ?_)
    · refine ok_bind (ok_X6_code _ _ (by (first | assumption | trivial | exact arr_in (by grind) (by grind) (by omega) | exact arr_new (by grind) (by grind) | decide | grind))) fun z22 hz22 => ?_
      obtain ⟨hz22n, hz22m⟩ := hz22
      refine ok_bind (ok_X6_stepIn (k := k) (by (first | assumption | trivial | exact arr_in (by grind) (by grind) (by omega) | exact arr_new (by grind) (by grind) | decide | grind)) (by (first | assumption | trivial | exact arr_in (by grind) (by grind) (by omega) | exact arr_new (by grind) (by grind) | decide | grind)) (by (first | assumption | trivial | exact arr_in (by grind) (by grind) (by omega) | exact arr_new (by grind) (by grind) | decide | grind)) _ _ _ (by (first | assumption | trivial | exact arr_in (by grind) (by grind) (by omega) | exact arr_new (by grind) (by grind) | decide | grind)) (by (first | assumption | trivial | exact arr_in (by grind) (by grind) (by omega) | exact arr_new (by grind) (by grind) | decide | grind)) (by (first | assumption | trivial | exact arr_in (by grind) (by grind) (by omega) | exact arr_new (by grind) (by grind) | decide | grind))) fun z27 hz27 => ?_
      obtain ⟨hz27b, hz27w, hz27u, hz27e, hz27s0, hz27s1⟩ := hz27
      refine ok_bind (ok_X6_size (k := k) (by (first | assumption | trivial | exact arr_in (by grind) (by grind) (by omega) | exact arr_new (by grind) (by grind) | decide | grind)) _ (by (first | assumption | trivial | exact arr_in (by grind) (by grind) (by omega) | exact arr_new (by grind) (by grind) | decide | grind))) fun z32 hz32 => ?_
      obtain ⟨hz32e, hz32n, hz32m⟩ := hz32
      refine ok_some ?_
      refine ⟨?_, ?_, ?_⟩ <;> (try dsimp only) <;> (first | assumption | trivial | exact arr_in (by grind) (by grind) (by omega) | exact arr_new (by grind) (by grind) | decide | grind)
    · refine ok_some ?_
      refine ⟨?_, ?_, ?_⟩ <;> (try dsimp only) <;> (first | assumption | trivial | exact arr_in (by grind) (by grind) (by omega) | exact arr_new (by grind) (by grind) | decide | grind)
  · refine ok_some ?_
    refine ⟨?_, ?_, ?_⟩ <;> (try dsimp only) <;> (first | assumption | trivial | exact arr_in (by grind) (by grind) (by omega) | exact arr_new (by grind) (by grind) | decide | grind)
theorem ok_X6_offer (hb : IB k τ) (hw : WK τ) (hu : UT τ) (x1 : Int32) (x2 : Int32) (x3 : Int32) (x4 : Int32) : Ok (f_X6_offer τ x1 x2 x3 x4) (fun r => IB k r.2 ∧ WK r.2 ∧ UT r.2) := by
  unfold f_X6_offer
  refine ok_bind (ok_X6_mayNot (k := k) (by (first | assumption | trivial | exact arr_in (by grind) (by grind) (by omega) | exact arr_new (by grind) (by grind) | decide | grind)) (by (first | assumption | trivial | exact arr_in (by grind) (by grind) (by omega) | exact arr_new (by grind) (by grind) | decide | grind)) (by (first | assumption | trivial | exact arr_in (by grind) (by grind) (by omega) | exact arr_new (by grind) (by grind) | decide | grind)) _ _ _ _ (by (first | assumption | trivial | exact arr_in (by grind) (by grind) (by omega) | exact arr_new (by grind) (by grind) | decide | grind)) (by (first | assumption | trivial | exact arr_in (by grind) (by grind) (by omega) | exact arr_new (by grind) (by grind) | decide | grind))) fun z5 hz5 => ?_
  obtain ⟨hz5_0, hz5_1, hz5_2, hz5_3, hz5_4⟩ := hz5
  refine ok_if (fun hc => ?_) (fun hc => ?_)
  · refine ok_bind (ok_X6_code _ _ (by (first | assumption | trivial | exact arr_in (by grind) (by grind) (by omega) | exact arr_new (by grind) (by grind) | decide | grind))) fun z11 hz11 => ?_
    obtain ⟨hz11n, hz11m⟩ := hz11
    refine ok_bind (ok_X6_isBarred _ _) fun z16 hz16 => ?_
    refine ok_if (fun hc => ?_) (fun hc => ?_)
    · refine ok_bind (ok_X6_code _ _ (by (first | assumption | trivial | exact arr_in (by grind) (by grind) (by omega) | exact arr_new (by grind) (by grind) | decide | grind))) fun z22 hz22 => ?_
      obtain ⟨hz22n, hz22m⟩ := hz22
      refine ok_bind (ok_X6_stepIn (k := k) (by (first | assumption | trivial | exact arr_in (by grind) (by grind) (by omega) | exact arr_new (by grind) (by grind) | decide | grind)) (by (first | assumption | trivial | exact arr_in (by grind) (by grind) (by omega) | exact arr_new (by grind) (by grind) | decide | grind)) (by (first | assumption | trivial | exact arr_in (by grind) (by grind) (by omega) | exact arr_new (by grind) (by grind) | decide | grind)) _ _ _ (by (first | assumption | trivial | exact arr_in (by grind) (by grind) (by omega) | exact arr_new (by grind) (by grind) | decide | grind)) (by (first | assumption | trivial | exact arr_in (by grind) (by grind) (by omega) | exact arr_new (by grind) (by grind) | decide | grind)) (by (first | assumption | trivial | exact arr_in (by grind) (by grind) (by omega) | exact arr_new (by grind) (by grind) | decide | grind))) fun z27 hz27 => ?_
      obtain ⟨hz27b, hz27w, hz27u, hz27e, hz27s0, hz27s1⟩ := hz27
      refine ok_some ?_
      refine ⟨?_, ?_, ?_⟩ <;> (try dsimp only) <;> (first | assumption | trivial | exact arr_in (by grind) (by grind) (by omega) | exact arr_new (by grind) (by grind) | decide | grind)
    · refine ok_some ?_
      refine ⟨?_, ?_, ?_⟩ <;> (try dsimp only) <;> (first | assumption | trivial | exact arr_in (by grind) (by grind) (by omega) | exact arr_new (by grind) (by grind) | decide | grind)
  · refine ok_some ?_
    refine ⟨?_, ?_, ?_⟩ <;> (try dsimp only) <;> (first | assumption | trivial | exact arr_in (by grind) (by grind) (by omega) | exact arr_new (by grind) (by grind) | decide | grind)
theorem ok_X6_push (hb : IB k τ) (hw : WK τ) (hu : UT τ) (x1 : Int32) (x2 : Int32) (x3 : Int32) : Ok (f_X6_push τ x1 x2 x3) (fun r => IB k r.2 ∧ WK r.2 ∧ UT r.2) := by
  unfold f_X6_push
  refine ok_bind (ok_X6_mayNot (k := k) (by (first | assumption | trivial | exact arr_in (by grind) (by grind) (by omega) | exact arr_new (by grind) (by grind) | decide | grind)) (by (first | assumption | trivial | exact arr_in (by grind) (by grind) (by omega) | exact arr_new (by grind) (by grind) | decide | grind)) (by (first | assumption | trivial | exact arr_in (by grind) (by grind) (by omega) | exact arr_new (by grind) (by grind) | decide | grind)) _ _ _ _ (by (first | assumption | trivial | exact arr_in (by grind) (by grind) (by omega) | exact arr_new (by grind) (by grind) | decide | grind)) (by (first | assumption | trivial | exact arr_in (by grind) (by grind) (by omega) | exact arr_new (by grind) (by grind) | decide | grind))) fun z15 hz15 => ?_
  obtain ⟨hz15_0, hz15_1, hz15_2, hz15_3, hz15_4⟩ := hz15
  refine ok_if (fun hc => ?_) (fun hc => ?_)
  · refine ok_bind (ok_X6_code _ _ (by (first | assumption | trivial | exact arr_in (by grind) (by grind) (by omega) | exact arr_new (by grind) (by grind) | decide | grind))) fun z21 hz21 => ?_
    obtain ⟨hz21n, hz21m⟩ := hz21
    refine ok_bind (ok_X6_isBarred _ _) fun z26 hz26 => ?_
    refine ok_if (fun hc => ?_) (fun hc => ?_)
    · refine ok_bind (ok_X6_size (k := k) (by (first | assumption | trivial | exact arr_in (by grind) (by grind) (by omega) | exact arr_new (by grind) (by grind) | decide | grind)) _ (by (first | assumption | trivial | exact arr_in (by grind) (by grind) (by omega) | exact arr_new (by grind) (by grind) | decide | grind))) fun z32 hz32 => ?_
      obtain ⟨hz32e, hz32n, hz32m⟩ := hz32
      refine ok_if (fun hc => ?_) (fun hc => ?_)
      · unfold f_X6_push_46
        try dsimp only
        refine ok_bind (ok_X6_code _ _ (by (first | assumption | trivial | exact arr_in (by grind) (by grind) (by omega) | exact arr_new (by grind) (by grind) | decide | grind))) fun z5 hz5 => ?_
        obtain ⟨hz5n, hz5m⟩ := hz5
        refine ok_bind (ok_X6_stepIn (k := k) (by (first | assumption | trivial | exact arr_in (by grind) (by grind) (by omega) | exact arr_new (by grind) (by grind) | decide | grind)) (by (first | assumption | trivial | exact arr_in (by grind) (by grind) (by omega) | exact arr_new (by grind) (by grind) | decide | grind)) (by (first | assumption | trivial | exact arr_in (by grind) (by grind) (by omega) | exact arr_new (by grind) (by grind) | decide | grind)) _ _ _ (by (first | assumption | trivial | exact arr_in (by grind) (by grind) (by omega) | exact arr_new (by grind) (by grind) | decide | grind)) (by (first | assumption | trivial | exact arr_in (by grind) (by grind) (by omega) | exact arr_new (by grind) (by grind) | decide | grind)) (by (first | assumption | trivial | exact arr_in (by grind) (by grind) (by omega) | exact arr_new (by grind) (by grind) | decide | grind))) fun z10 hz10 => ?_
        obtain ⟨hz10b, hz10w, hz10u, hz10e, hz10s0, hz10s1⟩ := hz10
        refine ok_some ?_
        refine ⟨?_, ?_, ?_⟩ <;> (try dsimp only) <;> (first | assumption | trivial | exact arr_in (by grind) (by grind) (by omega) | exact arr_new (by grind) (by grind) | decide | grind)
      · refine ok_bind (ok_X6_get (k := k) (by (first | assumption | trivial | exact arr_in (by grind) (by grind) (by omega) | exact arr_new (by grind) (by grind) | decide | grind)) _ _ (by (first | assumption | trivial | exact arr_in (by grind) (by grind) (by omega) | exact arr_new (by grind) (by grind) | decide | grind)) (by (first | assumption | trivial | exact arr_in (by grind) (by grind) (by omega) | exact arr_new (by grind) (by grind) | decide | grind)) (by (first | assumption | trivial | exact arr_in (by grind) (by grind) (by omega) | exact arr_new (by grind) (by grind) | decide | grind))) fun z38 hz38 => ?_
        obtain ⟨hz38n, hz38m⟩ := hz38
        unfold f_X6_push_46
        try dsimp only
        refine ok_bind (ok_X6_code _ _ (by (first | assumption | trivial | exact arr_in (by grind) (by grind) (by omega) | exact arr_new (by grind) (by grind) | decide | grind))) fun z5 hz5 => ?_
        obtain ⟨hz5n, hz5m⟩ := hz5
        refine ok_bind (ok_X6_stepIn (k := k) (by (first | assumption | trivial | exact arr_in (by grind) (by grind) (by omega) | exact arr_new (by grind) (by grind) | decide | grind)) (by (first | assumption | trivial | exact arr_in (by grind) (by grind) (by omega) | exact arr_new (by grind) (by grind) | decide | grind)) (by (first | assumption | trivial | exact arr_in (by grind) (by grind) (by omega) | exact arr_new (by grind) (by grind) | decide | grind)) _ _ _ (by (first | assumption | trivial | exact arr_in (by grind) (by grind) (by omega) | exact arr_new (by grind) (by grind) | decide | grind)) (by (first | assumption | trivial | exact arr_in (by grind) (by grind) (by omega) | exact arr_new (by grind) (by grind) | decide | grind)) (by (first | assumption | trivial | exact arr_in (by grind) (by grind) (by omega) | exact arr_new (by grind) (by grind) | decide | grind))) fun z10 hz10 => ?_
        obtain ⟨hz10b, hz10w, hz10u, hz10e, hz10s0, hz10s1⟩ := hz10
        refine ok_some ?_
        refine ⟨?_, ?_, ?_⟩ <;> (try dsimp only) <;> (first | assumption | trivial | exact arr_in (by grind) (by grind) (by omega) | exact arr_new (by grind) (by grind) | decide | grind)
    · refine ok_some ?_
      refine ⟨?_, ?_, ?_⟩ <;> (try dsimp only) <;> (first | assumption | trivial | exact arr_in (by grind) (by grind) (by omega) | exact arr_new (by grind) (by grind) | decide | grind)
  · refine ok_some ?_
    refine ⟨?_, ?_, ?_⟩ <;> (try dsimp only) <;> (first | assumption | trivial | exact arr_in (by grind) (by grind) (by omega) | exact arr_new (by grind) (by grind) | decide | grind)
theorem ok_X6_append (hb : IB k τ) (hw : WK τ) (hu : UT τ) (x1 : Int32) (x2 : Int32) (x3 : Int32) : Ok (f_X6_append τ x1 x2 x3) (fun r => IB k r.2 ∧ WK r.2 ∧ UT r.2) := by
  unfold f_X6_append
  refine ok_bind (ok_X6_join (k := k) (by (first | assumption | trivial | exact arr_in (by grind) (by grind) (by omega) | exact arr_new (by grind) (by grind) | decide | grind)) (by (first | assumption | trivial | exact arr_in (by grind) (by grind) (by omega) | exact arr_new (by grind) (by grind) | decide | grind)) (by (first | assumption | trivial | exact arr_in (by grind) (by grind) (by omega) | exact arr_new (by grind) (by grind) | decide | grind)) _ _ _ _) fun z5 hz5 => ?_
  obtain ⟨hz5_0, hz5_1, hz5_2⟩ := hz5
  refine ok_some ?_
  refine ⟨?_, ?_, ?_⟩ <;> (try dsimp only) <;> (first | assumption | trivial | exact arr_in (by grind) (by grind) (by omega) | exact arr_new (by grind) (by grind) | decide | grind)
end OKM
end
section
/-! the model: states that are changed by hand -/
section OKH
variable {k : Int32} {τ : MS}
def TS (τ : MS) (x : Int32) : Int32 := if x = 0 then SL (τ.1 0) else SL (τ.1 1)
theorem SZ.ts {x1 d : Int32} {r : MS} (p : x1 = 0 ∨ x1 = 1) (h : SZ τ x1 d r) : TS r x1 = TS τ x1 + d := by
  obtain ⟨h0, h1⟩ := h
  rcases p with p | p <;> subst p
  · rw [if_pos rfl] at h0; unfold TS; rw [if_pos rfl, if_pos rfl]; exact h0
  · rw [if_pos rfl] at h1; unfold TS; rw [if_neg (by decide), if_neg (by decide)]; exact h1
theorem IB.ts (h : IB k τ) {x : Int32} : 0 ≤ TS τ x ∧ TS τ x ≤ 20 := by
  have h0 := SL_n (h.l (i := 0) (by omega))
  have h1 := SL_n (h.l (i := 1) (by omega))
  unfold TS
  split
  · exact ⟨h0.1, h0.2.1⟩
  · exact ⟨h1.1, h1.2.1⟩
theorem up_sc {f : MS} {t : MS} {i : Nat} {v : Int32} (ht : t = (f.1, va_up f.2 i v)) : t.1 = f.1 ∧ t.2 i = v ∧ ∀ j, j ≠ i → t.2 j = f.2 j := by
  subst ht
  exact ⟨rfl, up_eq, fun j h => up_ne h⟩
theorem up_ls {f : MS} {t : MS} {i : Nat} {v : List Int32} (ht : t = (va_up f.1 i v, f.2)) : t.2 = f.2 ∧ t.1 i = v ∧ ∀ j, j ≠ i → t.1 j = f.1 j := by
  subst ht
  exact ⟨rfl, up_eq, fun j h => up_ne h⟩
theorem WK.len {r : MS} (h : WK τ) (e2 : r.2 = τ.2) (e0 : (r.1 0).length = (τ.1 0).length) (e1 : (r.1 1).length = (τ.1 1).length) : WK r := by
  have s0 : SL (r.1 0) = SL (τ.1 0) := by unfold SL; rw [e0]
  have s1 : SL (r.1 1) = SL (τ.1 1) := by unfold SL; rw [e1]
  obtain ⟨a, b, c⟩ := h
  refine ⟨?_, ?_, ?_⟩
  · unfold WH; rw [e2, s0]; exact a
  · unfold Wj; rw [e2, s1]; exact b
  · unfold Wj; rw [e2, s1]; exact c
theorem UT.len {r : MS} (h : UT τ) (e2 : r.1 2 = τ.1 2) (e0 : (r.1 0).length = (τ.1 0).length) (e1 : (r.1 1).length = (τ.1 1).length) : UT r := by
  unfold UT
  rw [e2, e0, e1]; exact h
theorem UT.eq {r : MS} (h : UT τ) (e : r.1 = τ.1) : UT r := h.len (by rw [e]) (by rw [e]) (by rw [e])
theorem IB.eq {r : MS} (h : IB k τ) (e : r.1 = τ.1) (e4 : r.2 4 = τ.2 4) : IB k r := ⟨by rw [e]; exact h.1, by rw [e4]; exact h.2⟩
def WJ (s p h n : Int32) : Prop := (s = 0 ∨ s = 1 ∨ s = 2) ∧ (s = 1 → (0 ≤ p ∧ p ≤ n) ∧ (h = -1 ∨ (0 ≤ h ∧ h < n)))
theorem WK.of {r : MS} (h0 : WH r) (h1 : WJ (r.2 5) (r.2 6) (r.2 7) (SL (r.1 1))) (h2 : WJ (r.2 8) (r.2 9) (r.2 10) (SL (r.1 1))) : WK r := ⟨h0, h1, h2⟩
theorem WK.get (h : WK τ) {j : Nat} (hj : j < 2) : WJ (τ.2 (5 + 3 * j)) (τ.2 (5 + 3 * j + 1)) (τ.2 (5 + 3 * j + 2)) (SL (τ.1 1)) := by
  rcases (by omega : j = 0 ∨ j = 1) with e | e <;> subst e
  · exact h.2.1
  · exact h.2.2
theorem WJ.live {s p q n : Int32} (h : WJ s p q n) (a : ¬ s = 0) (b : ¬ s = 2) : s = 1 ∧ (0 ≤ p ∧ p ≤ n) ∧ (q = -1 ∨ (0 ≤ q ∧ q < n)) := by
  have e : s = 1 := (h.1.resolve_left a).resolve_right b
  exact ⟨e, h.2 e⟩
theorem WJ.dead {s p q n : Int32} (h : s = 0 ∨ s = 2) : WJ s p q n := by
  refine ⟨?_, fun e => ?_⟩
  · rcases h with h | h
    · exact Or.inl h
    · exact Or.inr (Or.inr h)
  · exfalso
    rcases h with h | h <;> (rw [h] at e; exact absurd e (by decide))
theorem WK.one {r : MS} {j : Nat} (hj : j < 2) (h : WK τ) (L : r.1 = τ.1) (O : ∀ q, q ≠ 5 + 3 * j + 0 → q ≠ 5 + 3 * j + 1 → q ≠ 5 + 3 * j + 2 → r.2 q = τ.2 q) (W : WJ (r.2 (5 + 3 * j)) (r.2 (5 + 3 * j + 1)) (r.2 (5 + 3 * j + 2)) (SL (τ.1 1))) : WK r := by
  have h0 : WH r := by unfold WH; rw [O 3 (by omega) (by omega) (by omega), L]; exact h.1
  rcases (by omega : j = 0 ∨ j = 1) with e | e <;> subst e
  · refine WK.of h0 (by rw [L]; exact W) ?_
    rw [L, O 8 (by omega) (by omega) (by omega), O 9 (by omega) (by omega) (by omega), O 10 (by omega) (by omega) (by omega)]
    exact h.2.2
  · refine WK.of h0 ?_ (by rw [L]; exact W)
    rw [L, O 5 (by omega) (by omega) (by omega), O 6 (by omega) (by omega) (by omega), O 7 (by omega) (by omega) (by omega)]
    exact h.2.1
theorem WK.noH {r : MS} (h : WK τ) (e3 : r.2 3 = -1 ∨ (0 ≤ r.2 3 ∧ r.2 3 < SL (r.1 0))) (e1 : r.1 1 = τ.1 1) (O : ∀ q, 5 ≤ q → r.2 q = τ.2 q) : WK r := by
  refine WK.of e3 ?_ ?_
  · rw [e1, O 5 (by omega), O 6 (by omega), O 7 (by omega)]; exact h.2.1
  · rw [e1, O 8 (by omega), O 9 (by omega), O 10 (by omega)]; exact h.2.2
theorem gwk_ok {x : Int32} (p : x = 0 ∨ x = 1) : ∃ z, z < 2 ∧ (x = 0 ∧ z = 0 ∨ x = 1 ∧ z = 1) ∧ gwk x = some z := by
  rcases p with p | p <;> subst p
  · exact ⟨0, by omega, Or.inl ⟨rfl, rfl⟩, rfl⟩
  · exact ⟨1, by omega, Or.inr ⟨rfl, rfl⟩, rfl⟩
theorem CH.wkj {t r : MS} {x2 : Int32} {j : Nat} (hx : x2 = 0 ∧ j = 0 ∨ x2 = 1 ∧ j = 1) (h0 : WH t) (W : WJ (t.2 (5 + 3 * j)) (t.2 (5 + 3 * j + 1)) (t.2 (5 + 3 * j + 2)) (SL (t.1 1))) (h : CH t 1 x2 r) : WK r := by
  obtain ⟨h1, -, -, -, h3⟩ := h
  obtain ⟨a, b0, b1, c0, c1⟩ := h3 (by decide)
  have W0 : WH r := by unfold WH; rw [a 3 (by omega) (by omega), h1]; exact h0
  rcases hx with ⟨e, f⟩ | ⟨e, f⟩ <;> subst e f
  · refine WK.of W0 ?_ (WJ.dead (c1 (by decide)))
    rw [b0 rfl, a 6 (by omega) (by omega), a 7 (by omega) (by omega), h1]; exact W
  · refine WK.of W0 (WJ.dead (c0 (by decide))) ?_
    rw [b1 rfl, a 9 (by omega) (by omega), a 10 (by omega) (by omega), h1]; exact W
theorem ok_size0 (hb : IB k τ) : Ok (f_X6_size τ 0) fun r => r = SL (τ.1 0) ∧ 0 ≤ r ∧ r ≤ 20 := ok_mono (ok_X6_size hb 0 (Or.inl rfl)) fun r h => h
theorem ok_size1 (hb : IB k τ) : Ok (f_X6_size τ 1) fun r => r = SL (τ.1 1) ∧ 0 ≤ r ∧ r ≤ 20 := ok_mono (ok_X6_size hb 1 (Or.inr rfl)) fun r h => h
theorem ok_get0 (hb : IB k τ) (x : Int32) (h0 : 0 ≤ x) (h1 : x < SL (τ.1 0)) : Ok (f_X6_get τ 0 x) fun r => 0 ≤ r ∧ r ≤ 999 := ok_X6_get hb 0 x (Or.inl rfl) h0 h1
theorem ok_get1 (hb : IB k τ) (x : Int32) (h0 : 0 ≤ x) (h1 : x < SL (τ.1 1)) : Ok (f_X6_get τ 1 x) fun r => 0 ≤ r ∧ r ≤ 999 := ok_X6_get hb 1 x (Or.inr rfl) h0 h1
/-! train and rotate -/
theorem one_j {j : Int32} (h : 0 ≤ j ∧ j ≤ 8) : 0 ≤ 1 + j ∧ 1 + j ≤ 9 := by grind
def TI (k N : Int32) (t : MS × Int32 × Int32 × Int32 × Int32 × Int32) : Prop := (IB k t.1 ∧ WK t.1 ∧ UT t.1) ∧ (t.2.1 = 0 ∨ t.2.1 = 1) ∧ (1 ≤ t.2.2.1 ∧ t.2.2.1 ≤ 9) ∧ (0 ≤ t.2.2.2.1 ∧ t.2.2.2.1 ≤ 99) ∧ t.2.2.2.2.1 ≤ 12 ∧ (0 ≤ t.2.2.2.2.2 ∧ t.2.2.2.2.2 ≤ t.2.2.2.2.1) ∧ 20 ≤ t.2.2.2.2.2 + N ∧ TS t.1 t.2.1 + (t.2.2.2.2.1 - t.2.2.2.2.2) ≤ 20
theorem st_X6_train (N : Int32) (kk) (t) (hN : 0 ≤ N) (hN2 : N ≤ 63) (ha : TI k N t) (hk : ∀ b, 1 ≤ N → TI k (N - 1) b → Ok (kk b) fun r : Int32 × MS => IB k r.2 ∧ WK r.2 ∧ UT r.2) : Ok (f_X6_train_79 kk t) fun r => IB k r.2 ∧ WK r.2 ∧ UT r.2 := by
  obtain ⟨s, v1, v2, v3, v4, i⟩ := t
  obtain ⟨⟨b, w, u⟩, p, a1, a2, a3, a4, a5, a6⟩ := ha
  dsimp only at b w u p a1 a2 a3 a4 a5 a6
  unfold f_X6_train_79
  dsimp only
  refine ok_if (fun c => ok_bind (ok_X6_size b _ p) fun z hz => ok_some ⟨b, w, u⟩) fun c => ?_
  have hts := b.ts (x := v1)
  have c2 : i < v4 := by clear a5 a6 hts a1 a2 hN hN2; grind
  have j1 := jr9 (x := (v2 - 1) + i) (by clear a5 a6 hts a2 hN hN2; grind)
  have j2 := jr100 (x := v3 + 7 * i) (by clear a5 a6 hts a1 hN hN2; grind)
  refine ok_bind (ok_X6_code _ _ ⟨one_j j1, j2⟩) fun z hz => ?_
  clear j1 j2
  have q : TS s v1 < 20 := by clear hz a1 a2 hN hN2 a5; grind
  refine ok_bind (ok_X6_stepIn b w u _ _ _ p q hz) fun z2 hz2 => ok_nme fun y hy => ?_
  obtain ⟨b2, w2, u2, -, s2⟩ := hz2
  have s2 := s2.ts p
  refine hk _ (by clear s2 hz q a6 a1 a2 hts; grind) ⟨⟨b2, w2, u2⟩, p, a1, a2, a3, ⟨?_, ?_⟩, ?_, ?_⟩ <;> dsimp only
  · clear s2 hz q a6 a1 a2 hts; grind
  · clear s2 hz q a6 a1 a2 hts a5; grind
  · clear s2 hz q a6 a1 a2 hts; grind
  · rw [s2, hy]
    clear hz a1 a2 hN hN2 a5 s2; grind
theorem ok_train41 (hb : IB k τ) (hw : WK τ) (hu : UT τ) (v1 v2 v3 v4 u1 : Int32) (h0 : τ.2 0 = 0) (p : v1 = 0 ∨ v1 = 1) (q : u1 = 0 → (1 ≤ v2 ∧ v2 ≤ 9) ∧ (0 ≤ v3 ∧ v3 ≤ 99) ∧ 1 ≤ v4 ∧ v4 ≤ 12) : Ok (f_X6_train_41 τ v1 v2 v3 v4 u1) fun r => IB k r.2 ∧ WK r.2 ∧ UT r.2 := by
  unfold f_X6_train_41
  refine ok_bind (ok_X6_refuse hb hw hu _ _ h0 (by decide)) fun z hz => ?_
  obtain ⟨⟨-, hi⟩, -, b, w, u⟩ := hz
  refine ok_if (fun c => ?_) fun c => ok_some ⟨b, w, u⟩
  obtain ⟨i0, i1⟩ := hi c
  obtain ⟨q1, q2, q3, q4⟩ := q i0
  refine ok_bind (ok_X6_size b _ p) fun y hy => ?_
  have hy : y = TS z.2 v1 ∧ 0 ≤ y ∧ y ≤ 20 := hy
  have main : ∀ uu : Int32, (uu = 0 → y + v4 ≤ 20) → Ok (f_X6_train_67 z.2 v1 v2 v3 v4 uu) fun r => IB k r.2 ∧ WK r.2 ∧ UT r.2 := by
    intro uu hh
    unfold f_X6_train_67
    refine ok_bind (ok_X6_refuse b w u _ _ i1 (by decide)) fun z2 hz2 => ?_
    obtain ⟨⟨-, hi2⟩, ⟨hl, -⟩, b2, w2, u2⟩ := hz2
    refine ok_if (fun c2 => ?_) fun c2 => ok_some ⟨b2, w2, u2⟩
    have e : TS z2.2 v1 = TS z.2 v1 := by unfold TS; rw [hl]
    refine lpn24 (TI k) (fun N kk t hN hN2 ha hk => st_X6_train N kk t hN hN2 ha hk) ⟨⟨b2, w2, u2⟩, p, q1, q2, q4, ⟨(by dsimp only; decide), Int32.le_trans (by dsimp only; decide) q3⟩, (by dsimp only; decide), ?_⟩
    dsimp only
    have := hh (hi2 c2).1
    rw [e, ← hy.1]
    rw [show v4 - 0 = v4 by grind]; exact this
  exact ok_if (fun c2 => main 0 fun _ => c2) fun c2 => main 1 fun e => absurd e (by decide)
theorem ok_X6_train (hb : IB k τ) (hw : WK τ) (hu : UT τ) (x1 x2 x3 x4 : Int32) : Ok (f_X6_train τ x1 x2 x3 x4) fun r => IB k r.2 ∧ WK r.2 ∧ UT r.2 := by
  unfold f_X6_train
  refine ok_bind (ok_X6_isNoTrack _) fun z hz => ok_bind (ok_X6_start hb hw hu _ _ (by decide)) fun z2 hz2 => ?_
  obtain ⟨⟨-, hi⟩, -, b, w, u⟩ := hz2
  refine ok_if (fun c => ?_) fun c => ok_some ⟨b, w, u⟩
  obtain ⟨i0, i1⟩ := hi c
  have p := hz i0
  have m1 : Ok (f_X6_train_36 z2.2 x1 x2 x3 x4) fun r => IB k r.2 ∧ WK r.2 ∧ UT r.2 := ok_train41 b w u _ _ _ _ _ i1 p fun e => absurd e (by decide)
  refine ok_bind (ok_X6_isNoPiece _ _) fun z3 hz3 => ok_if (fun c3 => ok_if (fun _ => m1) fun c4 => ok_bind (ok_X6_isIn _ _ _) fun z5 hz5 => ok_if (fun _ => m1) fun c5 => ?_) fun _ => m1
  obtain ⟨r1, r2⟩ := hz3 c3
  exact ok_train41 b w u _ _ _ _ _ i1 p fun _ => ⟨⟨by grind, r1.2⟩, r2, hz5.2 c5⟩
def RI6 (k N : Int32) (t : MS × Int32 × Int32 × Int32) : Prop := (IB k t.1 ∧ WK t.1 ∧ UT t.1) ∧ (t.2.1 = 0 ∨ t.2.1 = 1) ∧ (-6 ≤ t.2.2.1 ∧ t.2.2.1 ≤ 6) ∧ 1 ≤ TS t.1 t.2.1 ∧ 0 ≤ t.2.2.2 ∧ t.2.2.2 ≤ 20 ∧ 20 ≤ t.2.2.2 + N
theorem st_rot80 {Q : Int32 × MS → Prop} {kk : (MS × Int32 × Int32 × Int32) → Option (Int32 × MS)} {v1 v2 v3 : Int32} (b : IB k τ) (w : WK τ) (u : UT τ) (p : v1 = 0 ∨ v1 = 1) (q : 1 ≤ TS τ v1) (d d2 : Int32) (hk : ∀ r, IB k r → WK r → UT r → TS r v1 = TS τ v1 → Ok (kk (r, v1, v2, v3 + 1)) Q) : Ok (f_X6_rotate_80 kk τ v1 v2 v3 v1 d2 v1 d) Q := by
  unfold f_X6_rotate_80
  refine ok_bind (ok_X6_stepOut b w u _ _ p q) fun z hz => ?_
  obtain ⟨b1, w1, u1, v, -, s⟩ := hz
  have s := s.ts p
  have hts := b.ts (x := v1)
  refine ok_bind (ok_X6_stepIn b1 w1 u1 _ _ _ p (show TS z.2 v1 < 20 by rw [s]; grind) v) fun z2 hz2 => ?_
  obtain ⟨b2, w2, u2, -, s2⟩ := hz2
  have s2 := s2.ts p
  refine ok_nme fun y hy => ?_
  subst hy
  exact hk _ b2 w2 u2 (by rw [s2, s]; grind)
theorem st_X6_rotate (N : Int32) (kk) (t) (hN : 0 ≤ N) (hN2 : N ≤ 63) (ha : RI6 k N t) (hk : ∀ b, 1 ≤ N → RI6 k (N - 1) b → Ok (kk b) fun r : Int32 × MS => IB k r.2 ∧ WK r.2 ∧ UT r.2) : Ok (f_X6_rotate_50 kk t) fun r => IB k r.2 ∧ WK r.2 ∧ UT r.2 := by
  obtain ⟨s, v1, v2, i⟩ := t
  obtain ⟨⟨b, w, u⟩, p, ⟨a1, a2⟩, a3, a4, a5, a6⟩ := ha
  dsimp only at b w u p a1 a2 a3 a4 a5 a6
  unfold f_X6_rotate_50
  dsimp only
  refine ok_nme fun y hy => ok_if (fun c => ok_bind (ok_X6_get b _ _ p (by decide) (show (0 : Int32) < TS s v1 by clear a6; grind)) fun z hz => ok_some ⟨b, w, u⟩) fun c => ?_
  have hi : i < 6 := by clear a6 a3 a5 hN hN2; grind
  have main : ∀ r, IB k r → WK r → UT r → TS r v1 = TS s v1 → Ok (kk (r, v1, v2, i + 1)) fun r => IB k r.2 ∧ WK r.2 ∧ UT r.2 := by
    intro r b' w' u' e
    refine hk _ (by clear a3 a1 a2 hy c e; grind) ⟨⟨b', w', u'⟩, p, ⟨a1, a2⟩, by dsimp only; rw [e]; exact a3, ?_, ?_, ?_⟩ <;> dsimp only
    · clear a3 a1 a2 hy c e a6 hN hN2; grind
    · clear a3 a1 a2 hy c e a6 hN hN2; grind
    · clear a3 a1 a2 hy c e; grind
  refine ok_if (fun _ => ?_) fun _ => ?_ <;> unfold f_X6_rotate_69 <;> exact ok_if (fun _ => st_rot80 b w u p a3 _ _ main) fun _ => st_rot80 b w u p a3 _ _ main
theorem ok_X6_rotate (hb : IB k τ) (hw : WK τ) (hu : UT τ) (x1 x2 : Int32) : Ok (f_X6_rotate τ x1 x2) fun r => IB k r.2 ∧ WK r.2 ∧ UT r.2 := by
  unfold f_X6_rotate
  refine ok_bind (ok_X6_isNoTrack _) fun z hz => ok_bind (ok_X6_start hb hw hu _ _ (by decide)) fun z2 hz2 => ?_
  obtain ⟨⟨-, hi⟩, -, b, w, u⟩ := hz2
  refine ok_if (fun c => ?_) fun c => ok_some ⟨b, w, u⟩
  obtain ⟨i0, i1⟩ := hi c
  have p := hz i0
  have main : ∀ uu : Int32, (uu = 0 → -6 ≤ x2 ∧ x2 ≤ 6) → Ok (f_X6_rotate_29 z2.2 x1 x2 uu) fun r => IB k r.2 ∧ WK r.2 ∧ UT r.2 := by
    intro uu hh
    unfold f_X6_rotate_29
    refine ok_bind (ok_X6_refuse b w u _ _ i1 (by decide)) fun z3 hz3 => ?_
    obtain ⟨⟨-, hi3⟩, -, b3, w3, u3⟩ := hz3
    refine ok_if (fun c3 => ?_) fun c3 => ok_some ⟨b3, w3, u3⟩
    refine ok_bind (ok_X6_size b3 _ p) fun y hy => ok_if (fun _ => ok_some ⟨b3, w3, u3⟩) fun c4 => ?_
    have hy : y = TS z3.2 x1 ∧ 0 ≤ y ∧ y ≤ 20 := hy
    refine lpn24 (RI6 k) (fun N kk t hN hN2 ha hk => st_X6_rotate N kk t hN hN2 ha hk) ⟨⟨b3, w3, u3⟩, p, hh (hi3 c3).1, ?_, (by dsimp only; decide), (by dsimp only; decide), (by dsimp only; decide)⟩
    dsimp only
    rw [← hy.1]; grind
  exact ok_bind (ok_X6_isIn _ _ _) fun z4 hz4 => ok_if (fun _ => main 1 fun e => absurd e (by decide)) fun c4 => main 0 fun _ => hz4.2 c4
end OKH
end
