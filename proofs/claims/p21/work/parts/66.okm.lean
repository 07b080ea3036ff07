/-! the model: nothing throws; what its states keep -/
def LB (i : Nat) (xs : List Int32) : Prop := xs.length ≤ cap i ∧ ∀ v ∈ xs, 0 ≤ v ∧ v ≤ hiR i
def SL (xs : List Int32) : Int32 := nI xs.length
def IB (k : Int32) (τ : MS) : Prop := (∀ i, i < 4 → LB i (τ.1 i)) ∧ τ.2 4 = k
def WH (τ : MS) : Prop := τ.2 3 = -1 ∨ (0 ≤ τ.2 3 ∧ τ.2 3 < SL (τ.1 0))
def Wj (τ : MS) (j : Nat) : Prop := (τ.2 (5 + 3 * j) = 0 ∨ τ.2 (5 + 3 * j) = 1 ∨ τ.2 (5 + 3 * j) = 2) ∧ (τ.2 (5 + 3 * j) = 1 → (0 ≤ τ.2 (5 + 3 * j + 1) ∧ τ.2 (5 + 3 * j + 1) ≤ SL (τ.1 1)) ∧ (τ.2 (5 + 3 * j + 2) = -1 ∨ (0 ≤ τ.2 (5 + 3 * j + 2) ∧ τ.2 (5 + 3 * j + 2) < SL (τ.1 1))))
def WK (τ : MS) : Prop := WH τ ∧ Wj τ 0 ∧ Wj τ 1
/-- what was laid down can be undone (newest first) -/
def UD : List Int32 → Nat → Nat → Prop
  | [], _, _ => True
  | s :: r, a, b => (s / 4000 = 0 → (jrem (s / 1000) 2 = 1 → 1 ≤ a ∧ UD r (a - 1) b) ∧ (¬ jrem (s / 1000) 2 = 1 → a + 1 ≤ 20 ∧ UD r (a + 1) b)) ∧ (¬ s / 4000 = 0 → (jrem (s / 1000) 2 = 1 → 1 ≤ b ∧ UD r a (b - 1)) ∧ (¬ jrem (s / 1000) 2 = 1 → b + 1 ≤ 20 ∧ UD r a (b + 1)))
def UT (τ : MS) : Prop := UD (τ.1 2).reverse (τ.1 0).length (τ.1 1).length
theorem UD.front {s : List Int32} {x : Int32} : ∀ {a b : Nat}, UD (s ++ [x]) a b → UD s a b := by
  induction s with
  | nil => intro a b _; trivial
  | cons y r ih =>
    intro a b h
    refine ⟨fun e => ⟨fun q => ?_, fun q => ?_⟩, fun e => ⟨fun q => ?_, fun q => ?_⟩⟩
    · have := (h.1 e).1 q; exact ⟨this.1, ih this.2⟩
    · have := (h.1 e).2 q; exact ⟨this.1, ih this.2⟩
    · have := (h.2 e).1 q; exact ⟨this.1, ih this.2⟩
    · have := (h.2 e).2 q; exact ⟨this.1, ih this.2⟩
theorem UT.sc {τ : MS} (h : UT τ) {g : Nat → Int32} : UT (τ.1, g) := h
theorem UT.nil {τ : MS} {g : Nat → Int32} : UT (va_up τ.1 2 [], g) := by
  show UD (va_up τ.1 2 [] 2).reverse _ _
  rw [up_eq]; trivial
theorem IB.l {k : Int32} {τ : MS} (h : IB k τ) {i : Nat} (hi : i < 4) : LB i (τ.1 i) := h.1 i hi
theorem IB.lst {k : Int32} {τ : MS} (h : IB k τ) {i : Nat} {xs : List Int32} (hx : LB i xs) : IB k (va_up τ.1 i xs, τ.2) := by
  refine ⟨fun j hj => ?_, h.2⟩
  show LB j (va_up τ.1 i xs j)
  by_cases e : j = i
  · subst e; rw [up_eq]; exact hx
  · rw [up_ne e]; exact h.1 j hj
theorem IB.sc {k : Int32} {τ : MS} (h : IB k τ) {i : Nat} {v : Int32} (hi : i ≠ 4) : IB k (τ.1, va_up τ.2 i v) := ⟨h.1, by show va_up τ.2 i v 4 = k; rw [up_ne (fun e => hi e.symm)]; exact h.2⟩
theorem WK.sc {τ : MS} (h : WK τ) {i : Nat} {v : Int32} (hi : i < 3 ∨ i = 4) : WK (τ.1, va_up τ.2 i v) := by
  have e : ∀ q, q ≠ i → (τ.1, va_up τ.2 i v).2 q = τ.2 q := fun q hq => up_ne hq
  refine ⟨?_, ?_, ?_⟩
  · unfold WH; rw [e 3 (by omega)]; exact h.1
  · unfold Wj; rw [e (5 + 3 * 0) (by omega), e (5 + 3 * 0 + 1) (by omega), e (5 + 3 * 0 + 2) (by omega)]; exact h.2.1
  · unfold Wj; rw [e (5 + 3 * 1) (by omega), e (5 + 3 * 1 + 1) (by omega), e (5 + 3 * 1 + 2) (by omega)]; exact h.2.2
theorem capn (i : Nat) : cap i ≤ 20 := (capN i).2.2.1
section LISTS
variable {i : Nat} {xs : List Int32}
theorem SL_n (h : LB i xs) : 0 ≤ SL xs ∧ SL xs ≤ 20 ∧ (SL xs).toInt = (xs.length : Int) := by
  have h1 := h.1
  have h2 := capn i
  have q := nI_bnd (n := xs.length) (b := 20) (by omega) (by omega)
  exact ⟨q.1, q.2, nI_toInt (by omega)⟩
theorem SL_in (h : LB i xs) {x : Int32} (h0 : 0 ≤ x) (h1 : x < SL xs) : ¬ (x < 0 ∨ xs.length ≤ x.toNatClampNeg) := by
  have h3 := (SL_n h).2.2
  have h4 : x.toInt < (SL xs).toInt := Int32.lt_iff_toInt_lt.mp h1
  have h5 : x.toNatClampNeg = x.toInt.toNat := rfl
  have h6 : (0 : Int32).toInt ≤ x.toInt := Int32.le_iff_toInt_le.mp h0
  have h7 : (0 : Int32).toInt = 0 := rfl
  intro e
  cases e with
  | inl e => have := Int32.lt_iff_toInt_lt.mp e; omega
  | inr e => omega
theorem LB.getD (h : LB i xs) (n : Nat) : 0 ≤ xs.getD n 0 ∧ xs.getD n 0 ≤ hiR i := by
  by_cases e : n < xs.length
  · rw [List.getD_eq_getElem?_getD, List.getElem?_eq_getElem e]
    exact h.2 _ (List.getElem_mem e)
  · rw [List.getD_eq_getElem?_getD, List.getElem?_eq_none (by omega)]
    have := hiR0 i
    exact ⟨by decide, Int32.le_trans (by decide) this.1⟩
theorem ok_lget (h : LB i xs) (x : Int32) (h0 : 0 ≤ x) (h1 : x < SL xs) : Ok (lget xs x) fun r => 0 ≤ r ∧ r ≤ hiR i := by
  unfold lget
  exact ok_no (SL_in h h0 h1) (ok_some (h.getD _))
theorem ok_lset (h : LB i xs) (x v : Int32) (h0 : 0 ≤ x) (h1 : x < SL xs) (hv : 0 ≤ v ∧ v ≤ hiR i) : Ok (lset xs x v) fun r => LB i r ∧ r.length = xs.length := by
  unfold lset
  refine ok_no (SL_in h h0 h1) (ok_some ⟨⟨?_, fun w hw => ?_⟩, ?_⟩)
  · rw [List.length_set]; exact h.1
  · rcases List.mem_or_eq_of_mem_set hw with q | q
    · exact h.2 _ q
    · subst q; exact hv
  · rw [List.length_set]
theorem ok_ladd (h : LB i xs) (v : Int32) (hl : xs.length < cap i) (hv : 0 ≤ v ∧ v ≤ hiR i) : Ok (ladd xs v) fun r => r = xs ++ [v] ∧ LB i r := by
  have := capn i
  unfold ladd
  refine ok_no (by omega) (ok_some ⟨rfl, ?_, fun w hw => ?_⟩)
  · rw [List.length_append]; show xs.length + 1 ≤ _; omega
  · rcases List.mem_append.mp hw with q | q
    · exact h.2 _ q
    · rw [List.mem_singleton.mp q]; exact hv
theorem ok_lins (h : LB i xs) (x v : Int32) (h0 : 0 ≤ x) (h1 : x ≤ SL xs) (hl : xs.length < cap i) (hv : 0 ≤ v ∧ v ≤ hiR i) : Ok (lins xs x v) fun r => LB i r ∧ r.length = xs.length + 1 := by
  have := capn i
  have h3 := (SL_n h).2.2
  have h4 : x.toInt ≤ (SL xs).toInt := Int32.le_iff_toInt_le.mp h1
  have h5 : x.toNatClampNeg = x.toInt.toNat := rfl
  have h6 : (0 : Int32).toInt ≤ x.toInt := Int32.le_iff_toInt_le.mp h0
  have h7 : (0 : Int32).toInt = 0 := rfl
  have hx : x.toNatClampNeg ≤ xs.length := by omega
  unfold lins
  refine ok_no ?_ (ok_some ⟨⟨?_, fun w hw => ?_⟩, insAt_len hx⟩)
  · rintro (e | e | e)
    · omega
    · have := Int32.lt_iff_toInt_lt.mp e; omega
    · omega
  · rw [insAt_len hx]; omega
  · unfold insAt at hw
    rcases List.mem_append.mp hw with q | q
    · exact h.2 _ (List.mem_of_mem_take q)
    · rcases List.mem_cons.mp q with q | q
      · subst q; exact hv
      · exact h.2 _ (List.mem_of_mem_drop q)
theorem ok_ldel (h : LB i xs) (x : Int32) (h0 : 0 ≤ x) (h1 : x < SL xs) : Ok (ldel xs x) fun r => LB i r ∧ r.length + 1 = xs.length ∧ r = delAt xs x.toNatClampNeg := by
  have h2 := SL_in h h0 h1
  have hx : x.toNatClampNeg < xs.length := by omega
  have h3 : (delAt xs x.toNatClampNeg).length = xs.length - 1 := delAt_len hx
  have h4 := h.1
  unfold ldel
  refine ok_no h2 (ok_some ⟨⟨?_, fun w hw => ?_⟩, ?_, rfl⟩)
  · omega
  · unfold delAt at hw
    rcases List.mem_append.mp hw with q | q
    · exact h.2 _ (List.mem_of_mem_take q)
    · exact h.2 _ (List.mem_of_mem_drop q)
  · omega
theorem SL_up {ys : List Int32} (h : LB i ys) (e : ys.length = xs.length + 1) : SL ys = SL xs + 1 := by
  have h1 := (SL_n h).2.2
  have hc := capn i
  have hl := h.1
  have h2 := nI_dec (m := xs.length) (by omega)
  have h3 : SL ys = nI (xs.length + 1) := by unfold SL; rw [e]
  have h4 : SL xs = nI xs.length := rfl
  rw [h3, h4, ← h2]
  grind
theorem SL_lt (h : LB i xs) (hl : SL xs < nI (cap i)) : xs.length < cap i := by
  have h1 := (SL_n h).2.2
  have h2 := (capN i).2.2.2
  have h3 := Int32.lt_iff_toInt_lt.mp hl
  omega
end LISTS
