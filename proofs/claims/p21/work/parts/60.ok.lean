/-! LEVEL 2: nothing throws and every loop ends -/
def Ok {α : Type} (o : Option α) (Q : α → Prop) : Prop := ∃ r, o = some r ∧ Q r
def XQ {α : Type} (ks : List Nat) (P : α → Prop) : Nat ⊕ α → Prop := fun z => match z with
  | .inl e => e ∈ ks
  | .inr z => P z
section OKR
variable {α β : Type} {Q : α → Prop} {P : β → Prop}
theorem ok_some {r : α} (h : Q r) : Ok (some r) Q := ⟨r, rfl, h⟩
theorem ok_bind {o : Option β} {f : β → Option α} (h : Ok o P) (g : ∀ x, P x → Ok (f x) Q) : Ok (o.bind f) Q := by
  obtain ⟨r, e, hr⟩ := h
  obtain ⟨q, e2, hq⟩ := g r hr
  exact ⟨q, by rw [e]; exact e2, hq⟩
theorem ok_nm {v : β} {f : β → Option α} (P : β → Prop) (hv : P v) (h : ∀ x, P x → Ok (f x) Q) : Ok (nm v f) Q := h v hv
theorem ok_nme {v : β} {f : β → Option α} (h : ∀ x, x = v → Ok (f x) Q) : Ok (nm v f) Q := h v rfl
theorem ok_if {c : Prop} [Decidable c] {a b : Option α} (h1 : c → Ok a Q) (h2 : ¬ c → Ok b Q) : Ok (if c then a else b) Q := by
  by_cases hc : c
  · rw [if_pos hc]; exact h1 hc
  · rw [if_neg hc]; exact h2 hc
theorem ok_no {c : Prop} [Decidable c] {b : Option α} (hc : ¬ c) (h : Ok b Q) : Ok (if c then none else b) Q := by rw [if_neg hc]; exact h
theorem ok_yes {c : Prop} [Decidable c] {b : Option α} (hc : c) (h : Ok b Q) : Ok (if c then b else none) Q := by rw [if_pos hc]; exact h
theorem ok_obx {o : Option (Nat ⊕ β)} {f : β → Option (Nat ⊕ α)} {ks ks' : List Nat} (h : Ok o (XQ ks P)) (hk : ∀ e ∈ ks, e ∈ ks') (g : ∀ z, P z → Ok (f z) (XQ ks' Q)) : Ok (obx o f) (XQ ks' Q) := by
  obtain ⟨r, e, hr⟩ := h
  cases r with
  | inl k => exact ⟨.inl k, by rw [e]; rfl, hk k hr⟩
  | inr z =>
    obtain ⟨q, e2, hq⟩ := g z hr
    exact ⟨q, by rw [e]; exact e2, hq⟩
theorem ok_inl {e : Nat} {ks : List Nat} (h : e ∈ ks) : Ok (some (.inl e)) (XQ ks Q) := ⟨_, rfl, h⟩
theorem ok_inr {z : α} {ks : List Nat} (h : Q z) : Ok (some (.inr z)) (XQ ks Q) := ⟨_, rfl, h⟩
theorem ok_mono {o : Option α} {Q' : α → Prop} (h : Ok o Q) (g : ∀ x, Q x → Q' x) : Ok o Q' := by
  obtain ⟨r, e, hr⟩ := h
  exact ⟨r, e, g r hr⟩
theorem nI_dec {m : Nat} (h : m + 1 < 2147483648) : nI (m + 1) - 1 = nI m := by
  apply Int32.toInt_inj.mp
  have h1 := nI_toInt (n := m + 1) (by omega)
  have h2 := nI_toInt (n := m) (by omega)
  have h3 : (1 : Int32).toInt = 1 := rfl
  rw [Int32.toInt_sub, h1, h2, h3]
  have := Int.bmod_eq_of_le (n := ((m + 1 : Nat) : Int) - 1) (m := 2 ^ 32) (by omega) (by omega)
  rw [this]; omega
theorem nI_ge1 {n : Nat} (h : n < 2147483648) (h1 : 1 ≤ nI n) : 1 ≤ n := by
  have h2 := nI_toInt (n := n) (by omega)
  have h3 : (1 : Int32).toInt ≤ (nI n).toInt := Int32.le_iff_toInt_le.mp h1
  have h4 : (1 : Int32).toInt = 1 := rfl
  omega
theorem nI_bnd {n b : Nat} (h : n ≤ b) (hb : b < 2147483648) : 0 ≤ nI n ∧ nI n ≤ nI b := by
  have h2 := nI_toInt (n := n) (by omega)
  have h3 := nI_toInt (n := b) (by omega)
  have h4 : (0 : Int32).toInt = 0 := rfl
  exact ⟨Int32.le_iff_toInt_le.mpr (by omega), Int32.le_iff_toInt_le.mpr (by omega)⟩
theorem lpn_ok {st : (β → Option α) → β → Option α} (I : Int32 → β → Prop) (h : ∀ N k a, 0 ≤ N → N ≤ 63 → I N a → (∀ b, 1 ≤ N → I (N - 1) b → Ok (k b) Q) → Ok (st k a) Q) : ∀ n : Nat, n < 64 → ∀ a, I (nI n) a → Ok (lpn st (n + 1) a) Q := by
  intro n
  induction n with
  | zero =>
    intro _ a ha
    refine h (nI 0) _ a (by decide) (by decide) ha fun b h1 _ => ?_
    exact absurd h1 (by decide)
  | succ m ih =>
    intro hm a ha
    obtain ⟨q1, q2⟩ := nI_bnd (n := m + 1) (b := 63) (by omega) (by omega)
    refine h (nI (m + 1)) _ a q1 q2 ha fun b _ hb => ?_
    rw [nI_dec (by omega)] at hb
    exact ih (by omega) b hb
theorem lpn64 {st : (β → Option α) → β → Option α} (I : Int32 → β → Prop) (h : ∀ N k a, 0 ≤ N → N ≤ 63 → I N a → (∀ b, 1 ≤ N → I (N - 1) b → Ok (k b) Q) → Ok (st k a) Q) {a : β} (ha : I 63 a) : Ok (lpn st 64 a) Q := lpn_ok I h 63 (by omega) a ha
theorem lpn24 {st : (β → Option α) → β → Option α} (I : Int32 → β → Prop) (h : ∀ N k a, 0 ≤ N → N ≤ 63 → I N a → (∀ b, 1 ≤ N → I (N - 1) b → Ok (k b) Q) → Ok (st k a) Q) {a : β} (ha : I 23 a) : Ok (lpn st 24 a) Q := lpn_ok I h 23 (by omega) a ha
end OKR
/-! quotients and remainders -/
theorem div_b {x : Int32} {b : Nat} (hb : 0 < b) (hb2 : b < 2147483648) (h : 0 ≤ x) : (x / nI b).toInt = x.toInt / (b : Int) := by
  have h0 : 0 ≤ x.toInt := Int32.le_iff_toInt_le.mp h
  have h1 := nI_toInt (n := b) (by omega)
  rw [Int32.toInt_div_of_ne_right _ _ (by
    intro e
    have := congrArg Int32.toInt e
    rw [h1] at this
    have h9 : (-1 : Int32).toInt = -1 := rfl
    omega), h1]
  exact Int.tdiv_eq_ediv_of_nonneg h0
theorem jrem_b {x : Int32} {b : Nat} (hb : 0 < b) (hb2 : b < 2147483648) (h : 0 ≤ x) : 0 ≤ jrem x (nI b) ∧ jrem x (nI b) ≤ nI (b - 1) := by
  have h0 : 0 ≤ x.toInt := Int32.le_iff_toInt_le.mp h
  have h1 := nI_toInt (n := b) (by omega)
  have h2 := div_b hb hb2 h
  have h3 := x.toInt_lt
  have hd : (x.toInt / (b : Int)) * b ≤ x.toInt := Int.ediv_mul_le _ (by omega)
  have hd0 : 0 ≤ x.toInt / (b : Int) := Int.ediv_nonneg h0 (by omega)
  have hd1 : 0 ≤ (x.toInt / (b : Int)) * b := Int.mul_nonneg hd0 (by omega)
  have hm := Int.emod_def x.toInt (b : Int)
  have hm1 := Int.emod_nonneg x.toInt (b := (b : Int)) (by omega)
  have hm2 := Int.emod_lt_of_pos x.toInt (b := (b : Int)) (by omega)
  have hc : (b : Int) * (x.toInt / (b : Int)) = (x.toInt / (b : Int)) * b := Int.mul_comm _ _
  have e : (jrem x (nI b)).toInt = x.toInt % (b : Int) := by
    unfold jrem
    rw [Int32.toInt_sub, Int32.toInt_mul, h2, h1, Int.bmod_eq_of_le (n := x.toInt / (b : Int) * b) (by omega) (by omega), Int.bmod_eq_of_le (by omega) (by omega)]
    omega
  have h5 : (0 : Int32).toInt = 0 := rfl
  have h6 := nI_toInt (n := b - 1) (by omega)
  exact ⟨Int32.le_iff_toInt_le.mpr (by omega), Int32.le_iff_toInt_le.mpr (by omega)⟩
theorem jr100 {x : Int32} (h : 0 ≤ x) : 0 ≤ jrem x 100 ∧ jrem x 100 ≤ 99 := jrem_b (b := 100) (by omega) (by omega) h
theorem jr9 {x : Int32} (h : 0 ≤ x) : 0 ≤ jrem x 9 ∧ jrem x 9 ≤ 8 := jrem_b (b := 9) (by omega) (by omega) h
theorem jr1000 {x : Int32} (h : 0 ≤ x) : 0 ≤ jrem x 1000 ∧ jrem x 1000 ≤ 999 := jrem_b (b := 1000) (by omega) (by omega) h
theorem div_r {x : Int32} {b c d : Nat} (hb : 0 < b) (hb2 : b < 2147483648) (hc : c < 2147483648) (h : 0 ≤ x) (h2 : x ≤ nI c) (hd : c / b ≤ d) (hd2 : d < 2147483648) : 0 ≤ x / nI b ∧ x / nI b ≤ nI d := by
  have h0 : 0 ≤ x.toInt := Int32.le_iff_toInt_le.mp h
  have h1 : x.toInt ≤ (nI c).toInt := Int32.le_iff_toInt_le.mp h2
  have hc1 := nI_toInt (n := c) (by omega)
  have hd1 := nI_toInt (n := d) (by omega)
  have e := div_b hb hb2 h
  have h5 : (0 : Int32).toInt = 0 := rfl
  have q0 : 0 ≤ x.toInt / (b : Int) := Int.ediv_nonneg h0 (by omega)
  have q1 : x.toInt / (b : Int) ≤ (c : Int) / (b : Int) := Int.ediv_le_ediv (by omega) (by omega)
  have q2 : (c : Int) / (b : Int) = ((c / b : Nat) : Int) := rfl
  exact ⟨Int32.le_iff_toInt_le.mpr (by omega), Int32.le_iff_toInt_le.mpr (by omega)⟩
theorem dv100 {x : Int32} (h : 0 ≤ x) (h2 : x ≤ 999) : 0 ≤ x / 100 ∧ x / 100 ≤ 9 := div_r (b := 100) (c := 999) (d := 9) (by omega) (by omega) (by omega) h h2 (by omega) (by omega)
theorem dv4 {x : Int32} (h : 0 ≤ x) (h2 : x ≤ 7) : 0 ≤ x / 4 ∧ x / 4 ≤ 1 := div_r (b := 4) (c := 7) (d := 1) (by omega) (by omega) (by omega) h h2 (by omega) (by omega)
theorem dv4000 {x : Int32} (h : 0 ≤ x) (h2 : x ≤ 7999) : 0 ≤ x / 4000 ∧ x / 4000 ≤ 1 := div_r (b := 4000) (c := 7999) (d := 1) (by omega) (by omega) (by omega) h h2 (by omega) (by omega)
/-! rows of the class -/
def hiR (i : Nat) : Int32 := if i = 2 then 7999 else if i = 3 then 7 else 999
theorem capN (i : Nat) : nI (cap i) ≤ 20 ∧ 10 ≤ nI (cap i) ∧ cap i ≤ 20 ∧ (nI (cap i)).toInt = (cap i : Int) := by
  refine ⟨?_, ?_, ?_, nI_toInt (by simp only [cap]; split <;> (try split) <;> omega)⟩ <;> (simp only [cap]; split <;> (try split) <;> decide)
theorem hiR0 (i : Nat) : 7 ≤ hiR i ∧ hiR i ≤ 7999 := by
  simp only [hiR]; split <;> (try split) <;> decide
