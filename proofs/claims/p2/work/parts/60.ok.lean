/-! LEVEL 2: nothing throws and every loop ends -/
def Ok {α : Type} (o : Option α) (Q : α → Prop) : Prop := ∃ r, o = some r ∧ Q r
def XQ {α : Type} (ks : List Nat) (P : α → Prop) : Nat ⊕ α → Prop := fun z => match z with
  | .inl e => e ∈ ks
  | .inr z => P z
section OKR
variable {α β : Type} {Q : α → Prop} {P : β → Prop}
theorem ok_some {r : α} (h : Q r) : Ok (some r) Q := ⟨r, rfl, h⟩
theorem ok_bind {o : Option β} {f : β → Option α} (h : Ok o P) (g : ∀ x, P x → Ok (f x) Q) : Ok (o.bind f) Q := by
  obtain ⟨r, e, hr⟩ := h
  obtain ⟨q, e2, hq⟩ := g r hr
  exact ⟨q, by rw [e]; exact e2, hq⟩
theorem ok_nm {v : β} {f : β → Option α} (P : β → Prop) (hv : P v) (h : ∀ x, P x → Ok (f x) Q) : Ok (nm v f) Q := h v hv
theorem ok_nme {v : β} {f : β → Option α} (h : ∀ x, x = v → Ok (f x) Q) : Ok (nm v f) Q := h v rfl
theorem ok_if {c : Prop} [Decidable c] {a b : Option α} (h1 : c → Ok a Q) (h2 : ¬ c → Ok b Q) : Ok (if c then a else b) Q := by
  by_cases hc : c
  · rw [if_pos hc]; exact h1 hc
  · rw [if_neg hc]; exact h2 hc
theorem ok_no {c : Prop} [Decidable c] {b : Option α} (hc : ¬ c) (h : Ok b Q) : Ok (if c then none else b) Q := by rw [if_neg hc]; exact h
theorem ok_yes {c : Prop} [Decidable c] {b : Option α} (hc : c) (h : Ok b Q) : Ok (if c then b else none) Q := by rw [if_pos hc]; exact h
theorem ok_obx {o : Option (Nat ⊕ β)} {f : β → Option (Nat ⊕ α)} {ks ks' : List Nat} (h : Ok o (XQ ks P)) (hk : ∀ e ∈ ks, e ∈ ks') (g : ∀ z, P z → Ok (f z) (XQ ks' Q)) : Ok (obx o f) (XQ ks' Q) := by
  obtain ⟨r, e, hr⟩ := h
  cases r with
  | inl k => exact ⟨.inl k, by rw [e]; rfl, hk k hr⟩
  | inr z =>
    obtain ⟨q, e2, hq⟩ := g z hr
    exact ⟨q, by rw [e]; exact e2, hq⟩
theorem ok_inl {e : Nat} {ks : List Nat} (h : e ∈ ks) : Ok (some (.inl e)) (XQ ks Q) := ⟨_, rfl, h⟩
theorem ok_inr {z : α} {ks : List Nat} (h : Q z) : Ok (some (.inr z)) (XQ ks Q) := ⟨_, rfl, h⟩
theorem ok_mono {o : Option α} {Q' : α → Prop} (h : Ok o Q) (g : ∀ x, Q x → Q' x) : Ok o Q' := by
  obtain ⟨r, e, hr⟩ := h
  exact ⟨r, e, g r hr⟩
theorem nI_dec {m : Nat} (h : m + 1 < 2147483648) : nI (m + 1) - 1 = nI m := by
  apply Int32.toInt_inj.mp
  have h1 := nI_toInt (n := m + 1) (by omega)
  have h2 := nI_toInt (n := m) (by omega)
  have h3 : (1 : Int32).toInt = 1 := rfl
  rw [Int32.toInt_sub, h1, h2, h3]
  have := Int.bmod_eq_of_le (n := ((m + 1 : Nat) : Int) - 1) (m := 2 ^ 32) (by omega) (by omega)
  rw [this]; omega
theorem nI_ge1 {n : Nat} (h : n < 2147483648) (h1 : 1 ≤ nI n) : 1 ≤ n := by
  have h2 := nI_toInt (n := n) (by omega)
  have h3 : (1 : Int32).toInt ≤ (nI n).toInt := Int32.le_iff_toInt_le.mp h1
  have h4 : (1 : Int32).toInt = 1 := rfl
  omega
theorem nI_bnd {n b : Nat} (h : n ≤ b) (hb : b < 2147483648) : 0 ≤ nI n ∧ nI n ≤ nI b := by
  have h2 := nI_toInt (n := n) (by omega)
  have h3 := nI_toInt (n := b) (by omega)
  have h4 : (0 : Int32).toInt = 0 := rfl
  exact ⟨Int32.le_iff_toInt_le.mpr (by omega), Int32.le_iff_toInt_le.mpr (by omega)⟩
theorem lpn_ok {st : (β → Option α) → β → Option α} (I : Int32 → β → Prop) (h : ∀ N k a, 0 ≤ N → N ≤ 63 → I N a → (∀ b, 1 ≤ N → I (N - 1) b → Ok (k b) Q) → Ok (st k a) Q) : ∀ n : Nat, n < 64 → ∀ a, I (nI n) a → Ok (lpn st (n + 1) a) Q := by
  intro n
  induction n with
  | zero =>
    intro _ a ha
    refine h (nI 0) _ a (by decide) (by decide) ha fun b h1 _ => ?_
    exact absurd h1 (by decide)
  | succ m ih =>
    intro hm a ha
    obtain ⟨q1, q2⟩ := nI_bnd (n := m + 1) (b := 63) (by omega) (by omega)
    refine h (nI (m + 1)) _ a q1 q2 ha fun b _ hb => ?_
    rw [nI_dec (by omega)] at hb
    exact ih (by omega) b hb
theorem lpn64 {st : (β → Option α) → β → Option α} (I : Int32 → β → Prop) (h : ∀ N k a, 0 ≤ N → N ≤ 63 → I N a → (∀ b, 1 ≤ N → I (N - 1) b → Ok (k b) Q) → Ok (st k a) Q) {a : β} (ha : I 63 a) : Ok (lpn st 64 a) Q := lpn_ok I h 63 (by omega) a ha
theorem lpn24 {st : (β → Option α) → β → Option α} (I : Int32 → β → Prop) (h : ∀ N k a, 0 ≤ N → N ≤ 63 → I N a → (∀ b, 1 ≤ N → I (N - 1) b → Ok (k b) Q) → Ok (st k a) Q) {a : β} (ha : I 23 a) : Ok (lpn st 24 a) Q := lpn_ok I h 23 (by omega) a ha
end OKR
/-! quotients and remainders -/
theorem div_b {x : Int32} {b : Nat} (hb : 0 < b) (hb2 : b < 2147483648) (h : 0 ≤ x) : (x / nI b).toInt = x.toInt / (b : Int) := by
  have h0 : 0 ≤ x.toInt := Int32.le_iff_toInt_le.mp h
  have h1 := nI_toInt (n := b) (by omega)
  rw [Int32.toInt_div_of_ne_right _ _ (by
    intro e
    have := congrArg Int32.toInt e
    rw [h1] at this
    have h9 : (-1 : Int32).toInt = -1 := rfl
    omega), h1]
  exact Int.tdiv_eq_ediv_of_nonneg h0
theorem jrem_b {x : Int32} {b : Nat} (hb : 0 < b) (hb2 : b < 2147483648) (h : 0 ≤ x) : 0 ≤ jrem x (nI b) ∧ jrem x (nI b) ≤ nI (b - 1) := by
  have h0 : 0 ≤ x.toInt := Int32.le_iff_toInt_le.mp h
  have h1 := nI_toInt (n := b) (by omega)
  have h2 := div_b hb hb2 h
  have h3 := x.toInt_lt
  have hd : (x.toInt / (b : Int)) * b ≤ x.toInt := Int.ediv_mul_le _ (by omega)
  have hd0 : 0 ≤ x.toInt / (b : Int) := Int.ediv_nonneg h0 (by omega)
  have hd1 : 0 ≤ (x.toInt / (b : Int)) * b := Int.mul_nonneg hd0 (by omega)
  have hm := Int.emod_def x.toInt (b : Int)
  have hm1 := Int.emod_nonneg x.toInt (b := (b : Int)) (by omega)
  have hm2 := Int.emod_lt_of_pos x.toInt (b := (b : Int)) (by omega)
  have hc : (b : Int) * (x.toInt / (b : Int)) = (x.toInt / (b : Int)) * b := Int.mul_comm _ _
  have e : (jrem x (nI b)).toInt = x.toInt % (b : Int) := by
    unfold jrem
    rw [Int32.toInt_sub, Int32.toInt_mul, h2, h1, Int.bmod_eq_of_le (n := x.toInt / (b : Int) * b) (by omega) (by omega), Int.bmod_eq_of_le (by omega) (by omega)]
    omega
  have h5 : (0 : Int32).toInt = 0 := rfl
  have h6 := nI_toInt (n := b - 1) (by omega)
  exact ⟨Int32.le_iff_toInt_le.mpr (by omega), Int32.le_iff_toInt_le.mpr (by omega)⟩
theorem jr100 {x : Int32} (h : 0 ≤ x) : 0 ≤ jrem x 100 ∧ jrem x 100 ≤ 99 := jrem_b (b := 100) (by omega) (by omega) h
theorem jr9 {x : Int32} (h : 0 ≤ x) : 0 ≤ jrem x 9 ∧ jrem x 9 ≤ 8 := jrem_b (b := 9) (by omega) (by omega) h
theorem jr1000 {x : Int32} (h : 0 ≤ x) : 0 ≤ jrem x 1000 ∧ jrem x 1000 ≤ 999 := jrem_b (b := 1000) (by omega) (by omega) h
theorem div_r {x : Int32} {b c d : Nat} (hb : 0 < b) (hb2 : b < 2147483648) (hc : c < 2147483648) (h : 0 ≤ x) (h2 : x ≤ nI c) (hd : c / b ≤ d) (hd2 : d < 2147483648) : 0 ≤ x / nI b ∧ x / nI b ≤ nI d := by
  have h0 : 0 ≤ x.toInt := Int32.le_iff_toInt_le.mp h
  have h1 : x.toInt ≤ (nI c).toInt := Int32.le_iff_toInt_le.mp h2
  have hc1 := nI_toInt (n := c) (by omega)
  have hd1 := nI_toInt (n := d) (by omega)
  have e := div_b hb hb2 h
  have h5 : (0 : Int32).toInt = 0 := rfl
  have q0 : 0 ≤ x.toInt / (b : Int) := Int.ediv_nonneg h0 (by omega)
  have q1 : x.toInt / (b : Int) ≤ (c : Int) / (b : Int) := Int.ediv_le_ediv (by omega) (by omega)
  have q2 : (c : Int) / (b : Int) = ((c / b : Nat) : Int) := rfl
  exact ⟨Int32.le_iff_toInt_le.mpr (by omega), Int32.le_iff_toInt_le.mpr (by omega)⟩
theorem dv100 {x : Int32} (h : 0 ≤ x) (h2 : x ≤ 999) : 0 ≤ x / 100 ∧ x / 100 ≤ 9 := div_r (b := 100) (c := 999) (d := 9) (by omega) (by omega) (by omega) h h2 (by omega) (by omega)
theorem dv4 {x : Int32} (h : 0 ≤ x) (h2 : x ≤ 7) : 0 ≤ x / 4 ∧ x / 4 ≤ 1 := div_r (b := 4) (c := 7) (d := 1) (by omega) (by omega) (by omega) h h2 (by omega) (by omega)
theorem dv4000 {x : Int32} (h : 0 ≤ x) (h2 : x ≤ 7999) : 0 ≤ x / 4000 ∧ x / 4000 ≤ 1 := div_r (b := 4000) (c := 7999) (d := 1) (by omega) (by omega) (by omega) h h2 (by omega) (by omega)
/-! rows of the class -/
def hiR (i : Nat) : Int32 := if i = 2 then 7999 else if i = 3 then 7 else 999
def RK (i : Nat) (ρ : RS) : Prop := 0 ≤ ρ.2 ∧ ρ.2 ≤ nI (cap i) ∧ ∀ j, 0 ≤ ρ.1 j ∧ ρ.1 j ≤ hiR i
theorem capN (i : Nat) : nI (cap i) ≤ 20 ∧ 10 ≤ nI (cap i) ∧ cap i ≤ 20 ∧ (nI (cap i)).toInt = (cap i : Int) := by
  refine ⟨?_, ?_, ?_, nI_toInt (by simp only [cap]; split <;> (try split) <;> omega)⟩ <;> (simp only [cap]; split <;> (try split) <;> decide)
theorem hiR0 (i : Nat) : 7 ≤ hiR i ∧ hiR i ≤ 7999 := by
  simp only [hiR]; split <;> (try split) <;> decide
section ROWS
variable {i : Nat} {ρ : RS}
theorem RK.hi (h : RK i ρ) : ρ.2 ≤ 20 := by
  have h1 := h.2.1
  have h2 := (capN i).1
  exact Int32.le_trans h1 h2
theorem ok_X0_size (h : RK i ρ) : Ok (f_X0_size (cap i) ρ) fun r => r = ρ.2 ∧ 0 ≤ r ∧ r ≤ 20 := ok_some ⟨rfl, h.1, h.hi⟩
theorem ok_X0_isEmpty (h : RK i ρ) : Ok (f_X0_isEmpty (cap i) ρ) fun r => True := by
  unfold f_X0_isEmpty
  exact ok_if (fun _ => ok_some trivial) (fun _ => ok_some trivial)
theorem ok_X0_isFull (h : RK i ρ) : Ok (f_X0_isFull (cap i) ρ) fun r => r = 0 → ρ.2 < nI (cap i) := by
  unfold f_X0_isFull
  exact ok_if (fun h => ok_some fun _ => h) (fun _ => ok_some fun h => by cases h)
theorem idx_in {x : Int32} {i : Nat} (h : ¬ x < 0) (h2 : ¬ nI (cap i) ≤ x) : ¬ (x < 0 ∨ cap i ≤ x.toNatClampNeg) := by
  have h3 := (capN i).2.2.2
  have h4 : ¬ (nI (cap i)).toInt ≤ x.toInt := fun e => h2 (Int32.le_iff_toInt_le.mpr e)
  intro e
  cases e with
  | inl e => exact h e
  | inr e =>
    have h5 : x.toNatClampNeg = x.toInt.toNat := rfl
    have : ¬ x.toInt < (0 : Int32).toInt := fun e => h (Int32.lt_iff_toInt_lt.mpr e)
    have h6 : (0 : Int32).toInt = 0 := rfl
    omega
theorem ok_X0_read (h : RK i ρ) (x : Int32) : Ok (f_X0_read (cap i) ρ x) fun r => 0 ≤ r ∧ r ≤ hiR i := by
  have q := hiR0 i
  unfold f_X0_read
  refine ok_if (fun _ => ok_some (by (first | assumption | trivial | grind))) fun h1 => ok_if (fun _ => ok_some (by (first | assumption | trivial | grind))) fun h2 => ok_if (fun _ => ok_some (by (first | assumption | trivial | grind))) fun h3 => ok_no (idx_in h1 h3) (ok_some (h.2.2 _))
theorem ok_X0_overwrite (h : RK i ρ) (x v : Int32) (hv : 0 ≤ v ∧ v ≤ hiR i) : Ok (f_X0_overwrite (cap i) ρ x v) fun r => RK i r ∧ r.2 = ρ.2 := by
  unfold f_X0_overwrite
  refine ok_if (fun _ => ok_some ⟨h, rfl⟩) fun h1 => ok_if (fun _ => ok_some ⟨h, rfl⟩) fun h2 => ok_if (fun _ => ok_some ⟨h, rfl⟩) fun h3 => ok_no (idx_in h1 h3) (ok_nm _ ?_ fun r hr => ok_some hr)
  refine ⟨⟨h.1, h.2.1, fun j => ?_⟩, rfl⟩
  show 0 ≤ upd _ _ _ j ∧ upd _ _ _ j ≤ _
  unfold upd
  split
  · exact hv
  · exact h.2.2 j
theorem ok_X0_readFrom (h : RK i ρ) (x1 x2 : Int32) : Ok (f_X0_readFrom (cap i) ρ x1 x2) fun r => 0 ≤ r ∧ r ≤ hiR i := by
  unfold f_X0_readFrom f_X0_readFrom_17
  exact ok_if (fun _ => ok_bind (ok_X0_read h _) fun z hz => ok_some hz) (fun _ => ok_bind (ok_X0_read h _) fun z hz => ok_some hz)
theorem ok_X0_enter (h : RK i ρ) (x1 x2 : Int32) (hv : 0 ≤ x2 ∧ x2 ≤ hiR i) : Ok (f_X0_enter (cap i) ρ x1 x2) (RK i) := by
  have q := capN i
  have h9 := h.hi
  obtain ⟨g1, g2, g3⟩ := id h
  unfold f_X0_enter
  refine ok_bind (ok_X0_isFull h) fun z hz => ok_if (fun e => ?_) (fun _ => ok_some h)
  refine ok_if (fun _ => ok_some h) fun h1 => ok_if (fun h2 => ?_) (fun _ => ok_some h)
  have h3 := hz e
  refine ok_nm (RK i) ⟨by (first | assumption | trivial | grind), by (first | assumption | trivial | grind), g3⟩ fun t ht => ok_nm (fun y => -1 ≤ y ∧ y ≤ 19) (by have := ht.1; have := ht.hi; (first | assumption | trivial | grind)) fun y hy => ?_
  refine lpn64 (fun N t => RK i t.1 ∧ 0 ≤ t.2.1 ∧ 0 ≤ t.2.2.1 ∧ t.2.2.1 ≤ hiR i ∧ -1 ≤ t.2.2.2 ∧ t.2.2.2 + 1 ≤ N ∧ t.2.2.2 ≤ 19) ?_ ⟨ht, by (first | assumption | trivial | grind), hv.1, hv.2, hy.1, by (first | assumption | trivial | grind), by (first | assumption | trivial | grind)⟩
  intro N k a hN hN2 ha hk
  obtain ⟨a1, a2, a3, a4, a5, a6, a7⟩ := ha
  unfold f_X0_enter_37
  refine ok_if (fun _ => ok_bind (ok_X0_overwrite a1 _ _ ⟨a3, a4⟩) fun z hz => ok_some hz.1) fun c => ?_
  refine ok_bind (ok_X0_read a1 _) fun z hz => ok_bind (ok_X0_overwrite a1 _ _ hz) fun z2 hz2 => ok_nme fun y hy => ?_
  refine hk _ (by (first | assumption | trivial | grind)) ⟨hz2.1, a2, a3, a4, ?_, ?_, ?_⟩ <;> (show _ ≤ _; dsimp only; (first | assumption | trivial | grind))
theorem ok_X0_enterLast (h : RK i ρ) (x1 : Int32) (hv : 0 ≤ x1 ∧ x1 ≤ hiR i) : Ok (f_X0_enterLast (cap i) ρ x1) (RK i) := by
  unfold f_X0_enterLast
  exact ok_bind (ok_X0_enter h _ _ hv) fun z hz => ok_some hz
theorem ok_X0_leave (h : RK i ρ) (x1 : Int32) : Ok (f_X0_leave (cap i) ρ x1) fun r => (0 ≤ r.1 ∧ r.1 ≤ hiR i) ∧ RK i r.2 := by
  have q := capN i
  have q2 := hiR0 i
  have h9 := h.hi
  unfold f_X0_leave
  refine ok_if (fun _ => ok_some ⟨by (first | assumption | trivial | grind), h⟩) fun h1 => ok_if (fun h2 => ?_) (fun _ => ok_some ⟨by (first | assumption | trivial | grind), h⟩)
  refine ok_bind (ok_X0_read h _) fun z hz => ?_
  refine lpn64 (fun N t => RK i t.1 ∧ 1 ≤ t.1.2 ∧ (0 ≤ t.2.1 ∧ t.2.1 ≤ hiR i) ∧ 0 ≤ t.2.2 ∧ t.2.2 ≤ 20 ∧ 20 ≤ t.2.2 + N) ?_ ⟨h, by (first | assumption | trivial | grind), hz, by (first | assumption | trivial | grind), by (first | assumption | trivial | grind), by (first | assumption | trivial | grind)⟩
  intro N k a hN hN2 ha hk
  obtain ⟨a1, a2, a3, a4, a5, a6⟩ := ha
  have a9 := a1.hi
  unfold f_X0_leave_22
  refine ok_if (fun _ => ?_) fun c => ?_
  · refine ok_nm (RK i) ⟨?_, ?_, a1.2.2⟩ fun r hr => ok_some ⟨a3, hr⟩
    · dsimp only; (first | assumption | trivial | grind)
    · have := a1.2.1
      dsimp only; (first | assumption | trivial | grind)
  · refine ok_bind (ok_X0_read a1 _) fun z hz => ok_bind (ok_X0_overwrite a1 _ _ hz) fun z2 hz2 => ok_nme fun y hy => ?_
    refine hk _ (by (first | assumption | trivial | grind)) ⟨hz2.1, ?_, a3, ?_, ?_, ?_⟩
    · show _ ≤ z2.2; rw [hz2.2]; exact a2
    · dsimp only; (first | assumption | trivial | grind)
    · dsimp only; (first | assumption | trivial | grind)
    · dsimp only; (first | assumption | trivial | grind)
theorem ok_X0_empty (h : RK i ρ) : Ok (f_X0_empty (cap i) ρ) (RK i) := by
  unfold f_X0_empty
  refine ok_nm (RK i) ⟨by (first | assumption | trivial | grind), ?_, h.2.2⟩ fun r hr => ok_some hr
  have := (capN i).2.1
  dsimp only; (first | assumption | trivial | grind)
theorem ok_X0_endPlace (h : RK i ρ) (x1 : Int32) : Ok (f_X0_endPlace (cap i) ρ x1) fun r => True := by
  unfold f_X0_endPlace f_X0_endPlace_11
  exact ok_if (fun _ => ok_if (fun _ => ok_some trivial) (fun _ => ok_some trivial)) (fun _ => ok_some trivial)
theorem ok_X0_placeOf (h : RK i ρ) (x1 x2 : Int32) : Ok (f_X0_placeOf (cap i) ρ x1 x2) fun r => True := by
  have h9 := h.hi
  unfold f_X0_placeOf
  refine lpn64 (fun N t => 0 ≤ t.2.2.2 ∧ t.2.2.2 ≤ 20 ∧ 20 ≤ t.2.2.2 + N) ?_ ⟨by (first | assumption | trivial | grind), by (first | assumption | trivial | grind), by (first | assumption | trivial | grind)⟩
  intro N k a hN hN2 ha hk
  obtain ⟨a1, a2, a3⟩ := ha
  unfold f_X0_placeOf_5 f_X0_placeOf_33 f_X0_placeOf_36
  refine ok_if (fun _ => ok_some trivial) fun c => ok_bind (ok_X0_read h _) fun z hz => ?_
  repeat' apply ok_if
  all_goals (intro _; try (apply ok_if <;> intro _))
  all_goals try (apply ok_if <;> intro _)
  all_goals (refine ok_nme fun y hy => hk _ (by (first | assumption | trivial | grind)) ⟨?_, ?_, ?_⟩ <;> (dsimp only; (first | assumption | trivial | grind)))
theorem ok_X3_kindOf (x1 : Int32) : Ok (f_X3_kindOf x1) fun r => 0 ≤ x1 → x1 ≤ 999 → 0 ≤ r ∧ r ≤ 9 := ok_some fun h h2 => dv100 h h2
theorem ok_X0_placeOfKind (h : RK i ρ) (x1 x2 : Int32) : Ok (f_X0_placeOfKind (cap i) ρ x1 x2) fun r => True := by
  have h9 := h.hi
  unfold f_X0_placeOfKind
  refine lpn64 (fun N t => 0 ≤ t.2.2.2 ∧ t.2.2.2 ≤ 20 ∧ 20 ≤ t.2.2.2 + N) ?_ ⟨by (first | assumption | trivial | grind), by (first | assumption | trivial | grind), by (first | assumption | trivial | grind)⟩
  intro N k a hN hN2 ha hk
  obtain ⟨a1, a2, a3⟩ := ha
  unfold f_X0_placeOfKind_5 f_X0_placeOfKind_36 f_X0_placeOfKind_39
  refine ok_if (fun _ => ok_some trivial) fun c => ok_bind (ok_X0_read h _) fun z hz => ok_bind (ok_X3_kindOf _) fun z2 hz2 => ?_
  repeat' apply ok_if
  all_goals (intro _; try (apply ok_if <;> intro _))
  all_goals try (apply ok_if <;> intro _)
  all_goals (refine ok_nme fun y hy => hk _ (by (first | assumption | trivial | grind)) ⟨?_, ?_, ?_⟩ <;> (dsimp only; (first | assumption | trivial | grind)))
end ROWS
/-! the yard -/
def IK (k : Int32) (σ : CS) : Prop := (∀ i, i < 7 → RK i (σ.1 i)) ∧ σ.2 0 = k
theorem IK.r {k : Int32} {σ : CS} (h : IK k σ) {i : Nat} (hi : i < 7) : RK i (σ.1 i) := h.1 i hi
theorem IK.row {k : Int32} {σ : CS} (h : IK k σ) {i : Nat} {ρ : RS} (hr : RK i ρ) : IK k (va_up σ.1 i ρ, σ.2) := by
  refine ⟨fun j hj => ?_, h.2⟩
  show RK j (va_up σ.1 i ρ j)
  by_cases e : j = i
  · subst e; rw [up_eq]; exact hr
  · rw [up_ne e]; exact h.1 j hj
theorem IK.sc {k : Int32} {σ : CS} (h : IK k σ) {b n : Nat} {w : Nat → Int32} (hb : 1 ≤ b) : IK k (σ.1, scUp σ.2 b n w) := by
  refine ⟨h.1, ?_⟩
  show scUp σ.2 b n w 0 = k
  unfold scUp
  rw [if_neg (by omega)]
  exact h.2
