/-! the model: loops told by natural numbers -/
section OKN
variable {k : Int32} {τ : MS}
theorem nI_lei {a b : Nat} (ha : a < 2147483648) (hb : b < 2147483648) : nI a ≤ nI b ↔ a ≤ b := by
  have h1 := nI_toInt (n := a) (by omega)
  have h2 := nI_toInt (n := b) (by omega)
  constructor
  · intro h
    have := Int32.le_iff_toInt_le.mp h
    omega
  · intro h
    exact Int32.le_iff_toInt_le.mpr (by omega)
theorem nI_lti {a b : Nat} (ha : a < 2147483648) (hb : b < 2147483648) : nI a < nI b ↔ a < b := by
  have h1 := nI_toInt (n := a) (by omega)
  have h2 := nI_toInt (n := b) (by omega)
  constructor
  · intro h
    have := Int32.lt_iff_toInt_lt.mp h
    omega
  · intro h
    exact Int32.lt_iff_toInt_lt.mpr (by omega)
theorem nI_eqi {a b : Nat} (ha : a < 2147483648) (hb : b < 2147483648) : nI a = nI b ↔ a = b := by
  have h1 := nI_toInt (n := a) (by omega)
  have h2 := nI_toInt (n := b) (by omega)
  constructor
  · intro h
    rw [h] at h1
    omega
  · intro h
    rw [h]
theorem nI_suc {a : Nat} (h : a + 1 < 2147483648) : nI a + 1 = nI (a + 1) := by
  have := nI_dec (m := a) h
  rw [← this]
  exact Int32.sub_add_cancel _ _
theorem nI_prd {a : Nat} (h : 1 ≤ a) (h2 : a < 2147483648) : nI a - 1 = nI (a - 1) := by
  have := nI_dec (m := a - 1) (by omega)
  rw [show a - 1 + 1 = a by omega] at this
  exact this
theorem nI_prd2 {a : Nat} (h : 1 ≤ a) (h2 : a < 2147483648) : nI a + (-1) = nI (a - 1) := by
  rw [← nI_prd h h2]
  exact (Int32.sub_eq_add_neg _ _).symm
theorem nI_sum {a b : Nat} (h : a + b < 2147483648) : nI a + nI b = nI (a + b) := by
  apply Int32.toInt_inj.mp
  rw [Int32.toInt_add, nI_toInt (by omega), nI_toInt (by omega), nI_toInt (by omega), Int.bmod_eq_of_le (by omega) (by omega)]
  omega
theorem nI_dif {a b : Nat} (h : b ≤ a) (h2 : a < 2147483648) : nI a - nI b = nI (a - b) := by
  apply Int32.toInt_inj.mp
  rw [Int32.toInt_sub, nI_toInt (by omega), nI_toInt (by omega), nI_toInt (by omega), Int.bmod_eq_of_le (by omega) (by omega)]
  omega
theorem nI_nn {a : Nat} (h : a < 2147483648) : ¬ nI a < 0 := by
  intro e
  have h1 := nI_toInt (n := a) (by omega)
  have h2 := Int32.lt_iff_toInt_lt.mp e
  have h3 : (0 : Int32).toInt = 0 := rfl
  omega
theorem nI_n1 {a : Nat} (h : a < 2147483648) : ¬ nI a = -1 := by
  intro e
  have h1 := nI_toInt (n := a) (by omega)
  have h3 : (-1 : Int32).toInt = -1 := rfl
  rw [e] at h1
  omega
theorem nIof {x : Int32} {b : Nat} (hb : b < 2147483648) (h0 : 0 ≤ x) (h1 : x ≤ nI b) : ∃ v, v ≤ b ∧ x = nI v := by
  have h2 := Int32.le_iff_toInt_le.mp h0
  have h3 := Int32.le_iff_toInt_le.mp h1
  have h4 := nI_toInt (n := b) (by omega)
  have h5 : (0 : Int32).toInt = 0 := rfl
  refine ⟨x.toInt.toNat, by omega, ?_⟩
  apply Int32.toInt_inj.mp
  rw [nI_toInt (by omega)]
  omega
theorem up_loop {α β : Type} {Q : α → Prop} {st : (β → Option α) → β → Option α} (I : Nat → β → Prop) (n : Nat) (h : ∀ k a j, j ≤ n → I j a → (∀ b, j < n → I (j + 1) b → Ok (k b) Q) → Ok (st k a) Q) : ∀ (d j : Nat) (a : β), j + d = n → I j a → ∀ f, d < f → Ok (lpn st f a) Q := by
  intro d
  induction d with
  | zero =>
    intro j a hj ha f hf
    obtain ⟨f, rfl⟩ : ∃ f', f = f' + 1 := ⟨f - 1, by omega⟩
    exact h _ a j (by omega) ha fun b hlt _ => absurd hlt (by omega)
  | succ d ih =>
    intro j a hj ha f hf
    obtain ⟨f, rfl⟩ : ∃ f', f = f' + 1 := ⟨f - 1, by omega⟩
    exact h _ a j (by omega) ha fun b hlt hb => ih (j + 1) b (by omega) hb f (by omega)
theorem up24 {α β : Type} {Q : α → Prop} {st : (β → Option α) → β → Option α} (I : Nat → β → Prop) (n : Nat) (hn : n < 24) (h : ∀ k a j, j ≤ n → I j a → (∀ b, j < n → I (j + 1) b → Ok (k b) Q) → Ok (st k a) Q) {a : β} (ha : I 0 a) : Ok (lpn st 24 a) Q := up_loop I n h n 0 a (by omega) ha 24 (by omega)
theorem trk_ok {x : Int32} (p : x = 0 ∨ x = 1) : ∃ j, j < 2 ∧ (x = 0 ∧ j = 0 ∨ x = 1 ∧ j = 1) ∧ gtr x = some j := gwk_ok p
theorem IB.lenj (hb : IB k τ) {j : Nat} (hj : j < 2) : (τ.1 j).length ≤ 20 := Nat.le_trans (hb.l (i := j) (by omega)).1 (capn j)
theorem sizeN {x : Int32} {j : Nat} (hg : gtr x = some j) : f_X6_size τ x = some (nI (τ.1 j).length) := by
  unfold f_X6_size
  rw [hg]; rfl
theorem lgetN {xs : List Int32} {i : Nat} (hi : i < xs.length) (h : xs.length < 2147483648) : lget xs (nI i) = some (xs.getD i 0) := by
  unfold lget
  have e : (nI i).toNatClampNeg = i := by
    have := nI_toInt (n := i) (by omega)
    show (nI i).toInt.toNat = i
    omega
  rw [e, if_neg]
  rintro (h1 | h1)
  · exact nI_nn (by omega) h1
  · omega
theorem ldelN {xs : List Int32} {i : Nat} (hi : i < xs.length) (h : xs.length < 2147483648) : ldel xs (nI i) = some (delAt xs i) := by
  unfold ldel
  have e : (nI i).toNatClampNeg = i := by
    have := nI_toInt (n := i) (by omega)
    show (nI i).toInt.toNat = i
    omega
  rw [e, if_neg]
  rintro (h1 | h1)
  · exact nI_nn (by omega) h1
  · omega
theorem getN {x : Int32} {j i : Nat} (hg : gtr x = some j) (hi : i < (τ.1 j).length) (h : (τ.1 j).length ≤ 20) : f_X6_get τ x (nI i) = some ((τ.1 j).getD i 0) := by
  unfold f_X6_get
  rw [hg]
  show (lget (τ.1 j) (nI i)).bind _ = _
  rw [lgetN hi (by omega)]; rfl
theorem IB.code (hb : IB k τ) {j : Nat} (hj : j < 2) (i : Nat) : 0 ≤ (τ.1 j).getD i 0 ∧ (τ.1 j).getD i 0 ≤ 999 := by
  have h := (hb.l (i := j) (by omega)).getD i
  have e : hiR j = 999 := by unfold hiR; rw [if_neg (by omega), if_neg (by omega)]
  rw [e] at h; exact h
theorem goN (hb : IB k τ) (hw : WK τ) {x : Int32} {j i : Nat} (hj : j < 2) (hx : x = 0 ∧ j = 0 ∨ x = 1 ∧ j = 1) (hi : i < (τ.1 j).length) : Ok (f_X6_go τ x (nI i)) fun r => (IB k r.2 ∧ WK r.2 ∧ (0 ≤ r.1 ∧ r.1 ≤ 999) ∧ r.2.2 0 = τ.2 0) ∧ (r.2.1 j).length + 1 = (τ.1 j).length ∧ ∀ q, q ≠ j → r.2.1 q = τ.1 q := by
  have hl := hb.lenj hj
  have p : x = 0 ∨ x = 1 := by rcases hx with h | h <;> simp [h.1]
  refine ok_mono (go0 hb hw x (nI i) p (nI_bnd (b := 20) (by omega) (by omega)).1 ?_) fun r h => ?_
  · rcases hx with ⟨h1, h2⟩ | ⟨h1, h2⟩ <;> subst h1 h2
    · exact (nI_lti (by omega) (by omega)).mpr hi
    · exact (nI_lti (by omega) (by omega)).mpr hi
  · obtain ⟨⟨h1, h2, h3, h4, h5, h6⟩, h7⟩ := h
    refine ⟨⟨h1, h2, h7, h3⟩, ?_⟩
    rcases hx with ⟨e1, e2⟩ | ⟨e1, e2⟩ <;> subst e1 e2
    · obtain ⟨a, b⟩ := h5 rfl
      refine ⟨a, fun q hq => ?_⟩
      rcases (by omega : q = 1 ∨ 2 ≤ q) with e | e
      · subst e; exact b
      · exact h4 q e
    · obtain ⟨a, b⟩ := h6 rfl
      refine ⟨a, fun q hq => ?_⟩
      rcases (by omega : q = 0 ∨ 2 ≤ q) with e | e
      · subst e; exact b
      · exact h4 q e
theorem comeN (hb : IB k τ) (hw : WK τ) {x v : Int32} {j i : Nat} (hj : j < 2) (hx : x = 0 ∧ j = 0 ∨ x = 1 ∧ j = 1) (hi : i ≤ (τ.1 j).length) (hl : (τ.1 j).length < 20) (hv : 0 ≤ v ∧ v ≤ 999) : Ok (f_X6_come τ x (nI i) v) fun r => (IB k r ∧ WK r ∧ r.2 0 = τ.2 0) ∧ (r.1 j).length = (τ.1 j).length + 1 ∧ ∀ q, q ≠ j → r.1 q = τ.1 q := by
  have p : x = 0 ∨ x = 1 := by rcases hx with h | h <;> simp [h.1]
  refine ok_mono (come0 hb hw x (nI i) v p (nI_bnd (b := 20) (by omega) (by omega)).1 ?_ ?_ hv) fun r h => ?_
  · rcases hx with ⟨h1, h2⟩ | ⟨h1, h2⟩ <;> subst h1 h2
    · exact (nI_lei (by omega) (by omega)).mpr hi
    · exact (nI_lei (by omega) (by omega)).mpr hi
  · rcases hx with ⟨h1, h2⟩ | ⟨h1, h2⟩ <;> subst h1 h2
    · exact (nI_lti (b := 20) (by omega) (by omega)).mpr hl
    · exact (nI_lti (b := 20) (by omega) (by omega)).mpr hl
  · obtain ⟨h1, h2, h3, h4, h5, h6⟩ := h
    refine ⟨⟨h1, h2, h3⟩, ?_⟩
    rcases hx with ⟨e1, e2⟩ | ⟨e1, e2⟩ <;> subst e1 e2
    · obtain ⟨a, b⟩ := h5 rfl
      refine ⟨a, fun q hq => ?_⟩
      rcases (by omega : q = 1 ∨ 2 ≤ q) with e | e
      · subst e; exact b
      · exact h4 q e
    · obtain ⟨a, b⟩ := h6 rfl
      refine ⟨a, fun q hq => ?_⟩
      rcases (by omega : q = 0 ∨ 2 ≤ q) with e | e
      · subst e; exact b
      · exact h4 q e
/-! refusals, in short -/
theorem ok_start (hb : IB k τ) (hw : WK τ) (hu : UT τ) {x1 x2 : Int32} (p : 1 ≤ x2) {f : Int32 × MS → Option (Int32 × MS)} (h0 : ∀ s, x1 = 0 → s.1 = τ.1 → s.2 0 = 0 → (∀ j, j ≠ 0 → s.2 j = τ.2 j) → IB k s → WK s → UT s → Ok (f (0, s)) (KQ k)) (h1 : ∀ s, IB k s → WK s → UT s → Ok (f (1, s)) (KQ k)) : Ok ((f_X6_start τ x1 x2).bind f) (KQ k) := by
  refine ok_bind (ok_X6_start hb hw hu x1 x2 p) fun z hz => ?_
  obtain ⟨⟨o, i⟩, ⟨l, s⟩, b, w, u⟩ := hz
  obtain ⟨z1, z2⟩ := z
  rcases o with o | o
  · have o : z1 = 0 := o
    subst o
    obtain ⟨i1, i2⟩ := i rfl
    exact h0 z2 i1 l i2 s b w u
  · have o : z1 = 1 := o
    subst o
    exact h1 z2 b w u
theorem ok_refuse (hb : IB k τ) (hw : WK τ) (hu : UT τ) {x1 x2 : Int32} (q : τ.2 0 = 0) (p : 1 ≤ x2) {f : Int32 × MS → Option (Int32 × MS)} (h0 : ∀ s, x1 = 0 → s.1 = τ.1 → s.2 0 = 0 → (∀ j, j ≠ 0 → s.2 j = τ.2 j) → IB k s → WK s → UT s → Ok (f (0, s)) (KQ k)) (h1 : ∀ s, IB k s → WK s → UT s → Ok (f (1, s)) (KQ k)) : Ok ((f_X6_refuse τ x1 x2).bind f) (KQ k) := by
  refine ok_bind (ok_X6_refuse hb hw hu x1 x2 q p) fun z hz => ?_
  obtain ⟨⟨o, i⟩, ⟨l, s⟩, b, w, u⟩ := hz
  obtain ⟨z1, z2⟩ := z
  rcases o with o | o
  · have o : z1 = 0 := o
    subst o
    obtain ⟨i1, i2⟩ := i rfl
    exact h0 z2 i1 l i2 s b w u
  · have o : z1 = 1 := o
    subst o
    exact h1 z2 b w u
theorem kq {r : Int32} {s : MS} (b : IB k s) (w : WK s) (u : UT s) : Ok (some (r, s)) (KQ k) := ok_some ⟨b, w, u⟩
theorem ok_ev {α β : Type} {o : Option β} {v : β} {f : β → Option α} {Q : α → Prop} (e : o = some v) (h : Ok (f v) Q) : Ok (o.bind f) Q := by rw [e]; exact h
theorem ok_t {α : Type} {c : Prop} [Decidable c] {a b : Option α} {Q : α → Prop} (hc : c) (h : Ok a Q) : Ok (if c then a else b) Q := by rw [if_pos hc]; exact h
theorem ok_f {α : Type} {c : Prop} [Decidable c] {a b : Option α} {Q : α → Prop} (hc : ¬ c) (h : Ok b Q) : Ok (if c then a else b) Q := by rw [if_neg hc]; exact h
/-! found -/
theorem ok_found (hb : IB k τ) {x1 : Int32} {j : Nat} (hj : j < 2) (hg : gtr x1 = some j) (x2 x3 : Int32) : Ok (f_X6_found τ x1 x2 x3) fun r => r = -1 ∨ ∃ i, i < (τ.1 j).length ∧ r = nI i := by
  have hl := hb.lenj hj
  unfold f_X6_found
  refine up24 (fun m t => t.1 = x1 ∧ t.2.2.2.2 = nI m ∧ (t.2.2.2.1 = -1 ∨ ∃ i, i < (τ.1 j).length ∧ t.2.2.2.1 = nI i)) (τ.1 j).length (by omega) ?_ ⟨rfl, rfl, Or.inl rfl⟩
  rintro kk ⟨v1, v2, v3, v4, v5⟩ m hm ⟨a1, a2, a3⟩ hk
  dsimp only at a1 a2 a3
  subst a1 a2
  have c44 : m < (τ.1 j).length → ∀ w, (w = -1 ∨ ∃ i, i < (τ.1 j).length ∧ w = nI i) → Ok (f_X6_found_44 τ kk v1 v2 v3 w (nI m)) fun r => r = -1 ∨ ∃ i, i < (τ.1 j).length ∧ r = nI i := by
    intro hm w hw
    unfold f_X6_found_44
    exact ok_nme fun y hy => hk _ hm ⟨rfl, by rw [hy]; exact nI_suc (by omega), hw⟩
  unfold f_X6_found_6
  refine ok_ev (sizeN hg) (ok_if (fun _ => ok_some a3) fun c => ?_)
  have hm : m < (τ.1 j).length := by
    have := mt (nI_lei (a := (τ.1 j).length) (b := m) (by omega) (by omega)).mpr c
    omega
  have c40 : Ok (f_X6_found_40 τ kk v1 v2 v3 (nI m)) fun r => r = -1 ∨ ∃ i, i < (τ.1 j).length ∧ r = nI i := c44 hm _ (Or.inr ⟨m, hm, rfl⟩)
  refine ok_ev (getN hg hm hl) (ok_bind (P := fun _ => True) (ok_some trivial) fun z _ => ?_)
  exact ok_if (fun _ => ok_if (fun _ => ok_if (fun _ => c40) fun _ => c44 hm _ a3) fun _ => c40) fun _ => c44 hm _ a3
theorem ok_X6_found (hb : IB k τ) (x1 x2 x3 : Int32) (p0 : x1 = 0 ∨ x1 = 1) : Ok (f_X6_found τ x1 x2 x3) fun _ => True := by
  obtain ⟨j, hj, -, hg⟩ := trk_ok p0
  exact ok_mono (ok_found hb hj hg x2 x3) fun _ _ => trivial
theorem ok_isNoKind (hb : IB k τ) (hw : WK τ) (hu : UT τ) {x1 x2 : Int32} {f : Int32 × MS → Option (Int32 × MS)} (h0 : ∀ s, (x1 = 0 ∨ x1 = 1) → s.1 = τ.1 → IB k s → WK s → UT s → Ok (f (0, s)) (KQ k)) (h1 : ∀ s, IB k s → WK s → UT s → Ok (f (1, s)) (KQ k)) : Ok ((f_X6_isNoKind τ x1 x2).bind f) (KQ k) := by
  have key : Ok (f_X6_isNoKind τ x1 x2) fun r => (r.1 = 0 ∨ r.1 = 1) ∧ (r.1 = 0 → (x1 = 0 ∨ x1 = 1) ∧ r.2.1 = τ.1) ∧ IB k r.2 ∧ WK r.2 ∧ UT r.2 := by
    unfold f_X6_isNoKind
    refine ok_bind (ok_X6_isNoTrack _) fun z hz => ok_bind (ok_X6_start hb hw hu _ _ (by decide)) fun z2 hz2 => ?_
    obtain ⟨⟨-, i⟩, ⟨l, -⟩, b, w, u⟩ := hz2
    have e43 : Ok (f_X6_isNoKind_43 z2.2) fun r => (r.1 = 0 ∨ r.1 = 1) ∧ (r.1 = 0 → (x1 = 0 ∨ x1 = 1) ∧ r.2.1 = τ.1) ∧ IB k r.2 ∧ WK r.2 ∧ UT r.2 := ok_some ⟨Or.inr rfl, fun e => absurd e (show ¬ (1 : Int32) = 0 by decide), b, w, u⟩
    refine ok_if (fun c => ?_) fun c => e43
    obtain ⟨i0, i1⟩ := i c
    have p := hz i0
    have e36 : ∀ v, Ok (f_X6_isNoKind_36 z2.2 v) fun r => (r.1 = 0 ∨ r.1 = 1) ∧ (r.1 = 0 → (x1 = 0 ∨ x1 = 1) ∧ r.2.1 = τ.1) ∧ IB k r.2 ∧ WK r.2 ∧ UT r.2 := by
      intro v
      unfold f_X6_isNoKind_36
      refine ok_bind (ok_X6_refuse b w u _ _ i1 (by decide)) fun z3 hz3 => ?_
      obtain ⟨-, ⟨l3, -⟩, b3, w3, u3⟩ := hz3
      exact ok_if (fun _ => ok_some ⟨Or.inl rfl, fun _ => ⟨p, l3.trans l⟩, b3, w3, u3⟩) fun _ => ok_some ⟨Or.inr rfl, fun e => absurd e (show ¬ (1 : Int32) = 0 by decide), b3, w3, u3⟩
    exact ok_bind (ok_X6_isIn _ _ _) fun z4 _ => ok_if (fun _ => e36 _) fun _ => ok_if (fun _ => ok_if (fun _ => e36 _) fun _ => e36 _) fun _ => e36 _
  refine ok_bind key fun z hz => ?_
  obtain ⟨o, i, b, w, u⟩ := hz
  obtain ⟨z1, z2⟩ := z
  rcases o with o | o
  · have o : z1 = 0 := o
    subst o
    obtain ⟨i1, i2⟩ := i rfl
    exact h0 z2 i1 i2 b w u
  · have o : z1 = 1 := o
    subst o
    exact h1 z2 b w u
theorem ok_tear {f : MS → Option (Int32 × MS)} (hb : IB k τ) (hw : WK τ) (h : ∀ s, IB k s → WK s → UT s → s.1 0 = τ.1 0 → s.1 1 = τ.1 1 → s.2 = τ.2 → Ok (f s) (KQ k)) : Ok ((f_X6_tear τ).bind f) (KQ k) := by
  refine ok_bind (ok_X6_tear hb hw) fun z hz => ?_
  obtain ⟨b, w, u, e, e0, e1⟩ := hz
  exact h z b w u e0 e1 e
theorem ok_X6_drop (hb : IB k τ) (hw : WK τ) (hu : UT τ) (x1 x2 x3 : Int32) : Ok (f_X6_drop τ x1 x2 x3) (KQ k) := by
  unfold f_X6_drop
  refine ok_isNoKind hb hw hu (fun s p e b w u => ok_t rfl ?_) fun s b w u => ok_f (show ¬ (1 : Int32) = 0 by decide) (kq b w u)
  obtain ⟨j, hj, hx, hg⟩ := trk_ok p
  refine ok_bind (ok_found b hj hg _ _) fun z hz => ok_if (fun _ => kq b w u) fun c => ?_
  obtain ⟨i, hi, e⟩ := hz.resolve_left c
  rw [e]
  refine ok_bind (goN b w hj hx hi) fun z2 hz2 => ?_
  obtain ⟨⟨b2, w2, -, -⟩, -⟩ := hz2
  exact ok_tear b2 w2 fun s3 b3 w3 u3 _ _ _ => kq b3 w3 u3
theorem ok_X6_has (hb : IB k τ) (hw : WK τ) (hu : UT τ) (x1 x2 : Int32) : Ok (f_X6_has τ x1 x2) (KQ k) := by
  unfold f_X6_has
  refine ok_isNoKind hb hw hu (fun s p e b w u => ok_t rfl ?_) fun s b w u => ok_f (show ¬ (1 : Int32) = 0 by decide) (kq b w u)
  exact ok_bind (ok_X6_found b _ _ _ p) fun z hz => ok_if (fun _ => kq b w u) fun c => kq b w u
/-! taken off at an end -/
theorem ok_off (hb : IB k τ) (hw : WK τ) (hu : UT τ) (x1 x2 x3 : Int32) (p : x1 = 0 ∨ x1 = 1) : Ok (f_X6_off τ x1 x2 x3) (KQ k) := by
  unfold f_X6_off
  refine ok_bind (ok_X6_size hb _ p) fun z hz => ok_if (fun _ => kq hb hw hu) fun c => ?_
  have hz : z = TS τ x1 ∧ 0 ≤ z ∧ z ≤ 20 := hz
  refine ok_bind (ok_X6_stepOut hb hw hu _ _ p ?_) fun z2 hz2 => ok_some ⟨hz2.1, hz2.2.1, hz2.2.2.1⟩
  show 1 ≤ TS τ x1
  rw [← hz.1]
  have h0 := hz.2.1
  clear hz
  grind
theorem ok_X6_take (hb : IB k τ) (hw : WK τ) (hu : UT τ) (x1 x2 : Int32) : Ok (f_X6_take τ x1 x2) (KQ k) := by
  unfold f_X6_take
  refine ok_bind (ok_X6_isNoTrack _) fun z hz => ok_start hb hw hu (by decide) (fun s i e e0 en b w u => ok_t rfl ?_) fun s b w u => ok_f (show ¬ (1 : Int32) = 0 by decide) (kq b w u)
  exact ok_bind (ok_off b w u _ _ _ (hz i)) fun z2 hz2 => ok_some hz2
theorem ok_X6_poll (hb : IB k τ) (hw : WK τ) (hu : UT τ) (x1 x2 : Int32) : Ok (f_X6_poll τ x1 x2) (KQ k) := by
  unfold f_X6_poll
  refine ok_bind (ok_X6_isNoTrack _) fun z hz => ok_start hb hw hu (by decide) (fun s i e e0 en b w u => ok_t rfl ?_) fun s b w u => ok_f (show ¬ (1 : Int32) = 0 by decide) (kq b w u)
  exact ok_bind (ok_off b w u _ _ _ (hz i)) fun z2 hz2 => ok_some hz2
theorem ok_X6_pop (hb : IB k τ) (hw : WK τ) (hu : UT τ) (x1 : Int32) : Ok (f_X6_pop τ x1) (KQ k) := by
  unfold f_X6_pop
  refine ok_bind (ok_X6_isNoTrack _) fun z hz => ok_start hb hw hu (by decide) (fun s i e e0 en b w u => ok_t rfl ?_) fun s b w u => ok_f (show ¬ (1 : Int32) = 0 by decide) (kq b w u)
  exact ok_bind (ok_off b w u _ _ _ (hz i)) fun z2 hz2 => ok_some hz2
theorem ok_X6_serve (hb : IB k τ) (hw : WK τ) (hu : UT τ) (x1 x2 : Int32) : Ok (f_X6_serve τ x1 x2) (KQ k) := by
  have m : ∀ s v1 v2 v3, (v1 = 0 ∨ v1 = 1) → IB k s → WK s → UT s → Ok (f_X6_serve_29 s v1 v2 v3) (KQ k) := by
    intro s v1 v2 v3 p b w u
    unfold f_X6_serve_29
    exact ok_bind (ok_off b w u _ _ _ p) fun z2 hz2 => ok_some hz2
  unfold f_X6_serve
  refine ok_bind (ok_X6_isNoTrack _) fun z hz => ok_start hb hw hu (by decide) (fun s i e e0 en b w u => ok_t rfl ?_) fun s b w u => ok_f (show ¬ (1 : Int32) = 0 by decide) (kq b w u)
  exact ok_if (fun _ => m _ _ _ _ (hz i) b w u) fun _ => m _ _ _ _ (hz i) b w u
end OKN
