section
/-! level 2 gathered: class and model side by side -/
def INV (τ : MS) : Prop := ∃ k, IB k τ ∧ WK τ ∧ UT τ
theorem IB.len2 {k : Int32} {τ : MS} (h : IB k τ) : ∀ i, i < 2 → (τ.1 i).length ≤ 20 := fun i hi => Nat.le_trans (h.l (i := i) (by omega)).1 (capn i)
theorem IB.len12 {k : Int32} {τ : MS} (h : IB k τ) : (τ.1 2).length ≤ 12 := (h.l (i := 2) (by omega)).1
theorem IB.slv {k : Int32} {τ : MS} (h : IB k τ) : ∀ j, j < (τ.1 2).length → ∃ v, v < 8000 ∧ (τ.1 2).getD j 0 = nI v := by
  intro j hj
  have q := (h.l (i := 2) (by omega)).getD j
  obtain ⟨v, v1, v2⟩ := nIof (b := 7999) (by decide) q.1 q.2
  exact ⟨v, by omega, v2⟩
theorem IB.cdv {k : Int32} {τ : MS} (h : IB k τ) : ∀ t, t < 2 → ∀ j, j < (τ.1 t).length → ∃ v, v < 1000 ∧ (τ.1 t).getD j 0 = nI v := by
  intro t ht j hj
  have q := (h.l (i := t) (by omega)).getD j
  have e : hiR t = 999 := by unfold hiR; rw [if_neg (by omega), if_neg (by omega)]
  rw [e] at q
  obtain ⟨v, v1, v2⟩ := nIof (b := 999) (by decide) q.1 q.2
  exact ⟨v, by omega, v2⟩
theorem inv0 : INV τ0 := ⟨0, ⟨fun i hi => ⟨Nat.zero_le _, fun v hv => by cases hv⟩, rfl⟩, ⟨Or.inl rfl, ⟨Or.inl rfl, fun h => absurd (show (0 : Int32) = 1 from h) (by decide)⟩, ⟨Or.inl rfl, fun h => absurd (show (0 : Int32) = 1 from h) (by decide)⟩⟩, trivial⟩
/-! what is only told leaves the state -/
theorem al_no {α : Type} {c : Prop} [Decidable c] {b : Option α} {Q : α → Prop} (h : ¬ c → Al b Q) : Al (if c then none else b) Q := by
  by_cases hc : c
  · rw [if_pos hc]; intro r e; cases e
  · rw [if_neg hc]; exact h hc
theorem al_lpn {α β : Type} {st : (β → Option α) → β → Option α} {Q : α → Prop} (I : β → Prop) (h : ∀ k a, I a → (∀ b, I b → Al (k b) Q) → Al (st k a) Q) : ∀ (n : Nat) (a : β), I a → Al (lpn st n a) Q := by
  intro n
  induction n with
  | zero => intro a _ r e; cases e
  | succ n ih => intro a ha; exact h _ a ha ih
theorem same_trackTold {τ : MS} {x1 x2 : Int32} : Al (f_X6_trackTold τ x1 x2) fun r => r.2 = τ := by
  have m81 : ∀ a b c d e f g, Al (f_X6_trackTold_81 τ a b c d e f g) fun r => r.2 = τ := by
    intro a b c d e f g
    unfold f_X6_trackTold_81
    exact al_bind al_any fun z _ => al_no fun _ => al_nme fun y _ => al_no fun _ => al_nme fun y _ => al_no fun _ => al_nme fun y _ => al_no fun _ => al_some rfl
  unfold f_X6_trackTold
  refine al_lpn (fun _ => True) (fun kk a _ hk => ?_) 24 _ trivial
  unfold f_X6_trackTold_8
  refine al_bind al_any fun z _ => al_if (fun _ => al_no fun _ => al_nme fun y _ => al_nme fun y _ => al_bind al_any fun z _ => al_no fun _ => al_nme fun y _ => al_bind al_any fun z _ => al_if (fun _ => m81 _ _ _ _ _ _ _) fun _ => m81 _ _ _ _ _ _ _) fun _ => ?_
  exact al_bind al_any fun z _ => al_bind al_any fun z _ => al_nme fun y _ => al_bind al_any fun z _ => al_bind al_any fun z _ => al_nme fun y _ => al_nme fun y _ => hk _ trivial
theorem same_whereNow {τ : MS} {x1 x2 : Int32} : Al (f_X6_whereNow τ x1 x2) fun r => r.2 = τ := by
  have m70 : ∀ a b c d e, Al (f_X6_whereNow_70 τ a b c d e) fun r => r.2 = τ := by
    intro a b c d e
    unfold f_X6_whereNow_70
    exact al_bind al_any fun z _ => al_no fun _ => al_nme fun y _ => al_no fun _ => al_some rfl
  have m52 : ∀ a b c d e f, Al (f_X6_whereNow_52 τ a b c d e f) fun r => r.2 = τ := by
    intro a b c d e f
    unfold f_X6_whereNow_52
    exact al_bind al_any fun z _ => al_no fun _ => al_nme fun y _ => al_if (fun _ => m70 _ _ _ _ _) fun _ => m70 _ _ _ _ _
  unfold f_X6_whereNow
  exact al_bind al_any fun z _ => al_no fun _ => al_nme fun y _ => al_nme fun y _ => al_no fun _ => al_nme fun y _ => al_no fun _ => al_nme fun y _ => al_no fun _ => al_nme fun y _ => al_bind al_any fun z _ => al_if (fun _ => m52 _ _ _ _ _ _) fun _ => m52 _ _ _ _ _ _
theorem same_nestedNow {τ : MS} {x1 : Int32} : Al (f_X6_nestedNow τ x1) fun r => r.2 = τ := by
  unfold f_X6_nestedNow
  refine al_no fun _ => al_nme fun y _ => al_nme fun y _ => al_lpn (fun t => t.1 = τ) (fun kk a ha hk => ?_) 24 _ rfl
  obtain ⟨s, v1, n, g, v3, v4, v5⟩ := a
  have ha : s = τ := ha
  subst ha
  have m98 : ∀ a b c d e f, Al (f_X6_nestedNow_98 kk s a b c d e f) fun r => r.2 = s := by
    intro a b c d e f
    unfold f_X6_nestedNow_98
    exact al_nme fun y _ => hk _ rfl
  unfold f_X6_nestedNow_13
  dsimp only
  refine al_bind al_any fun z _ => al_if (fun _ => al_if (fun _ => al_some rfl) fun _ => al_some rfl) fun _ => al_bind al_any fun z _ => al_bind al_any fun z _ => al_if (fun _ => m98 _ _ _ _ _ _) fun _ => al_if (fun _ => m98 _ _ _ _ _ _) fun _ => al_if (fun _ => al_no fun _ => al_nme fun y _ => al_nme fun y _ => al_nme fun y _ => m98 _ _ _ _ _ _) fun _ => al_if (fun _ => al_some rfl) fun _ => al_no fun _ => al_if (fun _ => al_nme fun y _ => m98 _ _ _ _ _ _) fun _ => al_some rfl
theorem nI_le_b {n b : Nat} (h : n ≤ b) (hb : b < 2147483648) : 0 ≤ nI n ∧ nI n ≤ nI b := nI_bnd h hb
theorem dh_of {k : Int32} {τ : MS} (hb : IB k τ) (hw : WK τ) (hu : UT τ) : DH τ := by
  have t01 : ∀ t, t < 2 → nI t = 0 ∨ nI t = 1 := by
    intro t ht
    rcases (by omega : t = 0 ∨ t = 1) with e | e <;> subst e
    · exact Or.inl rfl
    · exact Or.inr rfl
  refine ⟨fun t w ht hw' => ?_, fun t w ht hw' => ?_, fun t ht => ?_, fun kd b hk' hb' => ?_, fun w kd hw' hk' => ?_, fun kd hk' => ?_, fun b hb' => ?_⟩
  · have q := nI_bnd (n := w) (b := 3) (by omega) (by omega)
    obtain ⟨r, e, -, h⟩ := al_ok (ok_X6_trackTold hb hw hu (nI t) (nI w) (t01 t ht) q.1 q.2) same_trackTold
    exact ⟨r.1, by rw [e, ← h]⟩
  · obtain ⟨r, e, -⟩ := ok_X6_asked hb (nI t) (nI w) (t01 t ht)
    exact ⟨r, e⟩
  · obtain ⟨r, e, -, h⟩ := al_ok (ok_X6_nestedNow hb hw hu (nI t) (t01 t ht)) same_nestedNow
    exact ⟨r.1, by rw [e, ← h]⟩
  · obtain ⟨r, e, -⟩ := ok_X6_found hb 1 (nI kd) (nI b) (Or.inr rfl)
    exact ⟨r, e⟩
  · have q := nI_bnd (n := kd) (b := 4) (by omega) (by omega)
    obtain ⟨r, e, -, h⟩ := al_ok (ok_X6_whereNow hb hw hu (nI w) (nI kd) (t01 w hw') q.1 q.2) same_whereNow
    exact ⟨r.1, by rw [e, ← h]⟩
  · obtain ⟨r, e, -⟩ := ok_X6_yardTold hb (nI kd)
    exact ⟨r, e⟩
  · obtain ⟨r, e, -⟩ := ok_X6_compared hb (nI b)
    exact ⟨r, e⟩
end
section
/-! LEVEL 3: class and model tell the same. The model ran to its end: so does the class, and Q holds of both ends -/
def Ri {α β : Type} (o1 : Option α) (o2 : Option β) (Q : α → β → Prop) : Prop := ∀ r2, o2 = some r2 → Ok o1 fun r1 => Q r1 r2
section RIR
variable {α β γ δ : Type} {Q : α → β → Prop}
theorem ri_of {o1 : Option α} {r2 : β} (h : Ok o1 fun r1 => Q r1 r2) : Ri o1 (some r2) Q := fun r e => by cases e; exact h
theorem ri_some {r1 : α} {r2 : β} (h : Q r1 r2) : Ri (some r1) (some r2) Q := ri_of (ok_some h)
theorem ri_bR {o : Option γ} {f : γ → Option β} {o1 : Option α} (h : ∀ x, o = some x → Ri o1 (f x) Q) : Ri o1 (o.bind f) Q := by
  intro r e
  cases ho : o with
  | none => rw [ho] at e; cases e
  | some x => rw [ho] at e; exact h x ho r e
theorem ri_eR {o : Option γ} {v : γ} {f : γ → Option β} {o1 : Option α} (e : o = some v) (h : Ri o1 (f v) Q) : Ri o1 (o.bind f) Q := by rw [e]; exact h
theorem ri_okR {o : Option γ} {P : γ → Prop} {f : γ → Option β} {o1 : Option α} (e : Ok o P) (h : ∀ x, P x → Ri o1 (f x) Q) : Ri o1 (o.bind f) Q := by
  obtain ⟨v, e, hv⟩ := e
  exact ri_eR e (h v hv)
theorem ri_nR {v : γ} {f : γ → Option β} {o1 : Option α} (h : ∀ x, x = v → Ri o1 (f x) Q) : Ri o1 (nm v f) Q := h v rfl
theorem ri_iR {c : Prop} [Decidable c] {a b : Option β} {o1 : Option α} (h1 : c → Ri o1 a Q) (h2 : ¬ c → Ri o1 b Q) : Ri o1 (if c then a else b) Q := by
  by_cases hc : c
  · rw [if_pos hc]; exact h1 hc
  · rw [if_neg hc]; exact h2 hc
theorem ri_tR {c : Prop} [Decidable c] {a b : Option β} {o1 : Option α} (hc : c) (h : Ri o1 a Q) : Ri o1 (if c then a else b) Q := by rw [if_pos hc]; exact h
theorem ri_fR {c : Prop} [Decidable c] {a b : Option β} {o1 : Option α} (hc : ¬ c) (h : Ri o1 b Q) : Ri o1 (if c then a else b) Q := by rw [if_neg hc]; exact h
theorem ri_xR {c : Prop} [Decidable c] {b : Option β} {o1 : Option α} (h : ¬ c → Ri o1 b Q) : Ri o1 (if c then none else b) Q := ri_iR (fun _ r e => by cases e) h
theorem ri_yR {c : Prop} [Decidable c] {b : Option β} {o1 : Option α} (h : c → Ri o1 b Q) : Ri o1 (if c then b else none) Q := ri_iR h (fun _ r e => by cases e)
theorem ri_eL {o : Option γ} {v : γ} {f : γ → Option α} {o2 : Option β} (e : o = some v) (h : Ri (f v) o2 Q) : Ri (o.bind f) o2 Q := by rw [e]; exact h
theorem ri_okL {o : Option γ} {P : γ → Prop} {f : γ → Option α} {o2 : Option β} (e : Ok o P) (h : ∀ x, P x → Ri (f x) o2 Q) : Ri (o.bind f) o2 Q := by
  obtain ⟨v, e, hv⟩ := e
  exact ri_eL e (h v hv)
theorem ri_nL {v : γ} {f : γ → Option α} {o2 : Option β} (h : ∀ x, x = v → Ri (f x) o2 Q) : Ri (nm v f) o2 Q := h v rfl
theorem ri_iL {c : Prop} [Decidable c] {a b : Option α} {o2 : Option β} (h1 : c → Ri a o2 Q) (h2 : ¬ c → Ri b o2 Q) : Ri (if c then a else b) o2 Q := by
  by_cases hc : c
  · rw [if_pos hc]; exact h1 hc
  · rw [if_neg hc]; exact h2 hc
theorem ri_tL {c : Prop} [Decidable c] {a b : Option α} {o2 : Option β} (hc : c) (h : Ri a o2 Q) : Ri (if c then a else b) o2 Q := by rw [if_pos hc]; exact h
theorem ri_fL {c : Prop} [Decidable c] {a b : Option α} {o2 : Option β} (hc : ¬ c) (h : Ri b o2 Q) : Ri (if c then a else b) o2 Q := by rw [if_neg hc]; exact h
theorem ri_call {o1 : Option γ} {o2 : Option δ} {P : γ → δ → Prop} {f : γ → Option α} {g : δ → Option β} (h : Ri o1 o2 P) (k : ∀ x y, P x y → Ri (f x) (g y) Q) : Ri (o1.bind f) (o2.bind g) Q := ri_bR fun y hy => by
  obtain ⟨x, e, hx⟩ := h y hy
  exact ri_eL e (k x y hx)
theorem ri_mono {o1 : Option α} {o2 : Option β} {P : α → β → Prop} (h : Ri o1 o2 P) (k : ∀ x y, P x y → Q x y) : Ri o1 o2 Q := fun r e => ok_mono (h r e) fun x hx => k x r hx
theorem ri_obr {o : Option (Nat ⊕ γ)} {v : γ} {f : γ → Option (Nat ⊕ δ)} {o2 : Option β} {Q : (Nat ⊕ δ) → β → Prop} (e : o = some (.inr v)) (h : Ri (f v) o2 Q) : Ri (obx o f) o2 Q := by
  have : obx o f = f v := by rw [e]; rfl
  rw [this]; exact h
theorem ri_obl {o : Option (Nat ⊕ γ)} {k : Nat} {f : γ → Option (Nat ⊕ δ)} {o2 : Option β} {Q : (Nat ⊕ δ) → β → Prop} (e : o = some (.inl k)) (h : Ri (some (.inl k)) o2 Q) : Ri (obx o f) o2 Q := by
  have : obx o f = some (.inl k) := by rw [e]; rfl
  rw [this]; exact h
theorem ri_lpn {st1 : (γ → Option α) → γ → Option α} {st2 : (δ → Option β) → δ → Option β} (J : γ → δ → Prop) (h : ∀ k1 k2 a b, J a b → (∀ a' b', J a' b' → Ri (k1 a') (k2 b') Q) → Ri (st1 k1 a) (st2 k2 b) Q) : ∀ (n2 n1 : Nat) (a : γ) (b : δ), n2 ≤ n1 → J a b → Ri (lpn st1 n1 a) (lpn st2 n2 b) Q := by
  intro n2
  induction n2 with
  | zero => intro n1 a b _ _ r e; cases e
  | succ n2 ih =>
    intro n1 a b hn hJ
    obtain ⟨n1, rfl⟩ : ∃ m, n1 = m + 1 := ⟨n1 - 1, by omega⟩
    exact h _ _ a b hJ fun a' b' hJ' => ih n1 a' b' (by omega) hJ'
end RIR
/-! a row of the class holds a list -/
def RW (i : Nat) (ρ : RS) (xs : List Int32) : Prop := ρ.2 = nI xs.length ∧ xs.length ≤ cap i ∧ ∀ j, j < xs.length → ρ.1 j = xs.getD j 0
theorem nI_c {n : Nat} (h : n < 2147483648) : (nI n).toNatClampNeg = n := by
  have := nI_toInt (n := n) (by omega)
  show (nI n).toInt.toNat = n
  omega
theorem nI_eqz {a : Nat} (ha : a < 2147483648) : nI a = 0 ↔ a = 0 := nI_eqi (b := 0) ha (by omega)
theorem upd_at {f : Nat → Int32} {j q : Nat} {v : Int32} : upd f j v q = if q = j then v else f q := rfl
section ROWW
variable {i : Nat} {ρ : RS} {xs : List Int32}
theorem rd_raw {N j : Nat} (hn : ρ.2 = nI N) (hN : N ≤ cap i) (hj : j < N) : f_X0_read (cap i) ρ (nI j) = some (ρ.1 j) := by
  have hc := capn i
  unfold f_X0_read
  rw [hn, if_neg (nI_nn (by omega)), if_neg (mt (nI_lei (by omega) (by omega)).mp (by omega)), if_neg (mt (nI_lei (by omega) (by omega)).mp (by omega)), if_neg, nI_c (by omega)]
  rw [nI_c (by omega)]
  rintro (h | h)
  · exact nI_nn (by omega) h
  · omega
theorem ov_raw {N j : Nat} {v : Int32} (hn : ρ.2 = nI N) (hN : N ≤ cap i) (hj : j < N) : f_X0_overwrite (cap i) ρ (nI j) v = some (upd ρ.1 j v, ρ.2) := by
  have hc := capn i
  unfold f_X0_overwrite
  rw [hn, if_neg (nI_nn (by omega)), if_neg (mt (nI_lei (by omega) (by omega)).mp (by omega)), if_neg (mt (nI_lei (by omega) (by omega)).mp (by omega)), if_neg]
  · rw [nI_c (by omega)]; rfl
  · rw [nI_c (by omega)]
    rintro (h | h)
    · exact nI_nn (by omega) h
    · omega
theorem RW.len (h : RW i ρ xs) : xs.length ≤ 20 := Nat.le_trans h.2.1 (capn i)
theorem rw_size (h : RW i ρ xs) : f_X0_size (cap i) ρ = some (nI xs.length) := by unfold f_X0_size; rw [h.1]
theorem rw_read (h : RW i ρ xs) {j : Nat} (hj : j < xs.length) : f_X0_read (cap i) ρ (nI j) = some (xs.getD j 0) := by rw [rd_raw h.1 h.2.1 hj, h.2.2 j hj]
theorem rw_read0 (h : RW i ρ xs) {x : Int32} (hx : x < 0 ∨ nI xs.length ≤ x) : f_X0_read (cap i) ρ x = some 0 := by
  unfold f_X0_read
  rw [h.1]
  rcases hx with q | q
  · rw [if_pos q]
  · by_cases c : x < 0
    · rw [if_pos c]
    · rw [if_neg c, if_pos q]
theorem rw_isEmpty (h : RW i ρ xs) : f_X0_isEmpty (cap i) ρ = some (if xs.length = 0 then 1 else 0) := by
  have hl := h.len
  unfold f_X0_isEmpty
  rw [h.1]
  by_cases c : xs.length = 0
  · rw [if_pos c, c]; rfl
  · rw [if_neg c, if_neg (mt (nI_eqz (a := xs.length) (by omega)).mp c)]
theorem rw_isFull (h : RW i ρ xs) : f_X0_isFull (cap i) ρ = some (if xs.length < cap i then 0 else 1) := by
  have hl := h.len
  have hc := capn i
  unfold f_X0_isFull
  rw [h.1]
  by_cases c : xs.length < cap i
  · rw [if_pos c, if_pos ((nI_lti (by omega) (by omega)).mpr c)]
  · rw [if_neg c, if_neg (mt (nI_lti (by omega) (by omega)).mp c)]
theorem rw_endPlace (h : RW i ρ xs) (x : Int32) : f_X0_endPlace (cap i) ρ x = some (if x = 0 then (if xs.length = 0 then -1 else 0) else nI xs.length - 1) := by
  have hl := h.len
  unfold f_X0_endPlace f_X0_endPlace_11
  rw [h.1]
  by_cases c : x = 0
  · rw [if_pos c, if_pos c]
    by_cases d : xs.length = 0
    · rw [if_pos d, d]; rfl
    · rw [if_neg d, if_neg (mt (nI_eqz (a := xs.length) (by omega)).mp d)]
  · rw [if_neg c, if_neg c]
theorem rw_empty : RW i (ρ.1, 0) [] := ⟨rfl, Nat.zero_le _, fun j hj => absurd hj (Nat.not_lt_zero j)⟩
theorem rw_overwrite (h : RW i ρ xs) {j : Nat} {v : Int32} (hj : j < xs.length) : Ok (f_X0_overwrite (cap i) ρ (nI j) v) fun r => RW i r (xs.set j v) := by
  refine ⟨_, ov_raw h.1 h.2.1 hj, ?_⟩
  refine ⟨by rw [List.length_set]; exact h.1, by rw [List.length_set]; exact h.2.1, fun q hq => ?_⟩
  rw [List.length_set] at hq
  show upd ρ.1 j v q = _
  rw [set_get hj, upd_at]
  split
  · rfl
  · exact h.2.2 q hq
theorem rw_enter (h : RW i ρ xs) {j : Nat} {v : Int32} (hj : j ≤ xs.length) (hl : xs.length < cap i) : Ok (f_X0_enter (cap i) ρ (nI j) v) fun r => RW i r (insAt xs j v) := by
  have hc := capn i
  unfold f_X0_enter
  refine ok_ev (rw_isFull h) ?_
  rw [if_pos hl]
  refine ok_t rfl (ok_f (nI_nn (by omega)) (ok_t (by rw [h.1]; exact (nI_lei (by omega) (by omega)).mpr hj) (ok_nme fun t ht => ok_nme fun y hy => ?_)))
  have ht2 : t.2 = nI (xs.length + 1) := by rw [ht]; show ρ.2 + 1 = _; rw [h.1]; exact nI_suc (by omega)
  have ht1 : t.1 = ρ.1 := by rw [ht]
  have hy : y = nI xs.length := by rw [hy, ht2]; exact nI_dec (by omega)
  clear ht
  subst hy
  refine up_loop (fun m a => a.1.2 = nI (xs.length + 1) ∧ a.2.1 = nI j ∧ a.2.2.1 = v ∧ a.2.2.2 = nI (xs.length - m) ∧ (∀ q, q < xs.length - m → a.1.1 q = xs.getD q 0) ∧ ∀ q, xs.length - m < q → q ≤ xs.length → a.1.1 q = xs.getD (q - 1) 0) (xs.length - j) ?_ (xs.length - j) 0 _ (by omega) ⟨ht2, rfl, rfl, rfl, fun q hq => by show t.1 q = _; rw [ht1]; exact h.2.2 q (by omega), fun q h1 h2 => absurd h1 (by omega)⟩ 64 (by omega)
  rintro kk ⟨r, b1, b2, b3⟩ m hm ⟨a1, a2, a3, a4, a5, a6⟩ hk
  dsimp only at a1 a2 a3 a4 a5 a6
  subst a2 a3 a4
  unfold f_X0_enter_37
  dsimp only
  refine ok_if (fun c => ?_) fun c => ?_
  · have c2 := (nI_lei (by omega) (by omega)).mp c
    have hmj : xs.length - m = j := by omega
    refine ok_ev (ov_raw (N := xs.length + 1) a1 (by omega) (by omega)) (ok_some ⟨?_, ?_, fun q hq => ?_⟩)
    · show r.2 = _
      rw [insAt_len hj]; exact a1
    · rw [insAt_len hj]; omega
    · rw [insAt_len hj] at hq
      show upd r.1 j b2 q = _
      rw [upd_at, insAt_get hj]
      by_cases h1 : q = j
      · rw [if_pos h1, if_neg (by omega), if_pos h1]
      · rw [if_neg h1]
        by_cases h2 : q < j
        · rw [if_pos h2]; exact a5 q (by omega)
        · rw [if_neg h2, if_neg h1]; exact a6 q (by omega) (by omega)
  · have c2 := mt (nI_lei (a := xs.length - m) (b := j) (by omega) (by omega)).mpr c
    rw [nI_prd (by omega) (by omega)]
    refine ok_ev (rd_raw (N := xs.length + 1) a1 (by omega) (by omega)) (ok_ev (ov_raw (N := xs.length + 1) a1 (by omega) (by omega)) (ok_nme fun y hy => ?_))
    refine hk _ (by omega) ⟨a1, rfl, rfl, ?_, fun q hq => ?_, fun q h1 h2 => ?_⟩
    · show y = _
      rw [hy, nI_prd2 (by omega) (by omega), show xs.length - m - 1 = xs.length - (m + 1) by omega]
    · show upd r.1 (xs.length - m) _ q = _
      rw [upd_at, if_neg (by omega)]
      exact a5 q (by omega)
    · show upd r.1 (xs.length - m) _ q = _
      rw [upd_at]
      by_cases e : q = xs.length - m
      · rw [if_pos e, a5 _ (by omega), e]
      · rw [if_neg e]
        exact a6 q (by omega) h2
theorem insAt_last {v : Int32} : insAt xs xs.length v = xs ++ [v] := by
  unfold insAt
  rw [List.take_length, List.drop_length]
theorem rw_enterLast (h : RW i ρ xs) {v : Int32} (hl : xs.length < cap i) : Ok (f_X0_enterLast (cap i) ρ v) fun r => RW i r (xs ++ [v]) := by
  unfold f_X0_enterLast
  rw [h.1]
  refine ok_bind (rw_enter h (Nat.le_refl _) hl) fun z hz => ok_some ?_
  rw [insAt_last] at hz
  exact hz
theorem rw_leave (h : RW i ρ xs) {j : Nat} (hj : j < xs.length) : Ok (f_X0_leave (cap i) ρ (nI j)) fun r => r.1 = xs.getD j 0 ∧ RW i r.2 (delAt xs j) := by
  have hc := capn i
  have hl := h.len
  unfold f_X0_leave
  refine ok_f (nI_nn (by omega)) (ok_t (by rw [h.1]; exact (nI_lti (by omega) (by omega)).mpr hj) (ok_ev (rw_read h hj) ?_))
  refine up_loop (fun m a => a.1.2 = nI xs.length ∧ a.2.1 = xs.getD j 0 ∧ a.2.2 = nI (j + m) ∧ (∀ q, q < j → a.1.1 q = xs.getD q 0) ∧ (∀ q, j ≤ q → q < j + m → a.1.1 q = xs.getD (q + 1) 0) ∧ ∀ q, j + m ≤ q → q < xs.length → a.1.1 q = xs.getD q 0) (xs.length - 1 - j) ?_ (xs.length - 1 - j) 0 _ (by omega) ⟨h.1, rfl, rfl, fun q hq => h.2.2 q (by omega), fun q h1 h2 => absurd h1 (by omega), fun q _ hq => h.2.2 q hq⟩ 64 (by omega)
  rintro kk ⟨r, b1, b2⟩ m hm ⟨a1, a2, a3, a4, a5, a6⟩ hk
  dsimp only at a1 a2 a3 a4 a5 a6
  subst a2 a3
  unfold f_X0_leave_22
  dsimp only
  refine ok_if (fun c => ?_) fun c => ?_
  · rw [a1, nI_prd (by omega) (by omega)] at c
    have c2 := (nI_lei (by omega) (by omega)).mp c
    refine ok_nme fun t ht => ok_some ⟨rfl, ?_⟩
    have dl : (delAt xs j).length = xs.length - 1 := delAt_len hj
    have t2 : t.2 = nI (xs.length - 1) := by rw [ht]; show r.2 - 1 = _; rw [a1]; exact nI_prd (by omega) (by omega)
    have t1 : t.1 = r.1 := by rw [ht]
    refine ⟨by rw [dl]; exact t2, by rw [dl]; have := h.2.1; omega, fun q hq => ?_⟩
    rw [dl] at hq
    show t.1 q = _
    rw [t1, delAt_get hj]
    by_cases h1 : q < j
    · rw [if_pos h1]; exact a4 q h1
    · rw [if_neg h1]; exact a5 q (by omega) (by omega)
  · rw [a1, nI_prd (by omega) (by omega)] at c
    have c2 := mt (nI_lei (a := xs.length - 1) (b := j + m) (by omega) (by omega)).mpr c
    rw [nI_suc (by omega)]
    have hcap := h.2.1
    refine ok_ev (rd_raw (N := xs.length) a1 hcap (by omega)) (ok_ev (ov_raw (N := xs.length) a1 hcap (by omega)) (ok_nme fun y hy => ?_))
    refine hk _ (by omega) ⟨a1, rfl, by rw [hy]; rfl, fun q hq => ?_, fun q h1 h2 => ?_, fun q h1 h2 => ?_⟩
    · show upd r.1 (j + m) _ q = _
      rw [upd_at, if_neg (by omega)]; exact a4 q hq
    · show upd r.1 (j + m) _ q = _
      rw [upd_at]
      by_cases e : q = j + m
      · rw [if_pos e, a6 _ (by omega) (by omega), e]
      · rw [if_neg e]; exact a5 q h1 (by omega)
    · show upd r.1 (j + m) _ q = _
      rw [upd_at, if_neg (by omega)]; exact a6 q (by omega) h2
end ROWW
/-! the first or last place of what is looked for -/
def fnG (t : Int32 → Bool) (last : Int32) : List Int32 → Nat → Int32 → Int32
  | [], _, pl => pl
  | v :: r, m, pl => fnG t last r (m + 1) (if t v = true then (if last = 0 then (if pl = -1 then nI m else pl) else nI m) else pl)
theorem fnG_cons {t : Int32 → Bool} {last v : Int32} {r : List Int32} {m : Nat} {pl : Int32} : fnG t last (v :: r) m pl = fnG t last r (m + 1) (if t v = true then (if last = 0 then (if pl = -1 then nI m else pl) else nI m) else pl) := rfl
theorem drop_cons {xs : List Int32} {m : Nat} (h : m < xs.length) : xs.drop m = xs.getD m 0 :: xs.drop (m + 1) := by
  rw [List.drop_eq_getElem_cons h, List.getD_eq_getElem?_getD, List.getElem?_eq_getElem h]; rfl
def tKind (x : Int32) (v : Int32) : Bool := decide (v / 100 = x)
def tSame (x : Int32) (v : Int32) : Bool := decide (v = x)
section FND
variable {i : Nat} {ρ : RS} {xs : List Int32} {τ : MS}
theorem rw_placeOfKind (h : RW i ρ xs) (x1 x2 : Int32) : f_X0_placeOfKind (cap i) ρ x1 x2 = some (fnG (tKind x1) x2 xs 0 (-1)) := by
  have hl := h.len
  have key : Ok (f_X0_placeOfKind (cap i) ρ x1 x2) fun r => r = fnG (tKind x1) x2 xs 0 (-1) := by
    unfold f_X0_placeOfKind
    refine up_loop (fun m t => t.1 = x1 ∧ t.2.1 = x2 ∧ t.2.2.2 = nI m ∧ fnG (tKind x1) x2 (xs.drop m) m t.2.2.1 = fnG (tKind x1) x2 xs 0 (-1)) xs.length ?_ xs.length 0 _ (by omega) ⟨rfl, rfl, rfl, rfl⟩ 64 (by omega)
    rintro kk ⟨v1, v2, v3, v4⟩ m hm ⟨a1, a2, a3, a4⟩ hk
    dsimp only at a1 a2 a3 a4
    subst a1 a2 a3
    unfold f_X0_placeOfKind_5
    dsimp only
    refine ok_if (fun c => ok_some ?_) fun c => ?_
    · rw [h.1] at c
      have c2 := (nI_lei (by omega) (by omega)).mp c
      rw [List.drop_eq_nil_of_le (by omega)] at a4
      exact a4
    · rw [h.1] at c
      have c2 : m < xs.length := Nat.lt_of_not_le (mt (nI_lei (by omega) (by omega)).mpr c)
      rw [drop_cons c2, fnG_cons] at a4
      have m39 : ∀ w, fnG (tKind v1) v2 (xs.drop (m + 1)) (m + 1) w = fnG (tKind v1) v2 xs 0 (-1) → Ok (f_X0_placeOfKind_39 (cap i) ρ kk v1 v2 w (nI m)) fun r => r = fnG (tKind v1) v2 xs 0 (-1) := by
        intro w hw
        unfold f_X0_placeOfKind_39
        exact ok_nme fun y hy => hk _ c2 ⟨rfl, rfl, by rw [hy]; exact nI_suc (by omega), hw⟩
      refine ok_ev (rw_read h c2) (ok_ev (v := xs.getD m 0 / 100) rfl ?_)
      unfold f_X0_placeOfKind_36
      by_cases q : xs.getD m 0 / 100 = v1
      · have e : tKind v1 (xs.getD m 0) = true := decide_eq_true q
        rw [if_pos e] at a4
        refine ok_t q (ok_if (fun q2 => ?_) fun q2 => ?_)
        · rw [if_pos q2] at a4
          refine ok_if (fun q3 => ?_) fun q3 => ?_
          · rw [if_pos q3] at a4; exact m39 _ a4
          · rw [if_neg q3] at a4; exact m39 _ a4
        · rw [if_neg q2] at a4; exact m39 _ a4
      · have e : ¬ tKind v1 (xs.getD m 0) = true := by
          intro e
          exact q (of_decide_eq_true e)
        rw [if_neg e] at a4
        exact ok_f q (m39 _ a4)
  obtain ⟨r, e, hr⟩ := key
  rw [e, hr]
theorem rw_placeOf (h : RW i ρ xs) (x1 x2 : Int32) : f_X0_placeOf (cap i) ρ x1 x2 = some (fnG (tSame x1) x2 xs 0 (-1)) := by
  have hl := h.len
  have key : Ok (f_X0_placeOf (cap i) ρ x1 x2) fun r => r = fnG (tSame x1) x2 xs 0 (-1) := by
    unfold f_X0_placeOf
    refine up_loop (fun m t => t.1 = x1 ∧ t.2.1 = x2 ∧ t.2.2.2 = nI m ∧ fnG (tSame x1) x2 (xs.drop m) m t.2.2.1 = fnG (tSame x1) x2 xs 0 (-1)) xs.length ?_ xs.length 0 _ (by omega) ⟨rfl, rfl, rfl, rfl⟩ 64 (by omega)
    rintro kk ⟨v1, v2, v3, v4⟩ m hm ⟨a1, a2, a3, a4⟩ hk
    dsimp only at a1 a2 a3 a4
    subst a1 a2 a3
    unfold f_X0_placeOf_5
    dsimp only
    refine ok_if (fun c => ok_some ?_) fun c => ?_
    · rw [h.1] at c
      have c2 := (nI_lei (by omega) (by omega)).mp c
      rw [List.drop_eq_nil_of_le (by omega)] at a4
      exact a4
    · rw [h.1] at c
      have c2 : m < xs.length := Nat.lt_of_not_le (mt (nI_lei (by omega) (by omega)).mpr c)
      rw [drop_cons c2, fnG_cons] at a4
      have m36 : ∀ w, fnG (tSame v1) v2 (xs.drop (m + 1)) (m + 1) w = fnG (tSame v1) v2 xs 0 (-1) → Ok (f_X0_placeOf_36 (cap i) ρ kk v1 v2 w (nI m)) fun r => r = fnG (tSame v1) v2 xs 0 (-1) := by
        intro w hw
        unfold f_X0_placeOf_36
        exact ok_nme fun y hy => hk _ c2 ⟨rfl, rfl, by rw [hy]; exact nI_suc (by omega), hw⟩
      refine ok_ev (rw_read h c2) ?_
      unfold f_X0_placeOf_33
      by_cases q : xs.getD m 0 = v1
      · have e : tSame v1 (xs.getD m 0) = true := decide_eq_true q
        rw [if_pos e] at a4
        refine ok_t q (ok_if (fun q2 => ?_) fun q2 => ?_)
        · rw [if_pos q2] at a4
          refine ok_if (fun q3 => ?_) fun q3 => ?_
          · rw [if_pos q3] at a4; exact m36 _ a4
          · rw [if_neg q3] at a4; exact m36 _ a4
        · rw [if_neg q2] at a4; exact m36 _ a4
      · have e : ¬ tSame v1 (xs.getD m 0) = true := by
          intro e
          exact q (of_decide_eq_true e)
        rw [if_neg e] at a4
        exact ok_f q (m36 _ a4)
  obtain ⟨r, e, hr⟩ := key
  rw [e, hr]
theorem mo_found {x1 : Int32} {j : Nat} (hg : gtr x1 = some j) (hl : (τ.1 j).length ≤ 20) (x2 x3 : Int32) : f_X6_found τ x1 x2 x3 = some (fnG (tKind x2) x3 (τ.1 j) 0 (-1)) := by
  have key : Ok (f_X6_found τ x1 x2 x3) fun r => r = fnG (tKind x2) x3 (τ.1 j) 0 (-1) := by
    unfold f_X6_found
    refine up24 (fun m t => t.1 = x1 ∧ t.2.1 = x2 ∧ t.2.2.1 = x3 ∧ t.2.2.2.2 = nI m ∧ fnG (tKind x2) x3 ((τ.1 j).drop m) m t.2.2.2.1 = fnG (tKind x2) x3 (τ.1 j) 0 (-1)) (τ.1 j).length (by omega) ?_ ⟨rfl, rfl, rfl, rfl, rfl⟩
    rintro kk ⟨v0, v1, v2, v3, v4⟩ m hm ⟨a0, a1, a2, a3, a4⟩ hk
    dsimp only at a0 a1 a2 a3 a4
    subst a0 a1 a2 a3
    unfold f_X6_found_6
    dsimp only
    refine ok_ev (sizeN hg) (ok_if (fun c => ok_some ?_) fun c => ?_)
    · have c2 := (nI_lei (by omega) (by omega)).mp c
      rw [List.drop_eq_nil_of_le (by omega)] at a4
      exact a4
    · have c2 : m < (τ.1 j).length := Nat.lt_of_not_le (mt (nI_lei (by omega) (by omega)).mpr c)
      rw [drop_cons c2, fnG_cons] at a4
      have m44 : ∀ w, fnG (tKind v1) v2 ((τ.1 j).drop (m + 1)) (m + 1) w = fnG (tKind v1) v2 (τ.1 j) 0 (-1) → Ok (f_X6_found_44 τ kk v0 v1 v2 w (nI m)) fun r => r = fnG (tKind v1) v2 (τ.1 j) 0 (-1) := by
        intro w hw
        unfold f_X6_found_44
        exact ok_nme fun y hy => hk _ c2 ⟨rfl, rfl, rfl, by rw [hy]; exact nI_suc (by omega), hw⟩
      refine ok_ev (getN hg c2 hl) (ok_ev (v := (τ.1 j).getD m 0 / 100) rfl ?_)
      unfold f_X6_found_40
      by_cases q : (τ.1 j).getD m 0 / 100 = v1
      · have e : tKind v1 ((τ.1 j).getD m 0) = true := decide_eq_true q
        rw [if_pos e] at a4
        refine ok_t q (ok_if (fun q2 => ?_) fun q2 => ?_)
        · rw [if_pos q2] at a4
          refine ok_if (fun q3 => ?_) fun q3 => ?_
          · rw [if_pos q3] at a4; exact m44 _ a4
          · rw [if_neg q3] at a4; exact m44 _ a4
        · rw [if_neg q2] at a4; exact m44 _ a4
      · have e : ¬ tKind v1 ((τ.1 j).getD m 0) = true := by
          intro e
          exact q (of_decide_eq_true e)
        rw [if_neg e] at a4
        exact ok_f q (m44 _ a4)
  obtain ⟨r, e, hr⟩ := key
  rw [e, hr]
theorem fnG_place (t : Int32 → Bool) (last : Int32) : ∀ (xs : List Int32) (m : Nat) (pl : Int32) (N : Nat), m + xs.length ≤ N → (pl = -1 ∨ ∃ q, q < N ∧ pl = nI q) → fnG t last xs m pl = -1 ∨ ∃ q, q < N ∧ fnG t last xs m pl = nI q := by
  intro xs
  induction xs with
  | nil => intro m pl N _ h; exact h
  | cons v r ih =>
    intro m pl N hN h
    have hm : m < N := by
      have : (v :: r).length = r.length + 1 := rfl
      omega
    unfold fnG
    refine ih (m + 1) _ N (by have : (v :: r).length = r.length + 1 := rfl; omega) ?_
    have hi : nI m = -1 ∨ ∃ q, q < N ∧ nI m = nI q := Or.inr ⟨m, hm, rfl⟩
    split
    · split
      · split
        · exact hi
        · exact h
      · exact hi
    · exact h
end FND
end
section
/-! level 3: what the states have in common; pieces come and go, slips -/
def grw (v : Int32) : Int32 := if v = 0 then 0 else 2
def VT (v : Int32) : Prop := v = 0 ∨ (100 ≤ v ∧ v ≤ 999)
def SV (s : Int32) : Prop := (0 ≤ s ∧ s ≤ 7999) ∧ VT (jrem s 1000) ∧ (s / 4000 = 0 → ¬ jrem s 1000 = 0)
def VC (τ : MS) : Prop := (∀ v ∈ τ.1 0, VT v ∧ ¬ v = 0) ∧ (∀ v ∈ τ.1 1, VT v) ∧ (∀ s ∈ τ.1 2, SV s) ∧ ∀ o ∈ τ.1 3, 0 ≤ o ∧ o ≤ 7
def WRel (on fb nx hd w n h : Int32) : Prop := (on = 0 ∧ w = 0 ∧ hd = -1 ∧ h = -1) ∨ (on = 1 ∧ (fb = 0 ∧ w = 1 ∨ fb = 1 ∧ w = 2) ∧ nx = n ∧ hd = h ∧ (w = 1 → h ≠ -1 → n = h + 1))
def WR (σ : CS) (τ : MS) : Prop := WRel (σ.2 1) (σ.2 2) (σ.2 3) (σ.2 4) (τ.2 1) (τ.2 2) (τ.2 3)
def RY (σ : CS) (τ : MS) : Prop := (∀ i, i < 4 → RW i (σ.1 i) (τ.1 i)) ∧ (∀ q, 5 ≤ q → q ≤ 10 → σ.2 q = τ.2 q) ∧ σ.2 0 = τ.2 4 ∧ VC τ
def RX (σ : CS) (τ : MS) : Prop := RY σ τ ∧ WR σ τ
theorem scU_i {g w : Nat → Int32} {b n q : Nat} (h : b ≤ q ∧ q < b + n) : scUp g b n w q = w (q - b) := by
  show (if b ≤ q ∧ q < b + n then w (q - b) else g q) = _
  rw [if_pos h]
theorem scU_o {g w : Nat → Int32} {b n q : Nat} (h : ¬ (b ≤ q ∧ q < b + n)) : scUp g b n w q = g q := by
  show (if b ≤ q ∧ q < b + n then w (q - b) else g q) = _
  rw [if_neg h]
section L3A
variable {σ : CS} {τ : MS}
theorem RY.row (h : RY σ τ) {i : Nat} (hi : i < 4) : RW i (σ.1 i) (τ.1 i) := h.1 i hi
theorem RX.row (h : RX σ τ) {i : Nat} (hi : i < 4) : RW i (σ.1 i) (τ.1 i) := h.1.1 i hi
/-- a row and its list anew -/
theorem RY.up (h : RY σ τ) {i : Nat} (hi : i < 4) {ρ : RS} {xs : List Int32} (hr : RW i ρ xs) (hv : VC (va_up τ.1 i xs, τ.2)) : RY (va_up σ.1 i ρ, σ.2) (va_up τ.1 i xs, τ.2) := by
  refine ⟨fun j hj => ?_, h.2.1, h.2.2.1, hv⟩
  by_cases e : j = i
  · subst e
    show RW j (va_up σ.1 j ρ j) (va_up τ.1 j xs j)
    rw [up_eq, up_eq]; exact hr
  · show RW j (va_up σ.1 i ρ j) (va_up τ.1 i xs j)
    rw [up_ne e, up_ne e]; exact h.1 j hj
theorem RX.up (h : RX σ τ) {i : Nat} (hi : i < 4) {ρ : RS} {xs : List Int32} (hr : RW i ρ xs) (hv : VC (va_up τ.1 i xs, τ.2)) : RX (va_up σ.1 i ρ, σ.2) (va_up τ.1 i xs, τ.2) := ⟨h.1.up hi hr hv, h.2⟩
/-- states that look alike -/
theorem RY.cg {σ' : CS} {τ' : MS} (h : RY σ τ) (e1 : ∀ i, i < 4 → σ'.1 i = σ.1 i) (e2 : τ'.1 = τ.1) (e3 : ∀ q, 5 ≤ q → q ≤ 10 → σ'.2 q = τ'.2 q) (e4 : σ'.2 0 = τ'.2 4) : RY σ' τ' := by
  refine ⟨fun i hi => ?_, e3, e4, ?_⟩
  · rw [e1 i hi, e2]; exact h.1 i hi
  · unfold VC
    rw [e2]; exact h.2.2.2
theorem RX.th (h : RX σ τ) {s : MS} (e : s.1 = τ.1) (e2 : ∀ j, j ≠ 0 → s.2 j = τ.2 j) : RX σ s := by
  refine ⟨h.1.cg (fun _ _ => rfl) e (fun q h1 h2 => ?_) ?_, ?_⟩
  · rw [e2 q (by omega)]; exact h.1.2.1 q h1 h2
  · rw [e2 4 (by omega)]; exact h.1.2.2.1
  · unfold WR
    rw [e2 1 (by omega), e2 2 (by omega), e2 3 (by omega)]; exact h.2
/-! members of lists -/
theorem mem_ins {xs : List Int32} {j : Nat} {v w : Int32} (h : w ∈ insAt xs j v) : w ∈ xs ∨ w = v := by
  unfold insAt at h
  rcases List.mem_append.mp h with q | q
  · exact Or.inl (List.mem_of_mem_take q)
  · rcases List.mem_cons.mp q with q | q
    · exact Or.inr q
    · exact Or.inl (List.mem_of_mem_drop q)
theorem mem_del {xs : List Int32} {j : Nat} {w : Int32} (h : w ∈ delAt xs j) : w ∈ xs := by
  unfold delAt at h
  rcases List.mem_append.mp h with q | q
  · exact List.mem_of_mem_take q
  · exact List.mem_of_mem_drop q
theorem mem_getD {xs : List Int32} {j : Nat} (h : j < xs.length) : xs.getD j 0 ∈ xs := by
  rw [List.getD_eq_getElem?_getD, List.getElem?_eq_getElem h]
  exact List.getElem_mem h
/-- what may lie on track j -/
def TV (j : Nat) (v : Int32) : Prop := VT v ∧ (j = 0 → ¬ v = 0)
theorem VC.tv (h : VC τ) {j : Nat} (hj : j < 2) {v : Int32} (hv : v ∈ τ.1 j) : TV j v := by
  rcases (by omega : j = 0 ∨ j = 1) with e | e <;> subst e
  · exact ⟨(h.1 v hv).1, fun _ => (h.1 v hv).2⟩
  · exact ⟨h.2.1 v hv, fun e => absurd e (by omega)⟩
theorem VC.track (h : VC τ) {j : Nat} (hj : j < 2) {xs : List Int32} (hx : ∀ v ∈ xs, TV j v) : VC (va_up τ.1 j xs, τ.2) := by
  rcases (by omega : j = 0 ∨ j = 1) with e | e <;> subst e
  · refine ⟨?_, ?_, ?_, ?_⟩
    · show ∀ v ∈ va_up τ.1 0 xs 0, VT v ∧ ¬ v = 0
      rw [up_eq]; exact fun v hv => ⟨(hx v hv).1, (hx v hv).2 rfl⟩
    · show ∀ v ∈ va_up τ.1 0 xs 1, VT v
      rw [up_ne (by omega)]; exact h.2.1
    · show ∀ v ∈ va_up τ.1 0 xs 2, SV v
      rw [up_ne (by omega)]; exact h.2.2.1
    · show ∀ v ∈ va_up τ.1 0 xs 3, 0 ≤ v ∧ v ≤ 7
      rw [up_ne (by omega)]; exact h.2.2.2
  · refine ⟨?_, ?_, ?_, ?_⟩
    · show ∀ v ∈ va_up τ.1 1 xs 0, VT v ∧ ¬ v = 0
      rw [up_ne (by omega)]; exact h.1
    · show ∀ v ∈ va_up τ.1 1 xs 1, VT v
      rw [up_eq]; exact fun v hv => (hx v hv).1
    · show ∀ v ∈ va_up τ.1 1 xs 2, SV v
      rw [up_ne (by omega)]; exact h.2.2.1
    · show ∀ v ∈ va_up τ.1 1 xs 3, 0 ≤ v ∧ v ≤ 7
      rw [up_ne (by omega)]; exact h.2.2.2
theorem VC.slips (h : VC τ) {xs : List Int32} (hx : ∀ v ∈ xs, SV v) : VC (va_up τ.1 2 xs, τ.2) := by
  refine ⟨?_, ?_, ?_, ?_⟩
  · show ∀ v ∈ va_up τ.1 2 xs 0, VT v ∧ ¬ v = 0
    rw [up_ne (by omega)]; exact h.1
  · show ∀ v ∈ va_up τ.1 2 xs 1, VT v
    rw [up_ne (by omega)]; exact h.2.1
  · show ∀ v ∈ va_up τ.1 2 xs 2, SV v
    rw [up_eq]; exact hx
  · show ∀ v ∈ va_up τ.1 2 xs 3, 0 ≤ v ∧ v ≤ 7
    rw [up_ne (by omega)]; exact h.2.2.2
theorem VC.orders (h : VC τ) {xs : List Int32} (hx : ∀ v ∈ xs, 0 ≤ v ∧ v ≤ 7) : VC (va_up τ.1 3 xs, τ.2) := by
  refine ⟨?_, ?_, ?_, ?_⟩
  · show ∀ v ∈ va_up τ.1 3 xs 0, VT v ∧ ¬ v = 0
    rw [up_ne (by omega)]; exact h.1
  · show ∀ v ∈ va_up τ.1 3 xs 1, VT v
    rw [up_ne (by omega)]; exact h.2.1
  · show ∀ v ∈ va_up τ.1 3 xs 2, SV v
    rw [up_ne (by omega)]; exact h.2.2.1
  · show ∀ v ∈ va_up τ.1 3 xs 3, 0 ≤ v ∧ v ≤ 7
    rw [up_eq]; exact hx
theorem VC.ins (h : VC τ) {j i : Nat} (hj : j < 2) {v : Int32} (hv : TV j v) : VC (va_up τ.1 j (insAt (τ.1 j) i v), τ.2) := h.track hj fun w hw => by
  rcases mem_ins hw with q | q
  · exact h.tv hj q
  · rw [q]; exact hv
theorem VC.del (h : VC τ) {j i : Nat} (hj : j < 2) : VC (va_up τ.1 j (delAt (τ.1 j) i), τ.2) := h.track hj fun w hw => h.tv hj (mem_del hw)
theorem VC.set (h : VC τ) {j i : Nat} (hj : j < 2) {v : Int32} (hv : TV j v) : VC (va_up τ.1 j ((τ.1 j).set i v), τ.2) := h.track hj fun w hw => by
  rcases List.mem_or_eq_of_mem_set hw with q | q
  · exact h.tv hj q
  · rw [q]; exact hv
/-! the class: what a track that changed brings about -/
theorem cl_grow (ω : Nat → Int32) : ∃ w, f_X2_growStale ω = some w ∧ w 0 = grw (ω 0) ∧ ∀ q, q ≠ 0 → w q = ω q := by
  unfold f_X2_growStale grw
  by_cases c : ω 0 = 0
  · rw [if_pos c, if_pos c]
    exact ⟨ω, rfl, c, fun _ _ => rfl⟩
  · rw [if_neg c, if_neg c]
    exact ⟨va_up ω 0 2, rfl, up_eq, fun q hq => up_ne hq⟩
theorem cl_ker {w : Nat → Int32} {b : Nat} (hw : w 0 = grw (σ.2 b)) (ho : ∀ q, q ≠ 0 → w q = σ.2 (b + q)) : (σ.1, scUp σ.2 b 3 w).2 b = grw (σ.2 b) ∧ ∀ q, q ≠ b → (σ.1, scUp σ.2 b 3 w).2 q = σ.2 q := by
  refine ⟨?_, fun q hq => ?_⟩
  · show scUp σ.2 b 3 w b = _
    rw [scU_i (by omega), Nat.sub_self]; exact hw
  · show scUp σ.2 b 3 w q = _
    by_cases c : b ≤ q ∧ q < b + 3
    · rw [scU_i c, ho _ (by omega), show b + (q - b) = q by omega]
    · rw [scU_o c]
theorem cl_disturb (x : Int32) : Ok (f_X3_disturb σ x) fun r => r.1 = σ.1 ∧ (x = 0 → r.2 1 = 0 ∧ r.2 4 = -1 ∧ ∀ q, q ≠ 1 → q ≠ 4 → r.2 q = σ.2 q) ∧ (¬ x = 0 → r.2 5 = grw (σ.2 5) ∧ r.2 8 = grw (σ.2 8) ∧ ∀ q, q ≠ 5 → q ≠ 8 → r.2 q = σ.2 q) := by
  unfold f_X3_disturb
  refine ok_if (fun c => ?_) fun c => ?_
  · refine ok_ev (v := va_up (va_up (fun k => σ.2 (1 + k)) 0 0) 3 (-1)) rfl (ok_nme fun t ht => ok_some ?_)
    subst ht
    refine ⟨rfl, fun _ => ⟨?_, ?_, fun q h1 h4 => ?_⟩, fun h => absurd c h⟩
    · show scUp σ.2 1 4 (va_up (va_up (fun k => σ.2 (1 + k)) 0 0) 3 (-1)) 1 = 0
      rw [scU_i (by omega)]; rfl
    · show scUp σ.2 1 4 (va_up (va_up (fun k => σ.2 (1 + k)) 0 0) 3 (-1)) 4 = -1
      rw [scU_i (by omega)]; rfl
    · show scUp σ.2 1 4 _ q = _
      by_cases d : 1 ≤ q ∧ q < 1 + 4
      · rw [scU_i d, up_ne (by omega), up_ne (by omega), show 1 + (q - 1) = q by omega]
      · rw [scU_o d]
  · obtain ⟨w, e, w0, wq⟩ := cl_grow (fun k => σ.2 (5 + 3 * 0 + k))
    refine ok_ev e (ok_nme fun t ht => ?_)
    obtain ⟨t5, tq⟩ := cl_ker (σ := σ) (b := 5) w0 wq
    have t1 : t.1 = σ.1 := by rw [ht]
    have t5 : t.2 5 = grw (σ.2 5) := by rw [ht]; exact t5
    have tq : ∀ q, q ≠ 5 → t.2 q = σ.2 q := fun q hq => by rw [ht]; exact tq q hq
    clear ht
    obtain ⟨w', e', w0', wq'⟩ := cl_grow (fun k => t.2 (5 + 3 * 1 + k))
    refine ok_ev e' (ok_nme fun t2 ht2 => ok_some ?_)
    obtain ⟨u8, uq⟩ := cl_ker (σ := t) (b := 8) w0' wq'
    subst ht2
    refine ⟨t1, fun h => absurd h c, fun _ => ⟨?_, ?_, fun q h5 h8 => ?_⟩⟩
    · exact (uq 5 (by omega)).trans t5
    · refine u8.trans ?_
      rw [tq 8 (by omega)]
    · exact (uq q h8).trans (tq q h5)
/-! the model: the same -/
theorem mo_chg0 (x2 : Int32) : ∃ r, f_X6_changed τ 0 x2 = some r ∧ r.1 = τ.1 ∧ r.2 1 = 0 ∧ r.2 2 = 0 ∧ r.2 3 = -1 ∧ ∀ q, q ≠ 1 → q ≠ 2 → q ≠ 3 → r.2 q = τ.2 q := by
  refine ⟨(τ.1, va_up (va_up (va_up τ.2 1 0) 2 0) 3 (-1)), rfl, rfl, ?_, ?_, ?_, fun q h1 h2 h3 => ?_⟩
  · show va_up (va_up (va_up τ.2 1 0) 2 0) 3 (-1) 1 = 0
    rw [up_ne (by omega), up_ne (by omega), up_eq]
  · show va_up (va_up (va_up τ.2 1 0) 2 0) 3 (-1) 2 = 0
    rw [up_ne (by omega), up_eq]
  · show va_up (va_up (va_up τ.2 1 0) 2 0) 3 (-1) 3 = -1
    rw [up_eq]
  · show va_up (va_up (va_up τ.2 1 0) 2 0) 3 (-1) q = _
    rw [up_ne h3, up_ne h2, up_ne h1]
theorem mo_chg1 (x2 : Int32) : ∃ r, f_X6_changed τ 1 x2 = some r ∧ r.1 = τ.1 ∧ r.2 5 = (if x2 = 0 then τ.2 5 else grw (τ.2 5)) ∧ r.2 8 = (if x2 = 1 then τ.2 8 else grw (τ.2 8)) ∧ ∀ q, q ≠ 5 → q ≠ 8 → r.2 q = τ.2 q := by
  have key : Ok (f_X6_changed τ 1 x2) fun r => r.1 = τ.1 ∧ r.2 5 = (if x2 = 0 then τ.2 5 else grw (τ.2 5)) ∧ r.2 8 = (if x2 = 1 then τ.2 8 else grw (τ.2 8)) ∧ ∀ q, q ≠ 5 → q ≠ 8 → r.2 q = τ.2 q := by
    unfold f_X6_changed
    refine ok_f (by decide) (up24 (fun m t => t.1.1 = τ.1 ∧ t.2.1 = x2 ∧ t.2.2 = nI m ∧ t.1.2 5 = (if 1 ≤ m ∧ ¬ x2 = 0 then grw (τ.2 5) else τ.2 5) ∧ t.1.2 8 = (if 2 ≤ m ∧ ¬ x2 = 1 then grw (τ.2 8) else τ.2 8) ∧ ∀ q, q ≠ 5 → q ≠ 8 → t.1.2 q = τ.2 q) 2 (by omega) ?_ ⟨rfl, rfl, rfl, rfl, rfl, fun _ _ _ => rfl⟩)
    rintro kk ⟨t, v2, v3⟩ m hm ⟨a1, a2, a3, a4, a5, a6⟩ hk
    dsimp only at a1 a2 a3 a4 a5 a6
    subst a2 a3
    unfold f_X6_changed_22
    dsimp only
    rcases (by omega : m = 0 ∨ m = 1 ∨ m = 2) with e | e | e <;> subst e
    · refine ok_f (by decide) (ok_if (fun c => ?_) fun c => ?_)
      · have c : v2 = 0 := c.symm
        unfold f_X6_changed_54
        refine ok_nme fun y hy => hk _ (by omega) ⟨a1, rfl, by rw [hy]; rfl, ?_, ?_, a6⟩
        · show t.2 5 = _
          rw [a4, if_neg (by omega), if_neg (fun h => h.2 c)]
        · show t.2 8 = _
          rw [a5, if_neg (by omega), if_neg (by omega)]
      · have c : ¬ v2 = 0 := fun h => c h.symm
        refine ok_ev (v := 0) rfl (ok_if (fun d => ?_) fun d => ok_ev (v := 0) rfl (ok_nme fun t2 ht2 => ?_))
        · have d : t.2 5 = 0 := d
          unfold f_X6_changed_54
          refine ok_nme fun y hy => hk _ (by omega) ⟨a1, rfl, by rw [hy]; rfl, ?_, ?_, a6⟩
          · show t.2 5 = _
            rw [if_pos ⟨by omega, c⟩]
            rw [if_neg (by omega)] at a4
            rw [← a4, d]; rfl
          · show t.2 8 = _
            rw [a5, if_neg (by omega), if_neg (by omega)]
        · have d : ¬ t.2 5 = 0 := d
          obtain ⟨l2, e2, n2⟩ := up_sc ht2
          unfold f_X6_changed_54
          refine ok_nme fun y hy => hk _ (by omega) ⟨l2.trans a1, rfl, by rw [hy]; rfl, ?_, ?_, fun q h5 h8 => ?_⟩
          · show t2.2 5 = _
            rw [if_pos ⟨by omega, c⟩]
            rw [if_neg (by omega)] at a4
            rw [← a4]
            unfold grw
            rw [if_neg d]; exact e2
          · show t2.2 8 = _
            rw [n2 8 (by omega), a5, if_neg (by omega), if_neg (by omega)]
          · show t2.2 q = _
            rw [n2 q (by omega)]; exact a6 q h5 h8
    · refine ok_f (by decide) (ok_if (fun c => ?_) fun c => ?_)
      · have c : v2 = 1 := c.symm
        unfold f_X6_changed_54
        refine ok_nme fun y hy => hk _ (by omega) ⟨a1, rfl, by rw [hy]; rfl, ?_, ?_, a6⟩
        · show t.2 5 = _
          rw [a4, if_pos ⟨by omega, by rw [c]; decide⟩, if_pos ⟨by omega, by rw [c]; decide⟩]
        · show t.2 8 = _
          rw [a5, if_neg (by omega), if_neg (fun h => h.2 c)]
      · have c : ¬ v2 = 1 := fun h => c h.symm
        refine ok_ev (v := 1) rfl (ok_if (fun d => ?_) fun d => ok_ev (v := 1) rfl (ok_nme fun t2 ht2 => ?_))
        · have d : t.2 8 = 0 := d
          unfold f_X6_changed_54
          refine ok_nme fun y hy => hk _ (by omega) ⟨a1, rfl, by rw [hy]; rfl, ?_, ?_, a6⟩
          · show t.2 5 = _
            rw [a4]
            by_cases g : v2 = 0
            · rw [if_neg (fun h => h.2 g), if_neg (fun h => h.2 g)]
            · rw [if_pos ⟨by omega, g⟩, if_pos ⟨by omega, g⟩]
          · show t.2 8 = _
            rw [if_pos ⟨by omega, c⟩]
            rw [if_neg (by omega)] at a5
            rw [← a5, d]; rfl
        · have d : ¬ t.2 8 = 0 := d
          obtain ⟨l2, e2, n2⟩ := up_sc ht2
          unfold f_X6_changed_54
          refine ok_nme fun y hy => hk _ (by omega) ⟨l2.trans a1, rfl, by rw [hy]; rfl, ?_, ?_, fun q h5 h8 => ?_⟩
          · show t2.2 5 = _
            rw [n2 5 (by omega), a4]
            by_cases g : v2 = 0
            · rw [if_neg (fun h => h.2 g), if_neg (fun h => h.2 g)]
            · rw [if_pos ⟨by omega, g⟩, if_pos ⟨by omega, g⟩]
          · show t2.2 8 = _
            rw [if_pos ⟨by omega, c⟩]
            rw [if_neg (by omega)] at a5
            rw [← a5]
            unfold grw
            rw [if_neg d]; exact e2
          · show t2.2 q = _
            rw [n2 q (by omega)]; exact a6 q h5 h8
    · refine ok_t (by decide) (ok_some ⟨a1, ?_, ?_, a6⟩)
      · rw [a4]
        by_cases g : v2 = 0
        · rw [if_neg (fun h => h.2 g), if_pos g]
        · rw [if_pos ⟨by omega, g⟩, if_neg g]
      · rw [a5]
        by_cases g : v2 = 1
        · rw [if_neg (fun h => h.2 g), if_pos g]
        · rw [if_pos ⟨by omega, g⟩, if_neg g]
  exact key
/-- a change of track j: what of the scalars is told anew, on both sides -/
def DS (j : Nat) (σ : CS) (r : CS) : Prop := r.1 = σ.1 ∧ (j = 0 → r.2 1 = 0 ∧ r.2 4 = -1 ∧ ∀ q, q ≠ 1 → q ≠ 4 → r.2 q = σ.2 q) ∧ (j = 1 → r.2 5 = grw (σ.2 5) ∧ r.2 8 = grw (σ.2 8) ∧ ∀ q, q ≠ 5 → q ≠ 8 → r.2 q = σ.2 q)
def DM (j : Nat) (τ : MS) (r : MS) : Prop := r.1 = τ.1 ∧ (j = 0 → r.2 1 = 0 ∧ r.2 2 = 0 ∧ r.2 3 = -1 ∧ ∀ q, q ≠ 1 → q ≠ 2 → q ≠ 3 → r.2 q = τ.2 q) ∧ (j = 1 → r.2 5 = grw (τ.2 5) ∧ r.2 8 = grw (τ.2 8) ∧ ∀ q, q ≠ 5 → q ≠ 8 → r.2 q = τ.2 q)
theorem cl_dist {x : Int32} {j : Nat} (hx : x = 0 ∧ j = 0 ∨ x = 1 ∧ j = 1) : Ok (f_X3_disturb σ x) (DS j σ) := by
  refine ok_mono (cl_disturb x) fun r h => ⟨h.1, fun e => ?_, fun e => ?_⟩
  · rcases hx with ⟨a, b⟩ | ⟨a, b⟩
    · exact h.2.1 a
    · omega
  · rcases hx with ⟨a, b⟩ | ⟨a, b⟩
    · omega
    · exact h.2.2 (by rw [a]; decide)
theorem mo_chg {x : Int32} {j : Nat} (hx : x = 0 ∧ j = 0 ∨ x = 1 ∧ j = 1) : Ok (f_X6_changed τ x (-1)) (DM j τ) := by
  rcases hx with ⟨a, b⟩ | ⟨a, b⟩ <;> subst a b
  · obtain ⟨r, e, h1, h2, h3, h4, h5⟩ := mo_chg0 (τ := τ) (-1)
    exact ⟨r, e, h1, fun _ => ⟨h2, h3, h4, h5⟩, fun e => absurd e (by omega)⟩
  · obtain ⟨r, e, h1, h2, h3, h4⟩ := mo_chg1 (τ := τ) (-1)
    rw [if_neg (by decide)] at h2 h3
    exact ⟨r, e, h1, fun e => absurd e (by omega), fun _ => ⟨h2, h3, h4⟩⟩
theorem RY.dist {r : CS} {r2 : MS} (h : RY σ τ) {j : Nat} (hj : j < 2) (hw : j = 1 → WR σ τ) (h1 : DS j σ r) (h2 : DM j τ r2) : RX r r2 := by
  rcases (by omega : j = 0 ∨ j = 1) with e | e <;> subst e
  · obtain ⟨a1, a2, -⟩ := h1
    obtain ⟨b1, b2, -⟩ := h2
    obtain ⟨a2, a3, a4⟩ := a2 rfl
    obtain ⟨b2, b3, b4, b5⟩ := b2 rfl
    refine ⟨h.cg (fun i _ => by rw [a1]) b1 (fun q p1 p2 => ?_) ?_, ?_⟩
    · rw [a4 q (by omega) (by omega), b5 q (by omega) (by omega) (by omega)]; exact h.2.1 q p1 p2
    · rw [a4 0 (by omega) (by omega), b5 4 (by omega) (by omega) (by omega)]; exact h.2.2.1
    · unfold WR
      rw [a2, a3, b2, b4]
      exact Or.inl ⟨rfl, rfl, rfl, rfl⟩
  · obtain ⟨a1, -, a2⟩ := h1
    obtain ⟨b1, -, b2⟩ := h2
    obtain ⟨a2, a3, a4⟩ := a2 rfl
    obtain ⟨b2, b3, b5⟩ := b2 rfl
    have hw := hw rfl
    refine ⟨h.cg (fun i _ => by rw [a1]) b1 (fun q p1 p2 => ?_) ?_, ?_⟩
    · by_cases e5 : q = 5
      · rw [e5, a2, b2, h.2.1 5 (by omega) (by omega)]
      · by_cases e8 : q = 8
        · rw [e8, a3, b3, h.2.1 8 (by omega) (by omega)]
        · rw [a4 q e5 e8, b5 q e5 e8]; exact h.2.1 q p1 p2
    · rw [a4 0 (by omega) (by omega), b5 4 (by omega) (by omega)]; exact h.2.2.1
    · unfold WR
      rw [a4 1 (by omega) (by omega), a4 2 (by omega) (by omega), a4 3 (by omega) (by omega), a4 4 (by omega) (by omega), b5 1 (by omega) (by omega), b5 2 (by omega) (by omega), b5 3 (by omega) (by omega)]
      exact hw
theorem trackOf_ok {x : Int32} {j : Nat} (hx : x = 0 ∧ j = 0 ∨ x = 1 ∧ j = 1) : f_X3_trackOf σ x = some j := by
  rcases hx with ⟨a, b⟩ | ⟨a, b⟩ <;> subst a b <;> rfl
/-! slips -/
def slipNo (x b p c : Int32) : Int32 := 1000 * (4 * x + (if b = 0 then 0 else 2) + (if p = 0 then 0 else 1)) + c
theorem cl_slipOf (x b p c : Int32) : f_X3_slipOf x b p c = some (slipNo x b p c) := by
  unfold f_X3_slipOf f_X3_slipOf_15 f_X3_slipOf_25 slipNo
  by_cases h1 : b = 0 <;> by_cases h2 : p = 0 <;> simp only [if_pos, if_neg, h1, h2, not_false_eq_true, if_true, if_false]
theorem mo_one (x : Int32) : f_X6_one x = some (if x = 0 then 0 else 1) := by
  unfold f_X6_one
  split <;> rfl
def slipL (xs : List Int32) (n : Int32) : List Int32 := (if xs.length = 12 then delAt xs 0 else xs) ++ [n]
theorem mo_slip (hl : (τ.1 2).length ≤ 12) (x b p c : Int32) : f_X6_slip τ x b p c = some (va_up τ.1 2 (slipL (τ.1 2) (slipNo x b p c)), τ.2) := by
  have e2 : ∀ b : Int32, 2 * (if b = 0 then (0 : Int32) else 1) = if b = 0 then 0 else 2 := by
    intro b
    split <;> rfl
  have main : ∀ t : MS, (t.1 2).length ≤ 12 → f_X6_slip_21 t x b p c = some (va_up t.1 2 (t.1 2 ++ [slipNo x b p c]), t.2) := by
    intro t ht
    unfold f_X6_slip_21
    rw [mo_one, mo_one]
    show (ladd (t.1 2) _).bind _ = _
    unfold ladd
    rw [if_neg (by omega), e2]
    rfl
  unfold f_X6_slip slipL
  by_cases q : (τ.1 2).length = 12
  · rw [if_pos (by rw [q]; rfl), if_pos q]
    have hd : ldel (τ.1 2) 0 = some (delAt (τ.1 2) 0) := ldelN (i := 0) (by omega) (by omega)
    rw [hd]
    show f_X6_slip_21 (va_up τ.1 2 (delAt (τ.1 2) 0), τ.2) x b p c = _
    rw [main _ (by rw [l_eq, delAt_len (by omega)]; omega), l_eq]
    show some (va_up (va_up τ.1 2 (delAt (τ.1 2) 0)) 2 _, τ.2) = _
    congr 2
    funext i
    by_cases e : i = 2
    · subst e; rw [up_eq, up_eq]
    · rw [up_ne e, up_ne e, up_ne e]
  · have q2 : ¬ nI (τ.1 2).length = 12 := fun h => q ((nI_eqi (b := 12) (by omega) (by omega)).mp h)
    rw [if_neg q2, if_neg q]
    exact main τ hl
theorem cl_laySlip {xs : List Int32} (h : RW 2 (σ.1 2) xs) (n : Int32) : Ok (f_X3_laySlip σ n) fun r => r.2 = σ.2 ∧ RW 2 (r.1 2) (slipL xs n) ∧ ∀ i, i ≠ 2 → r.1 i = σ.1 i := by
  have hc : cap 2 = 12 := rfl
  have hl := h.2.1
  have main : ∀ (s : CS) (ys : List Int32), RW 2 (s.1 2) ys → ys.length < 12 → Ok (f_X3_laySlip_19 s n) fun r => r.2 = s.2 ∧ RW 2 (r.1 2) (ys ++ [n]) ∧ ∀ i, i ≠ 2 → r.1 i = s.1 i := by
    intro s ys hs hy
    unfold f_X3_laySlip_19
    refine ok_bind (rw_enterLast hs (v := n) (by rw [hc]; exact hy)) fun z hz => ok_nme fun t ht => ok_some ?_
    subst ht
    refine ⟨rfl, ?_, fun i hi => up_ne hi⟩
    show RW 2 (va_up s.1 2 z 2) _
    rw [up_eq]; exact hz
  unfold f_X3_laySlip slipL
  refine ok_ev (rw_isFull h) ?_
  by_cases q : xs.length < cap 2
  · rw [if_pos q, if_neg (show ¬ xs.length = 12 by omega)]
    exact ok_t rfl (main σ xs h (by omega))
  · rw [if_neg q, if_pos (show xs.length = 12 by omega)]
    refine ok_f (by decide) (ok_bind (rw_leave h (j := 0) (by omega)) fun z hz => ok_nme fun t ht => ?_)
    have t2 : t.1 2 = z.2 := by rw [ht]; show va_up σ.1 2 z.2 2 = _; exact up_eq
    refine ok_mono (main t (delAt xs 0) (by rw [t2]; exact hz.2) (by rw [delAt_len (by omega)]; omega)) fun r hr => ?_
    refine ⟨hr.1.trans (by rw [ht]), hr.2.1, fun i hi => (hr.2.2 i hi).trans ?_⟩
    rw [ht]; exact up_ne hi
end L3A
end
section
/-! level 3: steps -/
section L3B
variable {σ : CS} {τ : MS}
theorem cap01 {j : Nat} (hj : j < 2) : cap j = 20 := by
  rcases (by omega : j = 0 ∨ j = 1) with e | e <;> subst e <;> rfl
theorem VT.rng {v : Int32} (h : VT v) : 0 ≤ v ∧ v ≤ 999 := by
  rcases h with h | h
  · subst h; exact ⟨by decide, by decide⟩
  · exact ⟨Int32.le_trans (by decide) h.1, h.2⟩
theorem slipM {x b p c : Int32} {j : Nat} (hx : x = 0 ∧ j = 0 ∨ x = 1 ∧ j = 1) : ∃ m, m < 8 ∧ m / 4 = j ∧ slipNo x b p c = nI (1000 * m) + c := by
  unfold slipNo
  have key : ∀ (y u v : Int32) (m : Nat), m < 8 → m / 4 = j → 1000 * (4 * y + u + v) = nI (1000 * m) → ∃ m, m < 8 ∧ m / 4 = j ∧ 1000 * (4 * y + u + v) + c = nI (1000 * m) + c := fun y u v m h1 h2 h3 => ⟨m, h1, h2, by rw [h3]⟩
  rcases hx with ⟨h1, h2⟩ | ⟨h1, h2⟩ <;> subst h1 h2
  · split <;> split
    · exact key 0 0 0 0 (by omega) rfl (by decide)
    · exact key 0 0 1 1 (by omega) rfl (by decide)
    · exact key 0 2 0 2 (by omega) rfl (by decide)
    · exact key 0 2 1 3 (by omega) rfl (by decide)
  · split <;> split
    · exact key 1 0 0 4 (by omega) rfl (by decide)
    · exact key 1 0 1 5 (by omega) rfl (by decide)
    · exact key 1 2 0 6 (by omega) rfl (by decide)
    · exact key 1 2 1 7 (by omega) rfl (by decide)
theorem slip_parts {m : Nat} {c : Int32} (hm : m < 8) (hc : 0 ≤ c ∧ c ≤ 999) : (nI (1000 * m) + c) / 4000 = nI (m / 4) ∧ jrem (nI (1000 * m) + c) 1000 = c ∧ 0 ≤ nI (1000 * m) + c ∧ nI (1000 * m) + c ≤ 7999 := by
  have h0 : 0 ≤ c.toInt := Int32.le_iff_toInt_le.mp hc.1
  have h9 : c.toInt ≤ 999 := Int32.le_iff_toInt_le.mp hc.2
  have e : (nI (1000 * m) + c).toInt = (1000 * m : Nat) + c.toInt := by
    rw [Int32.toInt_add, nI_toInt (by omega)]
    exact Int.bmod_eq_of_le (by omega) (by omega)
  have z0 : (0 : Int32).toInt = 0 := rfl
  have z7 : (7999 : Int32).toInt = 7999 := rfl
  have p0 : 0 ≤ nI (1000 * m) + c := Int32.le_iff_toInt_le.mpr (by omega)
  have d4 := div_b (b := 4000) (by omega) (by omega) p0
  have d1 := div_b (b := 1000) (by omega) (by omega) p0
  have q1 : (nI (1000 * m) + c) / 1000 = nI m := by
    apply Int32.toInt_inj.mp
    rw [nI_toInt (by omega)]
    refine d1.trans ?_
    rw [e]; omega
  refine ⟨?_, ?_, p0, Int32.le_iff_toInt_le.mpr (by omega)⟩
  · apply Int32.toInt_inj.mp
    rw [nI_toInt (by omega)]
    refine d4.trans ?_
    rw [e]; omega
  · unfold jrem
    rw [q1]
    apply Int32.toInt_inj.mp
    have hmul : (nI m * 1000).toInt = (1000 * m : Nat) := by
      rw [Int32.toInt_mul, nI_toInt (by omega)]
      have : (1000 : Int32).toInt = 1000 := rfl
      rw [this, Int.bmod_eq_of_le (by omega) (by omega)]
      omega
    rw [Int32.toInt_sub, e, hmul, Int.bmod_eq_of_le (by omega) (by omega)]
    omega
theorem SV.of {x b p c : Int32} {j : Nat} (hx : x = 0 ∧ j = 0 ∨ x = 1 ∧ j = 1) (hc : TV j c) : SV (slipNo x b p c) := by
  obtain ⟨m, hm, hj, e⟩ := slipM (b := b) (p := p) (c := c) hx
  obtain ⟨a1, a2, a3, a4⟩ := slip_parts hm hc.1.rng
  rw [e]
  refine ⟨⟨a3, a4⟩, by rw [a2]; exact hc.1, fun h => ?_⟩
  rw [a2]
  refine hc.2 ?_
  rw [a1, hj] at h
  rcases hx with ⟨h1, h2⟩ | ⟨h1, h2⟩
  · exact h2
  · rw [h2] at h; exact absurd h (by decide)
theorem mem_slipL {xs : List Int32} {n w : Int32} (h : w ∈ slipL xs n) : w ∈ xs ∨ w = n := by
  unfold slipL at h
  rcases List.mem_append.mp h with q | q
  · left
    split at q
    · exact mem_del q
    · exact q
  · exact Or.inr (List.mem_singleton.mp q)
theorem RY.slip {r : CS} (h : RY σ τ) {ys : List Int32} (h1 : r.2 = σ.2) (h2 : RW 2 (r.1 2) ys) (h3 : ∀ i, i ≠ 2 → r.1 i = σ.1 i) (hv : VC (va_up τ.1 2 ys, τ.2)) : RY r (va_up τ.1 2 ys, τ.2) := by
  refine ⟨fun j hj => ?_, by rw [h1]; exact h.2.1, by rw [h1]; exact h.2.2.1, hv⟩
  by_cases e : j = 2
  · subst e
    show RW 2 (r.1 2) (va_up τ.1 2 ys 2)
    rw [up_eq]; exact h2
  · show RW j (r.1 j) (va_up τ.1 2 ys j)
    rw [up_ne e, h3 j e]; exact h.1 j hj
theorem linsN {xs : List Int32} {i : Nat} {v : Int32} (hi : i ≤ xs.length) (h : xs.length ≤ 21) : lins xs (nI i) v = some (insAt xs i v) := by
  unfold lins
  rw [nI_c (by omega), if_neg]
  rintro (h1 | h1 | h1)
  · omega
  · exact nI_nn (by omega) h1
  · omega
theorem mo_come {x v : Int32} {j i : Nat} (hx : x = 0 ∧ j = 0 ∨ x = 1 ∧ j = 1) (hg : gtr x = some j) (hi : i ≤ (τ.1 j).length) (hl : (τ.1 j).length ≤ 21) : Ok (f_X6_come τ x (nI i) v) (DM j (va_up τ.1 j (insAt (τ.1 j) i v), τ.2)) := by
  unfold f_X6_come
  refine ok_ev hg (ok_ev (linsN hi hl) (ok_nme fun t ht => ?_))
  subst ht
  exact ok_bind (mo_chg hx) fun z hz => ok_some hz
theorem mo_go {x : Int32} {j i : Nat} (hx : x = 0 ∧ j = 0 ∨ x = 1 ∧ j = 1) (hg : gtr x = some j) (hi : i < (τ.1 j).length) (hl : (τ.1 j).length ≤ 21) : Ok (f_X6_go τ x (nI i)) fun r => r.1 = (τ.1 j).getD i 0 ∧ DM j (va_up τ.1 j (delAt (τ.1 j) i), τ.2) r.2 := by
  unfold f_X6_go
  refine ok_ev hg (ok_ev (ldelN hi (by omega)) (ok_nme fun t ht => ok_nme fun y hy => ?_))
  subst ht
  refine ok_bind (mo_chg hx) fun z hz => ok_some ⟨?_, hz⟩
  show y = _
  rw [hy, nI_c (by omega)]
theorem gtr_x {x : Int32} {j : Nat} (hx : x = 0 ∧ j = 0 ∨ x = 1 ∧ j = 1) : gtr x = some j := by
  rcases hx with ⟨a, b⟩ | ⟨a, b⟩ <;> subst a b <;> rfl
theorem len12 (h : RY σ τ) : (τ.1 2).length ≤ 12 := (h.row (i := 2) (by omega)).2.1
theorem len20 (h : RY σ τ) {j : Nat} (hj : j < 2) : (τ.1 j).length ≤ 20 := (h.row (i := j) (by omega)).len
/-- what a step leaves: d more on track j -/
def SP (j : Nat) (τ : MS) (n : Nat) (r : CS) (r2 : MS) : Prop := RX r r2 ∧ r2.2 0 = τ.2 0 ∧ (r2.1 j).length = n ∧ ∀ q, q ≠ j → q ≠ 2 → r2.1 q = τ.1 q
/-- rows and lists changed alike, a slip laid, then what follows of it on both sides -/
theorem step_end {r1 r2 r3 : CS} {t1 t2 : MS} {j n : Nat} {ρ : RS} {xs zs : List Int32} {no : Int32} (h : RX σ τ) (hj : j < 2) (e1 : r1 = (va_up σ.1 j ρ, σ.2)) (hr : RW j ρ xs) (hv : VC (va_up τ.1 j xs, τ.2)) (hn : xs.length = n) (hs : SV no) (h2 : r2.2 = r1.2 ∧ RW 2 (r2.1 2) (slipL zs no) ∧ ∀ i, i ≠ 2 → r2.1 i = r1.1 i) (er : zs = τ.1 2) (h3 : DS j r2 r3) (ht : DM j (va_up τ.1 j xs, τ.2) t1) (et : t2 = (va_up t1.1 2 (slipL (t1.1 2) no), t1.2)) : SP j τ n r3 t2 := by
  subst e1
  have y1 : RY (va_up σ.1 j ρ, σ.2) (va_up τ.1 j xs, τ.2) := h.1.up (by omega) hr hv
  have et1 : t1.1 = va_up τ.1 j xs := ht.1
  have el : t1.1 2 = τ.1 2 := by rw [et1]; exact up_ne (by omega)
  have hvs : VC (va_up (va_up τ.1 j xs) 2 (slipL (τ.1 2) no), τ.2) := hv.slips fun w hw => by
    rcases mem_slipL hw with q | q
    · have := hv.2.2.1 w
      exact this (by show w ∈ va_up τ.1 j xs 2; rw [up_ne (by omega)]; exact q)
    · rw [q]; exact hs
  rw [er] at h2
  have y2 : RY r2 (va_up (va_up τ.1 j xs) 2 (slipL (τ.1 2) no), τ.2) := y1.slip h2.1 h2.2.1 h2.2.2 hvs
  have hd : DM j (va_up (va_up τ.1 j xs) 2 (slipL (τ.1 2) no), τ.2) t2 := by
    rw [et, el]
    exact ⟨by show va_up t1.1 2 _ = _; rw [et1], ht.2.1, ht.2.2⟩
  have hw : WR r2 (va_up (va_up τ.1 j xs) 2 (slipL (τ.1 2) no), τ.2) := by
    unfold WR
    rw [h2.1]; exact h.2
  refine ⟨y2.dist hj (fun _ => hw) h3 hd, ?_, ?_, fun q h1 h2 => ?_⟩
  · rw [et]
    show t1.2 0 = _
    rcases (by omega : j = 0 ∨ j = 1) with e | e <;> subst e
    · exact ((ht.2.1 rfl).2.2.2) 0 (by omega) (by omega) (by omega)
    · exact ((ht.2.2 rfl).2.2) 0 (by omega) (by omega)
  · rw [hd.1]
    show (va_up (va_up τ.1 j xs) 2 _ j).length = n
    rw [up_ne (by omega), up_eq]; exact hn
  · rw [hd.1]
    show va_up (va_up τ.1 j xs) 2 _ q = _
    rw [up_ne h2, up_ne h1]
theorem si_in (h : RX σ τ) {x b c : Int32} {j : Nat} (hj : j < 2) (hx : x = 0 ∧ j = 0 ∨ x = 1 ∧ j = 1) (hl : (τ.1 j).length < 20) (hc : TV j c) : Ri (f_X3_stepOn σ x b c) (f_X6_stepIn τ x b c) (SP j τ ((τ.1 j).length + 1)) := by
  have hg := gtr_x hx
  have hr := h.row (i := j) (by omega)
  have main : ∀ i, i ≤ (τ.1 j).length → Ri (f_X3_stepOn_22 σ x b c j (nI i)) (f_X6_stepIn_15 τ x b c x (nI i)) (SP j τ ((τ.1 j).length + 1)) := by
    intro i hi
    unfold f_X3_stepOn_22 f_X6_stepIn_15
    refine ri_okR (mo_come hx hg hi (by omega)) fun t1 ht1 => ri_eR (mo_slip ?_ x b 1 c) ?_
    · rw [ht1.1]
      show (va_up τ.1 j _ 2).length ≤ 12
      rw [up_ne (by omega)]; exact len12 h.1
    refine ri_okL (rw_enter hr hi (by rw [cap01 hj]; exact hl)) fun ρ hρ => ri_nL fun r1 e1 => ri_eL (cl_slipOf x b 1 c) ?_
    have r12 : r1.1 2 = σ.1 2 := by rw [e1]; show va_up σ.1 j ρ 2 = _; rw [up_ne (by omega)]
    refine ri_okL (cl_laySlip (xs := τ.1 2) (by rw [r12]; exact h.row (by omega)) _) fun r2 h2 => ri_okL (cl_dist hx) fun r3 h3 => ri_some ?_
    exact step_end h hj e1 hρ (h.1.2.2.2.ins hj hc) (insAt_len hi) (SV.of hx hc) h2 rfl h3 ht1 rfl
  unfold f_X3_stepOn f_X6_stepIn
  refine ri_eL (trackOf_ok hx) (ri_iR (fun e => ri_tL e (main 0 (by omega))) fun e => ri_fL e (ri_eL (rw_size hr) (ri_eR (sizeN hg) (main _ (Nat.le_refl _)))))
theorem si_out (h : RX σ τ) {x b : Int32} {j : Nat} (hj : j < 2) (hx : x = 0 ∧ j = 0 ∨ x = 1 ∧ j = 1) (hl : 0 < (τ.1 j).length) : Ri (f_X3_stepOff σ x b) (f_X6_stepOut τ x b) fun r r2 => r.1 = r2.1 ∧ TV j r.1 ∧ SP j τ ((τ.1 j).length - 1) r.2 r2.2 := by
  have hg := gtr_x hx
  have hr := h.row (i := j) (by omega)
  have hl20 := len20 h.1 hj
  have main : ∀ i, i < (τ.1 j).length → f_X0_endPlace (cap j) (σ.1 j) b = some (nI i) → Ri (f_X3_stepOff σ x b) (f_X6_stepOut_17 τ x b x (nI i)) fun r r2 => r.1 = r2.1 ∧ TV j r.1 ∧ SP j τ ((τ.1 j).length - 1) r.2 r2.2 := by
    intro i hi he
    unfold f_X3_stepOff f_X6_stepOut_17
    refine ri_okR (mo_go hx hg hi (by omega)) fun t1 ht1 => ri_eR (mo_slip ?_ x b 0 t1.1) ?_
    · rw [ht1.2.1]
      show (va_up τ.1 j _ 2).length ≤ 12
      rw [up_ne (by omega)]; exact len12 h.1
    refine ri_eL (trackOf_ok hx) (ri_eL he (ri_okL (rw_leave hr hi) fun z hz => ri_nL fun r1 e1 => ri_eL (cl_slipOf x b 0 z.1) ?_))
    have r12 : r1.1 2 = σ.1 2 := by rw [e1]; show va_up σ.1 j z.2 2 = _; rw [up_ne (by omega)]
    have ez : z.1 = t1.1 := hz.1.trans ht1.1.symm
    have hc : TV j z.1 := by rw [hz.1]; exact h.1.2.2.2.tv hj (mem_getD hi)
    refine ri_okL (cl_laySlip (xs := τ.1 2) (by rw [r12]; exact h.row (by omega)) _) fun r2 h2 => ri_okL (cl_dist hx) fun r3 h3 => ri_some ⟨ez, hc, ?_⟩
    exact step_end h hj e1 hz.2 (h.1.2.2.2.del hj) (delAt_len hi) (SV.of hx hc) h2 rfl h3 ht1.2 (by rw [ez])
  unfold f_X6_stepOut
  have he := rw_endPlace hr b
  refine ri_iR (fun e => main 0 hl ?_) fun e => ri_eR (sizeN hg) ?_
  · rw [he, if_pos e, if_neg (by omega)]; rfl
  · rw [nI_prd (by omega) (by omega)]
    refine main _ (by omega) ?_
    rw [he, if_neg e, nI_prd (by omega) (by omega)]
/-! what a call asks for before it does anything -/
def thr (τ : MS) (v : Int32) : MS := (τ.1, va_up τ.2 0 v)
theorem thr0 {v : Int32} : (thr τ v).2 0 = v := by
  show va_up τ.2 0 v 0 = v
  exact up_eq
theorem thr1 {v : Int32} : (thr τ v).1 = τ.1 := rfl
theorem thrn {v : Int32} : ∀ j, j ≠ 0 → (thr τ v).2 j = τ.2 j := fun j h => by
  show va_up τ.2 0 v j = _
  exact up_ne h
theorem RX.thr (h : RX σ τ) (v : Int32) : RX σ (thr τ v) := h.th rfl thrn
theorem mo_ref0 (h0 : τ.2 0 = 0) {x v : Int32} (hx : x = 0) : f_X6_refuse τ x v = some (0, τ) := by
  unfold f_X6_refuse f_X6_refuse_16
  rw [if_pos hx, if_pos (by rw [h0]; decide)]
theorem mo_ref1 (h0 : τ.2 0 = 0) {x v : Int32} (hx : ¬ x = 0) (hv : ¬ v ≤ 0) : f_X6_refuse τ x v = some (1, thr τ v) := by
  unfold f_X6_refuse f_X6_refuse_16
  rw [if_neg hx, if_pos h0]
  show (if va_up τ.2 0 v 0 ≤ 0 then _ else _) = _
  rw [up_eq, if_neg hv]
  rfl
theorem mo_st0 {x v : Int32} (hx : x = 0) : f_X6_start τ x v = some (0, thr τ 0) := by
  unfold f_X6_start
  show (f_X6_refuse (thr τ 0) x v).bind _ = _
  rw [mo_ref0 thr0 hx]
  rfl
theorem thr_thr {u v : Int32} : thr (thr τ u) v = thr τ v := by
  unfold thr
  congr 1
  funext i
  by_cases e : i = 0
  · subst e; rw [up_eq, up_eq]
  · rw [up_ne e, up_ne e]
    show va_up τ.2 0 u i = _
    rw [up_ne e]
theorem mo_st1 {x v : Int32} (hx : ¬ x = 0) (hv : ¬ v ≤ 0) : f_X6_start τ x v = some (1, thr τ v) := by
  unfold f_X6_start
  show (f_X6_refuse (thr τ 0) x v).bind _ = _
  rw [mo_ref1 thr0 hx hv, thr_thr]
  rfl
theorem cl_within {x a b : Int32} (h : a ≤ x ∧ x ≤ b) : f_X3_needWithin x a b = some (.inr ()) := by
  unfold f_X3_needWithin
  rw [if_neg (Int32.not_lt.mpr h.1), if_pos h.2]
theorem cl_without {x a b : Int32} (h : ¬ (a ≤ x ∧ x ≤ b)) : f_X3_needWithin x a b = some (.inl 1) := by
  unfold f_X3_needWithin
  by_cases c : x < a
  · rw [if_pos c]
  · rw [if_neg c, if_neg (fun d => h ⟨Int32.not_lt.mp c, d⟩)]
theorem mo_isIn (x a b : Int32) : f_X6_isIn x a b = some (if a ≤ x ∧ x ≤ b then 1 else 0) := by
  unfold f_X6_isIn
  by_cases c : x < a
  · rw [if_pos c, if_neg (fun h => absurd h.1 (Int32.not_le.mpr c))]
  · rw [if_neg c]
    by_cases d : b < x
    · rw [if_pos d, if_neg (fun h => absurd h.2 (Int32.not_le.mpr d))]
    · rw [if_neg d, if_pos ⟨Int32.not_lt.mp c, Int32.not_lt.mp d⟩]
theorem in01 {x : Int32} : (0 ≤ x ∧ x ≤ 1) ↔ (x = 0 ∨ x = 1) := by
  constructor
  · rintro ⟨h0, h1⟩
    grind
  · rintro (h | h) <;> subst h <;> decide
theorem cl_track {x : Int32} (h : x = 0 ∨ x = 1) : f_X3_needTrack x = some (.inr ()) := by
  rcases h with h | h <;> subst h <;> rfl
theorem cl_notrack {x : Int32} (h : ¬ (x = 0 ∨ x = 1)) : f_X3_needTrack x = some (.inl 0) := by
  unfold f_X3_needTrack
  rw [if_neg (fun e => h (Or.inl e)), if_neg (fun e => h (Or.inr e))]
theorem mo_noTrack (x : Int32) : f_X6_isNoTrack x = some (if x = 0 ∨ x = 1 then 0 else 1) := by
  unfold f_X6_isNoTrack
  rw [mo_isIn]
  by_cases c : x = 0 ∨ x = 1
  · rw [if_pos (in01.mpr c), if_pos c]; rfl
  · rw [if_neg (mt in01.mp c), if_neg c]; rfl
def PC (k l : Int32) : Prop := (0 ≤ k ∧ k ≤ 9) ∧ 0 ≤ l ∧ l ≤ 99
end L3B
end
section
/-! level 3: pieces put and taken at the ends -/
section L3C
variable {σ : CS} {τ : MS}
theorem bsm {α β : Type} {a : α} {f : α → Option β} : (some a).bind f = f a := rfl
theorem obm {α β : Type} {a : α} {f : α → Option (Nat ⊕ β)} : obx (some (.inr a)) f = f a := rfl
/-- how a call ends on both sides: thrown alike (C: which), or answered alike -/
def TQ (C : Nat → Int32) (σ : CS) (res : Nat ⊕ (Int32 × CS)) (r2 : Int32 × MS) : Prop := (∀ e, res = .inl e → RX σ r2.2 ∧ r2.2.2 0 = C e ∧ ¬ C e = 0) ∧ ∀ z, res = .inr z → RX z.2 r2.2 ∧ r2.2.2 0 = 0 ∧ z.1 = r2.1
def TN (C : Nat → Int32) (σ : CS) (res : Nat ⊕ Int32) (r2 : Int32 × MS) : Prop := (∀ e, res = .inl e → RX σ r2.2 ∧ r2.2.2 0 = C e ∧ ¬ C e = 0) ∧ ∀ z, res = .inr z → RX σ r2.2 ∧ r2.2.2 0 = 0 ∧ z = r2.1
theorem tq_l {C : Nat → Int32} {e : Nat} {v : Int32} {s : MS} (h : RX σ s) (h0 : s.2 0 = C e) (hne : ¬ C e = 0 := by decide) : Ri (some (.inl e)) (some (v, s)) (TQ C σ) := ri_some ⟨fun k hk => by cases hk; exact ⟨h, h0, hne⟩, fun z hz => by cases hz⟩
theorem tq_r {C : Nat → Int32} {r : CS} {u v : Int32} {s : MS} (h : RX r s) (h0 : s.2 0 = 0) (e : u = v) : Ri (some (.inr (u, r))) (some (v, s)) (TQ C σ) := ri_some ⟨fun k hk => (by cases hk), fun z hz => by cases hz; exact ⟨h, h0, e⟩⟩
theorem tn_l {C : Nat → Int32} {e : Nat} {v : Int32} {s : MS} (h : RX σ s) (h0 : s.2 0 = C e) (hne : ¬ C e = 0 := by decide) : Ri (some (.inl e)) (some (v, s)) (TN C σ) := ri_some ⟨fun k hk => by cases hk; exact ⟨h, h0, hne⟩, fun z hz => by cases hz⟩
theorem tn_r {C : Nat → Int32} {u v : Int32} {s : MS} (h : RX σ s) (h0 : s.2 0 = 0) (e : u = v) : Ri (some (.inr u)) (some (v, s)) (TN C σ) := ri_some ⟨fun k hk => (by cases hk), fun z hz => by cases hz; exact ⟨h, h0, e⟩⟩
theorem tk_ok {x : Int32} (p : x = 0 ∨ x = 1) : ∃ j, j < 2 ∧ (x = 0 ∧ j = 0 ∨ x = 1 ∧ j = 1) := by
  rcases p with p | p
  · exact ⟨0, by omega, Or.inl ⟨p, rfl⟩⟩
  · exact ⟨1, by omega, Or.inr ⟨p, rfl⟩⟩
theorem gd_track {α : Type} {x : Int32} {F : Unit → Option (Nat ⊕ α)} {G : Int32 × MS → Option (Int32 × MS)} {Q : Nat ⊕ α → Int32 × MS → Prop} (h0 : ∀ j, j < 2 → (x = 0 ∧ j = 0 ∨ x = 1 ∧ j = 1) → Ri (F ()) (G (0, thr τ 0)) Q) (h1 : Ri (some (.inl 0)) (G (1, thr τ 1)) Q) : Ri (obx (f_X3_needTrack x) F) ((f_X6_isNoTrack x).bind fun z => (f_X6_start τ z 1).bind G) Q := by
  by_cases p : x = 0 ∨ x = 1
  · obtain ⟨j, hj, hx⟩ := tk_ok p
    refine ri_obr (cl_track p) (ri_eR (mo_noTrack x) ?_)
    rw [if_pos p]
    exact ri_eR (mo_st0 rfl) (h0 j hj hx)
  · refine ri_obl (cl_notrack p) (ri_eR (mo_noTrack x) ?_)
    rw [if_neg p]
    exact ri_eR (mo_st1 ne10 (by decide)) h1
/-- a second thing that is asked for -/
theorem gd_ref {α : Type} {c : Prop} {u : Int32} {e : Nat} {v : Int32} {o : Option (Nat ⊕ Unit)} {F : Unit → Option (Nat ⊕ α)} {G : Int32 × MS → Option (Int32 × MS)} {Q : Nat ⊕ α → Int32 × MS → Prop} (ht : τ.2 0 = 0) (hv : ¬ v ≤ 0) (h : c ∧ u = 0 ∧ o = some (.inr ()) ∨ ¬ c ∧ ¬ u = 0 ∧ o = some (.inl e)) (h0 : c → Ri (F ()) (G (0, τ)) Q) (h1 : Ri (some (.inl e)) (G (1, thr τ v)) Q) : Ri (obx o F) ((f_X6_refuse τ u v).bind G) Q := by
  rcases h with ⟨a, b, d⟩ | ⟨a, b, d⟩
  · exact ri_obr d (ri_eR (mo_ref0 ht b) (h0 a))
  · exact ri_obl d (ri_eR (mo_ref1 ht b hv) h1)
theorem cl_piece (k l : Int32) : f_X3_needPiece k l = some (if (0 ≤ k ∧ k ≤ 9) ∧ 0 ≤ l ∧ l ≤ 99 then .inr () else .inl 1) := by
  unfold f_X3_needPiece
  by_cases h1 : 0 ≤ k ∧ k ≤ 9
  · rw [cl_within h1]
    by_cases h2 : 0 ≤ l ∧ l ≤ 99
    · rw [if_pos ⟨h1, h2⟩]
      show obx (f_X3_needWithin l 0 99) _ = _
      rw [cl_within h2]; rfl
    · rw [if_neg (fun h => h2 h.2)]
      show obx (f_X3_needWithin l 0 99) _ = _
      rw [cl_without h2]; rfl
  · rw [if_neg (fun h => h1 h.1), cl_without h1]; rfl
theorem mo_noPiece (k l : Int32) : f_X6_isNoPiece k l = some (if (0 ≤ k ∧ k ≤ 9) ∧ 0 ≤ l ∧ l ≤ 99 then 0 else 1) := by
  unfold f_X6_isNoPiece f_X6_isNoPiece_20
  rw [mo_isIn, mo_isIn]
  by_cases h1 : 0 ≤ k ∧ k ≤ 9
  · rw [if_pos h1]
    by_cases h2 : 0 ≤ l ∧ l ≤ 99
    · rw [if_pos h2, if_pos ⟨h1, h2⟩]; rfl
    · rw [if_neg h2, if_neg (fun h => h2 h.2)]; rfl
  · have e : ¬ ((0 ≤ k ∧ k ≤ 9) ∧ 0 ≤ l ∧ l ≤ 99) := fun h => h1 h.1
    rw [if_neg h1, if_neg e]; rfl
theorem pc_cases (k l : Int32) : PC k l ∧ (if (0 ≤ k ∧ k ≤ 9) ∧ 0 ≤ l ∧ l ≤ 99 then (0 : Int32) else 1) = 0 ∧ f_X3_needPiece k l = some (.inr ()) ∨ ¬ PC k l ∧ ¬ (if (0 ≤ k ∧ k ≤ 9) ∧ 0 ≤ l ∧ l ≤ 99 then (0 : Int32) else 1) = 0 ∧ f_X3_needPiece k l = some (.inl 1) := by
  by_cases h : (0 ≤ k ∧ k ≤ 9) ∧ 0 ≤ l ∧ l ≤ 99
  · exact Or.inl ⟨h, by rw [if_pos h], by rw [cl_piece, if_pos h]⟩
  · exact Or.inr ⟨h, by rw [if_neg h]; decide, by rw [cl_piece, if_neg h]⟩
theorem room_cases (h : RX σ τ) {x : Int32} {j : Nat} (hj : j < 2) (hx : x = 0 ∧ j = 0 ∨ x = 1 ∧ j = 1) {n : Nat} (hn : n ≤ 20) : ((τ.1 j).length + n ≤ 20 ∧ f_X3_needRoom σ x (nI n) = some (.inr ())) ∨ (¬ (τ.1 j).length + n ≤ 20 ∧ f_X3_needRoom σ x (nI n) = some (.inl 2)) := by
  have hr := h.row (i := j) (by omega)
  have hl := hr.len
  have e : f_X3_needRoom σ x (nI n) = some (if nI ((τ.1 j).length + n) ≤ nI 20 then .inr () else .inl 2) := by
    unfold f_X3_needRoom
    rw [trackOf_ok hx, bsm, rw_size hr, bsm, nI_sum (by omega)]
    have e20 : (20 : Int32) = nI 20 := rfl
    rw [e20]
    split <;> rfl
  by_cases c : (τ.1 j).length + n ≤ 20
  · exact Or.inl ⟨c, by rw [e, if_pos ((nI_lei (by omega) (by omega)).mpr c)]⟩
  · exact Or.inr ⟨c, by rw [e, if_neg (mt (nI_lei (by omega) (by omega)).mp c)]⟩
theorem sum_le {a b : Nat} (ha : a ≤ 20) (hb : b ≤ 20) : nI a + nI b ≤ 20 ↔ a + b ≤ 20 := by
  rw [nI_sum (by omega)]
  exact nI_lei (b := 20) (by omega) (by omega)
/-! the code of a piece -/
def cd (k l : Int32) : Int32 := if k = 0 then 0 else 100 * k + l
theorem cl_code (k l : Int32) : f_X3_codeOf k l = some (cd k l) := by
  unfold f_X3_codeOf cd
  split <;> rfl
theorem mo_code (k l : Int32) : f_X6_code k l = some (cd k l) := by
  unfold f_X6_code cd
  split <;> rfl
theorem cdN {a b : Nat} (ha : a ≤ 9) (hb : b ≤ 99) : 100 * nI a + nI b = nI (100 * a + b) := by
  apply Int32.toInt_inj.mp
  have h1 : (100 : Int32).toInt = 100 := rfl
  rw [Int32.toInt_add, Int32.toInt_mul, h1, nI_toInt (by omega), nI_toInt (by omega), nI_toInt (by omega), Int.bmod_eq_of_le (n := 100 * (a : Int)) (by omega) (by omega), Int.bmod_eq_of_le (by omega) (by omega)]
  omega
theorem pcd {k l : Int32} (h : PC k l) : VT (cd k l) ∧ (cd k l = 0 ↔ k = 0) := by
  obtain ⟨⟨a0, a1⟩, b0, b1⟩ := h
  obtain ⟨a, ha, rfl⟩ := nIof (b := 9) (by omega) a0 a1
  obtain ⟨b, hb, rfl⟩ := nIof (b := 99) (by omega) b0 b1
  unfold cd
  by_cases c : nI a = 0
  · rw [if_pos c]
    exact ⟨Or.inl rfl, fun _ => c, fun _ => rfl⟩
  · rw [if_neg c, cdN ha hb]
    have hp : 1 ≤ a := by
      have := mt (nI_eqz (a := a) (by omega)).mpr c
      omega
    refine ⟨Or.inr ⟨(nI_lei (a := 100) (by omega) (by omega)).mpr (by omega), (nI_lei (b := 999) (by omega) (by omega)).mpr (by omega)⟩, fun e => ?_, fun e => absurd e c⟩
    have := (nI_eqz (by omega)).mp e
    omega
theorem mo_barred (x c : Int32) : f_X6_isBarred x c = some (if x = 0 ∧ c = 0 then 1 else 0) := by
  unfold f_X6_isBarred
  by_cases h1 : x = 0
  · rw [if_pos h1]
    by_cases h2 : c = 0
    · rw [if_pos h2, if_pos ⟨h1, h2⟩]
    · rw [if_neg h2, if_neg (fun h => h2 h.2)]
  · rw [if_neg h1, if_neg (fun h => h1 h.1)]
/-- what both sides ask for when a piece is brought -/
theorem bring_cases (h : RX σ τ) (x b k l : Int32) : (f_X3_bringPiece σ x b k l = some (.inl 0) ∧ f_X6_mayNot τ x k l 1 = some (1, thr τ 1)) ∨ (f_X3_bringPiece σ x b k l = some (.inl 1) ∧ f_X6_mayNot τ x k l 1 = some (1, thr τ 2)) ∨ (f_X3_bringPiece σ x b k l = some (.inl 2) ∧ f_X6_mayNot τ x k l 1 = some (1, thr τ 3)) ∨ ∃ j, j < 2 ∧ (x = 0 ∧ j = 0 ∨ x = 1 ∧ j = 1) ∧ PC k l ∧ (τ.1 j).length < 20 ∧ f_X6_mayNot τ x k l 1 = some (0, thr τ 0) ∧ ((x = 0 ∧ cd k l = 0 ∧ f_X3_bringPiece σ x b k l = some (.inr (0, σ))) ∨ (¬ (x = 0 ∧ cd k l = 0) ∧ f_X3_bringPiece σ x b k l = (f_X3_stepOn σ x b (cd k l)).bind fun z => some (.inr (1, z)))) := by
  unfold f_X3_bringPiece f_X6_mayNot
  rw [mo_noTrack]
  by_cases p : x = 0 ∨ x = 1
  · obtain ⟨j, hj, hx⟩ := tk_ok p
    rw [cl_track p, if_pos p]
    have e1 : ((f_X6_start τ 0 1)) = some (0, thr τ 0) := mo_st0 rfl
    rcases pc_cases k l with ⟨a, b1, d⟩ | ⟨a, b1, d⟩
    · rcases room_cases h hj hx (n := 1) (by omega) with ⟨r1, r2⟩ | ⟨r1, r2⟩
      · refine Or.inr (Or.inr (Or.inr ⟨j, hj, hx, a, by omega, ?_, ?_⟩))
        · rw [bsm, e1, bsm, if_pos rfl, mo_noPiece, bsm, b1, mo_ref0 thr0 rfl, bsm, if_pos rfl, sizeN (gtr_x hx), bsm]
          have e1n : (1 : Int32) = nI 1 := rfl
          rw [e1n]
          have hl := len20 h.1 hj
          rw [if_pos ((sum_le (a := ((thr τ 0).1 j).length) (b := 1) (by rw [thr1]; omega) (by omega)).mpr (by rw [thr1]; omega))]
          unfold f_X6_mayNot_44
          rw [mo_ref0 thr0 rfl]
          rfl
        · have e2 : obx (some (Sum.inr ()) : Option (Nat ⊕ Unit)) (fun z11 => obx (f_X3_needPiece k l) fun z16 => obx (f_X3_needRoom σ x 1) fun z21 => if x = 0 then (if k = 0 then some (.inr (0, σ)) else f_X3_bringPiece_26 σ x b k l) else f_X3_bringPiece_26 σ x b k l) = if x = 0 then (if k = 0 then some (.inr (0, σ)) else f_X3_bringPiece_26 σ x b k l) else f_X3_bringPiece_26 σ x b k l := by
            have e1n : (1 : Int32) = nI 1 := rfl
            rw [obm, d, obm, e1n, r2]
            rfl
          have e3 : f_X3_bringPiece_26 σ x b k l = (f_X3_stepOn σ x b (cd k l)).bind fun z => some (.inr (1, z)) := by
            unfold f_X3_bringPiece_26
            rw [cl_code]; rfl
          by_cases c : x = 0 ∧ cd k l = 0
          · left
            refine ⟨c.1, c.2, ?_⟩
            rw [e2, if_pos c.1, if_pos ((pcd a).2.mp c.2)]
          · right
            refine ⟨c, ?_⟩
            rw [e2]
            by_cases c1 : x = 0
            · rw [if_pos c1, if_neg (fun q => c ⟨c1, (pcd a).2.mpr q⟩), e3]
            · rw [if_neg c1, e3]
      · refine Or.inr (Or.inr (Or.inl ⟨?_, ?_⟩))
        · have e1n : (1 : Int32) = nI 1 := rfl
          rw [obm, d, obm, e1n, r2]
          rfl
        · rw [bsm, e1, bsm, if_pos rfl, mo_noPiece, bsm, b1, mo_ref0 thr0 rfl, bsm, if_pos rfl, sizeN (gtr_x hx), bsm]
          have e1n : (1 : Int32) = nI 1 := rfl
          rw [e1n]
          have hl := len20 h.1 hj
          rw [if_neg (mt (sum_le (a := ((thr τ 0).1 j).length) (b := 1) (by rw [thr1]; omega) (by omega)).mp (by rw [thr1]; omega))]
          unfold f_X6_mayNot_44 f_X6_mayNot_51
          rw [← e1n]
          rw [mo_ref1 thr0 ne10 (by decide), thr_thr]
          rfl
    · refine Or.inr (Or.inl ⟨?_, ?_⟩)
      · rw [obm, d]
        rfl
      · rw [bsm, e1, bsm, if_pos rfl, mo_noPiece, bsm, mo_ref1 thr0 b1 (by decide), thr_thr]
        rfl
  · refine Or.inl ⟨?_, ?_⟩
    · rw [cl_notrack p]; rfl
    · rw [if_neg p]
      rw [bsm, mo_st1 ne10 (by decide)]
      rfl
def C3 (k : Nat) : Int32 := if k = 0 then 1 else if k = 1 then 2 else if k = 2 then 3 else 0
def C2 (k : Nat) : Int32 := if k = 0 then 1 else if k = 1 then 2 else 0
def C02 (k : Nat) : Int32 := if k = 0 then 1 else if k = 2 then 2 else 0
def C12 (k : Nat) : Int32 := if k = 1 then 1 else if k = 2 then 2 else 0
def C1 (k : Nat) : Int32 := if k = 0 then 1 else 0
def C11 (k : Nat) : Int32 := if k = 1 then 1 else 0
def C22 (k : Nat) : Int32 := if k = 2 then 1 else 0
theorem SP.rx {j n : Nat} {r : CS} {r2 : MS} (h : SP j τ n r r2) : RX r r2 := h.1
theorem tvcd {x k l : Int32} {j : Nat} (hp : PC k l) (hx : x = 0 ∧ j = 0 ∨ x = 1 ∧ j = 1) (hc : ¬ (x = 0 ∧ cd k l = 0)) : TV j (cd k l) := by
  refine ⟨(pcd hp).1, fun e => ?_⟩
  rcases hx with ⟨a, b⟩ | ⟨a, b⟩
  · exact fun q => hc ⟨a, q⟩
  · omega
theorem ag_join (h : RX σ τ) (x b k l : Int32) : Ri (f_X3_join σ x b k l) (f_X6_join τ x b k l) (TQ C3 σ) := by
  unfold f_X3_join f_X6_join
  rcases bring_cases h x b k l with ⟨e1, e2⟩ | ⟨e1, e2⟩ | ⟨e1, e2⟩ | ⟨j, hj, hx, hp, hl, e2, hb⟩
  · exact ri_obl e1 (ri_eR e2 (ri_fR ne10 (tq_l (h.thr 1) thr0)))
  · exact ri_obl e1 (ri_eR e2 (ri_fR ne10 (tq_l (h.thr 2) thr0)))
  · exact ri_obl e1 (ri_eR e2 (ri_fR ne10 (tq_l (h.thr 3) thr0)))
  · refine ri_eR e2 (ri_tR rfl (ri_eR (mo_code k l) (ri_eR (mo_barred _ _) ?_)))
    rcases hb with ⟨c1, c2, e1⟩ | ⟨c, e1⟩
    · rw [if_pos (show x = 0 ∧ cd k l = 0 from ⟨c1, c2⟩)]
      exact ri_obr e1 (ri_tL rfl (ri_fR ne10 (tq_r (h.thr 0) thr0 rfl)))
    · rw [if_neg c, e1]
      refine ri_tR rfl (ri_eR (mo_code k l) (ri_bR fun r2 e3 => ?_))
      obtain ⟨r, e4, hs⟩ := si_in (h.thr 0) hj hx hl (tvcd hp hx c) r2 e3
      refine ri_obr (v := (1, r)) (by rw [e4]; rfl) (ri_fL ne10 (ri_eL (trackOf_ok hx) (ri_eL (rw_size (hs.rx.row (by omega))) (ri_eR (sizeN (gtr_x hx)) (tq_r hs.rx (hs.2.1.trans thr0) rfl)))))
theorem ag_offer (h : RX σ τ) (x b k l : Int32) : Ri (f_X3_offer σ x b k l) (f_X6_offer τ x b k l) (TQ C3 σ) := by
  unfold f_X3_offer f_X6_offer
  rcases bring_cases h x b k l with ⟨e1, e2⟩ | ⟨e1, e2⟩ | ⟨e1, e2⟩ | ⟨j, hj, hx, hp, hl, e2, hb⟩
  · exact ri_obl e1 (ri_eR e2 (ri_fR ne10 (tq_l (h.thr 1) thr0)))
  · exact ri_obl e1 (ri_eR e2 (ri_fR ne10 (tq_l (h.thr 2) thr0)))
  · exact ri_obl e1 (ri_eR e2 (ri_fR ne10 (tq_l (h.thr 3) thr0)))
  · refine ri_eR e2 (ri_tR rfl (ri_eR (mo_code k l) (ri_eR (mo_barred _ _) ?_)))
    rcases hb with ⟨c1, c2, e1⟩ | ⟨c, e1⟩
    · rw [if_pos (show x = 0 ∧ cd k l = 0 from ⟨c1, c2⟩)]
      exact ri_obr e1 (ri_tL (Or.inl rfl) (ri_fR ne10 (tq_r (h.thr 0) thr0 rfl)))
    · rw [if_neg c, e1]
      refine ri_tR rfl (ri_eR (mo_code k l) (ri_bR fun r2 e3 => ?_))
      obtain ⟨r, e4, hs⟩ := si_in (h.thr 0) hj hx hl (tvcd hp hx c) r2 e3
      exact ri_obr (v := (1, r)) (by rw [e4]; rfl) (ri_tL (Or.inr rfl) (tq_r hs.rx (hs.2.1.trans thr0) rfl))
theorem ag_append (h : RX σ τ) (x k l : Int32) : Ri (f_X3_append σ x k l) (f_X6_append τ x k l) (TQ C3 σ) := by
  have e : f_X3_append σ x k l = f_X3_join σ x 1 k l := rfl
  unfold f_X6_append
  rw [e]
  intro r2 hr
  cases hj : f_X6_join τ x 1 k l with
  | none => rw [hj] at hr; cases hr
  | some y =>
    rw [hj] at hr
    have hr : some (y.1, y.2) = some r2 := hr
    cases hr
    exact ag_join h x 1 k l y hj
theorem codeAtEnd_ok (h : RX σ τ) {x : Int32} {j : Nat} (hj : j < 2) (hx : x = 0 ∧ j = 0 ∨ x = 1 ∧ j = 1) (b : Int32) : f_X3_codeAtEnd σ x b = some (if (τ.1 j).length = 0 then 0 else (τ.1 j).getD (if b = 0 then 0 else (τ.1 j).length - 1) 0) := by
  have hr := h.row (i := j) (by omega)
  have hl := hr.len
  have e : f_X3_codeAtEnd σ x b = (f_X0_endPlace (cap j) (σ.1 j) b).bind fun z6 => (f_X0_read (cap j) (σ.1 j) z6).bind fun z11 => some z11 := by
    unfold f_X3_codeAtEnd
    rw [trackOf_ok hx]; rfl
  rw [e, rw_endPlace hr, bsm]
  by_cases c : (τ.1 j).length = 0
  · have : f_X0_read (cap j) (σ.1 j) (if b = 0 then if (τ.1 j).length = 0 then -1 else 0 else nI (τ.1 j).length - 1) = some 0 := by
      refine rw_read0 hr (Or.inl ?_)
      rw [if_pos c, c]
      split <;> decide
    rw [this, bsm, if_pos c]
  · rw [if_neg c, if_neg c]
    have : f_X0_read (cap j) (σ.1 j) (if b = 0 then 0 else nI (τ.1 j).length - 1) = some ((τ.1 j).getD (if b = 0 then 0 else (τ.1 j).length - 1) 0) := by
      by_cases d : b = 0
      · rw [if_pos d, if_pos d]
        exact rw_read hr (j := 0) (by omega)
      · rw [if_neg d, if_neg d, nI_prd (by omega) (by omega)]
        exact rw_read hr (by omega)
    rw [this]; rfl
theorem ag_push (h : RX σ τ) (x k l : Int32) : Ri (f_X3_push σ x k l) (f_X6_push τ x k l) (TQ C3 σ) := by
  unfold f_X3_push f_X6_push
  rcases bring_cases h x 0 k l with ⟨e1, e2⟩ | ⟨e1, e2⟩ | ⟨e1, e2⟩ | ⟨j, hj, hx, hp, hl, e2, hb⟩
  · refine ri_eR e2 (ri_fR ne10 ?_)
    by_cases p : x = 0 ∨ x = 1
    · obtain ⟨j, hj, hx⟩ := tk_ok p
      exact ri_obr (cl_track p) (ri_eL (codeAtEnd_ok h hj hx 0) (ri_obl e1 (tq_l (h.thr 1) thr0)))
    · exact ri_obl (cl_notrack p) (tq_l (h.thr 1) thr0)
  · refine ri_eR e2 (ri_fR ne10 ?_)
    have p : x = 0 ∨ x = 1 := by
      rcases Classical.em (x = 0 ∨ x = 1) with p | p
      · exact p
      · unfold f_X3_bringPiece at e1
        rw [cl_notrack p] at e1
        cases e1
    obtain ⟨j, hj, hx⟩ := tk_ok p
    exact ri_obr (cl_track p) (ri_eL (codeAtEnd_ok h hj hx 0) (ri_obl e1 (tq_l (h.thr 2) thr0)))
  · refine ri_eR e2 (ri_fR ne10 ?_)
    have p : x = 0 ∨ x = 1 := by
      rcases Classical.em (x = 0 ∨ x = 1) with p | p
      · exact p
      · unfold f_X3_bringPiece at e1
        rw [cl_notrack p] at e1
        cases e1
    obtain ⟨j, hj, hx⟩ := tk_ok p
    exact ri_obr (cl_track p) (ri_eL (codeAtEnd_ok h hj hx 0) (ri_obl e1 (tq_l (h.thr 3) thr0)))
  · have p : x = 0 ∨ x = 1 := by
      rcases hx with q | q
      · exact Or.inl q.1
      · exact Or.inr q.1
    refine ri_obr (cl_track p) (ri_eL (codeAtEnd_ok h hj hx 0) (ri_eR e2 (ri_tR rfl (ri_eR (mo_code k l) (ri_eR (mo_barred _ _) ?_)))))
    rcases hb with ⟨c1, c2, e1⟩ | ⟨c, e1⟩
    · rw [if_pos (show x = 0 ∧ cd k l = 0 from ⟨c1, c2⟩)]
      exact ri_obr e1 (ri_tL rfl (ri_fR ne10 (tq_r (h.thr 0) thr0 rfl)))
    · rw [if_neg c, e1]
      have m46 : ∀ v, v = (if (τ.1 j).length = 0 then 0 else (τ.1 j).getD (if (0 : Int32) = 0 then 0 else (τ.1 j).length - 1) 0) → Ri (obx ((f_X3_stepOn σ x 0 (cd k l)).bind fun z => some (.inr (1, z))) fun z11 : Int32 × CS => if z11.1 = 0 then some (.inr (-9, z11.2)) else some (.inr (if (τ.1 j).length = 0 then 0 else (τ.1 j).getD (if (0 : Int32) = 0 then 0 else (τ.1 j).length - 1) 0, z11.2))) (f_X6_push_46 (thr τ 0) x k l v) (TQ C3 σ) := by
        intro v hv
        unfold f_X6_push_46
        refine ri_eR (mo_code k l) (ri_bR fun r2 e3 => ?_)
        obtain ⟨r, e4, hs⟩ := si_in (h.thr 0) hj hx hl (tvcd hp hx c) r2 e3
        exact ri_obr (v := (1, r)) (by rw [e4]; rfl) (ri_fL ne10 (tq_r hs.rx (hs.2.1.trans thr0) hv.symm))
      have hl20 := len20 h.1 hj
      refine ri_tR rfl (ri_eR (sizeN (gtr_x hx)) (ri_iR (fun d => m46 0 ?_) fun d => ri_eR (getN (i := 0) (gtr_x hx) ?_ (len20 (h.thr 0).1 hj)) (m46 _ ?_)))
      · have d : (τ.1 j).length = 0 := (nI_eqz (by omega)).mp d
        rw [if_pos d]
      · have d : ¬ (τ.1 j).length = 0 := mt (nI_eqz (a := (τ.1 j).length) (by omega)).mpr d
        rw [thr1]; omega
      · have d : ¬ (τ.1 j).length = 0 := mt (nI_eqz (a := (τ.1 j).length) (by omega)).mpr d
        rw [if_neg d, if_pos rfl, thr1]
/-! taken off -/
theorem si_off (h : RX σ τ) {x b e : Int32} {j : Nat} (hj : j < 2) (hx : x = 0 ∧ j = 0 ∨ x = 1 ∧ j = 1) : Ri (f_X3_fetchPiece σ x b e) (f_X6_off τ x b e) fun r r2 => r.1 = r2.1 ∧ RX r.2 r2.2 ∧ r2.2.2 0 = τ.2 0 := by
  have hr := h.row (i := j) (by omega)
  have hl := hr.len
  unfold f_X3_fetchPiece f_X6_off
  refine ri_eL (trackOf_ok hx) (ri_eL (rw_isEmpty hr) (ri_eR (sizeN (gtr_x hx)) ?_))
  by_cases c : (τ.1 j).length = 0
  · rw [if_pos c]
    exact ri_fL ne10 (ri_tR ((nI_eqz (by omega)).mpr c) (ri_some ⟨rfl, h, rfl⟩))
  · rw [if_neg c]
    refine ri_tL rfl (ri_fR (mt (nI_eqz (by omega)).mp c) (ri_call (si_out h hj hx (by omega)) fun z z2 hz => ri_some ?_))
    exact ⟨hz.1, hz.2.2.rx, hz.2.2.2.1⟩
theorem ag_take (h : RX σ τ) (x b : Int32) : Ri (f_X3_take σ x b) (f_X6_take τ x b) (TQ C1 σ) := by
  unfold f_X3_take f_X6_take
  refine gd_track (fun j hj hx => ri_tR rfl (ri_call (si_off (h.thr 0) hj hx) fun z z2 hz => tq_r hz.2.1 (hz.2.2.trans thr0) hz.1)) (ri_fR ne10 (tq_l (h.thr 1) thr0))
theorem ag_poll (h : RX σ τ) (x b : Int32) : Ri (f_X3_poll σ x b) (f_X6_poll τ x b) (TQ C1 σ) := by
  unfold f_X3_poll f_X6_poll
  refine gd_track (fun j hj hx => ri_tR rfl (ri_call (si_off (h.thr 0) hj hx) fun z z2 hz => tq_r hz.2.1 (hz.2.2.trans thr0) hz.1)) (ri_fR ne10 (tq_l (h.thr 1) thr0))
theorem ag_pop (h : RX σ τ) (x : Int32) : Ri (f_X3_pop σ x) (f_X6_pop τ x) (TQ C1 σ) := by
  unfold f_X3_pop f_X6_pop
  refine gd_track (fun j hj hx => ri_tR rfl (ri_call (si_off (h.thr 0) hj hx) fun z z2 hz => tq_r hz.2.1 (hz.2.2.trans thr0) hz.1)) (ri_fR ne10 (tq_l (h.thr 1) thr0))
theorem ag_serve (h : RX σ τ) (x b : Int32) : Ri (f_X3_serve σ x b) (f_X6_serve τ x b) (TQ C1 σ) := by
  unfold f_X3_serve f_X6_serve f_X3_serve_17 f_X6_serve_29
  refine gd_track (fun j hj hx => ri_tR rfl (ri_iR (fun c => ri_tL c ?_) fun c => ri_fL c ?_)) (ri_fR ne10 (tq_l (h.thr 1) thr0))
  · exact ri_call (si_off (h.thr 0) hj hx) fun z z2 hz => tq_r hz.2.1 (hz.2.2.trans thr0) hz.1
  · exact ri_call (si_off (h.thr 0) hj hx) fun z z2 hz => tq_r hz.2.1 (hz.2.2.trans thr0) hz.1
end L3C
end
section
/-! level 3: train, rotate, undo, drop -/
section L3D
variable {σ : CS} {τ : MS}
theorem rng3 (x2 x3 x4 : Int32) {α : Type} {K : Unit → Option (Nat ⊕ α)} (h : ¬ ((1 ≤ x2 ∧ x2 ≤ 9) ∧ (0 ≤ x3 ∧ x3 ≤ 99) ∧ 1 ≤ x4 ∧ x4 ≤ 12)) : (obx (f_X3_needWithin x2 1 9) fun _ => obx (f_X3_needWithin x3 0 99) fun _ => obx (f_X3_needWithin x4 1 12) K) = some (.inl 1) := by
  by_cases h1 : 1 ≤ x2 ∧ x2 ≤ 9
  · rw [cl_within h1]
    show (obx (f_X3_needWithin x3 0 99) fun _ => obx (f_X3_needWithin x4 1 12) K) = _
    by_cases h2 : 0 ≤ x3 ∧ x3 ≤ 99
    · rw [cl_within h2]
      show obx (f_X3_needWithin x4 1 12) K = _
      rw [cl_without (fun h3 => h ⟨h1, h2, h3⟩)]
      rfl
    · rw [cl_without h2]; rfl
  · rw [cl_without h1]; rfl
theorem nI_m7 {m : Nat} (h : m ≤ 20) : 7 * nI m = nI (7 * m) := by
  apply Int32.toInt_inj.mp
  have h1 : (7 : Int32).toInt = 7 := rfl
  rw [Int32.toInt_mul, h1, nI_toInt (by omega), nI_toInt (by omega), Int.bmod_eq_of_le (by omega) (by omega)]
  omega
theorem jrem9 {n : Nat} (h : n < 1000) : ∃ a, a ≤ 8 ∧ jrem (nI n) 9 = nI a := by
  have q := jr9 (x := nI n) (nI_bnd (b := 1000) (by omega) (by omega)).1
  obtain ⟨a, ha, e⟩ := nIof (b := 8) (by omega) q.1 q.2
  exact ⟨a, ha, e⟩
theorem jrem100 {n : Nat} (h : n < 1000) : ∃ a, a ≤ 99 ∧ jrem (nI n) 100 = nI a := by
  have q := jr100 (x := nI n) (nI_bnd (b := 1000) (by omega) (by omega)).1
  obtain ⟨a, ha, e⟩ := nIof (b := 99) (by omega) q.1 q.2
  exact ⟨a, ha, e⟩
theorem ag_trainL (h : RX σ τ) (h0 : τ.2 0 = 0) {x1 : Int32} {j n a b : Nat} (hj : j < 2) (hx : x1 = 0 ∧ j = 0 ∨ x1 = 1 ∧ j = 1) (hn : n ≤ 12) (ha : 1 ≤ a ∧ a ≤ 9) (hb : b ≤ 99) (hl : (τ.1 j).length + n ≤ 20) : Ri (lpn f_X3_train_36 64 (σ, x1, nI a, nI b, nI n, 0)) (lpn f_X6_train_79 24 (τ, x1, nI a, nI b, nI n, 0)) (TQ C3 σ) := by
  refine ri_lpn (fun s t => ∃ m, m ≤ n ∧ s.2 = (x1, nI a, nI b, nI n, nI m) ∧ t.2 = (x1, nI a, nI b, nI n, nI m) ∧ RX s.1 t.1 ∧ t.1.2 0 = 0 ∧ (t.1.1 j).length + (n - m) ≤ 20) ?_ 24 64 _ _ (by omega) ⟨0, Nat.zero_le _, rfl, rfl, h, h0, by show (τ.1 j).length + (n - 0) ≤ 20; omega⟩
  rintro k1 k2 ⟨s, s2⟩ ⟨t, t2⟩ ⟨m, hm, e1, e2, hr, ht, hlen⟩ hk
  dsimp only at e1 e2 hr ht hlen
  subst e1 e2
  unfold f_X3_train_36 f_X6_train_79
  dsimp only
  refine ri_iR (fun c => ri_tL c ?_) fun c => ri_fL c ?_
  · exact ri_eL (trackOf_ok hx) (ri_eL (rw_size (hr.row (by omega))) (ri_eR (sizeN (gtr_x hx)) (tq_r hr ht rfl)))
  · have hml : m < n := Nat.lt_of_not_le (mt (nI_lei (by omega) (by omega)).mpr c)
    refine ri_eR (mo_code _ _) (ri_eL (cl_code _ _) (ri_call (si_in hr hj hx (by omega) ?_) fun s3 t3 h3 => ri_nR fun y hy => ri_nL fun y2 hy2 => ?_))
    · rw [nI_prd (by omega) (by omega), nI_sum (by omega), nI_m7 (by omega), nI_sum (by omega)]
      obtain ⟨u, hu, eu⟩ := jrem9 (n := a - 1 + m) (by omega)
      obtain ⟨v, hv, ev⟩ := jrem100 (n := b + 7 * m) (by omega)
      rw [eu, ev]
      have e1u : (1 : Int32) + nI u = nI (1 + u) := nI_sum (a := 1) (by omega)
      rw [e1u]
      have hp : PC (nI (1 + u)) (nI v) := ⟨⟨(nI_bnd (b := 9) (by omega) (by omega)).1, (nI_bnd (b := 9) (by omega) (by omega)).2⟩, (nI_bnd (b := 99) (by omega) (by omega)).1, (nI_bnd (b := 99) (by omega) (by omega)).2⟩
      refine ⟨(pcd hp).1, fun _ e => ?_⟩
      have := (nI_eqz (a := 1 + u) (by omega)).mp ((pcd hp).2.mp e)
      omega
    · subst hy2 hy
      refine hk _ _ ⟨m + 1, by omega, ?_, ?_, h3.rx, h3.2.1.trans ht, ?_⟩
      · rw [nI_suc (by omega)]
      · rw [nI_suc (by omega)]
      · have := h3.2.2.1
        show (t3.1 j).length + (n - (m + 1)) ≤ 20
        omega
theorem ag_train (h : RX σ τ) (x1 x2 x3 x4 : Int32) : Ri (f_X3_train σ x1 x2 x3 x4) (f_X6_train τ x1 x2 x3 x4) (TQ C3 σ) := by
  unfold f_X3_train f_X6_train
  refine gd_track (fun j hj hx => ri_tR rfl ?_) (ri_fR ne10 (tq_l (h.thr 1) thr0))
  have h0 := h.thr 0
  have bad : ¬ ((1 ≤ x2 ∧ x2 ≤ 9) ∧ (0 ≤ x3 ∧ x3 ≤ 99) ∧ 1 ≤ x4 ∧ x4 ≤ 12) → Ri (obx (f_X3_needWithin x2 1 9) fun _ => obx (f_X3_needWithin x3 0 99) fun _ => obx (f_X3_needWithin x4 1 12) fun _ => obx (f_X3_needRoom σ x1 x4) fun _ => lpn f_X3_train_36 64 (σ, x1, x2, x3, x4, 0)) (f_X6_train_36 (thr τ 0) x1 x2 x3 x4) (TQ C3 σ) := by
    intro hA
    rw [rng3 x2 x3 x4 hA]
    unfold f_X6_train_36 f_X6_train_41
    refine ri_eR (mo_ref1 thr0 ne10 (by decide)) (ri_fR ne10 ?_)
    rw [thr_thr]
    exact tq_l (h.thr 2) thr0
  refine ri_eR (mo_noPiece _ _) ?_
  by_cases c1 : (0 ≤ x2 ∧ x2 ≤ 9) ∧ 0 ≤ x3 ∧ x3 ≤ 99
  · rw [if_pos c1]
    refine ri_tR rfl (ri_iR (fun c2 => bad ?_) fun c2 => ri_eR (mo_isIn _ _ _) ?_)
    · rintro ⟨⟨q, -⟩, -⟩
      rw [c2] at q
      exact absurd q (by decide)
    · by_cases c3 : 1 ≤ x4 ∧ x4 ≤ 12
      · rw [if_pos c3]
        refine ri_fR ne10 ?_
        have c4 : 1 ≤ x2 := by
          have := c1.1.1
          clear c1 c3 bad h0 h
          grind
        obtain ⟨a, ha, rfl⟩ := nIof (b := 9) (by omega) c1.1.1 c1.1.2
        obtain ⟨b, hb, rfl⟩ := nIof (b := 99) (by omega) c1.2.1 c1.2.2
        obtain ⟨n, hn, rfl⟩ := nIof (b := 12) (by omega) (Int32.le_trans (by decide) c3.1) c3.2
        have ha1 : 1 ≤ a := (nI_lei (a := 1) (by omega) (by omega)).mp c4
        refine ri_obr (cl_within ⟨c4, c1.1.2⟩) (ri_obr (cl_within c1.2) (ri_obr (cl_within c3) ?_))
        unfold f_X6_train_41
        have hl := len20 h.1 hj
        refine ri_eR (mo_ref0 thr0 rfl) (ri_tR rfl (ri_eR (sizeN (gtr_x hx)) ?_))
        have es : nI ((thr τ 0).1 j).length + nI n ≤ 20 ↔ (τ.1 j).length + n ≤ 20 := sum_le (by rw [thr1]; omega) (by omega)
        rcases room_cases h hj hx (n := n) (by omega) with ⟨r1, r2⟩ | ⟨r1, r2⟩
        · refine ri_tR (es.mpr r1) ?_
          unfold f_X6_train_67
          exact ri_eR (mo_ref0 thr0 rfl) (ri_tR rfl (ri_obr r2 (ag_trainL h0 thr0 hj hx hn ⟨ha1, ha⟩ hb r1)))
        · refine ri_fR (mt es.mp r1) ?_
          unfold f_X6_train_67
          refine ri_eR (mo_ref1 thr0 ne10 (by decide)) (ri_fR ne10 (ri_obl r2 ?_))
          rw [thr_thr]
          exact tq_l (h.thr 3) thr0
      · rw [if_neg c3]
        exact ri_tR rfl (bad fun q => c3 q.2.2)
  · rw [if_neg c1]
    refine ri_fR ne10 (bad fun q => c1 ⟨⟨Int32.le_trans (by decide) q.1.1, q.1.2⟩, q.2.1⟩)
theorem ag_rotL (h : RX σ τ) (h0 : τ.2 0 = 0) {x1 x2 u0 y : Int32} {j : Nat} (hj : j < 2) (hx : x1 = 0 ∧ j = 0 ∨ x1 = 1 ∧ j = 1) (hl : 0 < (τ.1 j).length) (hu : u0 = if x2 ≤ 0 then 0 else 1) (hy : y = if 0 ≤ x2 then x2 else 0 - x2) (h6 : y ≤ 6) : Ri (f_X3_rotate_41 σ x1 u0 y) (lpn f_X6_rotate_50 24 (τ, x1, x2, 0)) (TQ C2 σ) := by
  unfold f_X3_rotate_41
  refine ri_lpn (fun s t => ∃ i : Int32, (0 ≤ i ∧ i ≤ 6) ∧ s.2 = (x1, u0, y, i) ∧ t.2 = (x1, x2, i) ∧ RX s.1 t.1 ∧ t.1.2 0 = 0 ∧ 0 < (t.1.1 j).length) ?_ 24 64 _ _ (by omega) ⟨0, ⟨by decide, by decide⟩, rfl, rfl, h, h0, hl⟩
  rintro k1 k2 ⟨s, s2⟩ ⟨t, t2⟩ ⟨i, hi, e1, e2, hr, ht, hlen⟩ hk
  dsimp only at e1 e2 hr ht hlen
  subst e1 e2
  have hl20 := len20 hr.1 hj
  unfold f_X3_rotate_46 f_X6_rotate_50
  dsimp only
  refine ri_nR fun y2 hy2 => ?_
  have ey : y2 = y := by rw [hy2, hy]
  subst ey
  refine ri_iR (fun c => ri_tL c ?_) fun c => ri_fL c ?_
  · refine ri_eR (getN (i := 0) (gtr_x hx) hlen hl20) (ri_eL (codeAtEnd_ok hr hj hx 0) ?_)
    rw [if_neg (by omega), if_pos rfl]
    exact tq_r hr ht rfl
  · have ci : i < y2 := Int32.not_le.mp c
    have i1 : 0 ≤ i + 1 ∧ i + 1 ≤ 6 := by
      have a := hi.1
      clear hy hy2 hu c
      constructor <;> grind
    have fin : ∀ (p q : Int32), Ri ((f_X3_stepOff s x1 p).bind fun z13 => f_X3_rotate_72 k1 z13.2 x1 u0 y2 i z13.1 x1 q) (f_X6_rotate_80 k2 t x1 x2 i x1 q x1 p) (TQ C2 σ) := by
      intro p q
      unfold f_X6_rotate_80 f_X3_rotate_72
      refine ri_call (si_out hr hj hx hlen) fun z z2 hz => ?_
      rw [hz.1]
      have hc : TV j z2.1 := by rw [← hz.1]; exact hz.2.1
      have hl2 : (z2.2.1 j).length = (t.1 j).length - 1 := hz.2.2.2.2.1
      refine ri_call (si_in hz.2.2.rx hj hx (by omega) hc) fun s3 t3 h3 => ri_nR fun w hw => ri_nL fun w2 hw2 => ?_
      subst hw2 hw
      refine hk _ _ ⟨i + 1, i1, rfl, rfl, h3.rx, (h3.2.1.trans hz.2.2.2.1).trans ht, ?_⟩
      show 0 < (t3.1 j).length
      rw [h3.2.2.1]; omega
    have e0 : u0 = 0 ∨ u0 = 1 := by
      rw [hu]
      split
      · exact Or.inl rfl
      · exact Or.inr rfl
    have ex : ∀ (G : Int32 × CS → Option (Nat ⊕ (Int32 × CS))) (q : Int32), (∀ z : Int32 × CS, (if u0 = 0 then f_X3_rotate_72 k1 z.2 x1 u0 y2 i z.1 x1 1 else f_X3_rotate_72 k1 z.2 x1 u0 y2 i z.1 x1 0) = f_X3_rotate_72 k1 z.2 x1 u0 y2 i z.1 x1 q) → ((f_X3_stepOff s x1 u0).bind fun z13 => if u0 = 0 then f_X3_rotate_72 k1 z13.2 x1 u0 y2 i z13.1 x1 1 else f_X3_rotate_72 k1 z13.2 x1 u0 y2 i z13.1 x1 0) = ((f_X3_stepOff s x1 u0).bind fun z13 => f_X3_rotate_72 k1 z13.2 x1 u0 y2 i z13.1 x1 q) := by
      intro _ q hq
      congr 1
      funext z
      exact hq z
    by_cases c1 : x2 ≤ 0
    · have eu : u0 = 0 := by rw [hu, if_pos c1]
      rw [ex (fun _ => none) 1 (fun z => if_pos eu), eu]
      have c2 : ¬ 0 ≤ x2 := by
        intro c2
        have : x2 = 0 := Int32.le_antisymm c1 c2
        rw [this] at hy
        have hy : y2 = 0 := hy
        rw [hy] at ci
        exact absurd hi.1 (Int32.not_le.mpr ci)
      refine ri_fR c2 ?_
      unfold f_X6_rotate_69
      rw [eu] at fin
      exact ri_tR c1 (fin 0 1)
    · have eu : u0 = 1 := by rw [hu, if_neg c1]
      rw [ex (fun _ => none) 0 (fun z => if_neg (by rw [eu]; decide)), eu]
      have c2 : 0 ≤ x2 := Int32.le_of_lt (Int32.not_le.mp c1)
      refine ri_tR c2 ?_
      unfold f_X6_rotate_69
      rw [eu] at fin
      exact ri_fR c1 (fin 1 0)
theorem ag_rotate (h : RX σ τ) (x1 x2 : Int32) : Ri (f_X3_rotate σ x1 x2) (f_X6_rotate τ x1 x2) (TQ C2 σ) := by
  unfold f_X3_rotate f_X6_rotate
  refine gd_track (fun j hj hx => ri_tR rfl (ri_eR (mo_isIn _ _ _) ?_)) (ri_fR ne10 (tq_l (h.thr 1) thr0))
  have h0 := h.thr 0
  unfold f_X6_rotate_29
  by_cases c : -6 ≤ x2 ∧ x2 ≤ 6
  · rw [if_pos c]
    refine ri_fR ne10 (ri_eR (mo_ref0 thr0 rfl) (ri_tR rfl (ri_eR (sizeN (gtr_x hx)) (ri_obr (cl_within c) ?_))))
    have hr := h.row (i := j) (by omega)
    have hl := hr.len
    have e21 : (if x2 ≤ 0 then f_X3_rotate_21 σ x1 x2 0 else f_X3_rotate_21 σ x1 x2 1) = f_X3_rotate_21 σ x1 x2 (if x2 ≤ 0 then 0 else 1) := by
      split <;> rfl
    rw [e21]
    unfold f_X3_rotate_21
    refine ri_eL (trackOf_ok hx) (ri_eL (rw_isEmpty hr) ?_)
    by_cases d : (τ.1 j).length = 0
    · rw [if_pos d]
      refine ri_fL ne10 (ri_tR ((nI_eqz (a := ((thr τ 0).1 j).length) (by rw [thr1]; omega)).mpr d) ?_)
      unfold f_X3_rotate_41
      show Ri (f_X3_rotate_46 (lpn f_X3_rotate_46 63) (σ, x1, _, 0, 0)) _ _
      unfold f_X3_rotate_46
      refine ri_tL (show (0 : Int32) ≤ 0 by decide) (ri_eL (codeAtEnd_ok h hj hx 0) ?_)
      rw [if_pos d]
      exact tq_r h0 thr0 rfl
    · rw [if_neg d]
      refine ri_tL rfl (ri_fR (mt (nI_eqz (a := ((thr τ 0).1 j).length) (by rw [thr1]; omega)).mp d) (ri_nL fun y hy => ?_))
      refine ag_rotL h0 thr0 hj hx (by rw [thr1]; omega) rfl hy ?_
      rw [hy]
      split
      · exact c.2
      · have := c.1
        clear hy hl hr e21 h0 h
        grind
  · rw [if_neg c]
    refine ri_tR rfl (ri_eR (mo_ref1 thr0 ne10 (by decide)) (ri_fR ne10 (ri_obl (cl_without c) ?_)))
    rw [thr_thr]
    exact tq_l (h.thr 2) thr0
end L3D
end
section
/-! level 3: undo, drop; the walk; the line by its places -/
section L3E
variable {σ : CS} {τ : MS}
theorem cl_tearFor {x : Int32} {j : Nat} (hx : x = 0 ∧ j = 0 ∨ x = 1 ∧ j = 1) : Ok (f_X3_tearFor σ x) (DS j (va_up σ.1 2 ((σ.1 2).1, 0), σ.2)) := by
  unfold f_X3_tearFor
  refine ok_ev (v := ((σ.1 2).1, 0)) rfl (ok_nme fun t ht => ?_)
  subst ht
  exact ok_bind (cl_dist hx) fun z hz => ok_some hz
theorem mo_tear : f_X6_tear τ = some (va_up τ.1 2 [], τ.2) := rfl
/-- what is left when a track was changed and all slips torn -/
def TE (τ : MS) (j : Nat) (xs : List Int32) (r : CS) (t : MS) : Prop := RX r t ∧ t.2 0 = τ.2 0 ∧ t.1 j = xs ∧ ∀ q, q ≠ j → q ≠ 2 → t.1 q = τ.1 q
theorem tear_rx {r : CS} {t1 : MS} {j : Nat} {ρ : RS} {xs : List Int32} (h : RX σ τ) (hj : j < 2) (hr : RW j ρ xs) (hv : VC (va_up τ.1 j xs, τ.2)) (h3 : DS j (va_up (va_up σ.1 j ρ) 2 ((va_up σ.1 j ρ 2).1, 0), σ.2) r) (ht : DM j (va_up τ.1 j xs, τ.2) t1) : TE τ j xs r (va_up t1.1 2 [], t1.2) := by
  have y1 : RY (va_up σ.1 j ρ, σ.2) (va_up τ.1 j xs, τ.2) := h.1.up (by omega) hr hv
  have y2 : RY (va_up (va_up σ.1 j ρ) 2 ((va_up σ.1 j ρ 2).1, 0), σ.2) (va_up (va_up τ.1 j xs) 2 [], τ.2) := y1.up (by omega) rw_empty (hv.slips fun w hw => by cases hw)
  have hd : DM j (va_up (va_up τ.1 j xs) 2 [], τ.2) (va_up t1.1 2 [], t1.2) := ⟨by show va_up t1.1 2 [] = _; rw [ht.1], ht.2.1, ht.2.2⟩
  have hw : WR (va_up (va_up σ.1 j ρ) 2 ((va_up σ.1 j ρ 2).1, 0), σ.2) (va_up (va_up τ.1 j xs) 2 [], τ.2) := h.2
  refine ⟨y2.dist hj (fun _ => hw) h3 hd, ?_, ?_, fun q h1 h2 => ?_⟩
  · show t1.2 0 = _
    rcases (by omega : j = 0 ∨ j = 1) with e | e <;> subst e
    · exact ((ht.2.1 rfl).2.2.2) 0 (by omega) (by omega) (by omega)
    · exact ((ht.2.2 rfl).2.2) 0 (by omega) (by omega)
  · show va_up t1.1 2 [] j = xs
    rw [up_ne (by omega), ht.1]
    exact up_eq
  · show va_up t1.1 2 [] q = _
    rw [up_ne h2, ht.1]
    exact up_ne h1
/-! undo -/
theorem s_track {s : Int32} (h : 0 ≤ s ∧ s ≤ 7999) : ∃ j, j < 2 ∧ (s / 4000 = 0 ∧ j = 0 ∨ s / 4000 = 1 ∧ j = 1) := by
  have q := dv4000 h.1 h.2
  obtain ⟨a, ha, e⟩ := nIof (b := 1) (by omega) q.1 q.2
  rcases (by omega : a = 0 ∨ a = 1) with e2 | e2 <;> subst e2
  · exact ⟨0, by omega, Or.inl ⟨e, rfl⟩⟩
  · exact ⟨1, by omega, Or.inr ⟨e, rfl⟩⟩
theorem undo_end {r1 r : CS} {t1 : MS} {j : Nat} {ρ : RS} {xs : List Int32} (h : RX σ τ) (hj : j < 2) (e1 : r1 = (va_up σ.1 j ρ, σ.2)) (hr : RW j ρ xs) (hv : VC (va_up τ.1 j xs, τ.2)) (h3 : DS j r1 r) (ht : DM j (va_up τ.1 j xs, τ.2) t1) : RX r t1 ∧ t1.2 0 = τ.2 0 := by
  subst e1
  have y1 : RY (va_up σ.1 j ρ, σ.2) (va_up τ.1 j xs, τ.2) := h.1.up (by omega) hr hv
  refine ⟨y1.dist hj (fun _ => h.2) h3 ht, ?_⟩
  rcases (by omega : j = 0 ∨ j = 1) with e | e <;> subst e
  · exact ((ht.2.1 rfl).2.2.2) 0 (by omega) (by omega) (by omega)
  · exact ((ht.2.2 rfl).2.2) 0 (by omega) (by omega)
def UQ (r : Int32 × CS) (r2 : Int32 × MS) : Prop := r.1 = r2.1 ∧ RX r.2 r2.2
theorem ag_undo (h : RX σ τ) (hu : UT τ) : Ri (f_X3_undo σ) (f_X6_undo τ) UQ := by
  have hr := h.row (i := 2) (by omega)
  have hl := hr.len
  unfold f_X3_undo f_X6_undo
  refine ri_nR fun s hs => ?_
  have hs : s = thr τ 0 := hs
  subst hs
  refine ri_nR fun y hy => ri_eL (rw_isEmpty hr) ?_
  have hy : y = if (τ.1 2).length = 0 then 1 else 0 := hy
  by_cases c : (τ.1 2).length = 0
  · rw [if_pos c]
    rw [if_pos c] at hy
    subst hy
    exact ri_fL ne10 (ri_fR ne10 (ri_some ⟨rfl, h.thr 0⟩))
  · rw [if_neg c]
    rw [if_neg c] at hy
    subst hy
    have hpos : 0 < (τ.1 2).length := by omega
    have hne : τ.1 2 ≠ [] := fun e => c (by rw [e]; rfl)
    have e1 : nI (τ.1 2).length - 1 = nI ((τ.1 2).length - 1) := nI_prd hpos (by omega)
    have e1 : nI ((thr τ 0).1 2).length - 1 = nI ((τ.1 2).length - 1) := e1
    refine ri_tL rfl (ri_eL (rw_endPlace hr 1) ?_)
    rw [if_neg ne10, nI_prd hpos (by omega)]
    refine ri_okL (rw_leave hr (by omega)) fun z hz => ri_nL fun t3 ht3 => ri_tR rfl ?_
    rw [e1]
    have lthr : ((thr τ 0).1 2).length = (τ.1 2).length := rfl
    refine ri_eR (ldelN (by omega) (by omega)) (ri_nR fun t4 ht4 => ri_nR fun n hn => ri_nR fun x hx => ?_)
    have hn : n = (τ.1 2).getD ((τ.1 2).length - 1) 0 := by
      rw [hn, nI_c (by omega)]; rfl
    have ez : z.1 = n := hz.1.trans hn.symm
    have hmem : n ∈ τ.1 2 := by rw [hn]; exact mem_getD (by omega)
    have hsv := h.1.2.2.2.2.2.1 n hmem
    have hud : UD (n :: (delAt (τ.1 2) ((τ.1 2).length - 1)).reverse) (τ.1 0).length (τ.1 1).length := by
      have := hu
      unfold UT at this
      rw [delAt_last hne, ← hn] at this
      exact this
    -- the states behind the slip
    have h4 : RX t3 t4 := by
      have q := (h.thr 0).up (i := 2) (by omega) hz.2 (((h.thr 0).1.2.2.2).slips fun w hw => h.1.2.2.2.2.2.1 w (mem_del hw))
      rw [ht3, ht4]
      exact q
    have l0 : t4.1 0 = τ.1 0 := by rw [ht4]; exact l_ne (by omega)
    have l1 : t4.1 1 = τ.1 1 := by rw [ht4]; exact l_ne (by omega)
    obtain ⟨j, hj, hx4⟩ := s_track hsv.1
    rw [← hx] at hx4
    have lj : t4.1 j = τ.1 j := by
      rcases (by omega : j = 0 ∨ j = 1) with e | e <;> subst e
      · exact l0
      · exact l1
    clear ht3 ht4 hn hz hmem
    rw [ez]
    have hrj := h4.row (i := j) (by omega)
    have hlj := len20 h4.1 hj
    have hput : jrem (n / 1000) 2 = 1 → 1 ≤ (τ.1 j).length := by
      intro hp
      rcases hx4 with ⟨a, b⟩ | ⟨a, b⟩ <;> subst b
      · exact ((hud.1 (by rw [← hx]; exact a)).1 hp).1
      · exact ((hud.2 (by rw [← hx, a]; decide)).1 hp).1
    have htak : ¬ jrem (n / 1000) 2 = 1 → (τ.1 j).length + 1 ≤ 20 := by
      intro hp
      rcases hx4 with ⟨a, b⟩ | ⟨a, b⟩ <;> subst b
      · exact ((hud.1 (by rw [← hx]; exact a)).2 hp).1
      · exact ((hud.2 (by rw [← hx, a]; decide)).2 hp).1
    have htv : TV j (jrem n 1000) := ⟨hsv.2.1, fun e => by
      rcases hx4 with ⟨a, b⟩ | ⟨a, b⟩
      · exact hsv.2.2 (by rw [← hx]; exact a)
      · omega⟩
    have eb : ∀ (a b : Option (Int32 × CS)), (f_X3_slipIsBack n).bind (fun z50 : Int32 => if z50 = 0 then a else b) = if jrem (n / 2000) 2 = 1 then b else a := by
      intro a b
      unfold f_X3_slipIsBack
      by_cases q : jrem (n / 2000) 2 = 1
      · rw [if_pos q, if_pos q, bsm, if_neg ne10]
      · rw [if_neg q, if_neg q, bsm, if_pos rfl]
    have key : ∀ v0 : Int32, (v0 = if jrem (n / 2000) 2 = 1 then 1 else 0) → Ri ((f_X3_trackOf t3 x).bind fun z39 => (f_X3_slipIsPut n).bind fun z44 => (if z44 = 0 then (f_X3_slipIsBack n).bind fun z50 => (if z50 = 0 then f_X3_undo_79 t3 n x z39 0 else (f_X0_size (cap z39) (t3.1 z39)).bind fun z56 => f_X3_undo_79 t3 n x z39 z56) else (f_X3_slipIsBack n).bind fun z61 => (f_X0_endPlace (cap z39) (t3.1 z39) z61).bind fun z66 => (f_X0_leave (cap z39) (t3.1 z39) z66).bind fun z71 => nm ((va_up t3.1 z39 z71.2, t3.2) : CS) fun t76 => f_X3_undo_86 t76 n x)) (f_X6_undo_63 t4 n x v0) UQ := by
      intro v0 hv0
      unfold f_X6_undo_63
      refine ri_eL (trackOf_ok hx4) (ri_iR (fun hp => ?_) fun hp => ?_)
      · have hp1 := hput hp
        refine ri_eL (v := 1) (by unfold f_X3_slipIsPut; rw [if_pos hp]) (ri_fL ne10 (ri_eL (v := v0) (by unfold f_X3_slipIsBack; rw [hv0]; split <;> rfl) ?_))
        have fin : ∀ i, i < (t4.1 j).length → Ri ((f_X0_leave (cap j) (t3.1 j) (nI i)).bind fun z71 => nm ((va_up t3.1 j z71.2, t3.2) : CS) fun t76 => f_X3_undo_86 t76 n x) (f_X6_undo_92 t4 n x (nI i)) UQ := by
          intro i hi
          unfold f_X6_undo_92 f_X6_undo_122 f_X3_undo_86
          refine ri_okR (mo_go hx4 (gtr_x hx4) hi (by omega)) fun t1 ht1 => ri_okL (rw_leave hrj hi) fun w hw => ri_nL fun r1 e1 => ri_okL (cl_dist hx4) fun r hr3 => ri_some ⟨rfl, ?_⟩
          exact (undo_end h4 hj e1 hw.2 (h4.1.2.2.2.del hj) hr3 ht1.2).1
        by_cases d : v0 = 0
        · refine ri_tR d (ri_eL (rw_endPlace hrj v0) ?_)
          rw [if_pos d, if_neg (by rw [lj]; omega)]
          exact fin 0 (by rw [lj]; omega)
        · refine ri_fR d (ri_eR (sizeN (gtr_x hx4)) (ri_eL (rw_endPlace hrj v0) ?_))
          rw [if_neg d, nI_prd (by rw [lj]; omega) (by omega)]
          exact fin _ (by rw [lj]; omega)
      · have hp1 := htak hp
        refine ri_eL (v := 0) (by unfold f_X3_slipIsPut; rw [if_neg hp]) (ri_tL rfl ?_)
        have fin : ∀ i, i ≤ (t4.1 j).length → Ri (f_X3_undo_79 t3 n x j (nI i)) (f_X6_undo_114 t4 n x (nI i)) UQ := by
          intro i hi
          unfold f_X6_undo_114 f_X6_undo_122 f_X3_undo_79 f_X3_undo_86
          refine ri_okR (mo_come hx4 (gtr_x hx4) hi (by omega)) fun t1 ht1 => ri_eL (v := jrem n 1000) rfl (ri_okL (rw_enter hrj hi (by rw [cap01 hj, lj]; omega)) fun w hw => ri_nL fun r1 e1 => ri_okL (cl_dist hx4) fun r hr3 => ri_some ⟨rfl, ?_⟩)
          exact (undo_end h4 hj e1 hw (h4.1.2.2.2.ins hj htv) hr3 ht1).1
        rw [eb]
        by_cases d : jrem (n / 2000) 2 = 1
        · rw [if_pos d] at hv0 ⊢
          subst hv0
          exact ri_fR ne10 (ri_eR (sizeN (gtr_x hx4)) (ri_eL (rw_size hrj) (fin _ (Nat.le_refl _))))
        · rw [if_neg d] at hv0 ⊢
          subst hv0
          exact ri_tR rfl (fin 0 (Nat.zero_le _))
    refine ri_eL (v := x) (by unfold f_X3_slipTrack; rw [hx]) (ri_iR (fun d => key 1 (by rw [if_pos d])) fun d => key 0 (by rw [if_neg d]))
/-! kinds -/
def KO (x k : Int32) : Prop := (0 ≤ k ∧ k ≤ 9) ∧ ¬ (k = 0 ∧ x = 0)
theorem cl_kind {x k : Int32} (h : KO x k) : f_X3_needKindOf x k = some (.inr ()) := by
  unfold f_X3_needKindOf f_X3_needKindOf_10
  by_cases c : x = 0
  · rw [if_pos c, cl_within ⟨?_, h.1.2⟩]
    · rfl
    · have h1 : ¬ k = 0 := fun e => h.2 ⟨e, c⟩
      have h2 := h.1.1
      clear h
      grind
  · rw [if_neg c, cl_within h.1]; rfl
theorem cl_nokind {x k : Int32} (h : ¬ KO x k) : f_X3_needKindOf x k = some (.inl 1) := by
  unfold f_X3_needKindOf f_X3_needKindOf_10
  by_cases c : x = 0
  · rw [if_pos c, cl_without]
    · rfl
    · rintro ⟨h1, h2⟩
      refine h ⟨⟨Int32.le_trans (by decide) h1, h2⟩, fun q => ?_⟩
      rw [q.1] at h1
      exact absurd h1 (by decide)
  · rw [if_neg c, cl_without]
    · rfl
    · exact fun q => h ⟨q, fun q2 => c q2.2⟩
theorem mo_kind {x k : Int32} (p : x = 0 ∨ x = 1) (h : KO x k) : f_X6_isNoKind τ x k = some (0, thr τ 0) := by
  unfold f_X6_isNoKind f_X6_isNoKind_31 f_X6_isNoKind_35 f_X6_isNoKind_36
  rw [mo_noTrack, bsm, if_pos p, mo_st0 rfl, bsm, if_pos rfl, mo_isIn, bsm, if_pos h.1, if_neg ne10]
  by_cases c : k = 0
  · rw [if_pos c, if_neg (fun q => h.2 ⟨c, q⟩), mo_ref0 thr0 rfl]; rfl
  · rw [if_neg c, mo_ref0 thr0 rfl]; rfl
theorem mo_nokind {x k : Int32} (p : x = 0 ∨ x = 1) (h : ¬ KO x k) : f_X6_isNoKind τ x k = some (1, thr τ 2) := by
  unfold f_X6_isNoKind f_X6_isNoKind_31 f_X6_isNoKind_35 f_X6_isNoKind_36 f_X6_isNoKind_43
  rw [mo_noTrack, bsm, if_pos p, mo_st0 rfl, bsm, if_pos rfl, mo_isIn, bsm]
  by_cases d : 0 ≤ k ∧ k ≤ 9
  · rw [if_pos d, if_neg ne10]
    have q : k = 0 ∧ x = 0 := by
      rcases Classical.em (k = 0 ∧ x = 0) with q | q
      · exact q
      · exact absurd ⟨d, q⟩ h
    rw [if_pos q.1, if_pos q.2, mo_ref1 thr0 ne10 (by decide), thr_thr]; rfl
  · rw [if_neg d, if_pos rfl, mo_ref1 thr0 ne10 (by decide), thr_thr]; rfl
theorem mo_nokind2 {x k : Int32} (p : ¬ (x = 0 ∨ x = 1)) : f_X6_isNoKind τ x k = some (1, thr τ 1) := by
  unfold f_X6_isNoKind f_X6_isNoKind_43
  rw [mo_noTrack, bsm, if_neg p, mo_st1 ne10 (by decide)]; rfl
theorem gd_kind {α : Type} {x k : Int32} {F : Unit → Option (Nat ⊕ α)} {G : Int32 × MS → Option (Int32 × MS)} {Q : Nat ⊕ α → Int32 × MS → Prop} (h0 : ∀ j, j < 2 → (x = 0 ∧ j = 0 ∨ x = 1 ∧ j = 1) → KO x k → Ri (F ()) (G (0, thr τ 0)) Q) (h1 : Ri (some (.inl 0)) (G (1, thr τ 1)) Q) (h2 : Ri (some (.inl 1)) (G (1, thr τ 2)) Q) : Ri (obx (f_X3_needTrack x) fun _ => obx (f_X3_needKindOf x k) F) ((f_X6_isNoKind τ x k).bind G) Q := by
  by_cases p : x = 0 ∨ x = 1
  · obtain ⟨j, hj, hx⟩ := tk_ok p
    refine ri_obr (cl_track p) ?_
    by_cases q : KO x k
    · exact ri_obr (cl_kind q) (ri_eR (mo_kind p q) (h0 j hj hx q))
    · exact ri_obl (cl_nokind q) (ri_eR (mo_nokind p q) h2)
  · exact ri_obl (cl_notrack p) (ri_eR (mo_nokind2 p) h1)
theorem ag_drop (h : RX σ τ) (x1 x2 x3 : Int32) : Ri (f_X3_drop σ x1 x2 x3) (f_X6_drop τ x1 x2 x3) (TQ C2 σ) := by
  unfold f_X3_drop f_X6_drop
  refine gd_kind (fun j hj hx _ => ri_tR rfl ?_) (ri_fR ne10 (tq_l (h.thr 1) thr0)) (ri_fR ne10 (tq_l (h.thr 2) thr0))
  have h0 := h.thr 0
  have hr := h.row (i := j) (by omega)
  have hl := hr.len
  refine ri_eL (trackOf_ok hx) (ri_eL (rw_placeOfKind hr x2 x3) (ri_eR (mo_found (gtr_x hx) (len20 h0.1 hj) x2 x3) (ri_iR (fun c => ri_tL c (tq_r h0 thr0 rfl)) fun c => ri_fL c ?_)))
  have hp := fnG_place (tKind x2) x3 (τ.1 j) 0 (-1) (τ.1 j).length (by omega) (Or.inl rfl)
  obtain ⟨i, hi, e⟩ := hp.resolve_left c
  have e2 : fnG (tKind x2) x3 ((thr τ 0).1 j) 0 (-1) = nI i := e
  rw [e, e2]
  refine ri_okR (mo_go hx (gtr_x hx) hi (Nat.le_trans (len20 h0.1 hj) (by omega))) fun t1 ht1 => ri_eR mo_tear ?_
  refine ri_okL (rw_leave hr hi) fun w hw => ri_nL fun r1 e1 => ?_
  subst e1
  refine ri_okL (cl_tearFor hx) fun r hr3 => ?_
  have te := tear_rx (τ := thr τ 0) h0 hj hw.2 (h0.1.2.2.2.del hj) hr3 ht1.2
  exact tq_r te.1 (te.2.1.trans thr0) rfl
theorem ag_has (h : RX σ τ) (x1 x2 : Int32) : Ri (f_X3_has σ x1 x2) (f_X6_has τ x1 x2) (TN C2 σ) := by
  unfold f_X3_has f_X6_has
  refine gd_kind (fun j hj hx _ => ri_tR rfl ?_) (ri_fR ne10 (tn_l (h.thr 1) thr0)) (ri_fR ne10 (tn_l (h.thr 2) thr0))
  have h0 := h.thr 0
  have hr := h.row (i := j) (by omega)
  refine ri_eL (trackOf_ok hx) (ri_eL (rw_placeOfKind hr x2 0) (ri_eR (mo_found (gtr_x hx) (len20 h0.1 hj) x2 0) (ri_iR (fun c => ri_tL c (tn_r h0 thr0 rfl)) fun c => ri_fL c (tn_r h0 thr0 rfl))))
end L3E
end
section
/-! level 3: the walk, the line by its places -/
section L3F
variable {σ : CS} {τ : MS}
theorem scW {w : Nat → Int32} : (σ.1, scUp σ.2 1 4 w).2 1 = w 0 ∧ (σ.1, scUp σ.2 1 4 w).2 2 = w 1 ∧ (σ.1, scUp σ.2 1 4 w).2 3 = w 2 ∧ (σ.1, scUp σ.2 1 4 w).2 4 = w 3 ∧ ∀ q, ¬ (1 ≤ q ∧ q < 1 + 4) → (σ.1, scUp σ.2 1 4 w).2 q = σ.2 q := by
  refine ⟨?_, ?_, ?_, ?_, fun q hq => ?_⟩
  · show scUp σ.2 1 4 w 1 = w 0
    exact scU_i (q := 1) (by omega)
  · show scUp σ.2 1 4 w 2 = w 1
    exact scU_i (q := 2) (by omega)
  · show scUp σ.2 1 4 w 3 = w 2
    exact scU_i (q := 3) (by omega)
  · show scUp σ.2 1 4 w 4 = w 3
    exact scU_i (q := 4) (by omega)
  · show scUp σ.2 1 4 w q = σ.2 q
    exact scU_o hq
/-- the walk anew on both sides -/
theorem walk_rx {r : CS} {t : MS} (h : RY σ τ) (e1 : r.1 = σ.1) (e2 : ∀ q, ¬ (1 ≤ q ∧ q < 1 + 4) → r.2 q = σ.2 q) (f1 : t.1 = τ.1) (f2 : ∀ q, q ≠ 0 → q ≠ 1 → q ≠ 2 → q ≠ 3 → t.2 q = τ.2 q) (hw : WR r t) : RX r t := by
  refine ⟨h.cg (fun i _ => by rw [e1]) f1 (fun q h1 h2 => ?_) ?_, hw⟩
  · rw [e2 q (by omega), f2 q (by omega) (by omega) (by omega) (by omega)]; exact h.2.1 q h1 h2
  · rw [e2 0 (by omega), f2 4 (by omega) (by omega) (by omega) (by omega)]; exact h.2.2.1
theorem ag_walk (h : RX σ τ) (x1 : Int32) (q1 : x1 = 0 ∨ x1 = 1) : Ri (f_X3_walk σ x1) (f_X6_walk τ x1) UQ := by
  have hr := h.row (i := 0) (by omega)
  have hl := hr.len
  unfold f_X3_walk f_X6_walk
  refine ri_nR fun s hs => ?_
  have hs : s = thr τ 0 := hs
  subst hs
  have main : ∀ (v w n : Int32), (v = 0 ∧ w = 1 ∨ v = 1 ∧ w = 2) → (n = if v = 0 then 0 else nI (τ.1 0).length - 1) → ∀ wv, f_X1_begin (fun k => σ.2 (1 + k)) v (nI (τ.1 0).length) = some wv → Ri (nm ((σ.1, scUp σ.2 1 4 wv) : CS) fun t11 => (f_X0_size (cap 0) (t11.1 0)).bind fun z12 => some (z12, t11)) (f_X6_walk_34 ((thr τ 0).1, va_up (thr τ 0).2 1 w) n) UQ := by
    intro v w n hv hn wv hwv
    have wv0 : wv 0 = 1 ∧ wv 1 = v ∧ wv 2 = n ∧ wv 3 = -1 := by
      unfold f_X1_begin f_X1_begin_22 at hwv
      have hv2 : v = 0 ∨ v = 1 := by
        rcases hv with q | q
        · exact Or.inl q.1
        · exact Or.inr q.1
      have hwv : (if v = 0 ∨ v = 1 then (if v = 0 then some (va_up (va_up (va_up (va_up (fun k => σ.2 (1 + k)) 0 1) 1 v) 2 0) 3 (-1)) else some (va_up (va_up (va_up (va_up (fun k => σ.2 (1 + k)) 0 1) 1 v) 2 (nI (τ.1 0).length - 1)) 3 (-1))) else none) = some wv := hwv
      rw [if_pos hv2] at hwv
      by_cases c : v = 0
      · rw [if_pos c] at hwv hn
        cases hwv
        exact ⟨rfl, rfl, hn.symm, rfl⟩
      · rw [if_neg c] at hwv hn
        cases hwv
        exact ⟨rfl, rfl, hn.symm, rfl⟩
    unfold f_X6_walk_34
    refine ri_nL fun r hr2 => ri_nR fun t1 ht1 => ri_nR fun t2 ht2 => ?_
    obtain ⟨a1, a2, a3, a4, a5⟩ := scW (σ := σ) (w := wv)
    rw [← hr2] at a1 a2 a3 a4 a5
    have r1 : r.1 = σ.1 := by rw [hr2]
    obtain ⟨l1, b1, o1⟩ := up_sc ht1
    obtain ⟨l2, b2, o2⟩ := up_sc ht2
    have o0 : ∀ q, q ≠ 0 → q ≠ 1 → q ≠ 2 → q ≠ 3 → t2.2 q = τ.2 q := fun q h0 h1 h2 h3 => by
      rw [o2 q h3, o1 q h2]
      show va_up (thr τ 0).2 1 w q = _
      rw [up_ne h1]
      exact thrn q h0
    have w1 : t2.2 1 = w := by
      rw [o2 1 (by omega), o1 1 (by omega)]
      show va_up (thr τ 0).2 1 w 1 = w
      exact up_eq
    have hx : RX r t2 := by
      refine walk_rx h.1 r1 a5 (l2.trans l1) o0 ?_
      unfold WR
      rw [a1, a2, a3, a4, w1, o2 2 (by omega), b1, b2, wv0.1, wv0.2.1, wv0.2.2.1, wv0.2.2.2]
      exact Or.inr ⟨rfl, hv, rfl, rfl, fun _ e => absurd rfl e⟩
    have hr0 := hx.row (i := 0) (by omega)
    exact ri_eL (rw_size hr0) (ri_eR (sizeN (j := 0) rfl) (ri_some ⟨rfl, hx⟩))
  refine ri_eL (rw_size hr) ?_
  have hb : ∃ wv, f_X1_begin (fun k => σ.2 (1 + k)) x1 (nI (τ.1 0).length) = some wv := by
    unfold f_X1_begin f_X1_begin_22
    rcases q1 with q | q <;> subst q
    · exact ⟨_, rfl⟩
    · exact ⟨_, rfl⟩
  obtain ⟨wv, hwv⟩ := hb
  refine ri_eL hwv ?_
  unfold f_X6_walk_15
  refine ri_iR (fun c => ri_nR fun t ht => ri_tR c ?_) fun c => ri_nR fun t ht => ri_fR c ?_
  · subst ht
    exact main x1 1 0 (Or.inl ⟨c, rfl⟩) (by rw [if_pos c]) wv hwv
  · subst ht
    refine ri_eR (sizeN (j := 0) rfl) ?_
    exact main x1 2 _ (Or.inr ⟨q1.resolve_left c, rfl⟩) (by rw [if_neg c]; rfl) wv hwv
theorem hasNext_ok (h : RX σ τ) : ∃ b, (b = 0 ∨ b = 1) ∧ f_X1_hasNext (fun k => σ.2 (1 + k)) (nI (τ.1 0).length) = some b ∧ f_X6_hasNext τ = some b ∧ (b = 1 → ∃ i, i < (τ.1 0).length ∧ τ.2 2 = nI i) := by
  have hr := h.row (i := 0) (by omega)
  have hl := hr.len
  unfold f_X1_hasNext f_X6_hasNext
  rcases h.2 with ⟨w1, w2, -, -⟩ | ⟨w1, w2, w3, -, -⟩
  · exact ⟨0, Or.inl rfl, by rw [if_pos (show (fun k => σ.2 (1 + k)) 0 = 0 from w1)], by rw [if_pos w2], fun e => absurd e (by decide)⟩
  · have n1 : ¬ (fun k => σ.2 (1 + k)) 0 = 0 := by
      show ¬ σ.2 1 = 0
      rw [w1]; decide
    have n2 : ¬ τ.2 1 = 0 := by
      rcases w2 with q | q <;> (rw [q.2]; decide)
    have w3 : (fun k => σ.2 (1 + k)) 2 = τ.2 2 := w3
    rw [if_neg n1, if_neg n2, w3, sizeN (j := 0) rfl, bsm, mo_isIn, bsm]
    by_cases c1 : τ.2 2 < 0
    · rw [if_pos c1, if_neg (fun q : 0 ≤ τ.2 2 ∧ _ => absurd q.1 (Int32.not_le.mpr c1)), if_pos rfl]
      exact ⟨0, Or.inl rfl, rfl, rfl, fun e => absurd e (by decide)⟩
    · rw [if_neg c1]
      have c0 : 0 ≤ τ.2 2 := Int32.not_lt.mp c1
      by_cases c2 : nI (τ.1 0).length ≤ τ.2 2
      · rw [if_pos c2]
        have c3 : ¬ (0 ≤ τ.2 2 ∧ τ.2 2 ≤ nI (τ.1 0).length - 1) := by
          rintro ⟨-, q⟩
          rcases Nat.eq_zero_or_pos (τ.1 0).length with e | e
          · rw [e] at q
            exact absurd (Int32.le_trans c0 q) (by decide)
          · rw [nI_prd e (by omega)] at q
            have := (nI_lei (by omega) (by omega)).mp (Int32.le_trans c2 q)
            omega
        rw [if_neg c3, if_pos rfl]
        exact ⟨0, Or.inl rfl, rfl, rfl, fun e => absurd e (by decide)⟩
      · rw [if_neg c2]
        have c4 : τ.2 2 < nI (τ.1 0).length := Int32.not_le.mp c2
        obtain ⟨i, hi, e⟩ := nIof (b := (τ.1 0).length) (by omega) c0 (Int32.le_of_lt c4)
        rw [e] at c4
        have hi2 := (nI_lti (by omega) (by omega)).mp c4
        have c3 : 0 ≤ τ.2 2 ∧ τ.2 2 ≤ nI (τ.1 0).length - 1 := by
          refine ⟨c0, ?_⟩
          rw [e, nI_prd (by omega) (by omega)]
          exact (nI_lei (by omega) (by omega)).mpr (by omega)
        rw [if_pos c3, if_neg ne10]
        exact ⟨1, Or.inr rfl, rfl, rfl, fun _ => ⟨i, hi2, e⟩⟩
theorem needWalk_ok (h : RX σ τ) : (τ.2 1 = 0 ∧ f_X3_needWalk σ = some (.inl 2)) ∨ (¬ τ.2 1 = 0 ∧ f_X3_needWalk σ = some (.inr ())) := by
  unfold f_X3_needWalk
  rcases h.2 with ⟨w1, w2, -, -⟩ | ⟨w1, w2, -, -, -⟩
  · exact Or.inl ⟨w2, by rw [if_pos w1]⟩
  · refine Or.inr ⟨?_, by rw [if_neg (by rw [w1]; decide)]⟩
    rcases w2 with q | q <;> (rw [q.2]; decide)
theorem ag_step (h : RX σ τ) : Ri (f_X3_step σ) (f_X6_step τ) (TQ C22 σ) := by
  have hr := h.row (i := 0) (by omega)
  have hl := hr.len
  have h0 := h.thr 0
  unfold f_X3_step f_X6_step f_X6_step_13
  rcases needWalk_ok h with ⟨c, e⟩ | ⟨c, e⟩
  · exact ri_tR c (ri_eR (mo_st1 ne10 (by decide)) (ri_fR ne10 (ri_obl e (tq_l (h.thr 1) thr0))))
  · refine ri_fR c (ri_eR (mo_st0 rfl) (ri_tR rfl (ri_obr e (ri_eL (rw_size hr) ?_))))
    obtain ⟨b, hb, e1, e2, hi⟩ := hasNext_ok h0
    refine ri_eL e1 (ri_eR e2 ?_)
    rcases hb with hb | hb
    · subst hb
      exact ri_tL rfl (ri_tR rfl (tq_r h0 thr0 rfl))
    · subst hb
      obtain ⟨i, hi, en⟩ := hi rfl
      refine ri_fL ne10 (ri_fR ne10 (ri_nR fun t ht => ?_))
      obtain ⟨lt, et, ot⟩ := up_sc ht
      have et : t.2 3 = nI i := et.trans en
      rcases h0.2 with ⟨-, w2, -, -⟩ | ⟨w1, w2, w3, w4, w5⟩
      · exact absurd w2 c
      · have hg : ∃ wv, f_X1_goOn (fun k => σ.2 (1 + k)) = some wv ∧ wv 0 = σ.2 1 ∧ wv 1 = σ.2 2 ∧ wv 2 = σ.2 3 + (if σ.2 2 = 0 then 1 else -1) ∧ wv 3 = σ.2 3 := by
          unfold f_X1_goOn f_X1_goOn_25
          by_cases d : σ.2 2 = 0
          · refine ⟨va_up (va_up (fun k => σ.2 (1 + k)) 3 (σ.2 (1 + 2))) 2 (σ.2 (1 + 2) + 1), ?_, rfl, rfl, ?_, rfl⟩
            · exact if_pos d
            · rw [if_pos d]; rfl
          · refine ⟨va_up (va_up (fun k => σ.2 (1 + k)) 3 (σ.2 (1 + 2))) 2 (σ.2 (1 + 2) + (-1)), ?_, rfl, rfl, ?_, rfl⟩
            · exact if_neg d
            · rw [if_neg d]; rfl
        obtain ⟨wv, e3, g0, g1, g2, g3⟩ := hg
        refine ri_eL e3 (ri_nL fun r hr2 => ?_)
        obtain ⟨a1, a2, a3, a4, a5⟩ := scW (σ := σ) (w := wv)
        rw [← hr2] at a1 a2 a3 a4 a5
        have r1 : r.1 = σ.1 := by rw [hr2]
        have t11 : t.2 1 = τ.2 1 := (ot 1 (by omega)).trans (thrn 1 (by omega))
        have t22 : t.2 2 = τ.2 2 := (ot 2 (by omega)).trans (thrn 2 (by omega))
        have s22 : (thr τ 0).2 2 = τ.2 2 := thrn 2 (by omega)
        have s11 : (thr τ 0).2 1 = τ.2 1 := thrn 1 (by omega)
        have fin : ∀ d : Int32, d = (if σ.2 2 = 0 then 1 else -1) → Ri ((f_X0_read (cap 0) (r.1 0) (r.2 4)).bind fun z23 => some (.inr (z23, r))) (f_X6_step_58 t (t.2 2) d) (TQ C22 σ) := by
          intro d hd
          unfold f_X6_step_58
          refine ri_nR fun t2 ht2 => ?_
          obtain ⟨l2, b2, o2⟩ := up_sc ht2
          have t3 : t2.2 3 = nI i := (o2 3 (by omega)).trans et
          have hx : RX r t2 := by
            refine walk_rx h.1 r1 a5 (l2.trans lt) (fun q p0 p1 p2 p3 => ?_) ?_
            · rw [o2 q p2, ot q p3]
              exact thrn q p0
            · unfold WR
              have n3 : σ.2 3 = nI i := w3.trans en
              rw [a1, a2, a3, a4, g0, g1, g2, g3, o2 1 (by omega), t11, b2, t3, n3, hd]
              have t22b : t.2 2 = nI i := t22.trans (s22.symm.trans en)
              rw [t22b]
              rw [s11] at w2
              refine Or.inr ⟨w1, w2, rfl, rfl, fun e5 _ => ?_⟩
              rcases w2 with q | q
              · rw [if_pos q.1]
              · rw [q.2] at e5; exact absurd e5 (by decide)
          have hr0 := hx.row (i := 0) (by omega)
          have lt2 : (t2.1 0).length = (τ.1 0).length := by rw [l2, lt]; rfl
          have hi3 : i < (t2.1 0).length := by rw [lt2]; exact hi
          have r4 : r.2 4 = nI i := by rw [a4, g3]; exact w3.trans en
          rw [t3, r4]
          refine ri_eL (rw_read hr0 hi3) (ri_eR (getN (j := 0) rfl hi3 hr0.len) (tq_r hx ?_ rfl))
          rw [o2 0 (by omega), ot 0 (by omega)]; exact thr0
        refine ri_iR (fun d => fin _ ?_) fun d => fin _ ?_
        · rw [t11, ← s11] at d
          rcases w2 with q | q
          · rw [if_pos q.1]
          · rw [q.2] at d; exact absurd d (by decide)
        · rw [t11, ← s11] at d
          rcases w2 with q | q
          · exact absurd q.2 d
          · rw [if_neg (by rw [q.1]; decide)]
theorem ag_pluck (h : RX σ τ) : Ri (f_X3_pluck σ) (f_X6_pluck τ) (TQ C22 σ) := by
  have hr := h.row (i := 0) (by omega)
  have hl := hr.len
  have h0 := h.thr 0
  unfold f_X3_pluck f_X6_pluck f_X6_pluck_13
  rcases needWalk_ok h with ⟨c, e⟩ | ⟨c, e⟩
  · exact ri_tR c (ri_eR (mo_st1 ne10 (by decide)) (ri_fR ne10 (ri_obl e (tq_l (h.thr 1) thr0))))
  · refine ri_fR c (ri_eR (mo_st0 rfl) (ri_tR rfl (ri_obr e ?_)))
    have s33 : (thr τ 0).2 3 = τ.2 3 := thrn 3 (by omega)
    have s22 : (thr τ 0).2 2 = τ.2 2 := thrn 2 (by omega)
    have s11 : (thr τ 0).2 1 = τ.2 1 := thrn 1 (by omega)
    rcases h.2 with ⟨-, w2, -, -⟩ | ⟨w1, w2, w3, w4, w5⟩
    · exact absurd w2 c
    · refine ri_iR (fun d => ri_tL ?_ (tq_r h0 thr0 rfl)) fun d => ri_fL ?_ ?_
      · rw [w4, ← s33]; exact d
      · rw [w4, ← s33]; exact d
      · refine ri_eR (v := 0) rfl (ri_bR fun xs hxs => ri_nR fun t ht => ?_)
        obtain ⟨t2, t1, t0⟩ := up_ls ht
        have hin : ∃ i, i < (τ.1 0).length ∧ τ.2 3 = nI i ∧ xs = delAt (τ.1 0) i := by
          rw [s33] at hxs
          have hxs : ldel (τ.1 0) (τ.2 3) = some xs := hxs
          unfold ldel at hxs
          by_cases q : τ.2 3 < 0 ∨ (τ.1 0).length ≤ (τ.2 3).toNatClampNeg
          · rw [if_pos q] at hxs; cases hxs
          · rw [if_neg q] at hxs
            cases hxs
            refine ⟨(τ.2 3).toNatClampNeg, by omega, ?_, rfl⟩
            have q0 : 0 ≤ τ.2 3 := Int32.not_lt.mp fun q0 => q (Or.inl q0)
            apply Int32.toInt_inj.mp
            have q1 := Int32.le_iff_toInt_le.mp q0
            have z0 : (0 : Int32).toInt = 0 := rfl
            have q2 : (τ.2 3).toNatClampNeg = (τ.2 3).toInt.toNat := rfl
            rw [nI_toInt (by omega)]
            omega
        obtain ⟨i, hi, e3, ex⟩ := hin
        have e4 : σ.2 4 = nI i := w4.trans e3
        rw [e4]
        refine ri_okL (rw_leave hr hi) fun z hz => ri_nL fun r1 er1 => ?_
        have hg : ∃ wv, f_X1_letGo (fun k => r1.2 (1 + k)) = some wv ∧ wv 0 = σ.2 1 ∧ wv 1 = σ.2 2 ∧ wv 2 = (if σ.2 2 = 0 then σ.2 4 else σ.2 3) ∧ wv 3 = -1 := by
          have er : r1.2 = σ.2 := by rw [er1]
          rw [er]
          unfold f_X1_letGo f_X1_letGo_15
          by_cases d2 : σ.2 2 = 0
          · refine ⟨va_up (va_up (fun k => σ.2 (1 + k)) 2 (σ.2 (1 + 3))) 3 (-1), ?_, rfl, rfl, ?_, rfl⟩
            · exact if_pos d2
            · rw [if_pos d2]; rfl
          · refine ⟨va_up (fun k => σ.2 (1 + k)) 3 (-1), ?_, rfl, rfl, ?_, rfl⟩
            · exact if_neg d2
            · rw [if_neg d2]; rfl
        obtain ⟨wv, eg, g0, g1, g2, g3⟩ := hg
        refine ri_eL eg (ri_nL fun r2 er2 => ri_eL (v := ((r2.1 2).1, 0)) rfl (ri_nL fun r3 er3 => ?_))
        obtain ⟨a1, a2, a3, a4, a5⟩ := scW (σ := r1) (w := wv)
        rw [← er2] at a1 a2 a3 a4 a5
        have r31 : r3.1 = va_up (va_up σ.1 0 z.2) 2 ((r2.1 2).1, 0) := by rw [er3, er2, er1]
        have r32 : r3.2 = r2.2 := by rw [er3]
        have y1 : RY (va_up σ.1 0 z.2, σ.2) (va_up τ.1 0 xs, τ.2) := h.1.up (by omega) (by rw [ex]; exact hz.2) (by rw [ex]; exact h.1.2.2.2.del (by omega))
        have y2 : RY (va_up (va_up σ.1 0 z.2) 2 ((r2.1 2).1, 0), σ.2) (va_up (va_up τ.1 0 xs) 2 [], τ.2) := y1.up (by omega) (rw_empty (ρ := r2.1 2)) (y1.2.2.2.slips (xs := []) fun w hw => by cases hw)
        have n3 : ∀ s : MS, s.1 = t.1 → (∀ q, q ≠ 2 → s.2 q = t.2 q) → s.2 2 = (if τ.2 1 = 1 then τ.2 2 - 1 else τ.2 2) → Ri ((f_X0_size (cap 0) (r3.1 0)).bind fun z25 => some (.inr (z25, r3))) (f_X6_pluck_70 s) (TQ C22 σ) := by
          intro s ls os s2
          unfold f_X6_pluck_70
          refine ri_nR fun t4 ht4 => ri_eR mo_tear ?_
          obtain ⟨l4, b4, o4⟩ := up_sc ht4
          have hx : RX r3 (va_up t4.1 2 [], t4.2) := by
            refine walk_rx y2 r31 (fun q hq => ?_) ?_ (fun q p0 p1 p2 p3 => ?_) ?_
            · rw [r32, a5 q hq, er1]
            · show va_up t4.1 2 [] = _
              rw [l4, ls, ht]; rfl
            · show t4.2 q = τ.2 q
              rw [o4 q p3, os q p2, t2]
              exact thrn q p0
            · show WRel (r3.2 1) (r3.2 2) (r3.2 3) (r3.2 4) (t4.2 1) (t4.2 2) (t4.2 3)
              rw [r32, a1, a2, a3, a4, g0, g1, g2, g3, b4, o4 1 (by omega), os 1 (by omega), o4 2 (by omega), s2, t2, s11, w1]
              refine Or.inr ⟨rfl, w2, ?_, rfl, fun _ q => absurd rfl q⟩
              rcases w2 with q | q
              · rw [if_pos q.1, if_pos q.2, w4, w5 q.2 (by rw [← s33]; exact d)]
                grind
              · rw [if_neg (by rw [q.1]; decide), if_neg (by rw [q.2]; decide), w3]
          have hr0 := hx.row (i := 0) (by omega)
          refine ri_eL (rw_size hr0) (ri_eR (sizeN (j := 0) rfl) (tq_r hx ?_ rfl))
          show t4.2 0 = 0
          rw [o4 0 (by omega), os 0 (by omega), t2]; exact thr0
        have tt1 : t.2 1 = τ.2 1 := by rw [t2]; exact s11
        have tt2 : t.2 2 = τ.2 2 := by rw [t2]; exact s22
        refine ri_iR (fun d2 => ri_nR fun s hs => ?_) fun d2 => n3 t rfl (fun _ _ => rfl) ?_
        · obtain ⟨ls, bs, os⟩ := up_sc hs
          refine n3 s ls os ?_
          rw [bs, tt2, if_pos (by rw [← tt1]; exact d2)]
        · rw [tt2, if_neg (by rw [← tt1]; exact d2)]
end L3F
end
