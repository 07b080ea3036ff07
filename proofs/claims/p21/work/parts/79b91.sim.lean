/-! LEVEL 3: class and model tell the same. The model ran to its end: so does the class, and Q holds of both ends -/
def Ri {α β : Type} (o1 : Option α) (o2 : Option β) (Q : α → β → Prop) : Prop := ∀ r2, o2 = some r2 → Ok o1 fun r1 => Q r1 r2
section RIR
variable {α β γ δ : Type} {Q : α → β → Prop}
theorem ri_of {o1 : Option α} {r2 : β} (h : Ok o1 fun r1 => Q r1 r2) : Ri o1 (some r2) Q := fun r e => by cases e; exact h
theorem ri_some {r1 : α} {r2 : β} (h : Q r1 r2) : Ri (some r1) (some r2) Q := ri_of (ok_some h)
theorem ri_bR {o : Option γ} {f : γ → Option β} {o1 : Option α} (h : ∀ x, o = some x → Ri o1 (f x) Q) : Ri o1 (o.bind f) Q := by
  intro r e
  cases ho : o with
  | none => rw [ho] at e; cases e
  | some x => rw [ho] at e; exact h x ho r e
theorem ri_eR {o : Option γ} {v : γ} {f : γ → Option β} {o1 : Option α} (e : o = some v) (h : Ri o1 (f v) Q) : Ri o1 (o.bind f) Q := by rw [e]; exact h
theorem ri_okR {o : Option γ} {P : γ → Prop} {f : γ → Option β} {o1 : Option α} (e : Ok o P) (h : ∀ x, P x → Ri o1 (f x) Q) : Ri o1 (o.bind f) Q := by
  obtain ⟨v, e, hv⟩ := e
  exact ri_eR e (h v hv)
theorem ri_nR {v : γ} {f : γ → Option β} {o1 : Option α} (h : ∀ x, x = v → Ri o1 (f x) Q) : Ri o1 (nm v f) Q := h v rfl
theorem ri_iR {c : Prop} [Decidable c] {a b : Option β} {o1 : Option α} (h1 : c → Ri o1 a Q) (h2 : ¬ c → Ri o1 b Q) : Ri o1 (if c then a else b) Q := by
  by_cases hc : c
  · rw [if_pos hc]; exact h1 hc
  · rw [if_neg hc]; exact h2 hc
theorem ri_tR {c : Prop} [Decidable c] {a b : Option β} {o1 : Option α} (hc : c) (h : Ri o1 a Q) : Ri o1 (if c then a else b) Q := by rw [if_pos hc]; exact h
theorem ri_fR {c : Prop} [Decidable c] {a b : Option β} {o1 : Option α} (hc : ¬ c) (h : Ri o1 b Q) : Ri o1 (if c then a else b) Q := by rw [if_neg hc]; exact h
theorem ri_xR {c : Prop} [Decidable c] {b : Option β} {o1 : Option α} (h : ¬ c → Ri o1 b Q) : Ri o1 (if c then none else b) Q := ri_iR (fun _ r e => by cases e) h
theorem ri_yR {c : Prop} [Decidable c] {b : Option β} {o1 : Option α} (h : c → Ri o1 b Q) : Ri o1 (if c then b else none) Q := ri_iR h (fun _ r e => by cases e)
theorem ri_eL {o : Option γ} {v : γ} {f : γ → Option α} {o2 : Option β} (e : o = some v) (h : Ri (f v) o2 Q) : Ri (o.bind f) o2 Q := by rw [e]; exact h
theorem ri_okL {o : Option γ} {P : γ → Prop} {f : γ → Option α} {o2 : Option β} (e : Ok o P) (h : ∀ x, P x → Ri (f x) o2 Q) : Ri (o.bind f) o2 Q := by
  obtain ⟨v, e, hv⟩ := e
  exact ri_eL e (h v hv)
theorem ri_nL {v : γ} {f : γ → Option α} {o2 : Option β} (h : ∀ x, x = v → Ri (f x) o2 Q) : Ri (nm v f) o2 Q := h v rfl
theorem ri_iL {c : Prop} [Decidable c] {a b : Option α} {o2 : Option β} (h1 : c → Ri a o2 Q) (h2 : ¬ c → Ri b o2 Q) : Ri (if c then a else b) o2 Q := by
  by_cases hc : c
  · rw [if_pos hc]; exact h1 hc
  · rw [if_neg hc]; exact h2 hc
theorem ri_tL {c : Prop} [Decidable c] {a b : Option α} {o2 : Option β} (hc : c) (h : Ri a o2 Q) : Ri (if c then a else b) o2 Q := by rw [if_pos hc]; exact h
theorem ri_fL {c : Prop} [Decidable c] {a b : Option α} {o2 : Option β} (hc : ¬ c) (h : Ri b o2 Q) : Ri (if c then a else b) o2 Q := by rw [if_neg hc]; exact h
theorem ri_call {o1 : Option γ} {o2 : Option δ} {P : γ → δ → Prop} {f : γ → Option α} {g : δ → Option β} (h : Ri o1 o2 P) (k : ∀ x y, P x y → Ri (f x) (g y) Q) : Ri (o1.bind f) (o2.bind g) Q := ri_bR fun y hy => by
  obtain ⟨x, e, hx⟩ := h y hy
  exact ri_eL e (k x y hx)
theorem ri_mono {o1 : Option α} {o2 : Option β} {P : α → β → Prop} (h : Ri o1 o2 P) (k : ∀ x y, P x y → Q x y) : Ri o1 o2 Q := fun r e => ok_mono (h r e) fun x hx => k x r hx
theorem ri_obr {o : Option (Nat ⊕ γ)} {v : γ} {f : γ → Option (Nat ⊕ δ)} {o2 : Option β} {Q : (Nat ⊕ δ) → β → Prop} (e : o = some (.inr v)) (h : Ri (f v) o2 Q) : Ri (obx o f) o2 Q := by
  have : obx o f = f v := by rw [e]; rfl
  rw [this]; exact h
theorem ri_obl {o : Option (Nat ⊕ γ)} {k : Nat} {f : γ → Option (Nat ⊕ δ)} {o2 : Option β} {Q : (Nat ⊕ δ) → β → Prop} (e : o = some (.inl k)) (h : Ri (some (.inl k)) o2 Q) : Ri (obx o f) o2 Q := by
  have : obx o f = some (.inl k) := by rw [e]; rfl
  rw [this]; exact h
theorem ri_lpn {st1 : (γ → Option α) → γ → Option α} {st2 : (δ → Option β) → δ → Option β} (J : γ → δ → Prop) (h : ∀ k1 k2 a b, J a b → (∀ a' b', J a' b' → Ri (k1 a') (k2 b') Q) → Ri (st1 k1 a) (st2 k2 b) Q) : ∀ (n2 n1 : Nat) (a : γ) (b : δ), n2 ≤ n1 → J a b → Ri (lpn st1 n1 a) (lpn st2 n2 b) Q := by
  intro n2
  induction n2 with
  | zero => intro n1 a b _ _ r e; cases e
  | succ n2 ih =>
    intro n1 a b hn hJ
    obtain ⟨n1, rfl⟩ : ∃ m, n1 = m + 1 := ⟨n1 - 1, by omega⟩
    exact h _ _ a b hJ fun a' b' hJ' => ih n1 a' b' (by omega) hJ'
end RIR
/-! a row of the class holds a list -/
def RW (i : Nat) (ρ : RS) (xs : List Int32) : Prop := ρ.2 = nI xs.length ∧ xs.length ≤ cap i ∧ ∀ j, j < xs.length → ρ.1 j = xs.getD j 0
theorem nI_c {n : Nat} (h : n < 2147483648) : (nI n).toNatClampNeg = n := by
  have := nI_toInt (n := n) (by omega)
  show (nI n).toInt.toNat = n
  omega
theorem nI_eqz {a : Nat} (ha : a < 2147483648) : nI a = 0 ↔ a = 0 := nI_eqi (b := 0) ha (by omega)
theorem upd_at {f : Nat → Int32} {j q : Nat} {v : Int32} : upd f j v q = if q = j then v else f q := rfl
section ROWW
variable {i : Nat} {ρ : RS} {xs : List Int32}
theorem rd_raw {N j : Nat} (hn : ρ.2 = nI N) (hN : N ≤ cap i) (hj : j < N) : f_X0_read (cap i) ρ (nI j) = some (ρ.1 j) := by
  have hc := capn i
  unfold f_X0_read
  rw [hn, if_neg (nI_nn (by omega)), if_neg (mt (nI_lei (by omega) (by omega)).mp (by omega)), if_neg (mt (nI_lei (by omega) (by omega)).mp (by omega)), if_neg, nI_c (by omega)]
  rw [nI_c (by omega)]
  rintro (h | h)
  · exact nI_nn (by omega) h
  · omega
theorem ov_raw {N j : Nat} {v : Int32} (hn : ρ.2 = nI N) (hN : N ≤ cap i) (hj : j < N) : f_X0_overwrite (cap i) ρ (nI j) v = some (upd ρ.1 j v, ρ.2) := by
  have hc := capn i
  unfold f_X0_overwrite
  rw [hn, if_neg (nI_nn (by omega)), if_neg (mt (nI_lei (by omega) (by omega)).mp (by omega)), if_neg (mt (nI_lei (by omega) (by omega)).mp (by omega)), if_neg]
  · rw [nI_c (by omega)]; rfl
  · rw [nI_c (by omega)]
    rintro (h | h)
    · exact nI_nn (by omega) h
    · omega
theorem RW.len (h : RW i ρ xs) : xs.length ≤ 20 := Nat.le_trans h.2.1 (capn i)
theorem rw_size (h : RW i ρ xs) : f_X0_size (cap i) ρ = some (nI xs.length) := by unfold f_X0_size; rw [h.1]
theorem rw_read (h : RW i ρ xs) {j : Nat} (hj : j < xs.length) : f_X0_read (cap i) ρ (nI j) = some (xs.getD j 0) := by rw [rd_raw h.1 h.2.1 hj, h.2.2 j hj]
theorem rw_read0 (h : RW i ρ xs) {x : Int32} (hx : x < 0 ∨ nI xs.length ≤ x) : f_X0_read (cap i) ρ x = some 0 := by
  unfold f_X0_read
  rw [h.1]
  rcases hx with q | q
  · rw [if_pos q]
  · by_cases c : x < 0
    · rw [if_pos c]
    · rw [if_neg c, if_pos q]
theorem rw_isEmpty (h : RW i ρ xs) : f_X0_isEmpty (cap i) ρ = some (if xs.length = 0 then 1 else 0) := by
  have hl := h.len
  unfold f_X0_isEmpty
  rw [h.1]
  by_cases c : xs.length = 0
  · rw [if_pos c, c]; rfl
  · rw [if_neg c, if_neg (mt (nI_eqz (a := xs.length) (by omega)).mp c)]
theorem rw_isFull (h : RW i ρ xs) : f_X0_isFull (cap i) ρ = some (if xs.length < cap i then 0 else 1) := by
  have hl := h.len
  have hc := capn i
  unfold f_X0_isFull
  rw [h.1]
  by_cases c : xs.length < cap i
  · rw [if_pos c, if_pos ((nI_lti (by omega) (by omega)).mpr c)]
  · rw [if_neg c, if_neg (mt (nI_lti (by omega) (by omega)).mp c)]
theorem rw_endPlace (h : RW i ρ xs) (x : Int32) : f_X0_endPlace (cap i) ρ x = some (if x = 0 then (if xs.length = 0 then -1 else 0) else nI xs.length - 1) := by
  have hl := h.len
  unfold f_X0_endPlace f_X0_endPlace_11
  rw [h.1]
  by_cases c : x = 0
  · rw [if_pos c, if_pos c]
    by_cases d : xs.length = 0
    · rw [if_pos d, d]; rfl
    · rw [if_neg d, if_neg (mt (nI_eqz (a := xs.length) (by omega)).mp d)]
  · rw [if_neg c, if_neg c]
theorem rw_empty : RW i (ρ.1, 0) [] := ⟨rfl, Nat.zero_le _, fun j hj => absurd hj (Nat.not_lt_zero j)⟩
theorem rw_overwrite (h : RW i ρ xs) {j : Nat} {v : Int32} (hj : j < xs.length) : Ok (f_X0_overwrite (cap i) ρ (nI j) v) fun r => RW i r (xs.set j v) := by
  refine ⟨_, ov_raw h.1 h.2.1 hj, ?_⟩
  refine ⟨by rw [List.length_set]; exact h.1, by rw [List.length_set]; exact h.2.1, fun q hq => ?_⟩
  rw [List.length_set] at hq
  show upd ρ.1 j v q = _
  rw [set_get hj, upd_at]
  split
  · rfl
  · exact h.2.2 q hq
theorem rw_enter (h : RW i ρ xs) {j : Nat} {v : Int32} (hj : j ≤ xs.length) (hl : xs.length < cap i) : Ok (f_X0_enter (cap i) ρ (nI j) v) fun r => RW i r (insAt xs j v) := by
  have hc := capn i
  unfold f_X0_enter
  refine ok_ev (rw_isFull h) ?_
  rw [if_pos hl]
  refine ok_t rfl (ok_f (nI_nn (by omega)) (ok_t (by rw [h.1]; exact (nI_lei (by omega) (by omega)).mpr hj) (ok_nme fun t ht => ok_nme fun y hy => ?_)))
  have ht2 : t.2 = nI (xs.length + 1) := by rw [ht]; show ρ.2 + 1 = _; rw [h.1]; exact nI_suc (by omega)
  have ht1 : t.1 = ρ.1 := by rw [ht]
  have hy : y = nI xs.length := by rw [hy, ht2]; exact nI_dec (by omega)
  clear ht
  subst hy
  refine up_loop (fun m a => a.1.2 = nI (xs.length + 1) ∧ a.2.1 = nI j ∧ a.2.2.1 = v ∧ a.2.2.2 = nI (xs.length - m) ∧ (∀ q, q < xs.length - m → a.1.1 q = xs.getD q 0) ∧ ∀ q, xs.length - m < q → q ≤ xs.length → a.1.1 q = xs.getD (q - 1) 0) (xs.length - j) ?_ (xs.length - j) 0 _ (by omega) ⟨ht2, rfl, rfl, rfl, fun q hq => by show t.1 q = _; rw [ht1]; exact h.2.2 q (by omega), fun q h1 h2 => absurd h1 (by omega)⟩ 64 (by omega)
  rintro kk ⟨r, b1, b2, b3⟩ m hm ⟨a1, a2, a3, a4, a5, a6⟩ hk
  dsimp only at a1 a2 a3 a4 a5 a6
  subst a2 a3 a4
  unfold f_X0_enter_37
  dsimp only
  refine ok_if (fun c => ?_) fun c => ?_
  · have c2 := (nI_lei (by omega) (by omega)).mp c
    have hmj : xs.length - m = j := by omega
    refine ok_ev (ov_raw (N := xs.length + 1) a1 (by omega) (by omega)) (ok_some ⟨?_, ?_, fun q hq => ?_⟩)
    · show r.2 = _
      rw [insAt_len hj]; exact a1
    · rw [insAt_len hj]; omega
    · rw [insAt_len hj] at hq
      show upd r.1 j b2 q = _
      rw [upd_at, insAt_get hj]
      by_cases h1 : q = j
      · rw [if_pos h1, if_neg (by omega), if_pos h1]
      · rw [if_neg h1]
        by_cases h2 : q < j
        · rw [if_pos h2]; exact a5 q (by omega)
        · rw [if_neg h2, if_neg h1]; exact a6 q (by omega) (by omega)
  · have c2 := mt (nI_lei (a := xs.length - m) (b := j) (by omega) (by omega)).mpr c
    rw [nI_prd (by omega) (by omega)]
    refine ok_ev (rd_raw (N := xs.length + 1) a1 (by omega) (by omega)) (ok_ev (ov_raw (N := xs.length + 1) a1 (by omega) (by omega)) (ok_nme fun y hy => ?_))
    refine hk _ (by omega) ⟨a1, rfl, rfl, ?_, fun q hq => ?_, fun q h1 h2 => ?_⟩
    · show y = _
      rw [hy, nI_prd2 (by omega) (by omega), show xs.length - m - 1 = xs.length - (m + 1) by omega]
    · show upd r.1 (xs.length - m) _ q = _
      rw [upd_at, if_neg (by omega)]
      exact a5 q (by omega)
    · show upd r.1 (xs.length - m) _ q = _
      rw [upd_at]
      by_cases e : q = xs.length - m
      · rw [if_pos e, a5 _ (by omega), e]
      · rw [if_neg e]
        exact a6 q (by omega) h2
theorem insAt_last {v : Int32} : insAt xs xs.length v = xs ++ [v] := by
  unfold insAt
  rw [List.take_length, List.drop_length]
theorem rw_enterLast (h : RW i ρ xs) {v : Int32} (hl : xs.length < cap i) : Ok (f_X0_enterLast (cap i) ρ v) fun r => RW i r (xs ++ [v]) := by
  unfold f_X0_enterLast
  rw [h.1]
  refine ok_bind (rw_enter h (Nat.le_refl _) hl) fun z hz => ok_some ?_
  rw [insAt_last] at hz
  exact hz
theorem rw_leave (h : RW i ρ xs) {j : Nat} (hj : j < xs.length) : Ok (f_X0_leave (cap i) ρ (nI j)) fun r => r.1 = xs.getD j 0 ∧ RW i r.2 (delAt xs j) := by
  have hc := capn i
  have hl := h.len
  unfold f_X0_leave
  refine ok_f (nI_nn (by omega)) (ok_t (by rw [h.1]; exact (nI_lti (by omega) (by omega)).mpr hj) (ok_ev (rw_read h hj) ?_))
  refine up_loop (fun m a => a.1.2 = nI xs.length ∧ a.2.1 = xs.getD j 0 ∧ a.2.2 = nI (j + m) ∧ (∀ q, q < j → a.1.1 q = xs.getD q 0) ∧ (∀ q, j ≤ q → q < j + m → a.1.1 q = xs.getD (q + 1) 0) ∧ ∀ q, j + m ≤ q → q < xs.length → a.1.1 q = xs.getD q 0) (xs.length - 1 - j) ?_ (xs.length - 1 - j) 0 _ (by omega) ⟨h.1, rfl, rfl, fun q hq => h.2.2 q (by omega), fun q h1 h2 => absurd h1 (by omega), fun q _ hq => h.2.2 q hq⟩ 64 (by omega)
  rintro kk ⟨r, b1, b2⟩ m hm ⟨a1, a2, a3, a4, a5, a6⟩ hk
  dsimp only at a1 a2 a3 a4 a5 a6
  subst a2 a3
  unfold f_X0_leave_22
  dsimp only
  refine ok_if (fun c => ?_) fun c => ?_
  · rw [a1, nI_prd (by omega) (by omega)] at c
    have c2 := (nI_lei (by omega) (by omega)).mp c
    refine ok_nme fun t ht => ok_some ⟨rfl, ?_⟩
    have dl : (delAt xs j).length = xs.length - 1 := delAt_len hj
    have t2 : t.2 = nI (xs.length - 1) := by rw [ht]; show r.2 - 1 = _; rw [a1]; exact nI_prd (by omega) (by omega)
    have t1 : t.1 = r.1 := by rw [ht]
    refine ⟨by rw [dl]; exact t2, by rw [dl]; have := h.2.1; omega, fun q hq => ?_⟩
    rw [dl] at hq
    show t.1 q = _
    rw [t1, delAt_get hj]
    by_cases h1 : q < j
    · rw [if_pos h1]; exact a4 q h1
    · rw [if_neg h1]; exact a5 q (by omega) (by omega)
  · rw [a1, nI_prd (by omega) (by omega)] at c
    have c2 := mt (nI_lei (a := xs.length - 1) (b := j + m) (by omega) (by omega)).mpr c
    rw [nI_suc (by omega)]
    have hcap := h.2.1
    refine ok_ev (rd_raw (N := xs.length) a1 hcap (by omega)) (ok_ev (ov_raw (N := xs.length) a1 hcap (by omega)) (ok_nme fun y hy => ?_))
    refine hk _ (by omega) ⟨a1, rfl, by rw [hy]; rfl, fun q hq => ?_, fun q h1 h2 => ?_, fun q h1 h2 => ?_⟩
    · show upd r.1 (j + m) _ q = _
      rw [upd_at, if_neg (by omega)]; exact a4 q hq
    · show upd r.1 (j + m) _ q = _
      rw [upd_at]
      by_cases e : q = j + m
      · rw [if_pos e, a6 _ (by omega) (by omega), e]
      · rw [if_neg e]; exact a5 q h1 (by omega)
    · show upd r.1 (j + m) _ q = _
      rw [upd_at, if_neg (by omega)]; exact a6 q (by omega) h2
end ROWW
/-! the first or last place of what is looked for -/
def fnG (t : Int32 → Bool) (last : Int32) : List Int32 → Nat → Int32 → Int32
  | [], _, pl => pl
  | v :: r, m, pl => fnG t last r (m + 1) (if t v = true then (if last = 0 then (if pl = -1 then nI m else pl) else nI m) else pl)
theorem fnG_cons {t : Int32 → Bool} {last v : Int32} {r : List Int32} {m : Nat} {pl : Int32} : fnG t last (v :: r) m pl = fnG t last r (m + 1) (if t v = true then (if last = 0 then (if pl = -1 then nI m else pl) else nI m) else pl) := rfl
theorem drop_cons {xs : List Int32} {m : Nat} (h : m < xs.length) : xs.drop m = xs.getD m 0 :: xs.drop (m + 1) := by
  rw [List.drop_eq_getElem_cons h, List.getD_eq_getElem?_getD, List.getElem?_eq_getElem h]; rfl
def tKind (x : Int32) (v : Int32) : Bool := decide (v / 100 = x)
def tSame (x : Int32) (v : Int32) : Bool := decide (v = x)
section FND
variable {i : Nat} {ρ : RS} {xs : List Int32} {τ : MS}
theorem rw_placeOfKind (h : RW i ρ xs) (x1 x2 : Int32) : f_X0_placeOfKind (cap i) ρ x1 x2 = some (fnG (tKind x1) x2 xs 0 (-1)) := by
  have hl := h.len
  have key : Ok (f_X0_placeOfKind (cap i) ρ x1 x2) fun r => r = fnG (tKind x1) x2 xs 0 (-1) := by
    unfold f_X0_placeOfKind
    refine up_loop (fun m t => t.1 = x1 ∧ t.2.1 = x2 ∧ t.2.2.2 = nI m ∧ fnG (tKind x1) x2 (xs.drop m) m t.2.2.1 = fnG (tKind x1) x2 xs 0 (-1)) xs.length ?_ xs.length 0 _ (by omega) ⟨rfl, rfl, rfl, rfl⟩ 64 (by omega)
    rintro kk ⟨v1, v2, v3, v4⟩ m hm ⟨a1, a2, a3, a4⟩ hk
    dsimp only at a1 a2 a3 a4
    subst a1 a2 a3
    unfold f_X0_placeOfKind_5
    dsimp only
    refine ok_if (fun c => ok_some ?_) fun c => ?_
    · rw [h.1] at c
      have c2 := (nI_lei (by omega) (by omega)).mp c
      rw [List.drop_eq_nil_of_le (by omega)] at a4
      exact a4
    · rw [h.1] at c
      have c2 : m < xs.length := Nat.lt_of_not_le (mt (nI_lei (by omega) (by omega)).mpr c)
      rw [drop_cons c2, fnG_cons] at a4
      have m39 : ∀ w, fnG (tKind v1) v2 (xs.drop (m + 1)) (m + 1) w = fnG (tKind v1) v2 xs 0 (-1) → Ok (f_X0_placeOfKind_39 (cap i) ρ kk v1 v2 w (nI m)) fun r => r = fnG (tKind v1) v2 xs 0 (-1) := by
        intro w hw
        unfold f_X0_placeOfKind_39
        exact ok_nme fun y hy => hk _ c2 ⟨rfl, rfl, by rw [hy]; exact nI_suc (by omega), hw⟩
      refine ok_ev (rw_read h c2) (ok_ev (v := xs.getD m 0 / 100) rfl ?_)
      unfold f_X0_placeOfKind_36
      by_cases q : xs.getD m 0 / 100 = v1
      · have e : tKind v1 (xs.getD m 0) = true := decide_eq_true q
        rw [if_pos e] at a4
        refine ok_t q (ok_if (fun q2 => ?_) fun q2 => ?_)
        · rw [if_pos q2] at a4
          refine ok_if (fun q3 => ?_) fun q3 => ?_
          · rw [if_pos q3] at a4; exact m39 _ a4
          · rw [if_neg q3] at a4; exact m39 _ a4
        · rw [if_neg q2] at a4; exact m39 _ a4
      · have e : ¬ tKind v1 (xs.getD m 0) = true := by
          intro e
          exact q (of_decide_eq_true e)
        rw [if_neg e] at a4
        exact ok_f q (m39 _ a4)
  obtain ⟨r, e, hr⟩ := key
  rw [e, hr]
theorem rw_placeOf (h : RW i ρ xs) (x1 x2 : Int32) : f_X0_placeOf (cap i) ρ x1 x2 = some (fnG (tSame x1) x2 xs 0 (-1)) := by
  have hl := h.len
  have key : Ok (f_X0_placeOf (cap i) ρ x1 x2) fun r => r = fnG (tSame x1) x2 xs 0 (-1) := by
    unfold f_X0_placeOf
    refine up_loop (fun m t => t.1 = x1 ∧ t.2.1 = x2 ∧ t.2.2.2 = nI m ∧ fnG (tSame x1) x2 (xs.drop m) m t.2.2.1 = fnG (tSame x1) x2 xs 0 (-1)) xs.length ?_ xs.length 0 _ (by omega) ⟨rfl, rfl, rfl, rfl⟩ 64 (by omega)
    rintro kk ⟨v1, v2, v3, v4⟩ m hm ⟨a1, a2, a3, a4⟩ hk
    dsimp only at a1 a2 a3 a4
    subst a1 a2 a3
    unfold f_X0_placeOf_5
    dsimp only
    refine ok_if (fun c => ok_some ?_) fun c => ?_
    · rw [h.1] at c
      have c2 := (nI_lei (by omega) (by omega)).mp c
      rw [List.drop_eq_nil_of_le (by omega)] at a4
      exact a4
    · rw [h.1] at c
      have c2 : m < xs.length := Nat.lt_of_not_le (mt (nI_lei (by omega) (by omega)).mpr c)
      rw [drop_cons c2, fnG_cons] at a4
      have m36 : ∀ w, fnG (tSame v1) v2 (xs.drop (m + 1)) (m + 1) w = fnG (tSame v1) v2 xs 0 (-1) → Ok (f_X0_placeOf_36 (cap i) ρ kk v1 v2 w (nI m)) fun r => r = fnG (tSame v1) v2 xs 0 (-1) := by
        intro w hw
        unfold f_X0_placeOf_36
        exact ok_nme fun y hy => hk _ c2 ⟨rfl, rfl, by rw [hy]; exact nI_suc (by omega), hw⟩
      refine ok_ev (rw_read h c2) ?_
      unfold f_X0_placeOf_33
      by_cases q : xs.getD m 0 = v1
      · have e : tSame v1 (xs.getD m 0) = true := decide_eq_true q
        rw [if_pos e] at a4
        refine ok_t q (ok_if (fun q2 => ?_) fun q2 => ?_)
        · rw [if_pos q2] at a4
          refine ok_if (fun q3 => ?_) fun q3 => ?_
          · rw [if_pos q3] at a4; exact m36 _ a4
          · rw [if_neg q3] at a4; exact m36 _ a4
        · rw [if_neg q2] at a4; exact m36 _ a4
      · have e : ¬ tSame v1 (xs.getD m 0) = true := by
          intro e
          exact q (of_decide_eq_true e)
        rw [if_neg e] at a4
        exact ok_f q (m36 _ a4)
  obtain ⟨r, e, hr⟩ := key
  rw [e, hr]
theorem mo_found {x1 : Int32} {j : Nat} (hg : gtr x1 = some j) (hl : (τ.1 j).length ≤ 20) (x2 x3 : Int32) : f_X6_found τ x1 x2 x3 = some (fnG (tKind x2) x3 (τ.1 j) 0 (-1)) := by
  have key : Ok (f_X6_found τ x1 x2 x3) fun r => r = fnG (tKind x2) x3 (τ.1 j) 0 (-1) := by
    unfold f_X6_found
    refine up24 (fun m t => t.1 = x1 ∧ t.2.1 = x2 ∧ t.2.2.1 = x3 ∧ t.2.2.2.2 = nI m ∧ fnG (tKind x2) x3 ((τ.1 j).drop m) m t.2.2.2.1 = fnG (tKind x2) x3 (τ.1 j) 0 (-1)) (τ.1 j).length (by omega) ?_ ⟨rfl, rfl, rfl, rfl, rfl⟩
    rintro kk ⟨v0, v1, v2, v3, v4⟩ m hm ⟨a0, a1, a2, a3, a4⟩ hk
    dsimp only at a0 a1 a2 a3 a4
    subst a0 a1 a2 a3
    unfold f_X6_found_6
    dsimp only
    refine ok_ev (sizeN hg) (ok_if (fun c => ok_some ?_) fun c => ?_)
    · have c2 := (nI_lei (by omega) (by omega)).mp c
      rw [List.drop_eq_nil_of_le (by omega)] at a4
      exact a4
    · have c2 : m < (τ.1 j).length := Nat.lt_of_not_le (mt (nI_lei (by omega) (by omega)).mpr c)
      rw [drop_cons c2, fnG_cons] at a4
      have m44 : ∀ w, fnG (tKind v1) v2 ((τ.1 j).drop (m + 1)) (m + 1) w = fnG (tKind v1) v2 (τ.1 j) 0 (-1) → Ok (f_X6_found_44 τ kk v0 v1 v2 w (nI m)) fun r => r = fnG (tKind v1) v2 (τ.1 j) 0 (-1) := by
        intro w hw
        unfold f_X6_found_44
        exact ok_nme fun y hy => hk _ c2 ⟨rfl, rfl, rfl, by rw [hy]; exact nI_suc (by omega), hw⟩
      refine ok_ev (getN hg c2 hl) (ok_ev (v := (τ.1 j).getD m 0 / 100) rfl ?_)
      unfold f_X6_found_40
      by_cases q : (τ.1 j).getD m 0 / 100 = v1
      · have e : tKind v1 ((τ.1 j).getD m 0) = true := decide_eq_true q
        rw [if_pos e] at a4
        refine ok_t q (ok_if (fun q2 => ?_) fun q2 => ?_)
        · rw [if_pos q2] at a4
          refine ok_if (fun q3 => ?_) fun q3 => ?_
          · rw [if_pos q3] at a4; exact m44 _ a4
          · rw [if_neg q3] at a4; exact m44 _ a4
        · rw [if_neg q2] at a4; exact m44 _ a4
      · have e : ¬ tKind v1 ((τ.1 j).getD m 0) = true := by
          intro e
          exact q (of_decide_eq_true e)
        rw [if_neg e] at a4
        exact ok_f q (m44 _ a4)
  obtain ⟨r, e, hr⟩ := key
  rw [e, hr]
theorem fnG_place (t : Int32 → Bool) (last : Int32) : ∀ (xs : List Int32) (m : Nat) (pl : Int32) (N : Nat), m + xs.length ≤ N → (pl = -1 ∨ ∃ q, q < N ∧ pl = nI q) → fnG t last xs m pl = -1 ∨ ∃ q, q < N ∧ fnG t last xs m pl = nI q := by
  intro xs
  induction xs with
  | nil => intro m pl N _ h; exact h
  | cons v r ih =>
    intro m pl N hN h
    have hm : m < N := by
      have : (v :: r).length = r.length + 1 := rfl
      omega
    unfold fnG
    refine ih (m + 1) _ N (by have : (v :: r).length = r.length + 1 := rfl; omega) ?_
    have hi : nI m = -1 ∨ ∃ q, q < N ∧ nI m = nI q := Or.inr ⟨m, hm, rfl⟩
    split
    · split
      · split
        · exact hi
        · exact h
      · exact hi
    · exact h
end FND
