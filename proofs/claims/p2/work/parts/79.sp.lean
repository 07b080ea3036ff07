/-! level 2 gathered: class and model side by side -/
def INV (σ : CS) (τ : MS) : Prop := ∃ k, IK k σ ∧ IB k τ ∧ WK τ ∧ UT τ
theorem sp_m {k : Int32} {ks : List Nat} {σ : CS} {res : Nat ⊕ (Int32 × CS)} {res2 : Int32 × MS} (hk : IK k σ) (r1 : XQ ks (fun r => IK k r.2) res) (r2 : IB k res2.2 ∧ WK res2.2 ∧ UT res2.2) : INV (aftM σ res) res2.2 := by
  cases res with
  | inl e => exact ⟨k, hk, r2⟩
  | inr z => exact ⟨k, r1, r2⟩
theorem sp_k {α : Type} {ks : List Nat} {P : α → Prop} {res : Nat ⊕ α} (r1 : XQ ks P res) (k9 : Nat) (h9 : res = .inl k9) : k9 ∈ ks := by
  subst h9
  exact r1
theorem IB.len2 {k : Int32} {τ : MS} (h : IB k τ) : ∀ i, i < 2 → (τ.1 i).length ≤ 20 := fun i hi => Nat.le_trans (h.l (i := i) (by omega)).1 (capn i)
theorem IB.len12 {k : Int32} {τ : MS} (h : IB k τ) : (τ.1 2).length ≤ 12 := (h.l (i := 2) (by omega)).1
theorem IB.slv {k : Int32} {τ : MS} (h : IB k τ) : ∀ j, j < (τ.1 2).length → ∃ v, v < 8000 ∧ (τ.1 2).getD j 0 = nI v := by
  intro j hj
  have q := (h.l (i := 2) (by omega)).getD j
  obtain ⟨v, v1, v2⟩ := nIof (b := 7999) (by decide) q.1 q.2
  exact ⟨v, by omega, v2⟩
theorem IB.cdv {k : Int32} {τ : MS} (h : IB k τ) : ∀ t, t < 2 → ∀ j, j < (τ.1 t).length → ∃ v, v < 1000 ∧ (τ.1 t).getD j 0 = nI v := by
  intro t ht j hj
  have q := (h.l (i := t) (by omega)).getD j
  have e : hiR t = 999 := by unfold hiR; rw [if_neg (by omega), if_neg (by omega)]
  rw [e] at q
  obtain ⟨v, v1, v2⟩ := nIof (b := 999) (by decide) q.1 q.2
  exact ⟨v, by omega, v2⟩
theorem inv0 : INV σ0 τ0 := by
  refine ⟨0, ⟨fun i hi => ⟨by show (0 : Int32) ≤ 0; decide, ?_, fun j => ⟨by show (0 : Int32) ≤ 0; decide, ?_⟩⟩, rfl⟩, ⟨fun i hi => ⟨Nat.zero_le _, fun v hv => by cases hv⟩, rfl⟩, ⟨Or.inl rfl, ⟨Or.inl rfl, fun h => ?_⟩, ⟨Or.inl rfl, fun h => ?_⟩⟩, trivial⟩
  · show (0 : Int32) ≤ nI (cap i)
    exact Int32.le_trans (by decide) (capN i).2.1
  · show (0 : Int32) ≤ hiR i
    exact Int32.le_trans (by decide) (hiR0 i).1
  · exact absurd (show (0 : Int32) = 1 from h) (by decide)
  · exact absurd (show (0 : Int32) = 1 from h) (by decide)
/-! what is only told leaves the state -/
theorem al_no {α : Type} {c : Prop} [Decidable c] {b : Option α} {Q : α → Prop} (h : ¬ c → Al b Q) : Al (if c then none else b) Q := by
  by_cases hc : c
  · rw [if_pos hc]; intro r e; cases e
  · rw [if_neg hc]; exact h hc
theorem al_lpn {α β : Type} {st : (β → Option α) → β → Option α} {Q : α → Prop} (I : β → Prop) (h : ∀ k a, I a → (∀ b, I b → Al (k b) Q) → Al (st k a) Q) : ∀ (n : Nat) (a : β), I a → Al (lpn st n a) Q := by
  intro n
  induction n with
  | zero => intro a _ r e; cases e
  | succ n ih => intro a ha; exact h _ a ha ih
theorem same_trackTold {τ : MS} {x1 x2 : Int32} : Al (f_X6_trackTold τ x1 x2) fun r => r.2 = τ := by
  have m81 : ∀ a b c d e f g, Al (f_X6_trackTold_81 τ a b c d e f g) fun r => r.2 = τ := by
    intro a b c d e f g
    unfold f_X6_trackTold_81
    exact al_bind al_any fun z _ => al_no fun _ => al_nme fun y _ => al_no fun _ => al_nme fun y _ => al_no fun _ => al_nme fun y _ => al_no fun _ => al_some rfl
  unfold f_X6_trackTold
  refine al_lpn (fun _ => True) (fun kk a _ hk => ?_) 24 _ trivial
  unfold f_X6_trackTold_8
  refine al_bind al_any fun z _ => al_if (fun _ => al_no fun _ => al_nme fun y _ => al_nme fun y _ => al_bind al_any fun z _ => al_no fun _ => al_nme fun y _ => al_bind al_any fun z _ => al_if (fun _ => m81 _ _ _ _ _ _ _) fun _ => m81 _ _ _ _ _ _ _) fun _ => ?_
  exact al_bind al_any fun z _ => al_bind al_any fun z _ => al_nme fun y _ => al_bind al_any fun z _ => al_bind al_any fun z _ => al_nme fun y _ => al_nme fun y _ => hk _ trivial
theorem same_whereNow {τ : MS} {x1 x2 : Int32} : Al (f_X6_whereNow τ x1 x2) fun r => r.2 = τ := by
  have m70 : ∀ a b c d e, Al (f_X6_whereNow_70 τ a b c d e) fun r => r.2 = τ := by
    intro a b c d e
    unfold f_X6_whereNow_70
    exact al_bind al_any fun z _ => al_no fun _ => al_nme fun y _ => al_no fun _ => al_some rfl
  have m52 : ∀ a b c d e f, Al (f_X6_whereNow_52 τ a b c d e f) fun r => r.2 = τ := by
    intro a b c d e f
    unfold f_X6_whereNow_52
    exact al_bind al_any fun z _ => al_no fun _ => al_nme fun y _ => al_if (fun _ => m70 _ _ _ _ _) fun _ => m70 _ _ _ _ _
  unfold f_X6_whereNow
  exact al_bind al_any fun z _ => al_no fun _ => al_nme fun y _ => al_nme fun y _ => al_no fun _ => al_nme fun y _ => al_no fun _ => al_nme fun y _ => al_no fun _ => al_nme fun y _ => al_bind al_any fun z _ => al_if (fun _ => m52 _ _ _ _ _ _) fun _ => m52 _ _ _ _ _ _
theorem same_nestedNow {τ : MS} {x1 : Int32} : Al (f_X6_nestedNow τ x1) fun r => r.2 = τ := by
  unfold f_X6_nestedNow
  refine al_no fun _ => al_nme fun y _ => al_nme fun y _ => al_lpn (fun t => t.1 = τ) (fun kk a ha hk => ?_) 24 _ rfl
  obtain ⟨s, v1, n, g, v3, v4, v5⟩ := a
  have ha : s = τ := ha
  subst ha
  have m98 : ∀ a b c d e f, Al (f_X6_nestedNow_98 kk s a b c d e f) fun r => r.2 = s := by
    intro a b c d e f
    unfold f_X6_nestedNow_98
    exact al_nme fun y _ => hk _ rfl
  unfold f_X6_nestedNow_13
  dsimp only
  refine al_bind al_any fun z _ => al_if (fun _ => al_if (fun _ => al_some rfl) fun _ => al_some rfl) fun _ => al_bind al_any fun z _ => al_bind al_any fun z _ => al_if (fun _ => m98 _ _ _ _ _ _) fun _ => al_if (fun _ => m98 _ _ _ _ _ _) fun _ => al_if (fun _ => al_no fun _ => al_nme fun y _ => al_nme fun y _ => al_nme fun y _ => m98 _ _ _ _ _ _) fun _ => al_if (fun _ => al_some rfl) fun _ => al_no fun _ => al_if (fun _ => al_nme fun y _ => m98 _ _ _ _ _ _) fun _ => al_some rfl
theorem nI_le_b {n b : Nat} (h : n ≤ b) (hb : b < 2147483648) : 0 ≤ nI n ∧ nI n ≤ nI b := nI_bnd h hb
theorem dh_of {k : Int32} {τ : MS} (hb : IB k τ) (hw : WK τ) (hu : UT τ) : DH τ := by
  have t01 : ∀ t, t < 2 → nI t = 0 ∨ nI t = 1 := by
    intro t ht
    rcases (by omega : t = 0 ∨ t = 1) with e | e <;> subst e
    · exact Or.inl rfl
    · exact Or.inr rfl
  refine ⟨fun t w ht hw' => ?_, fun t w ht hw' => ?_, fun t ht => ?_, fun kd b hk' hb' => ?_, fun w kd hw' hk' => ?_, fun kd hk' => ?_, fun b hb' => ?_⟩
  · have q := nI_bnd (n := w) (b := 3) (by omega) (by omega)
    obtain ⟨r, e, -, h⟩ := al_ok (ok_X6_trackTold hb hw hu (nI t) (nI w) (t01 t ht) q.1 q.2) same_trackTold
    exact ⟨r.1, by rw [e, ← h]⟩
  · obtain ⟨r, e, -⟩ := ok_X6_asked hb (nI t) (nI w) (t01 t ht)
    exact ⟨r, e⟩
  · obtain ⟨r, e, -, h⟩ := al_ok (ok_X6_nestedNow hb hw hu (nI t) (t01 t ht)) same_nestedNow
    exact ⟨r.1, by rw [e, ← h]⟩
  · obtain ⟨r, e, -⟩ := ok_X6_found hb 1 (nI kd) (nI b) (Or.inr rfl)
    exact ⟨r, e⟩
  · have q := nI_bnd (n := kd) (b := 4) (by omega) (by omega)
    obtain ⟨r, e, -, h⟩ := al_ok (ok_X6_whereNow hb hw hu (nI w) (nI kd) (t01 w hw') q.1 q.2) same_whereNow
    exact ⟨r.1, by rw [e, ← h]⟩
  · obtain ⟨r, e, -⟩ := ok_X6_yardTold hb (nI kd)
    exact ⟨r, e⟩
  · obtain ⟨r, e, -⟩ := ok_X6_compared hb (nI b)
    exact ⟨r, e⟩

theorem sp_join {σ : CS} {τ : MS} (hV : INV σ τ) (x1 : Int32) (x2 : Int32) (q2 : x2 = 0 ∨ x2 = 1) (x3 : Int32) (x4 : Int32) : ∃ res res2, f_X3_join σ x1 x2 x3 x4 = some res ∧ (∀ k, res = .inl k → k = 0 ∨ k = 1 ∨ k = 2) ∧ f_X6_join τ x1 x2 x3 x4 = some res2 ∧ INV (aftM σ res) res2.2 := by
  obtain ⟨k, hk, hb, hw, hu⟩ := hV
  obtain ⟨res, e1, r1⟩ := ok_X3_join hk x1 x2 x3 x4
  obtain ⟨res2, e2, r2⟩ := ok_X6_join hb hw hu x1 x2 x3 x4
  refine ⟨res, res2, e1, fun k9 h9 => ?_, e2, sp_m hk r1 r2⟩
  have q := sp_k r1 k9 h9
  simp only [List.mem_cons, List.not_mem_nil, or_false] at q
  omega
theorem sp_offer {σ : CS} {τ : MS} (hV : INV σ τ) (x1 : Int32) (x2 : Int32) (q2 : x2 = 0 ∨ x2 = 1) (x3 : Int32) (x4 : Int32) : ∃ res res2, f_X3_offer σ x1 x2 x3 x4 = some res ∧ (∀ k, res = .inl k → k = 0 ∨ k = 1 ∨ k = 2) ∧ f_X6_offer τ x1 x2 x3 x4 = some res2 ∧ INV (aftM σ res) res2.2 := by
  obtain ⟨k, hk, hb, hw, hu⟩ := hV
  obtain ⟨res, e1, r1⟩ := ok_X3_offer hk x1 x2 x3 x4
  obtain ⟨res2, e2, r2⟩ := ok_X6_offer hb hw hu x1 x2 x3 x4
  refine ⟨res, res2, e1, fun k9 h9 => ?_, e2, sp_m hk r1 r2⟩
  have q := sp_k r1 k9 h9
  simp only [List.mem_cons, List.not_mem_nil, or_false] at q
  omega
theorem sp_push {σ : CS} {τ : MS} (hV : INV σ τ) (x1 : Int32) (x2 : Int32) (x3 : Int32) : ∃ res res2, f_X3_push σ x1 x2 x3 = some res ∧ (∀ k, res = .inl k → k = 0 ∨ k = 1 ∨ k = 2) ∧ f_X6_push τ x1 x2 x3 = some res2 ∧ INV (aftM σ res) res2.2 := by
  obtain ⟨k, hk, hb, hw, hu⟩ := hV
  obtain ⟨res, e1, r1⟩ := ok_X3_push hk x1 x2 x3
  obtain ⟨res2, e2, r2⟩ := ok_X6_push hb hw hu x1 x2 x3
  refine ⟨res, res2, e1, fun k9 h9 => ?_, e2, sp_m hk r1 r2⟩
  have q := sp_k r1 k9 h9
  simp only [List.mem_cons, List.not_mem_nil, or_false] at q
  omega
theorem sp_append {σ : CS} {τ : MS} (hV : INV σ τ) (x1 : Int32) (x2 : Int32) (x3 : Int32) : ∃ res res2, f_X3_append σ x1 x2 x3 = some res ∧ (∀ k, res = .inl k → k = 0 ∨ k = 1 ∨ k = 2) ∧ f_X6_append τ x1 x2 x3 = some res2 ∧ INV (aftM σ res) res2.2 := by
  obtain ⟨k, hk, hb, hw, hu⟩ := hV
  obtain ⟨res, e1, r1⟩ := ok_X3_append hk x1 x2 x3
  obtain ⟨res2, e2, r2⟩ := ok_X6_append hb hw hu x1 x2 x3
  refine ⟨res, res2, e1, fun k9 h9 => ?_, e2, sp_m hk r1 r2⟩
  have q := sp_k r1 k9 h9
  simp only [List.mem_cons, List.not_mem_nil, or_false] at q
  omega
theorem sp_train {σ : CS} {τ : MS} (hV : INV σ τ) (x1 : Int32) (x2 : Int32) (x3 : Int32) (x4 : Int32) : ∃ res res2, f_X3_train σ x1 x2 x3 x4 = some res ∧ (∀ k, res = .inl k → k = 0 ∨ k = 1 ∨ k = 2) ∧ f_X6_train τ x1 x2 x3 x4 = some res2 ∧ INV (aftM σ res) res2.2 := by
  obtain ⟨k, hk, hb, hw, hu⟩ := hV
  obtain ⟨res, e1, r1⟩ := ok_X3_train hk x1 x2 x3 x4
  obtain ⟨res2, e2, r2⟩ := ok_X6_train hb hw hu x1 x2 x3 x4
  refine ⟨res, res2, e1, fun k9 h9 => ?_, e2, sp_m hk r1 r2⟩
  have q := sp_k r1 k9 h9
  simp only [List.mem_cons, List.not_mem_nil, or_false] at q
  omega
theorem sp_take {σ : CS} {τ : MS} (hV : INV σ τ) (x1 : Int32) (x2 : Int32) (q2 : x2 = 0 ∨ x2 = 1) : ∃ res res2, f_X3_take σ x1 x2 = some res ∧ (∀ k, res = .inl k → k = 0) ∧ f_X6_take τ x1 x2 = some res2 ∧ INV (aftM σ res) res2.2 := by
  obtain ⟨k, hk, hb, hw, hu⟩ := hV
  obtain ⟨res, e1, r1⟩ := ok_X3_take hk x1 x2
  obtain ⟨res2, e2, r2⟩ := ok_X6_take hb hw hu x1 x2
  refine ⟨res, res2, e1, fun k9 h9 => ?_, e2, sp_m hk r1 r2⟩
  have q := sp_k r1 k9 h9
  simp only [List.mem_cons, List.not_mem_nil, or_false] at q
  omega
theorem sp_poll {σ : CS} {τ : MS} (hV : INV σ τ) (x1 : Int32) (x2 : Int32) (q2 : x2 = 0 ∨ x2 = 1) : ∃ res res2, f_X3_poll σ x1 x2 = some res ∧ (∀ k, res = .inl k → k = 0) ∧ f_X6_poll τ x1 x2 = some res2 ∧ INV (aftM σ res) res2.2 := by
  obtain ⟨k, hk, hb, hw, hu⟩ := hV
  obtain ⟨res, e1, r1⟩ := ok_X3_poll hk x1 x2
  obtain ⟨res2, e2, r2⟩ := ok_X6_poll hb hw hu x1 x2
  refine ⟨res, res2, e1, fun k9 h9 => ?_, e2, sp_m hk r1 r2⟩
  have q := sp_k r1 k9 h9
  simp only [List.mem_cons, List.not_mem_nil, or_false] at q
  omega
theorem sp_pop {σ : CS} {τ : MS} (hV : INV σ τ) (x1 : Int32) : ∃ res res2, f_X3_pop σ x1 = some res ∧ (∀ k, res = .inl k → k = 0) ∧ f_X6_pop τ x1 = some res2 ∧ INV (aftM σ res) res2.2 := by
  obtain ⟨k, hk, hb, hw, hu⟩ := hV
  obtain ⟨res, e1, r1⟩ := ok_X3_pop hk x1
  obtain ⟨res2, e2, r2⟩ := ok_X6_pop hb hw hu x1
  refine ⟨res, res2, e1, fun k9 h9 => ?_, e2, sp_m hk r1 r2⟩
  have q := sp_k r1 k9 h9
  simp only [List.mem_cons, List.not_mem_nil, or_false] at q
  omega
theorem sp_serve {σ : CS} {τ : MS} (hV : INV σ τ) (x1 : Int32) (x2 : Int32) (q2 : x2 = 0 ∨ x2 = 1) : ∃ res res2, f_X3_serve σ x1 x2 = some res ∧ (∀ k, res = .inl k → k = 0) ∧ f_X6_serve τ x1 x2 = some res2 ∧ INV (aftM σ res) res2.2 := by
  obtain ⟨k, hk, hb, hw, hu⟩ := hV
  obtain ⟨res, e1, r1⟩ := ok_X3_serve hk x1 x2
  obtain ⟨res2, e2, r2⟩ := ok_X6_serve hb hw hu x1 x2
  refine ⟨res, res2, e1, fun k9 h9 => ?_, e2, sp_m hk r1 r2⟩
  have q := sp_k r1 k9 h9
  simp only [List.mem_cons, List.not_mem_nil, or_false] at q
  omega
theorem sp_rotate {σ : CS} {τ : MS} (hV : INV σ τ) (x1 : Int32) (x2 : Int32) : ∃ res res2, f_X3_rotate σ x1 x2 = some res ∧ (∀ k, res = .inl k → k = 0 ∨ k = 1) ∧ f_X6_rotate τ x1 x2 = some res2 ∧ INV (aftM σ res) res2.2 := by
  obtain ⟨k, hk, hb, hw, hu⟩ := hV
  obtain ⟨res, e1, r1⟩ := ok_X3_rotate hk x1 x2
  obtain ⟨res2, e2, r2⟩ := ok_X6_rotate hb hw hu x1 x2
  refine ⟨res, res2, e1, fun k9 h9 => ?_, e2, sp_m hk r1 r2⟩
  have q := sp_k r1 k9 h9
  simp only [List.mem_cons, List.not_mem_nil, or_false] at q
  omega
theorem sp_drop {σ : CS} {τ : MS} (hV : INV σ τ) (x1 : Int32) (x2 : Int32) (x3 : Int32) (q3 : x3 = 0 ∨ x3 = 1) : ∃ res res2, f_X3_drop σ x1 x2 x3 = some res ∧ (∀ k, res = .inl k → k = 0 ∨ k = 1) ∧ f_X6_drop τ x1 x2 x3 = some res2 ∧ INV (aftM σ res) res2.2 := by
  obtain ⟨k, hk, hb, hw, hu⟩ := hV
  obtain ⟨res, e1, r1⟩ := ok_X3_drop hk x1 x2 x3
  obtain ⟨res2, e2, r2⟩ := ok_X6_drop hb hw hu x1 x2 x3
  refine ⟨res, res2, e1, fun k9 h9 => ?_, e2, sp_m hk r1 r2⟩
  have q := sp_k r1 k9 h9
  simp only [List.mem_cons, List.not_mem_nil, or_false] at q
  omega
theorem sp_dropAll {σ : CS} {τ : MS} (hV : INV σ τ) (x1 : Int32) (x2 : Int32) : ∃ res res2, f_X3_dropAll σ x1 x2 = some res ∧ (∀ k, res = .inl k → k = 0 ∨ k = 1) ∧ f_X6_dropAll τ x1 x2 = some res2 ∧ INV (aftM σ res) res2.2 := by
  obtain ⟨k, hk, hb, hw, hu⟩ := hV
  obtain ⟨res, e1, r1⟩ := ok_X3_dropAll hk x1 x2
  obtain ⟨res2, e2, r2⟩ := ok_X6_dropAll hb hw hu x1 x2
  refine ⟨res, res2, e1, fun k9 h9 => ?_, e2, sp_m hk r1 r2⟩
  have q := sp_k r1 k9 h9
  simp only [List.mem_cons, List.not_mem_nil, or_false] at q
  omega
theorem sp_shed {σ : CS} {τ : MS} (hV : INV σ τ) (x1 : Int32) (x2 : Int32) (q2 : x2 = 0 ∨ x2 = 1) (x3 : Int32) (x4 : Int32) : ∃ res res2, f_X3_shed σ x1 x2 x3 x4 = some res ∧ (∀ k, res = .inl k → k = 0 ∨ k = 1) ∧ f_X6_shed τ x1 x2 x3 x4 = some res2 ∧ INV (aftM σ res) res2.2 := by
  obtain ⟨k, hk, hb, hw, hu⟩ := hV
  obtain ⟨res, e1, r1⟩ := ok_X3_shed hk x1 x2 x3 x4
  obtain ⟨res2, e2, r2⟩ := ok_X6_shed hb hw hu x1 x2 x3 x4
  refine ⟨res, res2, e1, fun k9 h9 => ?_, e2, sp_m hk r1 r2⟩
  have q := sp_k r1 k9 h9
  simp only [List.mem_cons, List.not_mem_nil, or_false] at q
  omega
theorem sp_thin {σ : CS} {τ : MS} (hV : INV σ τ) (x1 : Int32) (x2 : Int32) (q2 : x2 = 0 ∨ x2 = 1) (x3 : Int32) : ∃ res res2, f_X3_thin σ x1 x2 x3 = some res ∧ (∀ k, res = .inl k → k = 0 ∨ k = 1) ∧ f_X6_thin τ x1 x2 x3 = some res2 ∧ INV (aftM σ res) res2.2 := by
  obtain ⟨k, hk, hb, hw, hu⟩ := hV
  obtain ⟨res, e1, r1⟩ := ok_X3_thin hk x1 x2 x3
  obtain ⟨res2, e2, r2⟩ := ok_X6_thin hb hw hu x1 x2 x3
  refine ⟨res, res2, e1, fun k9 h9 => ?_, e2, sp_m hk r1 r2⟩
  have q := sp_k r1 k9 h9
  simp only [List.mem_cons, List.not_mem_nil, or_false] at q
  omega
theorem sp_turn {σ : CS} {τ : MS} (hV : INV σ τ) (x1 : Int32) : ∃ res res2, f_X3_turn σ x1 = some res ∧ (∀ k, res = .inl k → k = 0) ∧ f_X6_turn τ x1 = some res2 ∧ INV (aftM σ res) res2.2 := by
  obtain ⟨k, hk, hb, hw, hu⟩ := hV
  obtain ⟨res, e1, r1⟩ := ok_X3_turn hk x1
  obtain ⟨res2, e2, r2⟩ := ok_X6_turn hb hw hu x1
  refine ⟨res, res2, e1, fun k9 h9 => ?_, e2, sp_m hk r1 r2⟩
  have q := sp_k r1 k9 h9
  simp only [List.mem_cons, List.not_mem_nil, or_false] at q
  omega
theorem sp_clear {σ : CS} {τ : MS} (hV : INV σ τ) (x1 : Int32) : ∃ res res2, f_X3_clear σ x1 = some res ∧ (∀ k, res = .inl k → k = 0) ∧ f_X6_clear τ x1 = some res2 ∧ INV (aftM σ res) res2.2 := by
  obtain ⟨k, hk, hb, hw, hu⟩ := hV
  obtain ⟨res, e1, r1⟩ := ok_X3_clear hk x1
  obtain ⟨res2, e2, r2⟩ := ok_X6_clear hb hw hu x1
  refine ⟨res, res2, e1, fun k9 h9 => ?_, e2, sp_m hk r1 r2⟩
  have q := sp_k r1 k9 h9
  simp only [List.mem_cons, List.not_mem_nil, or_false] at q
  omega
theorem sp_step {σ : CS} {τ : MS} (hV : INV σ τ) : ∃ res res2, f_X3_step σ = some res ∧ (∀ k, res = .inl k → k = 2) ∧ f_X6_step τ = some res2 ∧ INV (aftM σ res) res2.2 := by
  obtain ⟨k, hk, hb, hw, hu⟩ := hV
  obtain ⟨res, e1, r1⟩ := ok_X3_step hk
  obtain ⟨res2, e2, r2⟩ := ok_X6_step hb hw hu
  refine ⟨res, res2, e1, fun k9 h9 => ?_, e2, sp_m hk r1 r2⟩
  have q := sp_k r1 k9 h9
  simp only [List.mem_cons, List.not_mem_nil, or_false] at q
  omega
theorem sp_pluck {σ : CS} {τ : MS} (hV : INV σ τ) : ∃ res res2, f_X3_pluck σ = some res ∧ (∀ k, res = .inl k → k = 2) ∧ f_X6_pluck τ = some res2 ∧ INV (aftM σ res) res2.2 := by
  obtain ⟨k, hk, hb, hw, hu⟩ := hV
  obtain ⟨res, e1, r1⟩ := ok_X3_pluck hk
  obtain ⟨res2, e2, r2⟩ := ok_X6_pluck hb hw hu
  refine ⟨res, res2, e1, fun k9 h9 => ?_, e2, sp_m hk r1 r2⟩
  have q := sp_k r1 k9 h9
  simp only [List.mem_cons, List.not_mem_nil, or_false] at q
  omega
theorem sp_insert {σ : CS} {τ : MS} (hV : INV σ τ) (x1 : Int32) (x2 : Int32) (x3 : Int32) : ∃ res res2, f_X3_insert σ x1 x2 x3 = some res ∧ (∀ k, res = .inl k → k = 0 ∨ k = 1 ∨ k = 2) ∧ f_X6_insert τ x1 x2 x3 = some res2 ∧ INV (aftM σ res) res2.2 := by
  obtain ⟨k, hk, hb, hw, hu⟩ := hV
  obtain ⟨res, e1, r1⟩ := ok_X3_insert hk x1 x2 x3
  obtain ⟨res2, e2, r2⟩ := ok_X6_insert hb hw hu x1 x2 x3
  refine ⟨res, res2, e1, fun k9 h9 => ?_, e2, sp_m hk r1 r2⟩
  have q := sp_k r1 k9 h9
  simp only [List.mem_cons, List.not_mem_nil, or_false] at q
  omega
theorem sp_cut {σ : CS} {τ : MS} (hV : INV σ τ) (x1 : Int32) : ∃ res res2, f_X3_cut σ x1 = some res ∧ (∀ k, res = .inl k → k = 0) ∧ f_X6_cut τ x1 = some res2 ∧ INV (aftM σ res) res2.2 := by
  obtain ⟨k, hk, hb, hw, hu⟩ := hV
  obtain ⟨res, e1, r1⟩ := ok_X3_cut hk x1
  obtain ⟨res2, e2, r2⟩ := ok_X6_cut hb hw hu x1
  refine ⟨res, res2, e1, fun k9 h9 => ?_, e2, sp_m hk r1 r2⟩
  have q := sp_k r1 k9 h9
  simp only [List.mem_cons, List.not_mem_nil, or_false] at q
  omega
theorem sp_replace {σ : CS} {τ : MS} (hV : INV σ τ) (x1 : Int32) (x2 : Int32) (x3 : Int32) : ∃ res res2, f_X3_replace σ x1 x2 x3 = some res ∧ (∀ k, res = .inl k → k = 0 ∨ k = 1) ∧ f_X6_replace τ x1 x2 x3 = some res2 ∧ INV (aftM σ res) res2.2 := by
  obtain ⟨k, hk, hb, hw, hu⟩ := hV
  obtain ⟨res, e1, r1⟩ := ok_X3_replace hk x1 x2 x3
  obtain ⟨res2, e2, r2⟩ := ok_X6_replace hb hw hu x1 x2 x3
  refine ⟨res, res2, e1, fun k9 h9 => ?_, e2, sp_m hk r1 r2⟩
  have q := sp_k r1 k9 h9
  simp only [List.mem_cons, List.not_mem_nil, or_false] at q
  omega
theorem sp_at {σ : CS} {τ : MS} (hV : INV σ τ) (x1 : Int32) : ∃ res res2, f_X3_at σ x1 = some res ∧ (∀ k, res = .inl k → k = 0) ∧ f_X6_at τ x1 = some res2 ∧ INV σ res2.2 := by
  obtain ⟨k, hk, hb, hw, hu⟩ := hV
  obtain ⟨res, e1, r1⟩ := ok_X3_at hk x1
  obtain ⟨res2, e2, r2⟩ := ok_X6_at hb hw hu x1
  refine ⟨res, res2, e1, fun k9 h9 => ?_, e2, ⟨k, hk, r2⟩⟩
  have q := sp_k r1 k9 h9
  simp only [List.mem_cons, List.not_mem_nil, or_false] at q
  omega
theorem sp_find {σ : CS} {τ : MS} (hV : INV σ τ) (x1 : Int32) (x2 : Int32) (q2 : x2 = 0 ∨ x2 = 1) : ∃ res res2, f_X3_find σ x1 x2 = some res ∧ (∀ k, res = .inl k → k = 1) ∧ f_X6_find τ x1 x2 = some res2 ∧ INV σ res2.2 := by
  obtain ⟨k, hk, hb, hw, hu⟩ := hV
  obtain ⟨res, e1, r1⟩ := ok_X3_find hk x1 x2
  obtain ⟨res2, e2, r2⟩ := ok_X6_find hb hw hu x1 x2
  refine ⟨res, res2, e1, fun k9 h9 => ?_, e2, ⟨k, hk, r2⟩⟩
  have q := sp_k r1 k9 h9
  simp only [List.mem_cons, List.not_mem_nil, or_false] at q
  omega
theorem sp_splice {σ : CS} {τ : MS} (hV : INV σ τ) (x1 : Int32) : ∃ res res2, f_X3_splice σ x1 = some res ∧ (∀ k, res = .inl k → k = 0 ∨ k = 2) ∧ f_X6_splice τ x1 = some res2 ∧ INV (aftM σ res) res2.2 := by
  obtain ⟨k, hk, hb, hw, hu⟩ := hV
  obtain ⟨res, e1, r1⟩ := ok_X3_splice hk x1
  obtain ⟨res2, e2, r2⟩ := ok_X6_splice hb hw hu x1
  refine ⟨res, res2, e1, fun k9 h9 => ?_, e2, sp_m hk r1 r2⟩
  have q := sp_k r1 k9 h9
  simp only [List.mem_cons, List.not_mem_nil, or_false] at q
  omega
theorem sp_shunt {σ : CS} {τ : MS} (hV : INV σ τ) (x1 : Int32) (x2 : Int32) : ∃ res res2, f_X3_shunt σ x1 x2 = some res ∧ (∀ k, res = .inl k → k = 0 ∨ k = 1 ∨ k = 2) ∧ f_X6_shunt τ x1 x2 = some res2 ∧ INV (aftM σ res) res2.2 := by
  obtain ⟨k, hk, hb, hw, hu⟩ := hV
  obtain ⟨res, e1, r1⟩ := ok_X3_shunt hk x1 x2
  obtain ⟨res2, e2, r2⟩ := ok_X6_shunt hb hw hu x1 x2
  refine ⟨res, res2, e1, fun k9 h9 => ?_, e2, sp_m hk r1 r2⟩
  have q := sp_k r1 k9 h9
  simp only [List.mem_cons, List.not_mem_nil, or_false] at q
  omega
theorem sp_stand {σ : CS} {τ : MS} (hV : INV σ τ) (x1 : Int32) (x2 : Int32) : ∃ res res2, f_X3_stand σ x1 x2 = some res ∧ (∀ k, res = .inl k → k = 0) ∧ f_X6_stand τ x1 x2 = some res2 ∧ INV (aftM σ res) res2.2 := by
  obtain ⟨k, hk, hb, hw, hu⟩ := hV
  obtain ⟨res, e1, r1⟩ := ok_X3_stand hk x1 x2
  obtain ⟨res2, e2, r2⟩ := ok_X6_stand hb hw hu x1 x2
  refine ⟨res, res2, e1, fun k9 h9 => ?_, e2, sp_m hk r1 r2⟩
  have q := sp_k r1 k9 h9
  simp only [List.mem_cons, List.not_mem_nil, or_false] at q
  omega
theorem sp_forth {σ : CS} {τ : MS} (hV : INV σ τ) (x1 : Int32) : ∃ res res2, f_X3_forth σ x1 = some res ∧ (∀ k, res = .inl k → k = 0 ∨ k = 2) ∧ f_X6_forth τ x1 = some res2 ∧ INV (aftM σ res) res2.2 := by
  obtain ⟨k, hk, hb, hw, hu⟩ := hV
  obtain ⟨res, e1, r1⟩ := ok_X3_forth hk x1
  obtain ⟨res2, e2, r2⟩ := ok_X6_forth hb hw hu x1
  refine ⟨res, res2, e1, fun k9 h9 => ?_, e2, sp_m hk r1 r2⟩
  have q := sp_k r1 k9 h9
  simp only [List.mem_cons, List.not_mem_nil, or_false] at q
  omega
theorem sp_back {σ : CS} {τ : MS} (hV : INV σ τ) (x1 : Int32) : ∃ res res2, f_X3_back σ x1 = some res ∧ (∀ k, res = .inl k → k = 0 ∨ k = 2) ∧ f_X6_back τ x1 = some res2 ∧ INV (aftM σ res) res2.2 := by
  obtain ⟨k, hk, hb, hw, hu⟩ := hV
  obtain ⟨res, e1, r1⟩ := ok_X3_back hk x1
  obtain ⟨res2, e2, r2⟩ := ok_X6_back hb hw hu x1
  refine ⟨res, res2, e1, fun k9 h9 => ?_, e2, sp_m hk r1 r2⟩
  have q := sp_k r1 k9 h9
  simp only [List.mem_cons, List.not_mem_nil, or_false] at q
  omega
theorem sp_takeHeld {σ : CS} {τ : MS} (hV : INV σ τ) (x1 : Int32) : ∃ res res2, f_X3_takeHeld σ x1 = some res ∧ (∀ k, res = .inl k → k = 0 ∨ k = 2) ∧ f_X6_takeHeld τ x1 = some res2 ∧ INV (aftM σ res) res2.2 := by
  obtain ⟨k, hk, hb, hw, hu⟩ := hV
  obtain ⟨res, e1, r1⟩ := ok_X3_takeHeld hk x1
  obtain ⟨res2, e2, r2⟩ := ok_X6_takeHeld hb hw hu x1
  refine ⟨res, res2, e1, fun k9 h9 => ?_, e2, sp_m hk r1 r2⟩
  have q := sp_k r1 k9 h9
  simp only [List.mem_cons, List.not_mem_nil, or_false] at q
  omega
theorem sp_setHeld {σ : CS} {τ : MS} (hV : INV σ τ) (x1 : Int32) (x2 : Int32) (x3 : Int32) : ∃ res res2, f_X3_setHeld σ x1 x2 x3 = some res ∧ (∀ k, res = .inl k → k = 0 ∨ k = 1 ∨ k = 2) ∧ f_X6_setHeld τ x1 x2 x3 = some res2 ∧ INV (aftM σ res) res2.2 := by
  obtain ⟨k, hk, hb, hw, hu⟩ := hV
  obtain ⟨res, e1, r1⟩ := ok_X3_setHeld hk x1 x2 x3
  obtain ⟨res2, e2, r2⟩ := ok_X6_setHeld hb hw hu x1 x2 x3
  refine ⟨res, res2, e1, fun k9 h9 => ?_, e2, sp_m hk r1 r2⟩
  have q := sp_k r1 k9 h9
  simp only [List.mem_cons, List.not_mem_nil, or_false] at q
  omega
theorem sp_put {σ : CS} {τ : MS} (hV : INV σ τ) (x1 : Int32) (x2 : Int32) (x3 : Int32) : ∃ res res2, f_X3_put σ x1 x2 x3 = some res ∧ (∀ k, res = .inl k → k = 0 ∨ k = 1 ∨ k = 2) ∧ f_X6_put τ x1 x2 x3 = some res2 ∧ INV (aftM σ res) res2.2 := by
  obtain ⟨k, hk, hb, hw, hu⟩ := hV
  obtain ⟨res, e1, r1⟩ := ok_X3_put hk x1 x2 x3
  obtain ⟨res2, e2, r2⟩ := ok_X6_put hb hw hu x1 x2 x3
  refine ⟨res, res2, e1, fun k9 h9 => ?_, e2, sp_m hk r1 r2⟩
  have q := sp_k r1 k9 h9
  simp only [List.mem_cons, List.not_mem_nil, or_false] at q
  omega
theorem sp_where {σ : CS} {τ : MS} (hV : INV σ τ) (x1 : Int32) (x2 : Int32) : ∃ res res2, f_X3_where σ x1 x2 = some res ∧ (∀ k, res = .inl k → k = 0 ∨ k = 1 ∨ k = 2) ∧ f_X6_where τ x1 x2 = some res2 ∧ INV σ res2.2 := by
  obtain ⟨k, hk, hb, hw, hu⟩ := hV
  obtain ⟨res, e1, r1⟩ := ok_X3_where hk x1 x2
  obtain ⟨res2, e2, r2⟩ := ok_X6_where hb hw hu x1 x2
  refine ⟨res, res2, e1, fun k9 h9 => ?_, e2, ⟨k, hk, r2⟩⟩
  have q := sp_k r1 k9 h9
  simp only [List.mem_cons, List.not_mem_nil, or_false] at q
  omega
theorem sp_order {σ : CS} {τ : MS} (hV : INV σ τ) (x1 : Int32) : ∃ res res2, f_X3_order σ x1 = some res ∧ (∀ k, res = .inl k → k = 1 ∨ k = 2) ∧ f_X6_order τ x1 = some res2 ∧ INV (aftM σ res) res2.2 := by
  obtain ⟨k, hk, hb, hw, hu⟩ := hV
  obtain ⟨res, e1, r1⟩ := ok_X3_order hk x1
  obtain ⟨res2, e2, r2⟩ := ok_X6_order hb hw hu x1
  refine ⟨res, res2, e1, fun k9 h9 => ?_, e2, sp_m hk r1 r2⟩
  have q := sp_k r1 k9 h9
  simp only [List.mem_cons, List.not_mem_nil, or_false] at q
  omega
theorem sp_work {σ : CS} {τ : MS} (hV : INV σ τ) (x1 : Int32) : ∃ res res2, f_X3_work σ x1 = some res ∧ (∀ k, res = .inl k → k = 1) ∧ f_X6_work τ x1 = some res2 ∧ INV (aftM σ res) res2.2 := by
  obtain ⟨k, hk, hb, hw, hu⟩ := hV
  obtain ⟨res, e1, r1⟩ := ok_X3_work hk x1
  obtain ⟨res2, e2, r2⟩ := ok_X6_work hb hw hu x1
  refine ⟨res, res2, e1, fun k9 h9 => ?_, e2, sp_m hk r1 r2⟩
  have q := sp_k r1 k9 h9
  simp only [List.mem_cons, List.not_mem_nil, or_false] at q
  omega
theorem sp_cancel {σ : CS} {τ : MS} (hV : INV σ τ) (x1 : Int32) (x2 : Int32) (q2 : x2 = 0 ∨ x2 = 1) : ∃ res res2, f_X3_cancel σ x1 x2 = some res ∧ (∀ k, res = .inl k → k = 1) ∧ f_X6_cancel τ x1 x2 = some res2 ∧ INV (aftM σ res) res2.2 := by
  obtain ⟨k, hk, hb, hw, hu⟩ := hV
  obtain ⟨res, e1, r1⟩ := ok_X3_cancel hk x1 x2
  obtain ⟨res2, e2, r2⟩ := ok_X6_cancel hb hw hu x1 x2
  refine ⟨res, res2, e1, fun k9 h9 => ?_, e2, sp_m hk r1 r2⟩
  have q := sp_k r1 k9 h9
  simp only [List.mem_cons, List.not_mem_nil, or_false] at q
  omega
theorem sp_ask {σ : CS} {τ : MS} (hV : INV σ τ) (x1 : Int32) (x2 : Int32) : ∃ res res2, f_X3_ask σ x1 x2 = some res ∧ (∀ k, res = .inl k → k = 0 ∨ k = 1) ∧ f_X6_ask τ x1 x2 = some res2 ∧ INV σ res2.2 := by
  obtain ⟨k, hk, hb, hw, hu⟩ := hV
  obtain ⟨res, e1, r1⟩ := ok_X3_ask hk x1 x2
  obtain ⟨res2, e2, r2⟩ := ok_X6_ask hb hw hu x1 x2
  refine ⟨res, res2, e1, fun k9 h9 => ?_, e2, ⟨k, hk, r2⟩⟩
  have q := sp_k r1 k9 h9
  simp only [List.mem_cons, List.not_mem_nil, or_false] at q
  omega
theorem sp_ofTrack {σ : CS} {τ : MS} (hV : INV σ τ) (x1 : Int32) (x2 : Int32) : ∃ res res2, f_X3_ofTrack σ x1 x2 = some res ∧ (∀ k, res = .inl k → k = 0 ∨ k = 1) ∧ f_X6_ofTrack τ x1 x2 = some res2 ∧ INV σ res2.2 := by
  obtain ⟨k, hk, hb, hw, hu⟩ := hV
  obtain ⟨res, e1, r1⟩ := ok_X3_ofTrack hk x1 x2
  obtain ⟨res2, e2, r2⟩ := ok_X6_ofTrack hb hw hu x1 x2
  refine ⟨res, res2, e1, fun k9 h9 => ?_, e2, ⟨k, hk, r2⟩⟩
  have q := sp_k r1 k9 h9
  simp only [List.mem_cons, List.not_mem_nil, or_false] at q
  omega
theorem sp_has {σ : CS} {τ : MS} (hV : INV σ τ) (x1 : Int32) (x2 : Int32) : ∃ res res2, f_X3_has σ x1 x2 = some res ∧ (∀ k, res = .inl k → k = 0 ∨ k = 1) ∧ f_X6_has τ x1 x2 = some res2 ∧ INV σ res2.2 := by
  obtain ⟨k, hk, hb, hw, hu⟩ := hV
  obtain ⟨res, e1, r1⟩ := ok_X3_has hk x1 x2
  obtain ⟨res2, e2, r2⟩ := ok_X6_has hb hw hu x1 x2
  refine ⟨res, res2, e1, fun k9 h9 => ?_, e2, ⟨k, hk, r2⟩⟩
  have q := sp_k r1 k9 h9
  simp only [List.mem_cons, List.not_mem_nil, or_false] at q
  omega
theorem sp_nested {σ : CS} {τ : MS} (hV : INV σ τ) (x1 : Int32) : ∃ res res2, f_X3_nested σ x1 = some res ∧ (∀ k, res = .inl k → k = 0) ∧ f_X6_nested τ x1 = some res2 ∧ INV (aftM σ res) res2.2 := by
  obtain ⟨k, hk, hb, hw, hu⟩ := hV
  obtain ⟨res, e1, r1⟩ := ok_X3_nested hk x1
  obtain ⟨res2, e2, r2⟩ := ok_X6_nested hb hw hu x1
  refine ⟨res, res2, e1, fun k9 h9 => ?_, e2, sp_m hk r1 r2⟩
  have q := sp_k r1 k9 h9
  simp only [List.mem_cons, List.not_mem_nil, or_false] at q
  omega
theorem sp_heaviest {σ : CS} {τ : MS} (hV : INV σ τ) (x1 : Int32) (x2 : Int32) (x3 : Int32) : ∃ res res2, f_X3_heaviest σ x1 x2 x3 = some res ∧ (∀ k, res = .inl k → k = 0 ∨ k = 1) ∧ f_X6_heaviest τ x1 x2 x3 = some res2 ∧ INV σ res2.2 := by
  obtain ⟨k, hk, hb, hw, hu⟩ := hV
  obtain ⟨res, e1, r1⟩ := ok_X3_heaviest hk x1 x2 x3
  obtain ⟨res2, e2, r2⟩ := ok_X6_heaviest hb hw hu x1 x2 x3
  refine ⟨res, res2, e1, fun k9 h9 => ?_, e2, ⟨k, hk, r2⟩⟩
  have q := sp_k r1 k9 h9
  simp only [List.mem_cons, List.not_mem_nil, or_false] at q
  omega
theorem sp_ahead {σ : CS} {τ : MS} (hV : INV σ τ) (x1 : Int32) (x2 : Int32) : ∃ res res2, f_X3_ahead σ x1 x2 = some res ∧ (∀ k, res = .inl k → k = 0) ∧ f_X6_ahead τ x1 x2 = some res2 ∧ INV σ res2.2 := by
  obtain ⟨k, hk, hb, hw, hu⟩ := hV
  obtain ⟨res, e1, r1⟩ := ok_X3_ahead hk x1 x2
  obtain ⟨res2, e2, r2⟩ := ok_X6_ahead hb hw hu x1 x2
  refine ⟨res, res2, e1, fun k9 h9 => ?_, e2, ⟨k, hk, r2⟩⟩
  have q := sp_k r1 k9 h9
  simp only [List.mem_cons, List.not_mem_nil, or_false] at q
  omega
theorem sp_yard {σ : CS} {τ : MS} (hV : INV σ τ) (x1 : Int32) : ∃ res res2, f_X3_yard σ x1 = some res ∧ (∀ k, res = .inl k → k = 1) ∧ f_X6_yard τ x1 = some res2 ∧ INV σ res2.2 := by
  obtain ⟨k, hk, hb, hw, hu⟩ := hV
  obtain ⟨res, e1, r1⟩ := ok_X3_yard hk x1
  obtain ⟨res2, e2, r2⟩ := ok_X6_yard hb hw hu x1
  refine ⟨res, res2, e1, fun k9 h9 => ?_, e2, ⟨k, hk, r2⟩⟩
  have q := sp_k r1 k9 h9
  simp only [List.mem_cons, List.not_mem_nil, or_false] at q
  omega
theorem sp_undo {σ : CS} {τ : MS} (hV : INV σ τ) : ∃ res res2, f_X3_undo σ = some res ∧ f_X6_undo τ = some res2 ∧ INV res.2 res2.2 := by
  obtain ⟨k, hk, hb, hw, hu⟩ := hV
  obtain ⟨res, e1, r1⟩ := ok_X3_undo hk
  obtain ⟨res2, e2, r2⟩ := ok_X6_undo hb hw hu
  exact ⟨res, res2, e1, e2, k, r1, r2⟩
theorem sp_purge {σ : CS} {τ : MS} (hV : INV σ τ) (x1 : Int32) (q1 : x1 = 0 ∨ x1 = 1) : ∃ res res2, f_X3_purge σ x1 = some res ∧ f_X6_purge τ x1 = some res2 ∧ INV res.2 res2.2 := by
  obtain ⟨k, hk, hb, hw, hu⟩ := hV
  obtain ⟨res, e1, r1⟩ := ok_X3_purge hk x1
  obtain ⟨res2, e2, r2⟩ := ok_X6_purge hb hw hu x1
  exact ⟨res, res2, e1, e2, k, r1, r2⟩
theorem sp_walk {σ : CS} {τ : MS} (hV : INV σ τ) (x1 : Int32) (q1 : x1 = 0 ∨ x1 = 1) : ∃ res res2, f_X3_walk σ x1 = some res ∧ f_X6_walk τ x1 = some res2 ∧ INV res.2 res2.2 := by
  obtain ⟨k, hk, hb, hw, hu⟩ := hV
  obtain ⟨res, e1, r1⟩ := ok_X3_walk hk x1 q1
  obtain ⟨res2, e2, r2⟩ := ok_X6_walk hb hw hu x1
  exact ⟨res, res2, e1, e2, k, r1, r2⟩
theorem sp_compare {σ : CS} {τ : MS} (hV : INV σ τ) (x1 : Int32) (q1 : x1 = 0 ∨ x1 = 1) : ∃ res res2, f_X3_compare σ x1 = some res ∧ f_X6_compare τ x1 = some res2 ∧ INV σ res2.2 := by
  obtain ⟨k, hk, hb, hw, hu⟩ := hV
  obtain ⟨res, e1, r1⟩ := ok_X3_compare hk x1
  obtain ⟨res2, e2, r2⟩ := ok_X6_compare hb hw hu x1
  exact ⟨res, res2, e1, e2, k, hk, r2⟩
theorem sp_knock {σ : CS} {τ : MS} (hV : INV σ τ) : ∃ res res2, f_X3_knock σ = some res ∧ f_X6_knock τ = some res2 ∧ INV res.2 res2.2 ∧ res2.1 = res.1 := by
  obtain ⟨k, hk, hb, hw, hu⟩ := hV
  obtain ⟨res, e1, r1⟩ := ok_X3_knock hk
  obtain ⟨res2, e2, r2⟩ := ok_X6_knock hb hw hu
  exact ⟨res, res2, e1, e2, ⟨k + 1, r1.2, r2.2⟩, r2.1.trans r1.1.symm⟩
theorem sp_isSound {σ : CS} {τ : MS} (hV : INV σ τ) : ∃ res, f_X3_isSound σ = some res ∧ (∀ k, k < 2 → (τ.1 k).length ≤ 20) ∧ (τ.1 2).length ≤ 12 ∧ (∀ j, j < (τ.1 2).length → ∃ v, v < 8000 ∧ (τ.1 2).getD j 0 = nI v) ∧ INV res.2 (τ.1, va_up τ.2 0 0) := by
  obtain ⟨k, hk, hb, hw, hu⟩ := hV
  obtain ⟨res, e1, r1⟩ := ok_X3_isSound hk
  exact ⟨res, e1, hb.len2, hb.len12, hb.slv, k, r1, hb.sc (by omega), hw.sc (by omega), hu⟩
theorem sp_digest {σ : CS} {τ : MS} (hV : INV σ τ) : ∃ res, f_X3_digest σ = some res ∧ DH (τ.1, va_up τ.2 0 0) ∧ (∀ k, k < 2 → (τ.1 k).length ≤ 20) ∧ (∀ t, t < 2 → ∀ j, j < (τ.1 t).length → ∃ v, v < 1000 ∧ (τ.1 t).getD j 0 = nI v) ∧ (τ.1 2).length ≤ 12 ∧ (τ.1 3).length ≤ 32 ∧ (∀ j, j < (τ.1 2).length → ∃ v, v < 8000 ∧ (τ.1 2).getD j 0 = nI v) ∧ INV res.2 (τ.1, va_up τ.2 0 0) := by
  obtain ⟨k, hk, hb, hw, hu⟩ := hV
  obtain ⟨res, e1, r1⟩ := ok_X3_digest hk
  have b1 : IB k (τ.1, va_up τ.2 0 0) := hb.sc (by omega)
  have w1 : WK (τ.1, va_up τ.2 0 0) := hw.sc (by omega)
  exact ⟨res, e1, dh_of b1 w1 hu, hb.len2, hb.cdv, hb.len12, Nat.le_trans (hb.l (i := 3) (by omega)).1 (by decide), hb.slv, k, r1, b1, w1, hu⟩
theorem sp_text {σ : CS} {τ : MS} (hV : INV σ τ) (x1 x2 : Int32) (q2 : x2 = 0 ∨ x2 = 1) : (∀ i, i < 2 → ∃ k, k ≤ 20 ∧ (σ.1 i).2 = nI k) ∧ (∀ i, i < 2 → ∀ j, ∃ v, v < 1000 ∧ (σ.1 i).1 j = nI v) ∧ (∀ k, f_X3_needTrack x1 = some (.inl k) → k = 0) ∧ ∃ zn res2, f_X6_isNoTrack x1 = some zn ∧ f_X6_start τ zn 1 = some res2 ∧ (res2.1 = 0 → ∃ t, gtr x1 = some t ∧ (res2.2.1 t).length ≤ 20 ∧ ∀ j, j < (res2.2.1 t).length → ∃ v, v < 1000 ∧ (res2.2.1 t).getD j 0 = nI v) ∧ INV σ res2.2 := by
  obtain ⟨k, hk, hb, hw, hu⟩ := hV
  obtain ⟨zn, e1, r1⟩ := ok_X6_isNoTrack x1
  obtain ⟨res2, e2, ⟨⟨h1, h2⟩, ⟨h3, h4⟩, b, w, u⟩⟩ := ok_X6_start hb hw hu zn 1 (by decide)
  refine ⟨fun i hi => ?_, fun i hi j => ?_, fun k9 h9 => ?_, zn, res2, e1, e2, fun h => ?_, k, hk, b, w, u⟩
  · obtain ⟨v, v1, v2⟩ := nIof (b := 20) (by decide) (hk.r (i := i) (by omega)).1 (hk.r (i := i) (by omega)).hi
    exact ⟨v, v1, v2⟩
  · have h := (hk.r (i := i) (by omega)).2.2 j
    have e : hiR i = 999 := by unfold hiR; rw [if_neg (by omega), if_neg (by omega)]
    rw [e] at h
    obtain ⟨v, v1, v2⟩ := nIof (b := 999) (by decide) h.1 h.2
    exact ⟨v, by omega, v2⟩
  · obtain ⟨r, e3, r3⟩ := ok_X3_needTrack x1
    rw [h9] at e3
    cases e3
    exact List.mem_singleton.mp r3
  · have p := r1 (h2 h).1
    have ht : ∃ t, t < 2 ∧ gtr x1 = some t := by
      rcases p with p | p <;> subst p
      · exact ⟨0, by omega, rfl⟩
      · exact ⟨1, by omega, rfl⟩
    obtain ⟨t, ht, hg⟩ := ht
    exact ⟨t, hg, b.len2 t ht, b.cdv t ht⟩
