/-! level 2 gathered: class and model side by side -/
def INV (τ : MS) : Prop := ∃ k, IB k τ ∧ WK τ ∧ UT τ
theorem IB.len2 {k : Int32} {τ : MS} (h : IB k τ) : ∀ i, i < 2 → (τ.1 i).length ≤ 20 := fun i hi => Nat.le_trans (h.l (i := i) (by omega)).1 (capn i)
theorem IB.len12 {k : Int32} {τ : MS} (h : IB k τ) : (τ.1 2).length ≤ 12 := (h.l (i := 2) (by omega)).1
theorem IB.slv {k : Int32} {τ : MS} (h : IB k τ) : ∀ j, j < (τ.1 2).length → ∃ v, v < 8000 ∧ (τ.1 2).getD j 0 = nI v := by
  intro j hj
  have q := (h.l (i := 2) (by omega)).getD j
  obtain ⟨v, v1, v2⟩ := nIof (b := 7999) (by decide) q.1 q.2
  exact ⟨v, by omega, v2⟩
theorem IB.cdv {k : Int32} {τ : MS} (h : IB k τ) : ∀ t, t < 2 → ∀ j, j < (τ.1 t).length → ∃ v, v < 1000 ∧ (τ.1 t).getD j 0 = nI v := by
  intro t ht j hj
  have q := (h.l (i := t) (by omega)).getD j
  have e : hiR t = 999 := by unfold hiR; rw [if_neg (by omega), if_neg (by omega)]
  rw [e] at q
  obtain ⟨v, v1, v2⟩ := nIof (b := 999) (by decide) q.1 q.2
  exact ⟨v, by omega, v2⟩
theorem inv0 : INV τ0 := ⟨0, ⟨fun i hi => ⟨Nat.zero_le _, fun v hv => by cases hv⟩, rfl⟩, ⟨Or.inl rfl, ⟨Or.inl rfl, fun h => absurd (show (0 : Int32) = 1 from h) (by decide)⟩, ⟨Or.inl rfl, fun h => absurd (show (0 : Int32) = 1 from h) (by decide)⟩⟩, trivial⟩
/-! what is only told leaves the state -/
theorem al_no {α : Type} {c : Prop} [Decidable c] {b : Option α} {Q : α → Prop} (h : ¬ c → Al b Q) : Al (if c then none else b) Q := by
  by_cases hc : c
  · rw [if_pos hc]; intro r e; cases e
  · rw [if_neg hc]; exact h hc
theorem al_lpn {α β : Type} {st : (β → Option α) → β → Option α} {Q : α → Prop} (I : β → Prop) (h : ∀ k a, I a → (∀ b, I b → Al (k b) Q) → Al (st k a) Q) : ∀ (n : Nat) (a : β), I a → Al (lpn st n a) Q := by
  intro n
  induction n with
  | zero => intro a _ r e; cases e
  | succ n ih => intro a ha; exact h _ a ha ih
theorem same_trackTold {τ : MS} {x1 x2 : Int32} : Al (f_X6_trackTold τ x1 x2) fun r => r.2 = τ := by
  have m81 : ∀ a b c d e f g, Al (f_X6_trackTold_81 τ a b c d e f g) fun r => r.2 = τ := by
    intro a b c d e f g
    unfold f_X6_trackTold_81
    exact al_bind al_any fun z _ => al_no fun _ => al_nme fun y _ => al_no fun _ => al_nme fun y _ => al_no fun _ => al_nme fun y _ => al_no fun _ => al_some rfl
  unfold f_X6_trackTold
  refine al_lpn (fun _ => True) (fun kk a _ hk => ?_) 24 _ trivial
  unfold f_X6_trackTold_8
  refine al_bind al_any fun z _ => al_if (fun _ => al_no fun _ => al_nme fun y _ => al_nme fun y _ => al_bind al_any fun z _ => al_no fun _ => al_nme fun y _ => al_bind al_any fun z _ => al_if (fun _ => m81 _ _ _ _ _ _ _) fun _ => m81 _ _ _ _ _ _ _) fun _ => ?_
  exact al_bind al_any fun z _ => al_bind al_any fun z _ => al_nme fun y _ => al_bind al_any fun z _ => al_bind al_any fun z _ => al_nme fun y _ => al_nme fun y _ => hk _ trivial
theorem same_whereNow {τ : MS} {x1 x2 : Int32} : Al (f_X6_whereNow τ x1 x2) fun r => r.2 = τ := by
  have m70 : ∀ a b c d e, Al (f_X6_whereNow_70 τ a b c d e) fun r => r.2 = τ := by
    intro a b c d e
    unfold f_X6_whereNow_70
    exact al_bind al_any fun z _ => al_no fun _ => al_nme fun y _ => al_no fun _ => al_some rfl
  have m52 : ∀ a b c d e f, Al (f_X6_whereNow_52 τ a b c d e f) fun r => r.2 = τ := by
    intro a b c d e f
    unfold f_X6_whereNow_52
    exact al_bind al_any fun z _ => al_no fun _ => al_nme fun y _ => al_if (fun _ => m70 _ _ _ _ _) fun _ => m70 _ _ _ _ _
  unfold f_X6_whereNow
  exact al_bind al_any fun z _ => al_no fun _ => al_nme fun y _ => al_nme fun y _ => al_no fun _ => al_nme fun y _ => al_no fun _ => al_nme fun y _ => al_no fun _ => al_nme fun y _ => al_bind al_any fun z _ => al_if (fun _ => m52 _ _ _ _ _ _) fun _ => m52 _ _ _ _ _ _
theorem same_nestedNow {τ : MS} {x1 : Int32} : Al (f_X6_nestedNow τ x1) fun r => r.2 = τ := by
  unfold f_X6_nestedNow
  refine al_no fun _ => al_nme fun y _ => al_nme fun y _ => al_lpn (fun t => t.1 = τ) (fun kk a ha hk => ?_) 24 _ rfl
  obtain ⟨s, v1, n, g, v3, v4, v5⟩ := a
  have ha : s = τ := ha
  subst ha
  have m98 : ∀ a b c d e f, Al (f_X6_nestedNow_98 kk s a b c d e f) fun r => r.2 = s := by
    intro a b c d e f
    unfold f_X6_nestedNow_98
    exact al_nme fun y _ => hk _ rfl
  unfold f_X6_nestedNow_13
  dsimp only
  refine al_bind al_any fun z _ => al_if (fun _ => al_if (fun _ => al_some rfl) fun _ => al_some rfl) fun _ => al_bind al_any fun z _ => al_bind al_any fun z _ => al_if (fun _ => m98 _ _ _ _ _ _) fun _ => al_if (fun _ => m98 _ _ _ _ _ _) fun _ => al_if (fun _ => al_no fun _ => al_nme fun y _ => al_nme fun y _ => al_nme fun y _ => m98 _ _ _ _ _ _) fun _ => al_if (fun _ => al_some rfl) fun _ => al_no fun _ => al_if (fun _ => al_nme fun y _ => m98 _ _ _ _ _ _) fun _ => al_some rfl
theorem nI_le_b {n b : Nat} (h : n ≤ b) (hb : b < 2147483648) : 0 ≤ nI n ∧ nI n ≤ nI b := nI_bnd h hb
theorem dh_of {k : Int32} {τ : MS} (hb : IB k τ) (hw : WK τ) (hu : UT τ) : DH τ := by
  have t01 : ∀ t, t < 2 → nI t = 0 ∨ nI t = 1 := by
    intro t ht
    rcases (by omega : t = 0 ∨ t = 1) with e | e <;> subst e
    · exact Or.inl rfl
    · exact Or.inr rfl
  refine ⟨fun t w ht hw' => ?_, fun t w ht hw' => ?_, fun t ht => ?_, fun kd b hk' hb' => ?_, fun w kd hw' hk' => ?_, fun kd hk' => ?_, fun b hb' => ?_⟩
  · have q := nI_bnd (n := w) (b := 3) (by omega) (by omega)
    obtain ⟨r, e, -, h⟩ := al_ok (ok_X6_trackTold hb hw hu (nI t) (nI w) (t01 t ht) q.1 q.2) same_trackTold
    exact ⟨r.1, by rw [e, ← h]⟩
  · obtain ⟨r, e, -⟩ := ok_X6_asked hb (nI t) (nI w) (t01 t ht)
    exact ⟨r, e⟩
  · obtain ⟨r, e, -, h⟩ := al_ok (ok_X6_nestedNow hb hw hu (nI t) (t01 t ht)) same_nestedNow
    exact ⟨r.1, by rw [e, ← h]⟩
  · obtain ⟨r, e, -⟩ := ok_X6_found hb 1 (nI kd) (nI b) (Or.inr rfl)
    exact ⟨r, e⟩
  · have q := nI_bnd (n := kd) (b := 4) (by omega) (by omega)
    obtain ⟨r, e, -, h⟩ := al_ok (ok_X6_whereNow hb hw hu (nI w) (nI kd) (t01 w hw') q.1 q.2) same_whereNow
    exact ⟨r.1, by rw [e, ← h]⟩
  · obtain ⟨r, e, -⟩ := ok_X6_yardTold hb (nI kd)
    exact ⟨r, e⟩
  · obtain ⟨r, e, -⟩ := ok_X6_compared hb (nI b)
    exact ⟨r, e⟩
