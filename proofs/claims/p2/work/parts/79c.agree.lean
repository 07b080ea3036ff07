/-! level 3 gathered: class and model side by side, and alike -/
def INVX (σ : CS) (τ : MS) : Prop := INV σ τ ∧ RX σ τ
theorem ri_det {α β : Type} {o1 : Option α} {o2 : Option β} {Q : α → β → Prop} {a : α} {b : β} (h : Ri o1 o2 Q) (e1 : o1 = some a) (e2 : o2 = some b) : Q a b := by
  obtain ⟨r, e, hq⟩ := h b e2
  rw [e1] at e
  cases e
  exact hq
theorem tq_aft {C : Nat → Int32} {σ : CS} {res : Nat ⊕ (Int32 × CS)} {r2 : Int32 × MS} (h : TQ C σ res r2) : RX (aftM σ res) r2.2 := by
  cases res with
  | inl k => exact (h.1 k rfl).1
  | inr z => exact (h.2 z rfl).1
theorem tn_aft {C : Nat → Int32} {σ : CS} {res : Nat ⊕ Int32} {r2 : Int32 × MS} (h : TN C σ res r2) : RX σ r2.2 := by
  cases res with
  | inl k => exact (h.1 k rfl).1
  | inr z => exact (h.2 z rfl).1
theorem rx0 : RX σ0 τ0 := by
  refine ⟨⟨fun i _ => ⟨rfl, Nat.zero_le _, fun j hj => absurd hj (Nat.not_lt_zero j)⟩, fun q q1 q2 => ?_, rfl, fun v hv => absurd hv List.not_mem_nil, fun v hv => absurd hv List.not_mem_nil, fun v hv => absurd hv List.not_mem_nil, fun v hv => absurd hv List.not_mem_nil⟩, Or.inl ⟨rfl, rfl, rfl, rfl⟩⟩
  rcases (by omega : q = 5 ∨ q = 6 ∨ q = 7 ∨ q = 8 ∨ q = 9 ∨ q = 10) with e | e | e | e | e | e <;> subst e <;> rfl
theorem invx0 : INVX σ0 τ0 := ⟨inv0, rx0⟩
theorem sx_join {σ : CS} {τ : MS} (hV : INVX σ τ) (x1 : Int32) (x2 : Int32) (q2 : x2 = 0 ∨ x2 = 1) (x3 : Int32) (x4 : Int32) : ∃ res res2, f_X3_join σ x1 x2 x3 x4 = some res ∧ (∀ k, res = .inl k → k = 0 ∨ k = 1 ∨ k = 2) ∧ f_X6_join τ x1 x2 x3 x4 = some res2 ∧ INVX (aftM σ res) res2.2 ∧ TQ C3 σ res res2 := by
  obtain ⟨hv, hx⟩ := hV
  obtain ⟨res, res2, e1, hk, e2, hv2⟩ := sp_join hv x1 x2 q2 x3 x4
  have q := ri_det (ag_join hx x1 x2 x3 x4) e1 e2
  exact ⟨res, res2, e1, hk, e2, ⟨hv2, tq_aft q⟩, q⟩
theorem sx_offer {σ : CS} {τ : MS} (hV : INVX σ τ) (x1 : Int32) (x2 : Int32) (q2 : x2 = 0 ∨ x2 = 1) (x3 : Int32) (x4 : Int32) : ∃ res res2, f_X3_offer σ x1 x2 x3 x4 = some res ∧ (∀ k, res = .inl k → k = 0 ∨ k = 1 ∨ k = 2) ∧ f_X6_offer τ x1 x2 x3 x4 = some res2 ∧ INVX (aftM σ res) res2.2 ∧ TQ C3 σ res res2 := by
  obtain ⟨hv, hx⟩ := hV
  obtain ⟨res, res2, e1, hk, e2, hv2⟩ := sp_offer hv x1 x2 q2 x3 x4
  have q := ri_det (ag_offer hx x1 x2 x3 x4) e1 e2
  exact ⟨res, res2, e1, hk, e2, ⟨hv2, tq_aft q⟩, q⟩
theorem sx_push {σ : CS} {τ : MS} (hV : INVX σ τ) (x1 : Int32) (x2 : Int32) (x3 : Int32) : ∃ res res2, f_X3_push σ x1 x2 x3 = some res ∧ (∀ k, res = .inl k → k = 0 ∨ k = 1 ∨ k = 2) ∧ f_X6_push τ x1 x2 x3 = some res2 ∧ INVX (aftM σ res) res2.2 ∧ TQ C3 σ res res2 := by
  obtain ⟨hv, hx⟩ := hV
  obtain ⟨res, res2, e1, hk, e2, hv2⟩ := sp_push hv x1 x2 x3
  have q := ri_det (ag_push hx x1 x2 x3) e1 e2
  exact ⟨res, res2, e1, hk, e2, ⟨hv2, tq_aft q⟩, q⟩
theorem sx_append {σ : CS} {τ : MS} (hV : INVX σ τ) (x1 : Int32) (x2 : Int32) (x3 : Int32) : ∃ res res2, f_X3_append σ x1 x2 x3 = some res ∧ (∀ k, res = .inl k → k = 0 ∨ k = 1 ∨ k = 2) ∧ f_X6_append τ x1 x2 x3 = some res2 ∧ INVX (aftM σ res) res2.2 ∧ TQ C3 σ res res2 := by
  obtain ⟨hv, hx⟩ := hV
  obtain ⟨res, res2, e1, hk, e2, hv2⟩ := sp_append hv x1 x2 x3
  have q := ri_det (ag_append hx x1 x2 x3) e1 e2
  exact ⟨res, res2, e1, hk, e2, ⟨hv2, tq_aft q⟩, q⟩
theorem sx_train {σ : CS} {τ : MS} (hV : INVX σ τ) (x1 : Int32) (x2 : Int32) (x3 : Int32) (x4 : Int32) : ∃ res res2, f_X3_train σ x1 x2 x3 x4 = some res ∧ (∀ k, res = .inl k → k = 0 ∨ k = 1 ∨ k = 2) ∧ f_X6_train τ x1 x2 x3 x4 = some res2 ∧ INVX (aftM σ res) res2.2 ∧ TQ C3 σ res res2 := by
  obtain ⟨hv, hx⟩ := hV
  obtain ⟨res, res2, e1, hk, e2, hv2⟩ := sp_train hv x1 x2 x3 x4
  have q := ri_det (ag_train hx x1 x2 x3 x4) e1 e2
  exact ⟨res, res2, e1, hk, e2, ⟨hv2, tq_aft q⟩, q⟩
theorem sx_take {σ : CS} {τ : MS} (hV : INVX σ τ) (x1 : Int32) (x2 : Int32) (q2 : x2 = 0 ∨ x2 = 1) : ∃ res res2, f_X3_take σ x1 x2 = some res ∧ (∀ k, res = .inl k → k = 0) ∧ f_X6_take τ x1 x2 = some res2 ∧ INVX (aftM σ res) res2.2 ∧ TQ C1 σ res res2 := by
  obtain ⟨hv, hx⟩ := hV
  obtain ⟨res, res2, e1, hk, e2, hv2⟩ := sp_take hv x1 x2 q2
  have q := ri_det (ag_take hx x1 x2) e1 e2
  exact ⟨res, res2, e1, hk, e2, ⟨hv2, tq_aft q⟩, q⟩
theorem sx_poll {σ : CS} {τ : MS} (hV : INVX σ τ) (x1 : Int32) (x2 : Int32) (q2 : x2 = 0 ∨ x2 = 1) : ∃ res res2, f_X3_poll σ x1 x2 = some res ∧ (∀ k, res = .inl k → k = 0) ∧ f_X6_poll τ x1 x2 = some res2 ∧ INVX (aftM σ res) res2.2 ∧ TQ C1 σ res res2 := by
  obtain ⟨hv, hx⟩ := hV
  obtain ⟨res, res2, e1, hk, e2, hv2⟩ := sp_poll hv x1 x2 q2
  have q := ri_det (ag_poll hx x1 x2) e1 e2
  exact ⟨res, res2, e1, hk, e2, ⟨hv2, tq_aft q⟩, q⟩
theorem sx_pop {σ : CS} {τ : MS} (hV : INVX σ τ) (x1 : Int32) : ∃ res res2, f_X3_pop σ x1 = some res ∧ (∀ k, res = .inl k → k = 0) ∧ f_X6_pop τ x1 = some res2 ∧ INVX (aftM σ res) res2.2 ∧ TQ C1 σ res res2 := by
  obtain ⟨hv, hx⟩ := hV
  obtain ⟨res, res2, e1, hk, e2, hv2⟩ := sp_pop hv x1
  have q := ri_det (ag_pop hx x1) e1 e2
  exact ⟨res, res2, e1, hk, e2, ⟨hv2, tq_aft q⟩, q⟩
theorem sx_serve {σ : CS} {τ : MS} (hV : INVX σ τ) (x1 : Int32) (x2 : Int32) (q2 : x2 = 0 ∨ x2 = 1) : ∃ res res2, f_X3_serve σ x1 x2 = some res ∧ (∀ k, res = .inl k → k = 0) ∧ f_X6_serve τ x1 x2 = some res2 ∧ INVX (aftM σ res) res2.2 ∧ TQ C1 σ res res2 := by
  obtain ⟨hv, hx⟩ := hV
  obtain ⟨res, res2, e1, hk, e2, hv2⟩ := sp_serve hv x1 x2 q2
  have q := ri_det (ag_serve hx x1 x2) e1 e2
  exact ⟨res, res2, e1, hk, e2, ⟨hv2, tq_aft q⟩, q⟩
theorem sx_rotate {σ : CS} {τ : MS} (hV : INVX σ τ) (x1 : Int32) (x2 : Int32) : ∃ res res2, f_X3_rotate σ x1 x2 = some res ∧ (∀ k, res = .inl k → k = 0 ∨ k = 1) ∧ f_X6_rotate τ x1 x2 = some res2 ∧ INVX (aftM σ res) res2.2 ∧ TQ C2 σ res res2 := by
  obtain ⟨hv, hx⟩ := hV
  obtain ⟨res, res2, e1, hk, e2, hv2⟩ := sp_rotate hv x1 x2
  have q := ri_det (ag_rotate hx x1 x2) e1 e2
  exact ⟨res, res2, e1, hk, e2, ⟨hv2, tq_aft q⟩, q⟩
theorem sx_drop {σ : CS} {τ : MS} (hV : INVX σ τ) (x1 : Int32) (x2 : Int32) (x3 : Int32) (q3 : x3 = 0 ∨ x3 = 1) : ∃ res res2, f_X3_drop σ x1 x2 x3 = some res ∧ (∀ k, res = .inl k → k = 0 ∨ k = 1) ∧ f_X6_drop τ x1 x2 x3 = some res2 ∧ INVX (aftM σ res) res2.2 ∧ TQ C2 σ res res2 := by
  obtain ⟨hv, hx⟩ := hV
  obtain ⟨res, res2, e1, hk, e2, hv2⟩ := sp_drop hv x1 x2 x3 q3
  have q := ri_det (ag_drop hx x1 x2 x3) e1 e2
  exact ⟨res, res2, e1, hk, e2, ⟨hv2, tq_aft q⟩, q⟩
theorem sx_dropAll {σ : CS} {τ : MS} (hV : INVX σ τ) (x1 : Int32) (x2 : Int32) : ∃ res res2, f_X3_dropAll σ x1 x2 = some res ∧ (∀ k, res = .inl k → k = 0 ∨ k = 1) ∧ f_X6_dropAll τ x1 x2 = some res2 ∧ INVX (aftM σ res) res2.2 ∧ TQ C2 σ res res2 := by
  obtain ⟨hv, hx⟩ := hV
  obtain ⟨res, res2, e1, hk, e2, hv2⟩ := sp_dropAll hv x1 x2
  have q := ri_det (ag_dropAll hx x1 x2) e1 e2
  exact ⟨res, res2, e1, hk, e2, ⟨hv2, tq_aft q⟩, q⟩
theorem sx_shed {σ : CS} {τ : MS} (hV : INVX σ τ) (x1 : Int32) (x2 : Int32) (q2 : x2 = 0 ∨ x2 = 1) (x3 : Int32) (x4 : Int32) : ∃ res res2, f_X3_shed σ x1 x2 x3 x4 = some res ∧ (∀ k, res = .inl k → k = 0 ∨ k = 1) ∧ f_X6_shed τ x1 x2 x3 x4 = some res2 ∧ INVX (aftM σ res) res2.2 ∧ TQ C2 σ res res2 := by
  obtain ⟨hv, hx⟩ := hV
  obtain ⟨res, res2, e1, hk, e2, hv2⟩ := sp_shed hv x1 x2 q2 x3 x4
  have q := ri_det (ag_shed hx x1 x2 x3 x4) e1 e2
  exact ⟨res, res2, e1, hk, e2, ⟨hv2, tq_aft q⟩, q⟩
theorem sx_thin {σ : CS} {τ : MS} (hV : INVX σ τ) (x1 : Int32) (x2 : Int32) (q2 : x2 = 0 ∨ x2 = 1) (x3 : Int32) : ∃ res res2, f_X3_thin σ x1 x2 x3 = some res ∧ (∀ k, res = .inl k → k = 0 ∨ k = 1) ∧ f_X6_thin τ x1 x2 x3 = some res2 ∧ INVX (aftM σ res) res2.2 ∧ TQ C2 σ res res2 := by
  obtain ⟨hv, hx⟩ := hV
  obtain ⟨res, res2, e1, hk, e2, hv2⟩ := sp_thin hv x1 x2 q2 x3
  have q := ri_det (ag_thin hx x1 x2 x3) e1 e2
  exact ⟨res, res2, e1, hk, e2, ⟨hv2, tq_aft q⟩, q⟩
theorem sx_turn {σ : CS} {τ : MS} (hV : INVX σ τ) (x1 : Int32) : ∃ res res2, f_X3_turn σ x1 = some res ∧ (∀ k, res = .inl k → k = 0) ∧ f_X6_turn τ x1 = some res2 ∧ INVX (aftM σ res) res2.2 ∧ TQ C1 σ res res2 := by
  obtain ⟨hv, hx⟩ := hV
  obtain ⟨res, res2, e1, hk, e2, hv2⟩ := sp_turn hv x1
  have q := ri_det (ag_turn hx x1) e1 e2
  exact ⟨res, res2, e1, hk, e2, ⟨hv2, tq_aft q⟩, q⟩
theorem sx_clear {σ : CS} {τ : MS} (hV : INVX σ τ) (x1 : Int32) : ∃ res res2, f_X3_clear σ x1 = some res ∧ (∀ k, res = .inl k → k = 0) ∧ f_X6_clear τ x1 = some res2 ∧ INVX (aftM σ res) res2.2 ∧ TQ C1 σ res res2 := by
  obtain ⟨hv, hx⟩ := hV
  obtain ⟨res, res2, e1, hk, e2, hv2⟩ := sp_clear hv x1
  have q := ri_det (ag_clear hx x1) e1 e2
  exact ⟨res, res2, e1, hk, e2, ⟨hv2, tq_aft q⟩, q⟩
theorem sx_step {σ : CS} {τ : MS} (hV : INVX σ τ) : ∃ res res2, f_X3_step σ = some res ∧ (∀ k, res = .inl k → k = 2) ∧ f_X6_step τ = some res2 ∧ INVX (aftM σ res) res2.2 ∧ TQ C1 σ res res2 := by
  obtain ⟨hv, hx⟩ := hV
  obtain ⟨res, res2, e1, hk, e2, hv2⟩ := sp_step hv
  have q := ri_det (ag_step hx) e1 e2
  exact ⟨res, res2, e1, hk, e2, ⟨hv2, tq_aft q⟩, q⟩
theorem sx_pluck {σ : CS} {τ : MS} (hV : INVX σ τ) : ∃ res res2, f_X3_pluck σ = some res ∧ (∀ k, res = .inl k → k = 2) ∧ f_X6_pluck τ = some res2 ∧ INVX (aftM σ res) res2.2 ∧ TQ C1 σ res res2 := by
  obtain ⟨hv, hx⟩ := hV
  obtain ⟨res, res2, e1, hk, e2, hv2⟩ := sp_pluck hv
  have q := ri_det (ag_pluck hx) e1 e2
  exact ⟨res, res2, e1, hk, e2, ⟨hv2, tq_aft q⟩, q⟩
theorem sx_insert {σ : CS} {τ : MS} (hV : INVX σ τ) (x1 : Int32) (x2 : Int32) (x3 : Int32) : ∃ res res2, f_X3_insert σ x1 x2 x3 = some res ∧ (∀ k, res = .inl k → k = 0 ∨ k = 1 ∨ k = 2) ∧ f_X6_insert τ x1 x2 x3 = some res2 ∧ INVX (aftM σ res) res2.2 ∧ TQ C3 σ res res2 := by
  obtain ⟨hv, hx⟩ := hV
  obtain ⟨res, res2, e1, hk, e2, hv2⟩ := sp_insert hv x1 x2 x3
  have q := ri_det (ag_insert hx x1 x2 x3) e1 e2
  exact ⟨res, res2, e1, hk, e2, ⟨hv2, tq_aft q⟩, q⟩
theorem sx_cut {σ : CS} {τ : MS} (hV : INVX σ τ) (x1 : Int32) : ∃ res res2, f_X3_cut σ x1 = some res ∧ (∀ k, res = .inl k → k = 0) ∧ f_X6_cut τ x1 = some res2 ∧ INVX (aftM σ res) res2.2 ∧ TQ C1 σ res res2 := by
  obtain ⟨hv, hx⟩ := hV
  obtain ⟨res, res2, e1, hk, e2, hv2⟩ := sp_cut hv x1
  have q := ri_det (ag_cut hx x1) e1 e2
  exact ⟨res, res2, e1, hk, e2, ⟨hv2, tq_aft q⟩, q⟩
theorem sx_replace {σ : CS} {τ : MS} (hV : INVX σ τ) (x1 : Int32) (x2 : Int32) (x3 : Int32) : ∃ res res2, f_X3_replace σ x1 x2 x3 = some res ∧ (∀ k, res = .inl k → k = 0 ∨ k = 1) ∧ f_X6_replace τ x1 x2 x3 = some res2 ∧ INVX (aftM σ res) res2.2 ∧ TQ C2 σ res res2 := by
  obtain ⟨hv, hx⟩ := hV
  obtain ⟨res, res2, e1, hk, e2, hv2⟩ := sp_replace hv x1 x2 x3
  have q := ri_det (ag_replace hx x1 x2 x3) e1 e2
  exact ⟨res, res2, e1, hk, e2, ⟨hv2, tq_aft q⟩, q⟩
theorem sx_at {σ : CS} {τ : MS} (hV : INVX σ τ) (x1 : Int32) : ∃ res res2, f_X3_at σ x1 = some res ∧ (∀ k, res = .inl k → k = 0) ∧ f_X6_at τ x1 = some res2 ∧ INVX σ res2.2 ∧ TN C1 σ res res2 := by
  obtain ⟨hv, hx⟩ := hV
  obtain ⟨res, res2, e1, hk, e2, hv2⟩ := sp_at hv x1
  have q := ri_det (ag_at hx x1) e1 e2
  exact ⟨res, res2, e1, hk, e2, ⟨hv2, tn_aft q⟩, q⟩
theorem sx_find {σ : CS} {τ : MS} (hV : INVX σ τ) (x1 : Int32) (x2 : Int32) (q2 : x2 = 0 ∨ x2 = 1) : ∃ res res2, f_X3_find σ x1 x2 = some res ∧ (∀ k, res = .inl k → k = 1) ∧ f_X6_find τ x1 x2 = some res2 ∧ INVX σ res2.2 ∧ TN C1 σ res res2 := by
  obtain ⟨hv, hx⟩ := hV
  obtain ⟨res, res2, e1, hk, e2, hv2⟩ := sp_find hv x1 x2 q2
  have q := ri_det (ag_find hx x1 x2) e1 e2
  exact ⟨res, res2, e1, hk, e2, ⟨hv2, tn_aft q⟩, q⟩
theorem sx_splice {σ : CS} {τ : MS} (hV : INVX σ τ) (x1 : Int32) : ∃ res res2, f_X3_splice σ x1 = some res ∧ (∀ k, res = .inl k → k = 0 ∨ k = 2) ∧ f_X6_splice τ x1 = some res2 ∧ INVX (aftM σ res) res2.2 ∧ TQ C2 σ res res2 := by
  obtain ⟨hv, hx⟩ := hV
  obtain ⟨res, res2, e1, hk, e2, hv2⟩ := sp_splice hv x1
  have q := ri_det (ag_splice hx x1) e1 e2
  exact ⟨res, res2, e1, hk, e2, ⟨hv2, tq_aft q⟩, q⟩
theorem sx_shunt {σ : CS} {τ : MS} (hV : INVX σ τ) (x1 : Int32) (x2 : Int32) : ∃ res res2, f_X3_shunt σ x1 x2 = some res ∧ (∀ k, res = .inl k → k = 0 ∨ k = 1 ∨ k = 2) ∧ f_X6_shunt τ x1 x2 = some res2 ∧ INVX (aftM σ res) res2.2 ∧ TQ C3 σ res res2 := by
  obtain ⟨hv, hx⟩ := hV
  obtain ⟨res, res2, e1, hk, e2, hv2⟩ := sp_shunt hv x1 x2
  have q := ri_det (ag_shunt hx x1 x2) e1 e2
  exact ⟨res, res2, e1, hk, e2, ⟨hv2, tq_aft q⟩, q⟩
theorem sx_stand {σ : CS} {τ : MS} (hV : INVX σ τ) (x1 : Int32) (x2 : Int32) : ∃ res res2, f_X3_stand σ x1 x2 = some res ∧ (∀ k, res = .inl k → k = 0) ∧ f_X6_stand τ x1 x2 = some res2 ∧ INVX (aftM σ res) res2.2 ∧ TQ C1 σ res res2 := by
  obtain ⟨hv, hx⟩ := hV
  obtain ⟨res, res2, e1, hk, e2, hv2⟩ := sp_stand hv x1 x2
  have q := ri_det (ag_stand hx x1 x2) e1 e2
  exact ⟨res, res2, e1, hk, e2, ⟨hv2, tq_aft q⟩, q⟩
theorem sx_forth {σ : CS} {τ : MS} (hV : INVX σ τ) (x1 : Int32) : ∃ res res2, f_X3_forth σ x1 = some res ∧ (∀ k, res = .inl k → k = 0 ∨ k = 2) ∧ f_X6_forth τ x1 = some res2 ∧ INVX (aftM σ res) res2.2 ∧ TQ C2 σ res res2 := by
  obtain ⟨hv, hx⟩ := hV
  obtain ⟨res, res2, e1, hk, e2, hv2⟩ := sp_forth hv x1
  obtain ⟨k9, -, -, hw, -⟩ := hv
  have q := ri_det (ag_forth hx hw x1) e1 e2
  exact ⟨res, res2, e1, hk, e2, ⟨hv2, tq_aft q⟩, q⟩
theorem sx_back {σ : CS} {τ : MS} (hV : INVX σ τ) (x1 : Int32) : ∃ res res2, f_X3_back σ x1 = some res ∧ (∀ k, res = .inl k → k = 0 ∨ k = 2) ∧ f_X6_back τ x1 = some res2 ∧ INVX (aftM σ res) res2.2 ∧ TQ C2 σ res res2 := by
  obtain ⟨hv, hx⟩ := hV
  obtain ⟨res, res2, e1, hk, e2, hv2⟩ := sp_back hv x1
  obtain ⟨k9, -, -, hw, -⟩ := hv
  have q := ri_det (ag_back hx hw x1) e1 e2
  exact ⟨res, res2, e1, hk, e2, ⟨hv2, tq_aft q⟩, q⟩
theorem sx_takeHeld {σ : CS} {τ : MS} (hV : INVX σ τ) (x1 : Int32) : ∃ res res2, f_X3_takeHeld σ x1 = some res ∧ (∀ k, res = .inl k → k = 0 ∨ k = 2) ∧ f_X6_takeHeld τ x1 = some res2 ∧ INVX (aftM σ res) res2.2 ∧ TQ C2 σ res res2 := by
  obtain ⟨hv, hx⟩ := hV
  obtain ⟨res, res2, e1, hk, e2, hv2⟩ := sp_takeHeld hv x1
  obtain ⟨k9, -, -, hw, -⟩ := hv
  have q := ri_det (ag_takeHeld hx hw x1) e1 e2
  exact ⟨res, res2, e1, hk, e2, ⟨hv2, tq_aft q⟩, q⟩
theorem sx_setHeld {σ : CS} {τ : MS} (hV : INVX σ τ) (x1 : Int32) (x2 : Int32) (x3 : Int32) : ∃ res res2, f_X3_setHeld σ x1 x2 x3 = some res ∧ (∀ k, res = .inl k → k = 0 ∨ k = 1 ∨ k = 2) ∧ f_X6_setHeld τ x1 x2 x3 = some res2 ∧ INVX (aftM σ res) res2.2 ∧ TQ C3 σ res res2 := by
  obtain ⟨hv, hx⟩ := hV
  obtain ⟨res, res2, e1, hk, e2, hv2⟩ := sp_setHeld hv x1 x2 x3
  obtain ⟨k9, -, -, hw, -⟩ := hv
  have q := ri_det (ag_setHeld hx hw x1 x2 x3) e1 e2
  exact ⟨res, res2, e1, hk, e2, ⟨hv2, tq_aft q⟩, q⟩
theorem sx_put {σ : CS} {τ : MS} (hV : INVX σ τ) (x1 : Int32) (x2 : Int32) (x3 : Int32) : ∃ res res2, f_X3_put σ x1 x2 x3 = some res ∧ (∀ k, res = .inl k → k = 0 ∨ k = 1 ∨ k = 2) ∧ f_X6_put τ x1 x2 x3 = some res2 ∧ INVX (aftM σ res) res2.2 ∧ TQ C3 σ res res2 := by
  obtain ⟨hv, hx⟩ := hV
  obtain ⟨res, res2, e1, hk, e2, hv2⟩ := sp_put hv x1 x2 x3
  obtain ⟨k9, -, -, hw, -⟩ := hv
  have q := ri_det (ag_put hx hw x1 x2 x3) e1 e2
  exact ⟨res, res2, e1, hk, e2, ⟨hv2, tq_aft q⟩, q⟩
theorem sx_where {σ : CS} {τ : MS} (hV : INVX σ τ) (x1 : Int32) (x2 : Int32) : ∃ res res2, f_X3_where σ x1 x2 = some res ∧ (∀ k, res = .inl k → k = 0 ∨ k = 1 ∨ k = 2) ∧ f_X6_where τ x1 x2 = some res2 ∧ INVX σ res2.2 ∧ TN C3 σ res res2 := by
  obtain ⟨hv, hx⟩ := hV
  obtain ⟨res, res2, e1, hk, e2, hv2⟩ := sp_where hv x1 x2
  obtain ⟨k9, -, -, hw, -⟩ := hv
  have q := ri_det (ag_where hx hw x1 x2) e1 e2
  exact ⟨res, res2, e1, hk, e2, ⟨hv2, tn_aft q⟩, q⟩
theorem sx_order {σ : CS} {τ : MS} (hV : INVX σ τ) (x1 : Int32) : ∃ res res2, f_X3_order σ x1 = some res ∧ (∀ k, res = .inl k → k = 1 ∨ k = 2) ∧ f_X6_order τ x1 = some res2 ∧ INVX (aftM σ res) res2.2 ∧ TQ C12 σ res res2 := by
  obtain ⟨hv, hx⟩ := hV
  obtain ⟨res, res2, e1, hk, e2, hv2⟩ := sp_order hv x1
  have q := ri_det (ag_order hx x1) e1 e2
  exact ⟨res, res2, e1, hk, e2, ⟨hv2, tq_aft q⟩, q⟩
theorem sx_work {σ : CS} {τ : MS} (hV : INVX σ τ) (x1 : Int32) : ∃ res res2, f_X3_work σ x1 = some res ∧ (∀ k, res = .inl k → k = 1) ∧ f_X6_work τ x1 = some res2 ∧ INVX (aftM σ res) res2.2 ∧ TQ C1 σ res res2 := by
  obtain ⟨hv, hx⟩ := hV
  obtain ⟨res, res2, e1, hk, e2, hv2⟩ := sp_work hv x1
  have q := ri_det (ag_work hx x1) e1 e2
  exact ⟨res, res2, e1, hk, e2, ⟨hv2, tq_aft q⟩, q⟩
theorem sx_cancel {σ : CS} {τ : MS} (hV : INVX σ τ) (x1 : Int32) (x2 : Int32) (q2 : x2 = 0 ∨ x2 = 1) : ∃ res res2, f_X3_cancel σ x1 x2 = some res ∧ (∀ k, res = .inl k → k = 1) ∧ f_X6_cancel τ x1 x2 = some res2 ∧ INVX (aftM σ res) res2.2 ∧ TQ C1 σ res res2 := by
  obtain ⟨hv, hx⟩ := hV
  obtain ⟨res, res2, e1, hk, e2, hv2⟩ := sp_cancel hv x1 x2 q2
  have q := ri_det (ag_cancel hx x1 x2) e1 e2
  exact ⟨res, res2, e1, hk, e2, ⟨hv2, tq_aft q⟩, q⟩
theorem sx_ask {σ : CS} {τ : MS} (hV : INVX σ τ) (x1 : Int32) (x2 : Int32) : ∃ res res2, f_X3_ask σ x1 x2 = some res ∧ (∀ k, res = .inl k → k = 0 ∨ k = 1) ∧ f_X6_ask τ x1 x2 = some res2 ∧ INVX σ res2.2 ∧ TN C2 σ res res2 := by
  obtain ⟨hv, hx⟩ := hV
  obtain ⟨res, res2, e1, hk, e2, hv2⟩ := sp_ask hv x1 x2
  have q := ri_det (ag_ask hx x1 x2) e1 e2
  exact ⟨res, res2, e1, hk, e2, ⟨hv2, tn_aft q⟩, q⟩
theorem sx_ofTrack {σ : CS} {τ : MS} (hV : INVX σ τ) (x1 : Int32) (x2 : Int32) : ∃ res res2, f_X3_ofTrack σ x1 x2 = some res ∧ (∀ k, res = .inl k → k = 0 ∨ k = 1) ∧ f_X6_ofTrack τ x1 x2 = some res2 ∧ INVX σ res2.2 ∧ TN C2 σ res res2 := by
  obtain ⟨hv, hx⟩ := hV
  obtain ⟨res, res2, e1, hk, e2, hv2⟩ := sp_ofTrack hv x1 x2
  have q := ri_det (ag_ofTrack hx x1 x2) e1 e2
  exact ⟨res, res2, e1, hk, e2, ⟨hv2, tn_aft q⟩, q⟩
theorem sx_has {σ : CS} {τ : MS} (hV : INVX σ τ) (x1 : Int32) (x2 : Int32) : ∃ res res2, f_X3_has σ x1 x2 = some res ∧ (∀ k, res = .inl k → k = 0 ∨ k = 1) ∧ f_X6_has τ x1 x2 = some res2 ∧ INVX σ res2.2 ∧ TN C2 σ res res2 := by
  obtain ⟨hv, hx⟩ := hV
  obtain ⟨res, res2, e1, hk, e2, hv2⟩ := sp_has hv x1 x2
  have q := ri_det (ag_has hx x1 x2) e1 e2
  exact ⟨res, res2, e1, hk, e2, ⟨hv2, tn_aft q⟩, q⟩
theorem sx_nested {σ : CS} {τ : MS} (hV : INVX σ τ) (x1 : Int32) : ∃ res res2, f_X3_nested σ x1 = some res ∧ (∀ k, res = .inl k → k = 0) ∧ f_X6_nested τ x1 = some res2 ∧ INVX (aftM σ res) res2.2 ∧ TQ C1 σ res res2 := by
  obtain ⟨hv, hx⟩ := hV
  obtain ⟨res, res2, e1, hk, e2, hv2⟩ := sp_nested hv x1
  have q := ri_det (ag_nested hx x1) e1 e2
  exact ⟨res, res2, e1, hk, e2, ⟨hv2, tq_aft q⟩, q⟩
theorem sx_heaviest {σ : CS} {τ : MS} (hV : INVX σ τ) (x1 : Int32) (x2 : Int32) (x3 : Int32) : ∃ res res2, f_X3_heaviest σ x1 x2 x3 = some res ∧ (∀ k, res = .inl k → k = 0 ∨ k = 1) ∧ f_X6_heaviest τ x1 x2 x3 = some res2 ∧ INVX σ res2.2 ∧ TN C2 σ res res2 := by
  obtain ⟨hv, hx⟩ := hV
  obtain ⟨res, res2, e1, hk, e2, hv2⟩ := sp_heaviest hv x1 x2 x3
  have q := ri_det (ag_heaviest hx x1 x2 x3) e1 e2
  exact ⟨res, res2, e1, hk, e2, ⟨hv2, tn_aft q⟩, q⟩
theorem sx_ahead {σ : CS} {τ : MS} (hV : INVX σ τ) (x1 : Int32) (x2 : Int32) : ∃ res res2, f_X3_ahead σ x1 x2 = some res ∧ (∀ k, res = .inl k → k = 0) ∧ f_X6_ahead τ x1 x2 = some res2 ∧ INVX σ res2.2 ∧ TN C1 σ res res2 := by
  obtain ⟨hv, hx⟩ := hV
  obtain ⟨res, res2, e1, hk, e2, hv2⟩ := sp_ahead hv x1 x2
  have q := ri_det (ag_ahead hx x1 x2) e1 e2
  exact ⟨res, res2, e1, hk, e2, ⟨hv2, tn_aft q⟩, q⟩
theorem sx_yard {σ : CS} {τ : MS} (hV : INVX σ τ) (x1 : Int32) : ∃ res res2, f_X3_yard σ x1 = some res ∧ (∀ k, res = .inl k → k = 1) ∧ f_X6_yard τ x1 = some res2 ∧ INVX σ res2.2 ∧ TN C1 σ res res2 := by
  obtain ⟨hv, hx⟩ := hV
  obtain ⟨res, res2, e1, hk, e2, hv2⟩ := sp_yard hv x1
  have q := ri_det (ag_yard hx x1) e1 e2
  exact ⟨res, res2, e1, hk, e2, ⟨hv2, tn_aft q⟩, q⟩
theorem sx_undo {σ : CS} {τ : MS} (hV : INVX σ τ) : ∃ res res2, f_X3_undo σ = some res ∧ f_X6_undo τ = some res2 ∧ INVX res.2 res2.2 ∧ res2.1 = res.1 := by
  obtain ⟨hv, hx⟩ := hV
  obtain ⟨res, res2, e1, e2, hv2⟩ := sp_undo hv
  obtain ⟨k9, -, -, -, hu⟩ := hv
  have q := ri_det (ag_undo hx hu) e1 e2
  exact ⟨res, res2, e1, e2, ⟨hv2, q.2⟩, q.1.symm⟩
theorem sx_purge {σ : CS} {τ : MS} (hV : INVX σ τ) (x1 : Int32) (q1 : x1 = 0 ∨ x1 = 1) : ∃ res res2, f_X3_purge σ x1 = some res ∧ f_X6_purge τ x1 = some res2 ∧ INVX res.2 res2.2 ∧ res2.1 = res.1 := by
  obtain ⟨hv, hx⟩ := hV
  obtain ⟨res, res2, e1, e2, hv2⟩ := sp_purge hv x1 q1
  have q := ri_det (ag_purge hx q1) e1 e2
  exact ⟨res, res2, e1, e2, ⟨hv2, q.2⟩, q.1.symm⟩
theorem sx_walk {σ : CS} {τ : MS} (hV : INVX σ τ) (x1 : Int32) (q1 : x1 = 0 ∨ x1 = 1) : ∃ res res2, f_X3_walk σ x1 = some res ∧ f_X6_walk τ x1 = some res2 ∧ INVX res.2 res2.2 ∧ res2.1 = res.1 := by
  obtain ⟨hv, hx⟩ := hV
  obtain ⟨res, res2, e1, e2, hv2⟩ := sp_walk hv x1 q1
  have q := ri_det (ag_walk hx x1 q1) e1 e2
  exact ⟨res, res2, e1, e2, ⟨hv2, q.2⟩, q.1.symm⟩
theorem sx_knock {σ : CS} {τ : MS} (hV : INVX σ τ) : ∃ res res2, f_X3_knock σ = some res ∧ f_X6_knock τ = some res2 ∧ INVX res.2 res2.2 ∧ res2.1 = res.1 := by
  obtain ⟨hv, hx⟩ := hV
  obtain ⟨res, res2, e1, e2, hv2, -⟩ := sp_knock hv
  have q := ri_det (ag_knock hx) e1 e2
  exact ⟨res, res2, e1, e2, ⟨hv2, q.2⟩, q.1.symm⟩
theorem sx_compare {σ : CS} {τ : MS} (hV : INVX σ τ) (x1 : Int32) (q1 : x1 = 0 ∨ x1 = 1) : ∃ res res2, f_X3_compare σ x1 = some res ∧ f_X6_compare τ x1 = some res2 ∧ INVX σ res2.2 ∧ res2.1 = res := by
  obtain ⟨hv, hx⟩ := hV
  obtain ⟨res, res2, e1, e2, hv2⟩ := sp_compare hv x1 q1
  have q := ri_det (ag_compare hx x1) e1 e2
  exact ⟨res, res2, e1, e2, ⟨hv2, q.2.1⟩, q.1.symm⟩
theorem rx_th0 {σ : CS} {τ : MS} (h : RX σ τ) : RX σ (τ.1, va_up τ.2 0 0) := h.thr 0
theorem sx_isSound {σ : CS} {τ : MS} (hV : INVX σ τ) : ∃ res, f_X3_isSound σ = some res ∧ (∀ k, k < 2 → (τ.1 k).length ≤ 20) ∧ (τ.1 2).length ≤ 12 ∧ (∀ j, j < (τ.1 2).length → ∃ v, v < 8000 ∧ (τ.1 2).getD j 0 = nI v) ∧ INVX res.2 (τ.1, va_up τ.2 0 0) := by
  obtain ⟨hv, hx⟩ := hV
  obtain ⟨res, e1, a, b, c, hv2⟩ := sp_isSound hv
  exact ⟨res, e1, a, b, c, hv2, (sr_sound SR.rf res e1).rx (rx_th0 hx)⟩
theorem sx_digest {σ : CS} {τ : MS} (hV : INVX σ τ) : ∃ res, f_X3_digest σ = some res ∧ DH (τ.1, va_up τ.2 0 0) ∧ (∀ k, k < 2 → (τ.1 k).length ≤ 20) ∧ (∀ t, t < 2 → ∀ j, j < (τ.1 t).length → ∃ v, v < 1000 ∧ (τ.1 t).getD j 0 = nI v) ∧ (τ.1 2).length ≤ 12 ∧ (τ.1 3).length ≤ 32 ∧ (∀ j, j < (τ.1 2).length → ∃ v, v < 8000 ∧ (τ.1 2).getD j 0 = nI v) ∧ INVX res.2 (τ.1, va_up τ.2 0 0) := by
  obtain ⟨hv, hx⟩ := hV
  obtain ⟨res, e1, a, b, c, d, e, f, hv2⟩ := sp_digest hv
  exact ⟨res, e1, a, b, c, d, e, f, hv2, (sr_digest res e1).rx (rx_th0 hx)⟩
theorem st_thr {σ : CS} {τ : MS} (h : RX σ τ) {x1 zn : Int32} {r : Int32 × MS} (e1 : f_X6_isNoTrack x1 = some zn) (e2 : f_X6_start τ zn 1 = some r) : RX σ r.2 := by
  rw [mo_noTrack] at e1
  cases e1
  by_cases c : x1 = 0 ∨ x1 = 1
  · rw [if_pos c, mo_st0 rfl] at e2
    cases e2
    exact h.thr 0
  · rw [if_neg c, mo_st1 ne10 (by decide)] at e2
    cases e2
    exact h.thr 1
theorem sx_text {σ : CS} {τ : MS} (hV : INVX σ τ) (x1 x2 : Int32) (q2 : x2 = 0 ∨ x2 = 1) : (∀ i, i < 2 → ∃ k, k ≤ 20 ∧ (σ.1 i).2 = nI k) ∧ (∀ i, i < 2 → ∀ j, ∃ v, v < 1000 ∧ (σ.1 i).1 j = nI v) ∧ (∀ k, f_X3_needTrack x1 = some (.inl k) → k = 0) ∧ ∃ zn res2, f_X6_isNoTrack x1 = some zn ∧ f_X6_start τ zn 1 = some res2 ∧ (res2.1 = 0 → ∃ t, gtr x1 = some t ∧ (res2.2.1 t).length ≤ 20 ∧ ∀ j, j < (res2.2.1 t).length → ∃ v, v < 1000 ∧ (res2.2.1 t).getD j 0 = nI v) ∧ INVX σ res2.2 := by
  obtain ⟨hv, hx⟩ := hV
  obtain ⟨a, b, c, zn, res2, e1, e2, d, hv2⟩ := sp_text hv x1 x2 q2
  exact ⟨a, b, c, zn, res2, e1, e2, d, hv2, st_thr hx e1 e2⟩
