section
/-! level 3 gathered: class and model side by side, and alike -/
def INVX (σ : CS) (τ : MS) : Prop := INV τ ∧ RX σ τ
theorem tq_aft {C : Nat → Int32} {σ : CS} {res : Nat ⊕ (Int32 × CS)} {r2 : Int32 × MS} (h : TQ C σ res r2) : RX (aftM σ res) r2.2 := by
  cases res with
  | inl k => exact (h.1 k rfl).1
  | inr z => exact (h.2 z rfl).1
theorem tn_aft {C : Nat → Int32} {σ : CS} {res : Nat ⊕ Int32} {r2 : Int32 × MS} (h : TN C σ res r2) : RX σ r2.2 := by
  cases res with
  | inl k => exact (h.1 k rfl).1
  | inr z => exact (h.2 z rfl).1
theorem rx0 : RX σ0 τ0 := by
  refine ⟨⟨fun i _ => ⟨rfl, Nat.zero_le _, fun j hj => absurd hj (Nat.not_lt_zero j)⟩, fun q q1 q2 => ?_, rfl, fun v hv => absurd hv List.not_mem_nil, fun v hv => absurd hv List.not_mem_nil, fun v hv => absurd hv List.not_mem_nil, fun v hv => absurd hv List.not_mem_nil⟩, Or.inl ⟨rfl, rfl, rfl, rfl⟩⟩
  rcases (by omega : q = 5 ∨ q = 6 ∨ q = 7 ∨ q = 8 ∨ q = 9 ∨ q = 10) with e | e | e | e | e | e <;> subst e <;> rfl
theorem invx0 : INVX σ0 τ0 := ⟨inv0, rx0⟩
theorem ks_C3 {k : Nat} (h : ¬ C3 k = 0) : k = 0 ∨ k = 1 ∨ k = 2 := by
  unfold C3 at h
  refine Classical.byContradiction fun q => h ?_
  rw [if_neg (fun e => q (Or.inl e)), if_neg (fun e => q (Or.inr (Or.inl e))), if_neg (fun e => q (Or.inr (Or.inr e)))]
theorem ks_C2 {k : Nat} (h : ¬ C2 k = 0) : k = 0 ∨ k = 1 := by
  unfold C2 at h
  refine Classical.byContradiction fun q => h ?_
  rw [if_neg (fun e => q (Or.inl e)), if_neg (fun e => q (Or.inr e))]
theorem ks_C02 {k : Nat} (h : ¬ C02 k = 0) : k = 0 ∨ k = 2 := by
  unfold C02 at h
  refine Classical.byContradiction fun q => h ?_
  rw [if_neg (fun e => q (Or.inl e)), if_neg (fun e => q (Or.inr e))]
theorem ks_C1 {k : Nat} (h : ¬ C1 k = 0) : k = 0 := by
  unfold C1 at h
  refine Classical.byContradiction fun q => h ?_
  rw [if_neg (fun e => q (e))]
theorem ks_C11 {k : Nat} (h : ¬ C11 k = 0) : k = 1 := by
  unfold C11 at h
  refine Classical.byContradiction fun q => h ?_
  rw [if_neg (fun e => q (e))]
theorem ks_C22 {k : Nat} (h : ¬ C22 k = 0) : k = 2 := by
  unfold C22 at h
  refine Classical.byContradiction fun q => h ?_
  rw [if_neg (fun e => q (e))]
theorem ks_C12 {k : Nat} (h : ¬ C12 k = 0) : k = 1 ∨ k = 2 := by
  unfold C12 at h
  refine Classical.byContradiction fun q => h ?_
  rw [if_neg (fun e => q (Or.inl e)), if_neg (fun e => q (Or.inr e))]
theorem sx_join {σ : CS} {τ : MS} (hV : INVX σ τ) (x1 : Int32) (x2 : Int32) (q2 : x2 = 0 ∨ x2 = 1) (x3 : Int32) (x4 : Int32) : ∃ res res2, f_X3_join σ x1 x2 x3 x4 = some res ∧ (∀ k, res = .inl k → k = 0 ∨ k = 1 ∨ k = 2) ∧ f_X6_join τ x1 x2 x3 x4 = some res2 ∧ INVX (aftM σ res) res2.2 ∧ TQ C3 σ res res2 := by
  obtain ⟨⟨k, hb, hw, hu⟩, hx⟩ := hV
  obtain ⟨res2, e2, r2⟩ := ok_X6_join hb hw hu x1 x2 x3 x4
  obtain ⟨res, e1, q⟩ := ag_join hx x1 x2 x3 x4 res2 e2
  exact ⟨res, res2, e1, fun k9 h9 => ks_C3 (q.1 k9 h9).2.2, e2, ⟨⟨k, r2⟩, tq_aft q⟩, q⟩
theorem sx_offer {σ : CS} {τ : MS} (hV : INVX σ τ) (x1 : Int32) (x2 : Int32) (q2 : x2 = 0 ∨ x2 = 1) (x3 : Int32) (x4 : Int32) : ∃ res res2, f_X3_offer σ x1 x2 x3 x4 = some res ∧ (∀ k, res = .inl k → k = 0 ∨ k = 1 ∨ k = 2) ∧ f_X6_offer τ x1 x2 x3 x4 = some res2 ∧ INVX (aftM σ res) res2.2 ∧ TQ C3 σ res res2 := by
  obtain ⟨⟨k, hb, hw, hu⟩, hx⟩ := hV
  obtain ⟨res2, e2, r2⟩ := ok_X6_offer hb hw hu x1 x2 x3 x4
  obtain ⟨res, e1, q⟩ := ag_offer hx x1 x2 x3 x4 res2 e2
  exact ⟨res, res2, e1, fun k9 h9 => ks_C3 (q.1 k9 h9).2.2, e2, ⟨⟨k, r2⟩, tq_aft q⟩, q⟩
theorem sx_push {σ : CS} {τ : MS} (hV : INVX σ τ) (x1 : Int32) (x2 : Int32) (x3 : Int32) : ∃ res res2, f_X3_push σ x1 x2 x3 = some res ∧ (∀ k, res = .inl k → k = 0 ∨ k = 1 ∨ k = 2) ∧ f_X6_push τ x1 x2 x3 = some res2 ∧ INVX (aftM σ res) res2.2 ∧ TQ C3 σ res res2 := by
  obtain ⟨⟨k, hb, hw, hu⟩, hx⟩ := hV
  obtain ⟨res2, e2, r2⟩ := ok_X6_push hb hw hu x1 x2 x3
  obtain ⟨res, e1, q⟩ := ag_push hx x1 x2 x3 res2 e2
  exact ⟨res, res2, e1, fun k9 h9 => ks_C3 (q.1 k9 h9).2.2, e2, ⟨⟨k, r2⟩, tq_aft q⟩, q⟩
theorem sx_append {σ : CS} {τ : MS} (hV : INVX σ τ) (x1 : Int32) (x2 : Int32) (x3 : Int32) : ∃ res res2, f_X3_append σ x1 x2 x3 = some res ∧ (∀ k, res = .inl k → k = 0 ∨ k = 1 ∨ k = 2) ∧ f_X6_append τ x1 x2 x3 = some res2 ∧ INVX (aftM σ res) res2.2 ∧ TQ C3 σ res res2 := by
  obtain ⟨⟨k, hb, hw, hu⟩, hx⟩ := hV
  obtain ⟨res2, e2, r2⟩ := ok_X6_append hb hw hu x1 x2 x3
  obtain ⟨res, e1, q⟩ := ag_append hx x1 x2 x3 res2 e2
  exact ⟨res, res2, e1, fun k9 h9 => ks_C3 (q.1 k9 h9).2.2, e2, ⟨⟨k, r2⟩, tq_aft q⟩, q⟩
theorem sx_train {σ : CS} {τ : MS} (hV : INVX σ τ) (x1 : Int32) (x2 : Int32) (x3 : Int32) (x4 : Int32) : ∃ res res2, f_X3_train σ x1 x2 x3 x4 = some res ∧ (∀ k, res = .inl k → k = 0 ∨ k = 1 ∨ k = 2) ∧ f_X6_train τ x1 x2 x3 x4 = some res2 ∧ INVX (aftM σ res) res2.2 ∧ TQ C3 σ res res2 := by
  obtain ⟨⟨k, hb, hw, hu⟩, hx⟩ := hV
  obtain ⟨res2, e2, r2⟩ := ok_X6_train hb hw hu x1 x2 x3 x4
  obtain ⟨res, e1, q⟩ := ag_train hx x1 x2 x3 x4 res2 e2
  exact ⟨res, res2, e1, fun k9 h9 => ks_C3 (q.1 k9 h9).2.2, e2, ⟨⟨k, r2⟩, tq_aft q⟩, q⟩
theorem sx_take {σ : CS} {τ : MS} (hV : INVX σ τ) (x1 : Int32) (x2 : Int32) (q2 : x2 = 0 ∨ x2 = 1) : ∃ res res2, f_X3_take σ x1 x2 = some res ∧ (∀ k, res = .inl k → k = 0) ∧ f_X6_take τ x1 x2 = some res2 ∧ INVX (aftM σ res) res2.2 ∧ TQ C1 σ res res2 := by
  obtain ⟨⟨k, hb, hw, hu⟩, hx⟩ := hV
  obtain ⟨res2, e2, r2⟩ := ok_X6_take hb hw hu x1 x2
  obtain ⟨res, e1, q⟩ := ag_take hx x1 x2 res2 e2
  exact ⟨res, res2, e1, fun k9 h9 => ks_C1 (q.1 k9 h9).2.2, e2, ⟨⟨k, r2⟩, tq_aft q⟩, q⟩
theorem sx_poll {σ : CS} {τ : MS} (hV : INVX σ τ) (x1 : Int32) (x2 : Int32) (q2 : x2 = 0 ∨ x2 = 1) : ∃ res res2, f_X3_poll σ x1 x2 = some res ∧ (∀ k, res = .inl k → k = 0) ∧ f_X6_poll τ x1 x2 = some res2 ∧ INVX (aftM σ res) res2.2 ∧ TQ C1 σ res res2 := by
  obtain ⟨⟨k, hb, hw, hu⟩, hx⟩ := hV
  obtain ⟨res2, e2, r2⟩ := ok_X6_poll hb hw hu x1 x2
  obtain ⟨res, e1, q⟩ := ag_poll hx x1 x2 res2 e2
  exact ⟨res, res2, e1, fun k9 h9 => ks_C1 (q.1 k9 h9).2.2, e2, ⟨⟨k, r2⟩, tq_aft q⟩, q⟩
theorem sx_pop {σ : CS} {τ : MS} (hV : INVX σ τ) (x1 : Int32) : ∃ res res2, f_X3_pop σ x1 = some res ∧ (∀ k, res = .inl k → k = 0) ∧ f_X6_pop τ x1 = some res2 ∧ INVX (aftM σ res) res2.2 ∧ TQ C1 σ res res2 := by
  obtain ⟨⟨k, hb, hw, hu⟩, hx⟩ := hV
  obtain ⟨res2, e2, r2⟩ := ok_X6_pop hb hw hu x1
  obtain ⟨res, e1, q⟩ := ag_pop hx x1 res2 e2
  exact ⟨res, res2, e1, fun k9 h9 => ks_C1 (q.1 k9 h9).2.2, e2, ⟨⟨k, r2⟩, tq_aft q⟩, q⟩
theorem sx_serve {σ : CS} {τ : MS} (hV : INVX σ τ) (x1 : Int32) (x2 : Int32) (q2 : x2 = 0 ∨ x2 = 1) : ∃ res res2, f_X3_serve σ x1 x2 = some res ∧ (∀ k, res = .inl k → k = 0) ∧ f_X6_serve τ x1 x2 = some res2 ∧ INVX (aftM σ res) res2.2 ∧ TQ C1 σ res res2 := by
  obtain ⟨⟨k, hb, hw, hu⟩, hx⟩ := hV
  obtain ⟨res2, e2, r2⟩ := ok_X6_serve hb hw hu x1 x2
  obtain ⟨res, e1, q⟩ := ag_serve hx x1 x2 res2 e2
  exact ⟨res, res2, e1, fun k9 h9 => ks_C1 (q.1 k9 h9).2.2, e2, ⟨⟨k, r2⟩, tq_aft q⟩, q⟩
theorem sx_rotate {σ : CS} {τ : MS} (hV : INVX σ τ) (x1 : Int32) (x2 : Int32) : ∃ res res2, f_X3_rotate σ x1 x2 = some res ∧ (∀ k, res = .inl k → k = 0 ∨ k = 1) ∧ f_X6_rotate τ x1 x2 = some res2 ∧ INVX (aftM σ res) res2.2 ∧ TQ C2 σ res res2 := by
  obtain ⟨⟨k, hb, hw, hu⟩, hx⟩ := hV
  obtain ⟨res2, e2, r2⟩ := ok_X6_rotate hb hw hu x1 x2
  obtain ⟨res, e1, q⟩ := ag_rotate hx x1 x2 res2 e2
  exact ⟨res, res2, e1, fun k9 h9 => ks_C2 (q.1 k9 h9).2.2, e2, ⟨⟨k, r2⟩, tq_aft q⟩, q⟩
theorem sx_drop {σ : CS} {τ : MS} (hV : INVX σ τ) (x1 : Int32) (x2 : Int32) (x3 : Int32) (q3 : x3 = 0 ∨ x3 = 1) : ∃ res res2, f_X3_drop σ x1 x2 x3 = some res ∧ (∀ k, res = .inl k → k = 0 ∨ k = 1) ∧ f_X6_drop τ x1 x2 x3 = some res2 ∧ INVX (aftM σ res) res2.2 ∧ TQ C2 σ res res2 := by
  obtain ⟨⟨k, hb, hw, hu⟩, hx⟩ := hV
  obtain ⟨res2, e2, r2⟩ := ok_X6_drop hb hw hu x1 x2 x3
  obtain ⟨res, e1, q⟩ := ag_drop hx x1 x2 x3 res2 e2
  exact ⟨res, res2, e1, fun k9 h9 => ks_C2 (q.1 k9 h9).2.2, e2, ⟨⟨k, r2⟩, tq_aft q⟩, q⟩
theorem sx_dropAll {σ : CS} {τ : MS} (hV : INVX σ τ) (x1 : Int32) (x2 : Int32) : ∃ res res2, f_X3_dropAll σ x1 x2 = some res ∧ (∀ k, res = .inl k → k = 0 ∨ k = 1) ∧ f_X6_dropAll τ x1 x2 = some res2 ∧ INVX (aftM σ res) res2.2 ∧ TQ C2 σ res res2 := by
  obtain ⟨⟨k, hb, hw, hu⟩, hx⟩ := hV
  obtain ⟨res2, e2, r2⟩ := ok_X6_dropAll hb hw hu x1 x2
  obtain ⟨res, e1, q⟩ := ag_dropAll hx x1 x2 res2 e2
  exact ⟨res, res2, e1, fun k9 h9 => ks_C2 (q.1 k9 h9).2.2, e2, ⟨⟨k, r2⟩, tq_aft q⟩, q⟩
theorem sx_shed {σ : CS} {τ : MS} (hV : INVX σ τ) (x1 : Int32) (x2 : Int32) (q2 : x2 = 0 ∨ x2 = 1) (x3 : Int32) (x4 : Int32) : ∃ res res2, f_X3_shed σ x1 x2 x3 x4 = some res ∧ (∀ k, res = .inl k → k = 0 ∨ k = 1) ∧ f_X6_shed τ x1 x2 x3 x4 = some res2 ∧ INVX (aftM σ res) res2.2 ∧ TQ C2 σ res res2 := by
  obtain ⟨⟨k, hb, hw, hu⟩, hx⟩ := hV
  obtain ⟨res2, e2, r2⟩ := ok_X6_shed hb hw hu x1 x2 x3 x4
  obtain ⟨res, e1, q⟩ := ag_shed hx x1 x2 x3 x4 res2 e2
  exact ⟨res, res2, e1, fun k9 h9 => ks_C2 (q.1 k9 h9).2.2, e2, ⟨⟨k, r2⟩, tq_aft q⟩, q⟩
theorem sx_thin {σ : CS} {τ : MS} (hV : INVX σ τ) (x1 : Int32) (x2 : Int32) (q2 : x2 = 0 ∨ x2 = 1) (x3 : Int32) : ∃ res res2, f_X3_thin σ x1 x2 x3 = some res ∧ (∀ k, res = .inl k → k = 0 ∨ k = 1) ∧ f_X6_thin τ x1 x2 x3 = some res2 ∧ INVX (aftM σ res) res2.2 ∧ TQ C2 σ res res2 := by
  obtain ⟨⟨k, hb, hw, hu⟩, hx⟩ := hV
  obtain ⟨res2, e2, r2⟩ := ok_X6_thin hb hw hu x1 x2 x3
  obtain ⟨res, e1, q⟩ := ag_thin hx x1 x2 x3 res2 e2
  exact ⟨res, res2, e1, fun k9 h9 => ks_C2 (q.1 k9 h9).2.2, e2, ⟨⟨k, r2⟩, tq_aft q⟩, q⟩
theorem sx_turn {σ : CS} {τ : MS} (hV : INVX σ τ) (x1 : Int32) : ∃ res res2, f_X3_turn σ x1 = some res ∧ (∀ k, res = .inl k → k = 0) ∧ f_X6_turn τ x1 = some res2 ∧ INVX (aftM σ res) res2.2 ∧ TQ C1 σ res res2 := by
  obtain ⟨⟨k, hb, hw, hu⟩, hx⟩ := hV
  obtain ⟨res2, e2, r2⟩ := ok_X6_turn hb hw hu x1
  obtain ⟨res, e1, q⟩ := ag_turn hx x1 res2 e2
  exact ⟨res, res2, e1, fun k9 h9 => ks_C1 (q.1 k9 h9).2.2, e2, ⟨⟨k, r2⟩, tq_aft q⟩, q⟩
theorem sx_clear {σ : CS} {τ : MS} (hV : INVX σ τ) (x1 : Int32) : ∃ res res2, f_X3_clear σ x1 = some res ∧ (∀ k, res = .inl k → k = 0) ∧ f_X6_clear τ x1 = some res2 ∧ INVX (aftM σ res) res2.2 ∧ TQ C1 σ res res2 := by
  obtain ⟨⟨k, hb, hw, hu⟩, hx⟩ := hV
  obtain ⟨res2, e2, r2⟩ := ok_X6_clear hb hw hu x1
  obtain ⟨res, e1, q⟩ := ag_clear hx x1 res2 e2
  exact ⟨res, res2, e1, fun k9 h9 => ks_C1 (q.1 k9 h9).2.2, e2, ⟨⟨k, r2⟩, tq_aft q⟩, q⟩
theorem sx_step {σ : CS} {τ : MS} (hV : INVX σ τ) : ∃ res res2, f_X3_step σ = some res ∧ (∀ k, res = .inl k → k = 2) ∧ f_X6_step τ = some res2 ∧ INVX (aftM σ res) res2.2 ∧ TQ C22 σ res res2 := by
  obtain ⟨⟨k, hb, hw, hu⟩, hx⟩ := hV
  obtain ⟨res2, e2, r2⟩ := ok_X6_step hb hw hu
  obtain ⟨res, e1, q⟩ := ag_step hx res2 e2
  exact ⟨res, res2, e1, fun k9 h9 => ks_C22 (q.1 k9 h9).2.2, e2, ⟨⟨k, r2⟩, tq_aft q⟩, q⟩
theorem sx_pluck {σ : CS} {τ : MS} (hV : INVX σ τ) : ∃ res res2, f_X3_pluck σ = some res ∧ (∀ k, res = .inl k → k = 2) ∧ f_X6_pluck τ = some res2 ∧ INVX (aftM σ res) res2.2 ∧ TQ C22 σ res res2 := by
  obtain ⟨⟨k, hb, hw, hu⟩, hx⟩ := hV
  obtain ⟨res2, e2, r2⟩ := ok_X6_pluck hb hw hu
  obtain ⟨res, e1, q⟩ := ag_pluck hx res2 e2
  exact ⟨res, res2, e1, fun k9 h9 => ks_C22 (q.1 k9 h9).2.2, e2, ⟨⟨k, r2⟩, tq_aft q⟩, q⟩
theorem sx_insert {σ : CS} {τ : MS} (hV : INVX σ τ) (x1 : Int32) (x2 : Int32) (x3 : Int32) : ∃ res res2, f_X3_insert σ x1 x2 x3 = some res ∧ (∀ k, res = .inl k → k = 0 ∨ k = 1 ∨ k = 2) ∧ f_X6_insert τ x1 x2 x3 = some res2 ∧ INVX (aftM σ res) res2.2 ∧ TQ C3 σ res res2 := by
  obtain ⟨⟨k, hb, hw, hu⟩, hx⟩ := hV
  obtain ⟨res2, e2, r2⟩ := ok_X6_insert hb hw hu x1 x2 x3
  obtain ⟨res, e1, q⟩ := ag_insert hx x1 x2 x3 res2 e2
  exact ⟨res, res2, e1, fun k9 h9 => ks_C3 (q.1 k9 h9).2.2, e2, ⟨⟨k, r2⟩, tq_aft q⟩, q⟩
theorem sx_cut {σ : CS} {τ : MS} (hV : INVX σ τ) (x1 : Int32) : ∃ res res2, f_X3_cut σ x1 = some res ∧ (∀ k, res = .inl k → k = 0) ∧ f_X6_cut τ x1 = some res2 ∧ INVX (aftM σ res) res2.2 ∧ TQ C1 σ res res2 := by
  obtain ⟨⟨k, hb, hw, hu⟩, hx⟩ := hV
  obtain ⟨res2, e2, r2⟩ := ok_X6_cut hb hw hu x1
  obtain ⟨res, e1, q⟩ := ag_cut hx x1 res2 e2
  exact ⟨res, res2, e1, fun k9 h9 => ks_C1 (q.1 k9 h9).2.2, e2, ⟨⟨k, r2⟩, tq_aft q⟩, q⟩
theorem sx_replace {σ : CS} {τ : MS} (hV : INVX σ τ) (x1 : Int32) (x2 : Int32) (x3 : Int32) : ∃ res res2, f_X3_replace σ x1 x2 x3 = some res ∧ (∀ k, res = .inl k → k = 0 ∨ k = 1) ∧ f_X6_replace τ x1 x2 x3 = some res2 ∧ INVX (aftM σ res) res2.2 ∧ TQ C2 σ res res2 := by
  obtain ⟨⟨k, hb, hw, hu⟩, hx⟩ := hV
  obtain ⟨res2, e2, r2⟩ := ok_X6_replace hb hw hu x1 x2 x3
  obtain ⟨res, e1, q⟩ := ag_replace hx x1 x2 x3 res2 e2
  exact ⟨res, res2, e1, fun k9 h9 => ks_C2 (q.1 k9 h9).2.2, e2, ⟨⟨k, r2⟩, tq_aft q⟩, q⟩
theorem sx_at {σ : CS} {τ : MS} (hV : INVX σ τ) (x1 : Int32) : ∃ res res2, f_X3_at σ x1 = some res ∧ (∀ k, res = .inl k → k = 0) ∧ f_X6_at τ x1 = some res2 ∧ INVX σ res2.2 ∧ TN C1 σ res res2 := by
  obtain ⟨⟨k, hb, hw, hu⟩, hx⟩ := hV
  obtain ⟨res2, e2, r2⟩ := ok_X6_at hb hw hu x1
  obtain ⟨res, e1, q⟩ := ag_at hx x1 res2 e2
  exact ⟨res, res2, e1, fun k9 h9 => ks_C1 (q.1 k9 h9).2.2, e2, ⟨⟨k, r2⟩, tn_aft q⟩, q⟩
theorem sx_find {σ : CS} {τ : MS} (hV : INVX σ τ) (x1 : Int32) (x2 : Int32) (q2 : x2 = 0 ∨ x2 = 1) : ∃ res res2, f_X3_find σ x1 x2 = some res ∧ (∀ k, res = .inl k → k = 1) ∧ f_X6_find τ x1 x2 = some res2 ∧ INVX σ res2.2 ∧ TN C11 σ res res2 := by
  obtain ⟨⟨k, hb, hw, hu⟩, hx⟩ := hV
  obtain ⟨res2, e2, r2⟩ := ok_X6_find hb hw hu x1 x2
  obtain ⟨res, e1, q⟩ := ag_find hx x1 x2 res2 e2
  exact ⟨res, res2, e1, fun k9 h9 => ks_C11 (q.1 k9 h9).2.2, e2, ⟨⟨k, r2⟩, tn_aft q⟩, q⟩
theorem sx_splice {σ : CS} {τ : MS} (hV : INVX σ τ) (x1 : Int32) : ∃ res res2, f_X3_splice σ x1 = some res ∧ (∀ k, res = .inl k → k = 0 ∨ k = 2) ∧ f_X6_splice τ x1 = some res2 ∧ INVX (aftM σ res) res2.2 ∧ TQ C02 σ res res2 := by
  obtain ⟨⟨k, hb, hw, hu⟩, hx⟩ := hV
  obtain ⟨res2, e2, r2⟩ := ok_X6_splice hb hw hu x1
  obtain ⟨res, e1, q⟩ := ag_splice hx x1 res2 e2
  exact ⟨res, res2, e1, fun k9 h9 => ks_C02 (q.1 k9 h9).2.2, e2, ⟨⟨k, r2⟩, tq_aft q⟩, q⟩
theorem sx_shunt {σ : CS} {τ : MS} (hV : INVX σ τ) (x1 : Int32) (x2 : Int32) : ∃ res res2, f_X3_shunt σ x1 x2 = some res ∧ (∀ k, res = .inl k → k = 0 ∨ k = 1 ∨ k = 2) ∧ f_X6_shunt τ x1 x2 = some res2 ∧ INVX (aftM σ res) res2.2 ∧ TQ C3 σ res res2 := by
  obtain ⟨⟨k, hb, hw, hu⟩, hx⟩ := hV
  obtain ⟨res2, e2, r2⟩ := ok_X6_shunt hb hw hu x1 x2
  obtain ⟨res, e1, q⟩ := ag_shunt hx x1 x2 res2 e2
  exact ⟨res, res2, e1, fun k9 h9 => ks_C3 (q.1 k9 h9).2.2, e2, ⟨⟨k, r2⟩, tq_aft q⟩, q⟩
theorem sx_stand {σ : CS} {τ : MS} (hV : INVX σ τ) (x1 : Int32) (x2 : Int32) : ∃ res res2, f_X3_stand σ x1 x2 = some res ∧ (∀ k, res = .inl k → k = 0) ∧ f_X6_stand τ x1 x2 = some res2 ∧ INVX (aftM σ res) res2.2 ∧ TQ C1 σ res res2 := by
  obtain ⟨⟨k, hb, hw, hu⟩, hx⟩ := hV
  obtain ⟨res2, e2, r2⟩ := ok_X6_stand hb hw hu x1 x2
  obtain ⟨res, e1, q⟩ := ag_stand hx x1 x2 res2 e2
  exact ⟨res, res2, e1, fun k9 h9 => ks_C1 (q.1 k9 h9).2.2, e2, ⟨⟨k, r2⟩, tq_aft q⟩, q⟩
theorem sx_forth {σ : CS} {τ : MS} (hV : INVX σ τ) (x1 : Int32) : ∃ res res2, f_X3_forth σ x1 = some res ∧ (∀ k, res = .inl k → k = 0 ∨ k = 2) ∧ f_X6_forth τ x1 = some res2 ∧ INVX (aftM σ res) res2.2 ∧ TQ C02 σ res res2 := by
  obtain ⟨⟨k, hb, hw, hu⟩, hx⟩ := hV
  obtain ⟨res2, e2, r2⟩ := ok_X6_forth hb hw hu x1
  obtain ⟨res, e1, q⟩ := ag_forth hx hw x1 res2 e2
  exact ⟨res, res2, e1, fun k9 h9 => ks_C02 (q.1 k9 h9).2.2, e2, ⟨⟨k, r2⟩, tq_aft q⟩, q⟩
theorem sx_back {σ : CS} {τ : MS} (hV : INVX σ τ) (x1 : Int32) : ∃ res res2, f_X3_back σ x1 = some res ∧ (∀ k, res = .inl k → k = 0 ∨ k = 2) ∧ f_X6_back τ x1 = some res2 ∧ INVX (aftM σ res) res2.2 ∧ TQ C02 σ res res2 := by
  obtain ⟨⟨k, hb, hw, hu⟩, hx⟩ := hV
  obtain ⟨res2, e2, r2⟩ := ok_X6_back hb hw hu x1
  obtain ⟨res, e1, q⟩ := ag_back hx hw x1 res2 e2
  exact ⟨res, res2, e1, fun k9 h9 => ks_C02 (q.1 k9 h9).2.2, e2, ⟨⟨k, r2⟩, tq_aft q⟩, q⟩
theorem sx_takeHeld {σ : CS} {τ : MS} (hV : INVX σ τ) (x1 : Int32) : ∃ res res2, f_X3_takeHeld σ x1 = some res ∧ (∀ k, res = .inl k → k = 0 ∨ k = 2) ∧ f_X6_takeHeld τ x1 = some res2 ∧ INVX (aftM σ res) res2.2 ∧ TQ C02 σ res res2 := by
  obtain ⟨⟨k, hb, hw, hu⟩, hx⟩ := hV
  obtain ⟨res2, e2, r2⟩ := ok_X6_takeHeld hb hw hu x1
  obtain ⟨res, e1, q⟩ := ag_takeHeld hx hw x1 res2 e2
  exact ⟨res, res2, e1, fun k9 h9 => ks_C02 (q.1 k9 h9).2.2, e2, ⟨⟨k, r2⟩, tq_aft q⟩, q⟩
theorem sx_setHeld {σ : CS} {τ : MS} (hV : INVX σ τ) (x1 : Int32) (x2 : Int32) (x3 : Int32) : ∃ res res2, f_X3_setHeld σ x1 x2 x3 = some res ∧ (∀ k, res = .inl k → k = 0 ∨ k = 1 ∨ k = 2) ∧ f_X6_setHeld τ x1 x2 x3 = some res2 ∧ INVX (aftM σ res) res2.2 ∧ TQ C3 σ res res2 := by
  obtain ⟨⟨k, hb, hw, hu⟩, hx⟩ := hV
  obtain ⟨res2, e2, r2⟩ := ok_X6_setHeld hb hw hu x1 x2 x3
  obtain ⟨res, e1, q⟩ := ag_setHeld hx hw x1 x2 x3 res2 e2
  exact ⟨res, res2, e1, fun k9 h9 => ks_C3 (q.1 k9 h9).2.2, e2, ⟨⟨k, r2⟩, tq_aft q⟩, q⟩
theorem sx_put {σ : CS} {τ : MS} (hV : INVX σ τ) (x1 : Int32) (x2 : Int32) (x3 : Int32) : ∃ res res2, f_X3_put σ x1 x2 x3 = some res ∧ (∀ k, res = .inl k → k = 0 ∨ k = 1 ∨ k = 2) ∧ f_X6_put τ x1 x2 x3 = some res2 ∧ INVX (aftM σ res) res2.2 ∧ TQ C3 σ res res2 := by
  obtain ⟨⟨k, hb, hw, hu⟩, hx⟩ := hV
  obtain ⟨res2, e2, r2⟩ := ok_X6_put hb hw hu x1 x2 x3
  obtain ⟨res, e1, q⟩ := ag_put hx hw x1 x2 x3 res2 e2
  exact ⟨res, res2, e1, fun k9 h9 => ks_C3 (q.1 k9 h9).2.2, e2, ⟨⟨k, r2⟩, tq_aft q⟩, q⟩
theorem sx_where {σ : CS} {τ : MS} (hV : INVX σ τ) (x1 : Int32) (x2 : Int32) : ∃ res res2, f_X3_where σ x1 x2 = some res ∧ (∀ k, res = .inl k → k = 0 ∨ k = 1 ∨ k = 2) ∧ f_X6_where τ x1 x2 = some res2 ∧ INVX σ res2.2 ∧ TN C3 σ res res2 := by
  obtain ⟨⟨k, hb, hw, hu⟩, hx⟩ := hV
  obtain ⟨res2, e2, r2⟩ := ok_X6_where hb hw hu x1 x2
  obtain ⟨res, e1, q⟩ := ag_where hx hw x1 x2 res2 e2
  exact ⟨res, res2, e1, fun k9 h9 => ks_C3 (q.1 k9 h9).2.2, e2, ⟨⟨k, r2⟩, tn_aft q⟩, q⟩
theorem sx_order {σ : CS} {τ : MS} (hV : INVX σ τ) (x1 : Int32) : ∃ res res2, f_X3_order σ x1 = some res ∧ (∀ k, res = .inl k → k = 1 ∨ k = 2) ∧ f_X6_order τ x1 = some res2 ∧ INVX (aftM σ res) res2.2 ∧ TQ C12 σ res res2 := by
  obtain ⟨⟨k, hb, hw, hu⟩, hx⟩ := hV
  obtain ⟨res2, e2, r2⟩ := ok_X6_order hb hw hu x1
  obtain ⟨res, e1, q⟩ := ag_order hx x1 res2 e2
  exact ⟨res, res2, e1, fun k9 h9 => ks_C12 (q.1 k9 h9).2.2, e2, ⟨⟨k, r2⟩, tq_aft q⟩, q⟩
theorem sx_work {σ : CS} {τ : MS} (hV : INVX σ τ) (x1 : Int32) : ∃ res res2, f_X3_work σ x1 = some res ∧ (∀ k, res = .inl k → k = 1) ∧ f_X6_work τ x1 = some res2 ∧ INVX (aftM σ res) res2.2 ∧ TQ C11 σ res res2 := by
  obtain ⟨⟨k, hb, hw, hu⟩, hx⟩ := hV
  obtain ⟨res2, e2, r2⟩ := ok_X6_work hb hw hu x1
  obtain ⟨res, e1, q⟩ := ag_work hx x1 res2 e2
  exact ⟨res, res2, e1, fun k9 h9 => ks_C11 (q.1 k9 h9).2.2, e2, ⟨⟨k, r2⟩, tq_aft q⟩, q⟩
theorem sx_cancel {σ : CS} {τ : MS} (hV : INVX σ τ) (x1 : Int32) (x2 : Int32) (q2 : x2 = 0 ∨ x2 = 1) : ∃ res res2, f_X3_cancel σ x1 x2 = some res ∧ (∀ k, res = .inl k → k = 1) ∧ f_X6_cancel τ x1 x2 = some res2 ∧ INVX (aftM σ res) res2.2 ∧ TQ C11 σ res res2 := by
  obtain ⟨⟨k, hb, hw, hu⟩, hx⟩ := hV
  obtain ⟨res2, e2, r2⟩ := ok_X6_cancel hb hw hu x1 x2
  obtain ⟨res, e1, q⟩ := ag_cancel hx x1 x2 res2 e2
  exact ⟨res, res2, e1, fun k9 h9 => ks_C11 (q.1 k9 h9).2.2, e2, ⟨⟨k, r2⟩, tq_aft q⟩, q⟩
theorem sx_ask {σ : CS} {τ : MS} (hV : INVX σ τ) (x1 : Int32) (x2 : Int32) : ∃ res res2, f_X3_ask σ x1 x2 = some res ∧ (∀ k, res = .inl k → k = 0 ∨ k = 1) ∧ f_X6_ask τ x1 x2 = some res2 ∧ INVX σ res2.2 ∧ TN C2 σ res res2 := by
  obtain ⟨⟨k, hb, hw, hu⟩, hx⟩ := hV
  obtain ⟨res2, e2, r2⟩ := ok_X6_ask hb hw hu x1 x2
  obtain ⟨res, e1, q⟩ := ag_ask hx x1 x2 res2 e2
  exact ⟨res, res2, e1, fun k9 h9 => ks_C2 (q.1 k9 h9).2.2, e2, ⟨⟨k, r2⟩, tn_aft q⟩, q⟩
theorem sx_ofTrack {σ : CS} {τ : MS} (hV : INVX σ τ) (x1 : Int32) (x2 : Int32) : ∃ res res2, f_X3_ofTrack σ x1 x2 = some res ∧ (∀ k, res = .inl k → k = 0 ∨ k = 1) ∧ f_X6_ofTrack τ x1 x2 = some res2 ∧ INVX σ res2.2 ∧ TN C2 σ res res2 := by
  obtain ⟨⟨k, hb, hw, hu⟩, hx⟩ := hV
  obtain ⟨res2, e2, r2⟩ := ok_X6_ofTrack hb hw hu x1 x2
  obtain ⟨res, e1, q⟩ := ag_ofTrack hx x1 x2 res2 e2
  exact ⟨res, res2, e1, fun k9 h9 => ks_C2 (q.1 k9 h9).2.2, e2, ⟨⟨k, r2⟩, tn_aft q⟩, q⟩
theorem sx_has {σ : CS} {τ : MS} (hV : INVX σ τ) (x1 : Int32) (x2 : Int32) : ∃ res res2, f_X3_has σ x1 x2 = some res ∧ (∀ k, res = .inl k → k = 0 ∨ k = 1) ∧ f_X6_has τ x1 x2 = some res2 ∧ INVX σ res2.2 ∧ TN C2 σ res res2 := by
  obtain ⟨⟨k, hb, hw, hu⟩, hx⟩ := hV
  obtain ⟨res2, e2, r2⟩ := ok_X6_has hb hw hu x1 x2
  obtain ⟨res, e1, q⟩ := ag_has hx x1 x2 res2 e2
  exact ⟨res, res2, e1, fun k9 h9 => ks_C2 (q.1 k9 h9).2.2, e2, ⟨⟨k, r2⟩, tn_aft q⟩, q⟩
theorem sx_nested {σ : CS} {τ : MS} (hV : INVX σ τ) (x1 : Int32) : ∃ res res2, f_X3_nested σ x1 = some res ∧ (∀ k, res = .inl k → k = 0) ∧ f_X6_nested τ x1 = some res2 ∧ INVX (aftM σ res) res2.2 ∧ TQ C1 σ res res2 := by
  obtain ⟨⟨k, hb, hw, hu⟩, hx⟩ := hV
  obtain ⟨res2, e2, r2⟩ := ok_X6_nested hb hw hu x1
  obtain ⟨res, e1, q⟩ := ag_nested hx x1 res2 e2
  exact ⟨res, res2, e1, fun k9 h9 => ks_C1 (q.1 k9 h9).2.2, e2, ⟨⟨k, r2⟩, tq_aft q⟩, q⟩
theorem sx_heaviest {σ : CS} {τ : MS} (hV : INVX σ τ) (x1 : Int32) (x2 : Int32) (x3 : Int32) : ∃ res res2, f_X3_heaviest σ x1 x2 x3 = some res ∧ (∀ k, res = .inl k → k = 0 ∨ k = 1) ∧ f_X6_heaviest τ x1 x2 x3 = some res2 ∧ INVX σ res2.2 ∧ TN C2 σ res res2 := by
  obtain ⟨⟨k, hb, hw, hu⟩, hx⟩ := hV
  obtain ⟨res2, e2, r2⟩ := ok_X6_heaviest hb hw hu x1 x2 x3
  obtain ⟨res, e1, q⟩ := ag_heaviest hx x1 x2 x3 res2 e2
  exact ⟨res, res2, e1, fun k9 h9 => ks_C2 (q.1 k9 h9).2.2, e2, ⟨⟨k, r2⟩, tn_aft q⟩, q⟩
theorem sx_ahead {σ : CS} {τ : MS} (hV : INVX σ τ) (x1 : Int32) (x2 : Int32) : ∃ res res2, f_X3_ahead σ x1 x2 = some res ∧ (∀ k, res = .inl k → k = 0) ∧ f_X6_ahead τ x1 x2 = some res2 ∧ INVX σ res2.2 ∧ TN C1 σ res res2 := by
  obtain ⟨⟨k, hb, hw, hu⟩, hx⟩ := hV
  obtain ⟨res2, e2, r2⟩ := ok_X6_ahead hb hw hu x1 x2
  obtain ⟨res, e1, q⟩ := ag_ahead hx x1 x2 res2 e2
  exact ⟨res, res2, e1, fun k9 h9 => ks_C1 (q.1 k9 h9).2.2, e2, ⟨⟨k, r2⟩, tn_aft q⟩, q⟩
theorem sx_yard {σ : CS} {τ : MS} (hV : INVX σ τ) (x1 : Int32) : ∃ res res2, f_X3_yard σ x1 = some res ∧ (∀ k, res = .inl k → k = 1) ∧ f_X6_yard τ x1 = some res2 ∧ INVX σ res2.2 ∧ TN C11 σ res res2 := by
  obtain ⟨⟨k, hb, hw, hu⟩, hx⟩ := hV
  obtain ⟨res2, e2, r2⟩ := ok_X6_yard hb hw hu x1
  obtain ⟨res, e1, q⟩ := ag_yard hx x1 res2 e2
  exact ⟨res, res2, e1, fun k9 h9 => ks_C11 (q.1 k9 h9).2.2, e2, ⟨⟨k, r2⟩, tn_aft q⟩, q⟩
theorem sx_undo {σ : CS} {τ : MS} (hV : INVX σ τ) : ∃ res res2, f_X3_undo σ = some res ∧ f_X6_undo τ = some res2 ∧ INVX res.2 res2.2 ∧ res2.1 = res.1 := by
  obtain ⟨⟨k, hb, hw, hu⟩, hx⟩ := hV
  obtain ⟨res2, e2, r2⟩ := ok_X6_undo hb hw hu
  obtain ⟨res, e1, q⟩ := ag_undo hx hu res2 e2
  exact ⟨res, res2, e1, e2, ⟨⟨k, r2⟩, q.2⟩, q.1.symm⟩
theorem sx_purge {σ : CS} {τ : MS} (hV : INVX σ τ) (x1 : Int32) (q1 : x1 = 0 ∨ x1 = 1) : ∃ res res2, f_X3_purge σ x1 = some res ∧ f_X6_purge τ x1 = some res2 ∧ INVX res.2 res2.2 ∧ res2.1 = res.1 := by
  obtain ⟨⟨k, hb, hw, hu⟩, hx⟩ := hV
  obtain ⟨res2, e2, r2⟩ := ok_X6_purge hb hw hu x1
  obtain ⟨res, e1, q⟩ := ag_purge hx q1 res2 e2
  exact ⟨res, res2, e1, e2, ⟨⟨k, r2⟩, q.2⟩, q.1.symm⟩
theorem sx_walk {σ : CS} {τ : MS} (hV : INVX σ τ) (x1 : Int32) (q1 : x1 = 0 ∨ x1 = 1) : ∃ res res2, f_X3_walk σ x1 = some res ∧ f_X6_walk τ x1 = some res2 ∧ INVX res.2 res2.2 ∧ res2.1 = res.1 := by
  obtain ⟨⟨k, hb, hw, hu⟩, hx⟩ := hV
  obtain ⟨res2, e2, r2⟩ := ok_X6_walk hb hw hu x1
  obtain ⟨res, e1, q⟩ := ag_walk hx x1 q1 res2 e2
  exact ⟨res, res2, e1, e2, ⟨⟨k, r2⟩, q.2⟩, q.1.symm⟩
theorem sx_knock {σ : CS} {τ : MS} (hV : INVX σ τ) : ∃ res res2, f_X3_knock σ = some res ∧ f_X6_knock τ = some res2 ∧ INVX res.2 res2.2 ∧ res2.1 = res.1 := by
  obtain ⟨⟨k, hb, hw, hu⟩, hx⟩ := hV
  obtain ⟨res2, e2, r2⟩ := ok_X6_knock hb hw hu
  obtain ⟨res, e1, q⟩ := ag_knock hx res2 e2
  exact ⟨res, res2, e1, e2, ⟨⟨k + 1, r2.2⟩, q.2⟩, q.1.symm⟩
theorem sx_compare {σ : CS} {τ : MS} (hV : INVX σ τ) (x1 : Int32) (q1 : x1 = 0 ∨ x1 = 1) : ∃ res res2, f_X3_compare σ x1 = some res ∧ f_X6_compare τ x1 = some res2 ∧ INVX σ res2.2 ∧ res2.1 = res := by
  obtain ⟨⟨k, hb, hw, hu⟩, hx⟩ := hV
  obtain ⟨res2, e2, r2⟩ := ok_X6_compare hb hw hu x1
  obtain ⟨res, e1, q⟩ := ag_compare hx x1 res2 e2
  exact ⟨res, res2, e1, e2, ⟨⟨k, r2⟩, q.2.1⟩, q.1.symm⟩
theorem rx_th0 {σ : CS} {τ : MS} (h : RX σ τ) : RX σ (τ.1, va_up τ.2 0 0) := h.thr 0
theorem sx_isSound {σ : CS} {τ : MS} (hV : INVX σ τ) : ∃ res, f_X3_isSound σ = some res ∧ (∀ k, k < 2 → (τ.1 k).length ≤ 20) ∧ (τ.1 2).length ≤ 12 ∧ (∀ j, j < (τ.1 2).length → ∃ v, v < 8000 ∧ (τ.1 2).getD j 0 = nI v) ∧ INVX res.2 (τ.1, va_up τ.2 0 0) ∧ WHO (τ.1, va_up τ.2 0 0) ∧ res.1 = ub (unR (svN (τ.1 2)) (τ.1 2).length τ.1) := by
  obtain ⟨⟨k, hb, hw, hu⟩, hx⟩ := hV
  obtain ⟨res, e1, q⟩ := cl_sound hx hw hb.slv
  have hw1 : WK (τ.1, va_up τ.2 0 0) := hw.sc (by omega)
  exact ⟨res, e1, hb.len2, hb.len12, hb.slv, ⟨⟨k, hb.sc (by omega), hw1, hu⟩, (sr_sound SR.rf res e1).rx (rx_th0 hx)⟩, who_of (rx_th0 hx) hw1, q⟩
theorem sx_digest {σ : CS} {τ : MS} (hV : INVX σ τ) : ∃ res, f_X3_digest σ = some res ∧ DV (τ.1, va_up τ.2 0 0) (ttV (τ.1, va_up τ.2 0 0)) (akV (τ.1, va_up τ.2 0 0)) (neV (τ.1, va_up τ.2 0 0)) (foV (τ.1, va_up τ.2 0 0)) (whV (τ.1, va_up τ.2 0 0)) (yaV (τ.1, va_up τ.2 0 0)) (coV (τ.1, va_up τ.2 0 0)) ∧ (∀ k, k < 2 → (τ.1 k).length ≤ 20) ∧ (∀ t, t < 2 → ∀ j, j < (τ.1 t).length → ∃ v, v < 1000 ∧ (τ.1 t).getD j 0 = nI v) ∧ (τ.1 2).length ≤ 12 ∧ (τ.1 3).length ≤ 32 ∧ (∀ j, j < (τ.1 2).length → ∃ v, v < 8000 ∧ (τ.1 2).getD j 0 = nI v) ∧ INVX res.2 (τ.1, va_up τ.2 0 0) ∧ WHO (τ.1, va_up τ.2 0 0) ∧ res.1 = dgA (ttV (τ.1, va_up τ.2 0 0)) (akV (τ.1, va_up τ.2 0 0)) (neV (τ.1, va_up τ.2 0 0)) (foV (τ.1, va_up τ.2 0 0)) (whV (τ.1, va_up τ.2 0 0)) (fun w => (va_up τ.2 0 0) (5 + 3 * w)) (yaV (τ.1, va_up τ.2 0 0)) (coV (τ.1, va_up τ.2 0 0)) τ.1 (ub (unR (svN (τ.1 2)) (τ.1 2).length τ.1)) := by
  obtain ⟨⟨k, hb, hw, hu⟩, hx⟩ := hV
  have b1 : IB k (τ.1, va_up τ.2 0 0) := hb.sc (by omega)
  have w1 : WK (τ.1, va_up τ.2 0 0) := hw.sc (by omega)
  have hD : DH (τ.1, va_up τ.2 0 0) := dh_of b1 w1 hu
  obtain ⟨res, e1, q⟩ := cl_digestV (τ := (τ.1, va_up τ.2 0 0)) (rx_th0 hx) w1 hD hb.slv
  exact ⟨res, e1, dv_of (rx_th0 hx) hD, hb.len2, hb.cdv, hb.len12, Nat.le_trans (hb.l (i := 3) (by omega)).1 (by decide), hb.slv, ⟨⟨k, b1, w1, hu⟩, (sr_digest res e1).rx (rx_th0 hx)⟩, who_of (rx_th0 hx) w1, q⟩
theorem st_thr {σ : CS} {τ : MS} (h : RX σ τ) {x1 zn : Int32} {r : Int32 × MS} (e1 : f_X6_isNoTrack x1 = some zn) (e2 : f_X6_start τ zn 1 = some r) : RX σ r.2 := by
  rw [mo_noTrack] at e1
  cases e1
  by_cases c : x1 = 0 ∨ x1 = 1
  · rw [if_pos c, mo_st0 rfl] at e2
    cases e2
    exact h.thr 0
  · rw [if_neg c, mo_st1 ne10 (by decide)] at e2
    cases e2
    exact h.thr 1
/-- whatever a track is asked for is a code -/
theorem rd_any {σ : CS} {τ : MS} (h : RX σ τ) {i : Nat} (hi : i < 2) (p : Int32) : ∃ v, v < 1000 ∧ f_X0_read (cap i) (σ.1 i) p = some (nI v) := by
  have hr := h.row (i := i) (by omega)
  have hl := hr.len
  by_cases c : p < 0 ∨ nI (τ.1 i).length ≤ p
  · exact ⟨0, by omega, rw_read0 hr c⟩
  · have c0 : 0 ≤ p := Int32.not_lt.mp fun q => c (Or.inl q)
    have c1 : p < nI (τ.1 i).length := Int32.not_le.mp fun q => c (Or.inr q)
    obtain ⟨j, hj, rfl⟩ := nIof (b := (τ.1 i).length) (by omega) c0 (Int32.le_of_lt c1)
    have c2 := (nI_lti (by omega) (by omega)).mp c1
    have tv := h.1.2.2.2.tv hi (mem_getD c2)
    obtain ⟨v, hv, e⟩ := nIof (b := 999) (by omega) tv.1.rng.1 tv.1.rng.2
    exact ⟨v, by omega, by rw [rw_read hr c2, e]⟩
theorem rdf_any {σ : CS} {τ : MS} (h : RX σ τ) {i : Nat} (hi : i < 2) (x2 p : Int32) : ∃ v, v < 1000 ∧ f_X0_readFrom (cap i) (σ.1 i) x2 p = some (nI v) := by
  unfold f_X0_readFrom
  by_cases c : x2 = 0
  · obtain ⟨v, hv, e⟩ := rd_any h hi p
    exact ⟨v, hv, by rw [if_pos c]; unfold f_X0_readFrom_17; rw [e]; rfl⟩
  · obtain ⟨v, hv, e⟩ := rd_any h hi (((σ.1 i).2 - 1) - p)
    exact ⟨v, hv, by rw [if_neg c]; unfold f_X0_readFrom_17; rw [e]; rfl⟩
theorem sx_text {σ : CS} {τ : MS} (hV : INVX σ τ) (x1 x2 : Int32) (q2 : x2 = 0 ∨ x2 = 1) : (∀ i, i < 2 → ∃ k, k ≤ 20 ∧ (σ.1 i).2 = nI k) ∧ (∀ i, i < 2 → ∀ u p, ∃ v, v < 1000 ∧ f_X0_readFrom (cap i) (σ.1 i) u p = some (nI v)) ∧ (∀ k, f_X3_needTrack x1 = some (.inl k) → k = 0) ∧ ∃ zn res2, f_X6_isNoTrack x1 = some zn ∧ f_X6_start τ zn 1 = some res2 ∧ (res2.1 = 0 → ∃ t, gtr x1 = some t ∧ (res2.2.1 t).length ≤ 20 ∧ ∀ j, j < (res2.2.1 t).length → ∃ v, v < 1000 ∧ (res2.2.1 t).getD j 0 = nI v) ∧ INVX σ res2.2 := by
  obtain ⟨⟨k, hb, hw, hu⟩, hx⟩ := hV
  obtain ⟨zn, e1, r1⟩ := ok_X6_isNoTrack x1
  obtain ⟨res2, e2, ⟨⟨h1, h2⟩, ⟨h3, h4⟩, b, w, u⟩⟩ := ok_X6_start hb hw hu zn 1 (by decide)
  refine ⟨fun i hi => ⟨(τ.1 i).length, (hx.row (i := i) (by omega)).len, (hx.row (i := i) (by omega)).1⟩, fun i hi u p => rdf_any hx hi u p, fun k9 h9 => ?_, zn, res2, e1, e2, fun h => ?_, ⟨k, b, w, u⟩, st_thr hx e1 e2⟩
  · by_cases c : x1 = 0 ∨ x1 = 1
    · rw [cl_track c] at h9
      cases h9
    · rw [cl_notrack c] at h9
      cases h9
      rfl
  · have p := r1 (h2 h).1
    have ht : ∃ t, t < 2 ∧ gtr x1 = some t := by
      rcases p with p | p <;> subst p
      · exact ⟨0, by omega, rfl⟩
      · exact ⟨1, by omega, rfl⟩
    obtain ⟨t, ht, hg⟩ := ht
    exact ⟨t, hg, b.len2 t ht, b.cdv t ht⟩
end
section
/-! the law's bytes, and what they mean -/
def by8 (A : ByteArray) (p : Nat) (b : UInt8) : Prop := ∃ h : p < A.size, A[p] = b
theorem u1_at {A : ByteArray} {p : Nat} {b : UInt8} (h : by8 A p b) : (Reader.u1 : Decoder Nat).runAt A p = .ok (b.toNat, p + 1) := by
  obtain ⟨h1, h2⟩ := h
  have e : (Reader.u1 : Decoder Nat).runAt A p = (if h : p < A.size then (do set (p + 1); pure (A[p].toNat) : Decoder Nat) else throw (HasTruncated.truncated p)).runAt A p := rfl
  rw [e, dif_pos h1, h2]
  rfl
theorem run_b {α β : Type} (r : Decoder α) (f : α → Decoder β) (A : ByteArray) (p : Nat) {a : α} {q : Nat} (h : r.runAt A p = .ok (a, q)) : (r >>= f).runAt A p = (f a).runAt A q := by
  have e : (r >>= f).runAt A p = Except.bind (r.runAt A p) (fun x => (f x.1).runAt A x.2) := rfl
  rw [e, h]
  rfl
theorem u2_at {A : ByteArray} {p : Nat} {b c : UInt8} (h : by8 A p b) (h2 : by8 A (p + 1) c) : (Reader.u2 : Decoder Nat).runAt A p = .ok (b.toNat * 256 + c.toNat, p + 2) := by
  unfold Reader.u2
  rw [run_b _ _ _ _ (u1_at h), run_b _ _ _ _ (u1_at h2)]
  rfl
theorem run_m {α β : Type} (r : Decoder α) (f : α → β) (A : ByteArray) (p : Nat) {a : α} {q : Nat} (h : r.runAt A p = .ok (a, q)) : (f <$> r).runAt A p = .ok (f a, q) := by
  have e : (f <$> r).runAt A p = Except.bind (r.runAt A p) (fun x => Except.ok (f x.1, x.2)) := rfl
  rw [e, h]
  rfl
theorem s2_at {A : ByteArray} {p : Nat} {b c : UInt8} (h : by8 A p b) (h2 : by8 A (p + 1) c) : (Reader.s2 : Decoder Int).runAt A p = .ok (Reader.signed 16 (b.toNat * 256 + c.toNat), p + 2) := run_m _ _ _ _ (u2_at h h2)
theorem s1_at {A : ByteArray} {p : Nat} {b : UInt8} (h : by8 A p b) : (Reader.s1 : Decoder Int).runAt A p = .ok (Reader.signed 8 b.toNat, p + 1) := run_m _ _ _ _ (u1_at h)
theorem dec_i {A : ByteArray} {p n : Nat} {i : Instr} (h : (Decoder.instr p).runAt A p = .ok (i, p + n)) : decode A p = .ok (i, n) := by
  unfold decode
  rw [h]
  show Except.ok (i, p + n - p) = _
  rw [Nat.add_sub_cancel_left]
section DEC
variable {A : ByteArray} {p : Nat}
theorem dec_187 {b c : UInt8} {x : Nat} (h : by8 A p 187) (h1 : by8 A (p + 1) b) (h2 : by8 A (p + 2) c) (hx : b.toNat * 256 + c.toNat = x) : decode A p = .ok (.new x, 3) := dec_i (by
  subst hx
  unfold Decoder.instr
  rw [run_b _ _ _ _ (u1_at h)]
  show (Reader.u2 >>= fun x => pure (Instr.new x)).runAt A (p + 1) = _
  rw [run_b _ _ _ _ (u2_at h1 h2)]
  rfl)
theorem dec_89 (h : by8 A p 89) : decode A p = .ok (.dup, 1) := dec_i (by
  unfold Decoder.instr
  rw [run_b _ _ _ _ (u1_at h)]
  rfl)
theorem dec_183 {b c : UInt8} {x : Nat} (h : by8 A p 183) (h1 : by8 A (p + 1) b) (h2 : by8 A (p + 2) c) (hx : b.toNat * 256 + c.toNat = x) : decode A p = .ok (.invokespecial x, 3) := dec_i (by
  subst hx
  unfold Decoder.instr
  rw [run_b _ _ _ _ (u1_at h)]
  show (Reader.u2 >>= fun x => pure (Instr.invokespecial x)).runAt A (p + 1) = _
  rw [run_b _ _ _ _ (u2_at h1 h2)]
  rfl)
theorem dec_76 (h : by8 A p 76) : decode A p = .ok (.astore_n 1, 1) := dec_i (by
  unfold Decoder.instr
  rw [run_b _ _ _ _ (u1_at h)]
  rfl)
theorem dec_77 (h : by8 A p 77) : decode A p = .ok (.astore_n 2, 1) := dec_i (by
  unfold Decoder.instr
  rw [run_b _ _ _ _ (u1_at h)]
  rfl)
theorem dec_78 (h : by8 A p 78) : decode A p = .ok (.astore_n 3, 1) := dec_i (by
  unfold Decoder.instr
  rw [run_b _ _ _ _ (u1_at h)]
  rfl)
theorem dec_3 (h : by8 A p 3) : decode A p = .ok (.iconst 0, 1) := dec_i (by
  unfold Decoder.instr
  rw [run_b _ _ _ _ (u1_at h)]
  rfl)
theorem dec_54 {b : UInt8} {x : Nat} (h : by8 A p 54) (h1 : by8 A (p + 1) b) (hx : b.toNat = x) : decode A p = .ok (.istore x, 2) := dec_i (by
  subst hx
  unfold Decoder.instr
  rw [run_b _ _ _ _ (u1_at h)]
  show (Reader.u1 >>= fun x => pure (Instr.istore x)).runAt A (p + 1) = _
  rw [run_b _ _ _ _ (u1_at h1)]
  rfl)
theorem dec_21 {b : UInt8} {x : Nat} (h : by8 A p 21) (h1 : by8 A (p + 1) b) (hx : b.toNat = x) : decode A p = .ok (.iload x, 2) := dec_i (by
  subst hx
  unfold Decoder.instr
  rw [run_b _ _ _ _ (u1_at h)]
  show (Reader.u1 >>= fun x => pure (Instr.iload x)).runAt A (p + 1) = _
  rw [run_b _ _ _ _ (u1_at h1)]
  rfl)
theorem dec_42 (h : by8 A p 42) : decode A p = .ok (.aload_n 0, 1) := dec_i (by
  unfold Decoder.instr
  rw [run_b _ _ _ _ (u1_at h)]
  rfl)
theorem dec_190 (h : by8 A p 190) : decode A p = .ok (.arraylength, 1) := dec_i (by
  unfold Decoder.instr
  rw [run_b _ _ _ _ (u1_at h)]
  rfl)
theorem dec_8 (h : by8 A p 8) : decode A p = .ok (.iconst 5, 1) := dec_i (by
  unfold Decoder.instr
  rw [run_b _ _ _ _ (u1_at h)]
  rfl)
theorem dec_100 (h : by8 A p 100) : decode A p = .ok (.isub, 1) := dec_i (by
  unfold Decoder.instr
  rw [run_b _ _ _ _ (u1_at h)]
  rfl)
theorem dec_163 {b c : UInt8} {x : Int} (h : by8 A p 163) (h1 : by8 A (p + 1) b) (h2 : by8 A (p + 2) c) (hx : Reader.signed 16 (b.toNat * 256 + c.toNat) = x) : decode A p = .ok (.if_icmp .gt x, 3) := dec_i (by
  subst hx
  unfold Decoder.instr
  rw [run_b _ _ _ _ (u1_at h)]
  show (Reader.s2 >>= fun x => pure (Instr.if_icmp .gt x)).runAt A (p + 1) = _
  rw [run_b _ _ _ _ (s2_at h1 h2)]
  rfl)
theorem dec_46 (h : by8 A p 46) : decode A p = .ok (.iaload, 1) := dec_i (by
  unfold Decoder.instr
  rw [run_b _ _ _ _ (u1_at h)]
  rfl)
theorem dec_16 {b : UInt8} {x : Int} (h : by8 A p 16) (h1 : by8 A (p + 1) b) (hx : Reader.signed 8 b.toNat = x) : decode A p = .ok (.bipush x, 2) := dec_i (by
  subst hx
  unfold Decoder.instr
  rw [run_b _ _ _ _ (u1_at h)]
  show (Reader.s1 >>= fun x => pure (Instr.bipush x)).runAt A (p + 1) = _
  rw [run_b _ _ _ _ (s1_at h1)]
  rfl)
theorem dec_126 (h : by8 A p 126) : decode A p = .ok (.iand, 1) := dec_i (by
  unfold Decoder.instr
  rw [run_b _ _ _ _ (u1_at h)]
  rfl)
theorem dec_43 (h : by8 A p 43) : decode A p = .ok (.aload_n 1, 1) := dec_i (by
  unfold Decoder.instr
  rw [run_b _ _ _ _ (u1_at h)]
  rfl)
theorem dec_4 (h : by8 A p 4) : decode A p = .ok (.iconst 1, 1) := dec_i (by
  unfold Decoder.instr
  rw [run_b _ _ _ _ (u1_at h)]
  rfl)
theorem dec_96 (h : by8 A p 96) : decode A p = .ok (.iadd, 1) := dec_i (by
  unfold Decoder.instr
  rw [run_b _ _ _ _ (u1_at h)]
  rfl)
theorem dec_5 (h : by8 A p 5) : decode A p = .ok (.iconst 2, 1) := dec_i (by
  unfold Decoder.instr
  rw [run_b _ _ _ _ (u1_at h)]
  rfl)
theorem dec_153 {b c : UInt8} {x : Int} (h : by8 A p 153) (h1 : by8 A (p + 1) b) (h2 : by8 A (p + 2) c) (hx : Reader.signed 16 (b.toNat * 256 + c.toNat) = x) : decode A p = .ok (.ifCond .eq x, 3) := dec_i (by
  subst hx
  unfold Decoder.instr
  rw [run_b _ _ _ _ (u1_at h)]
  show (Reader.s2 >>= fun x => pure (Instr.ifCond .eq x)).runAt A (p + 1) = _
  rw [run_b _ _ _ _ (s2_at h1 h2)]
  rfl)
theorem dec_167 {b c : UInt8} {x : Int} (h : by8 A p 167) (h1 : by8 A (p + 1) b) (h2 : by8 A (p + 2) c) (hx : Reader.signed 16 (b.toNat * 256 + c.toNat) = x) : decode A p = .ok (.goto x, 3) := dec_i (by
  subst hx
  unfold Decoder.instr
  rw [run_b _ _ _ _ (u1_at h)]
  show (Reader.s2 >>= fun x => pure (Instr.goto x)).runAt A (p + 1) = _
  rw [run_b _ _ _ _ (s2_at h1 h2)]
  rfl)
theorem dec_6 (h : by8 A p 6) : decode A p = .ok (.iconst 3, 1) := dec_i (by
  unfold Decoder.instr
  rw [run_b _ _ _ _ (u1_at h)]
  rfl)
theorem dec_7 (h : by8 A p 7) : decode A p = .ok (.iconst 4, 1) := dec_i (by
  unfold Decoder.instr
  rw [run_b _ _ _ _ (u1_at h)]
  rfl)
theorem dec_45 (h : by8 A p 45) : decode A p = .ok (.aload_n 3, 1) := dec_i (by
  unfold Decoder.instr
  rw [run_b _ _ _ _ (u1_at h)]
  rfl)
theorem dec_184 {b c : UInt8} {x : Nat} (h : by8 A p 184) (h1 : by8 A (p + 1) b) (h2 : by8 A (p + 2) c) (hx : b.toNat * 256 + c.toNat = x) : decode A p = .ok (.invokestatic x, 3) := dec_i (by
  subst hx
  unfold Decoder.instr
  rw [run_b _ _ _ _ (u1_at h)]
  show (Reader.u2 >>= fun x => pure (Instr.invokestatic x)).runAt A (p + 1) = _
  rw [run_b _ _ _ _ (u2_at h1 h2)]
  rfl)
theorem dec_44 (h : by8 A p 44) : decode A p = .ok (.aload_n 2, 1) := dec_i (by
  unfold Decoder.instr
  rw [run_b _ _ _ _ (u1_at h)]
  rfl)
theorem dec_182 {b c : UInt8} {x : Nat} (h : by8 A p 182) (h1 : by8 A (p + 1) b) (h2 : by8 A (p + 2) c) (hx : b.toNat * 256 + c.toNat = x) : decode A p = .ok (.invokevirtual x, 3) := dec_i (by
  subst hx
  unfold Decoder.instr
  rw [run_b _ _ _ _ (u1_at h)]
  show (Reader.u2 >>= fun x => pure (Instr.invokevirtual x)).runAt A (p + 1) = _
  rw [run_b _ _ _ _ (u2_at h1 h2)]
  rfl)
theorem dec_87 (h : by8 A p 87) : decode A p = .ok (.pop, 1) := dec_i (by
  unfold Decoder.instr
  rw [run_b _ _ _ _ (u1_at h)]
  rfl)
theorem dec_159 {b c : UInt8} {x : Int} (h : by8 A p 159) (h1 : by8 A (p + 1) b) (h2 : by8 A (p + 2) c) (hx : Reader.signed 16 (b.toNat * 256 + c.toNat) = x) : decode A p = .ok (.if_icmp .eq x, 3) := dec_i (by
  subst hx
  unfold Decoder.instr
  rw [run_b _ _ _ _ (u1_at h)]
  show (Reader.s2 >>= fun x => pure (Instr.if_icmp .eq x)).runAt A (p + 1) = _
  rw [run_b _ _ _ _ (s2_at h1 h2)]
  rfl)
theorem dec_172 (h : by8 A p 172) : decode A p = .ok (.ireturn, 1) := dec_i (by
  unfold Decoder.instr
  rw [run_b _ _ _ _ (u1_at h)]
  rfl)
theorem dec_154 {b c : UInt8} {x : Int} (h : by8 A p 154) (h1 : by8 A (p + 1) b) (h2 : by8 A (p + 2) c) (hx : Reader.signed 16 (b.toNat * 256 + c.toNat) = x) : decode A p = .ok (.ifCond .ne x, 3) := dec_i (by
  subst hx
  unfold Decoder.instr
  rw [run_b _ _ _ _ (u1_at h)]
  show (Reader.s2 >>= fun x => pure (Instr.ifCond .ne x)).runAt A (p + 1) = _
  rw [run_b _ _ _ _ (s2_at h1 h2)]
  rfl)
theorem dec_180 {b c : UInt8} {x : Nat} (h : by8 A p 180) (h1 : by8 A (p + 1) b) (h2 : by8 A (p + 2) c) (hx : b.toNat * 256 + c.toNat = x) : decode A p = .ok (.getfield x, 3) := dec_i (by
  subst hx
  unfold Decoder.instr
  rw [run_b _ _ _ _ (u1_at h)]
  show (Reader.u2 >>= fun x => pure (Instr.getfield x)).runAt A (p + 1) = _
  rw [run_b _ _ _ _ (u2_at h1 h2)]
  rfl)
theorem dec_133 (h : by8 A p 133) : decode A p = .ok (.i2l, 1) := dec_i (by
  unfold Decoder.instr
  rw [run_b _ _ _ _ (u1_at h)]
  rfl)
theorem dec_148 (h : by8 A p 148) : decode A p = .ok (.lcmp, 1) := dec_i (by
  unfold Decoder.instr
  rw [run_b _ _ _ _ (u1_at h)]
  rfl)
theorem dec_58 {b : UInt8} {x : Nat} (h : by8 A p 58) (h1 : by8 A (p + 1) b) (hx : b.toNat = x) : decode A p = .ok (.astore x, 2) := dec_i (by
  subst hx
  unfold Decoder.instr
  rw [run_b _ _ _ _ (u1_at h)]
  show (Reader.u1 >>= fun x => pure (Instr.astore x)).runAt A (p + 1) = _
  rw [run_b _ _ _ _ (u1_at h1)]
  rfl)
theorem dec_88 (h : by8 A p 88) : decode A p = .ok (.pop2, 1) := dec_i (by
  unfold Decoder.instr
  rw [run_b _ _ _ _ (u1_at h)]
  rfl)
end DEC
def lwc_0 : List UInt8 := [0xbb, 0x00, 0x08, 0x59, 0xb7, 0x00, 0xa7, 0x4c, 0xbb, 0x00, 0xa8, 0x59, 0xb7, 0x00, 0xaa, 0x4d, 0xbb, 0x00, 0x0e, 0x59, 0xb7, 0x00, 0xab, 0x4e, 0x03, 0x36, 0x04, 0x15, 0x04, 0x2a, 0xbe, 0x08, 0x64, 0xa3, 0x09, 0x19, 0x2a, 0x15, 0x04, 0x2e, 0x10, 0x3f, 0x7e, 0xaa, 0x00, 0x00, 0x09, 0x09, 0x00, 0x00, 0x00, 0x00, 0x00, 0x00, 0x00, 0x31, 0x00, 0x00, 0x00, 0xd5, 0x00, 0x00, 0x01, 0x25]
def lwc_1 : List UInt8 := [0x00, 0x00, 0x01, 0x75, 0x00, 0x00, 0x01, 0xa9, 0x00, 0x00, 0x01, 0xdd, 0x00, 0x00, 0x02, 0x1d, 0x00, 0x00, 0x02, 0x55, 0x00, 0x00, 0x02, 0x8d, 0x00, 0x00, 0x02, 0xa9, 0x00, 0x00, 0x02, 0xe1, 0x00, 0x00, 0x03, 0x09, 0x00, 0x00, 0x03, 0x16, 0x00, 0x00, 0x03, 0x5a, 0x00, 0x00, 0x03, 0x82, 0x00, 0x00, 0x03, 0xd2, 0x00, 0x00, 0x04, 0x16, 0x00, 0x00, 0x04, 0x32, 0x00, 0x00, 0x04, 0x4e]
def lwc_2 : List UInt8 := [0x00, 0x00, 0x04, 0x77, 0x00, 0x00, 0x04, 0xa0, 0x00, 0x00, 0x04, 0xb0, 0x00, 0x00, 0x04, 0xc0, 0x00, 0x00, 0x04, 0xf4, 0x00, 0x00, 0x05, 0x2d, 0x00, 0x00, 0x05, 0x61, 0x00, 0x00, 0x05, 0x7d, 0x00, 0x00, 0x05, 0xb5, 0x00, 0x00, 0x05, 0xd1, 0x00, 0x00, 0x05, 0xf9, 0x00, 0x00, 0x06, 0x21, 0x00, 0x00, 0x06, 0x3d, 0x00, 0x00, 0x06, 0x59, 0x00, 0x00, 0x06, 0x75, 0x00, 0x00, 0x06, 0xa9]
def lwc_3 : List UInt8 := [0x00, 0x00, 0x06, 0xdd, 0x00, 0x00, 0x07, 0x05, 0x00, 0x00, 0x07, 0x21, 0x00, 0x00, 0x07, 0x3d, 0x00, 0x00, 0x07, 0x75, 0x00, 0x00, 0x07, 0x9d, 0x00, 0x00, 0x07, 0xc5, 0x00, 0x00, 0x07, 0xed, 0x00, 0x00, 0x08, 0x16, 0x00, 0x00, 0x08, 0x4e, 0x00, 0x00, 0x08, 0x6a, 0x00, 0x00, 0x08, 0x9e, 0x00, 0x00, 0x08, 0xc6, 0x00, 0x00, 0x08, 0xe2, 0x00, 0x00, 0x08, 0xef, 0x00, 0x00, 0x08, 0xfc]
def lwc_4 : List UInt8 := [0x2b, 0x2a, 0x15, 0x04, 0x04, 0x60, 0x2e, 0x2a, 0x15, 0x04, 0x05, 0x60, 0x2e, 0x99, 0x00, 0x07, 0x04, 0xa7, 0x00, 0x04, 0x03, 0x2a, 0x15, 0x04, 0x06, 0x60, 0x2e, 0x2a, 0x15, 0x04, 0x07, 0x60, 0x2e, 0x2d, 0xb8, 0x00, 0xac, 0x36, 0x05, 0x2c, 0x2a, 0x15, 0x04, 0x04, 0x60, 0x2e, 0x2a, 0x15, 0x04, 0x05, 0x60, 0x2e, 0x99, 0x00, 0x07, 0x04, 0xa7, 0x00, 0x04, 0x03, 0x2a, 0x15, 0x04, 0x06]
def lwc_5 : List UInt8 := [0x60, 0x2e, 0x2a, 0x15, 0x04, 0x07, 0x60, 0x2e, 0xb6, 0x00, 0xb1, 0x36, 0x06, 0xa7, 0x07, 0xe7, 0x2b, 0x2a, 0x15, 0x04, 0x04, 0x60, 0x2e, 0x2a, 0x15, 0x04, 0x05, 0x60, 0x2e, 0x99, 0x00, 0x07, 0x04, 0xa7, 0x00, 0x04, 0x03, 0x2a, 0x15, 0x04, 0x06, 0x60, 0x2e, 0x2a, 0x15, 0x04, 0x07, 0x60, 0x2e, 0x2d, 0xb8, 0x00, 0xb2, 0x36, 0x05, 0x2c, 0x2a, 0x15, 0x04, 0x04, 0x60, 0x2e, 0x2a, 0x15]
def lwc_6 : List UInt8 := [0x04, 0x05, 0x60, 0x2e, 0x99, 0x00, 0x07, 0x04, 0xa7, 0x00, 0x04, 0x03, 0x2a, 0x15, 0x04, 0x06, 0x60, 0x2e, 0x2a, 0x15, 0x04, 0x07, 0x60, 0x2e, 0xb6, 0x00, 0xb4, 0x36, 0x06, 0xa7, 0x07, 0x97, 0x2b, 0x2a, 0x15, 0x04, 0x04, 0x60, 0x2e, 0x2a, 0x15, 0x04, 0x05, 0x60, 0x2e, 0x2a, 0x15, 0x04, 0x06, 0x60, 0x2e, 0x2d, 0xb8, 0x00, 0xb5, 0x36, 0x05, 0x2c, 0x2a, 0x15, 0x04, 0x04, 0x60, 0x2e]
def lwc_7 : List UInt8 := [0x2a, 0x15, 0x04, 0x05, 0x60, 0x2e, 0x2a, 0x15, 0x04, 0x06, 0x60, 0x2e, 0xb6, 0x00, 0xb8, 0x36, 0x06, 0xa7, 0x07, 0x63, 0x2b, 0x2a, 0x15, 0x04, 0x04, 0x60, 0x2e, 0x2a, 0x15, 0x04, 0x05, 0x60, 0x2e, 0x2a, 0x15, 0x04, 0x06, 0x60, 0x2e, 0x2d, 0xb8, 0x00, 0xb9, 0x36, 0x05, 0x2c, 0x2a, 0x15, 0x04, 0x04, 0x60, 0x2e, 0x2a, 0x15, 0x04, 0x05, 0x60, 0x2e, 0x2a, 0x15, 0x04, 0x06, 0x60, 0x2e]
def lwc_8 : List UInt8 := [0xb6, 0x00, 0xbb, 0x36, 0x06, 0xa7, 0x07, 0x2f, 0x2b, 0x2a, 0x15, 0x04, 0x04, 0x60, 0x2e, 0x2a, 0x15, 0x04, 0x05, 0x60, 0x2e, 0x2a, 0x15, 0x04, 0x06, 0x60, 0x2e, 0x2a, 0x15, 0x04, 0x07, 0x60, 0x2e, 0x2d, 0xb8, 0x00, 0xbc, 0x36, 0x05, 0x2c, 0x2a, 0x15, 0x04, 0x04, 0x60, 0x2e, 0x2a, 0x15, 0x04, 0x05, 0x60, 0x2e, 0x2a, 0x15, 0x04, 0x06, 0x60, 0x2e, 0x2a, 0x15, 0x04, 0x07, 0x60, 0x2e]
def lwc_9 : List UInt8 := [0xb6, 0x00, 0xbf, 0x36, 0x06, 0xa7, 0x06, 0xef, 0x2b, 0x2a, 0x15, 0x04, 0x04, 0x60, 0x2e, 0x2a, 0x15, 0x04, 0x05, 0x60, 0x2e, 0x99, 0x00, 0x07, 0x04, 0xa7, 0x00, 0x04, 0x03, 0x2d, 0xb8, 0x00, 0xc0, 0x36, 0x05, 0x2c, 0x2a, 0x15, 0x04, 0x04, 0x60, 0x2e, 0x2a, 0x15, 0x04, 0x05, 0x60, 0x2e, 0x99, 0x00, 0x07, 0x04, 0xa7, 0x00, 0x04, 0x03, 0xb6, 0x00, 0xc3, 0x36, 0x06, 0xa7, 0x06, 0xb7]
def lwc_10 : List UInt8 := [0x2b, 0x2a, 0x15, 0x04, 0x04, 0x60, 0x2e, 0x2a, 0x15, 0x04, 0x05, 0x60, 0x2e, 0x99, 0x00, 0x07, 0x04, 0xa7, 0x00, 0x04, 0x03, 0x2d, 0xb8, 0x00, 0xc4, 0x36, 0x05, 0x2c, 0x2a, 0x15, 0x04, 0x04, 0x60, 0x2e, 0x2a, 0x15, 0x04, 0x05, 0x60, 0x2e, 0x99, 0x00, 0x07, 0x04, 0xa7, 0x00, 0x04, 0x03, 0xb6, 0x00, 0xc6, 0x36, 0x06, 0xa7, 0x06, 0x7f, 0x2b, 0x2a, 0x15, 0x04, 0x04, 0x60, 0x2e, 0x2d]
def lwc_11 : List UInt8 := [0xb8, 0x00, 0xc7, 0x36, 0x05, 0x2c, 0x2a, 0x15, 0x04, 0x04, 0x60, 0x2e, 0xb6, 0x00, 0xca, 0x36, 0x06, 0xa7, 0x06, 0x63, 0x2b, 0x2a, 0x15, 0x04, 0x04, 0x60, 0x2e, 0x2a, 0x15, 0x04, 0x05, 0x60, 0x2e, 0x99, 0x00, 0x07, 0x04, 0xa7, 0x00, 0x04, 0x03, 0x2d, 0xb8, 0x00, 0xcb, 0x36, 0x05, 0x2c, 0x2a, 0x15, 0x04, 0x04, 0x60, 0x2e, 0x2a, 0x15, 0x04, 0x05, 0x60, 0x2e, 0x99, 0x00, 0x07, 0x04]
def lwc_12 : List UInt8 := [0xa7, 0x00, 0x04, 0x03, 0xb6, 0x00, 0xcd, 0x36, 0x06, 0xa7, 0x06, 0x2b, 0x2b, 0x2a, 0x15, 0x04, 0x04, 0x60, 0x2e, 0x2a, 0x15, 0x04, 0x05, 0x60, 0x2e, 0x2d, 0xb8, 0x00, 0xce, 0x36, 0x05, 0x2c, 0x2a, 0x15, 0x04, 0x04, 0x60, 0x2e, 0x2a, 0x15, 0x04, 0x05, 0x60, 0x2e, 0xb6, 0x00, 0xd1, 0x36, 0x06, 0xa7, 0x06, 0x03, 0x2b, 0xb6, 0x00, 0xd2, 0x57, 0x2c, 0xb6, 0x00, 0xd5, 0x57, 0xa7, 0x05]
def lwc_13 : List UInt8 := [0xf6, 0x2b, 0x2a, 0x15, 0x04, 0x04, 0x60, 0x2e, 0x2a, 0x15, 0x04, 0x05, 0x60, 0x2e, 0x2a, 0x15, 0x04, 0x06, 0x60, 0x2e, 0x99, 0x00, 0x07, 0x04, 0xa7, 0x00, 0x04, 0x03, 0x2d, 0xb8, 0x00, 0xd6, 0x36, 0x05, 0x2c, 0x2a, 0x15, 0x04, 0x04, 0x60, 0x2e, 0x2a, 0x15, 0x04, 0x05, 0x60, 0x2e, 0x2a, 0x15, 0x04, 0x06, 0x60, 0x2e, 0x99, 0x00, 0x07, 0x04, 0xa7, 0x00, 0x04, 0x03, 0xb6, 0x00, 0xd9]
def lwc_14 : List UInt8 := [0x36, 0x06, 0xa7, 0x05, 0xb2, 0x2b, 0x2a, 0x15, 0x04, 0x04, 0x60, 0x2e, 0x2a, 0x15, 0x04, 0x05, 0x60, 0x2e, 0x2d, 0xb8, 0x00, 0xda, 0x36, 0x05, 0x2c, 0x2a, 0x15, 0x04, 0x04, 0x60, 0x2e, 0x2a, 0x15, 0x04, 0x05, 0x60, 0x2e, 0xb6, 0x00, 0xdc, 0x36, 0x06, 0xa7, 0x05, 0x8a, 0x2b, 0x2a, 0x15, 0x04, 0x04, 0x60, 0x2e, 0x2a, 0x15, 0x04, 0x05, 0x60, 0x2e, 0x99, 0x00, 0x07, 0x04, 0xa7, 0x00]
def lwc_15 : List UInt8 := [0x04, 0x03, 0x2a, 0x15, 0x04, 0x06, 0x60, 0x2e, 0x2a, 0x15, 0x04, 0x07, 0x60, 0x2e, 0x2d, 0xb8, 0x00, 0xdd, 0x36, 0x05, 0x2c, 0x2a, 0x15, 0x04, 0x04, 0x60, 0x2e, 0x2a, 0x15, 0x04, 0x05, 0x60, 0x2e, 0x99, 0x00, 0x07, 0x04, 0xa7, 0x00, 0x04, 0x03, 0x2a, 0x15, 0x04, 0x06, 0x60, 0x2e, 0x2a, 0x15, 0x04, 0x07, 0x60, 0x2e, 0xb6, 0x00, 0xdf, 0x36, 0x06, 0xa7, 0x05, 0x3a, 0x2b, 0x2a, 0x15]
def lwc_16 : List UInt8 := [0x04, 0x04, 0x60, 0x2e, 0x2a, 0x15, 0x04, 0x05, 0x60, 0x2e, 0x99, 0x00, 0x07, 0x04, 0xa7, 0x00, 0x04, 0x03, 0x2a, 0x15, 0x04, 0x06, 0x60, 0x2e, 0x2d, 0xb8, 0x00, 0xe0, 0x36, 0x05, 0x2c, 0x2a, 0x15, 0x04, 0x04, 0x60, 0x2e, 0x2a, 0x15, 0x04, 0x05, 0x60, 0x2e, 0x99, 0x00, 0x07, 0x04, 0xa7, 0x00, 0x04, 0x03, 0x2a, 0x15, 0x04, 0x06, 0x60, 0x2e, 0xb6, 0x00, 0xe3, 0x36, 0x06, 0xa7, 0x04]
def lwc_17 : List UInt8 := [0xf6, 0x2b, 0x2a, 0x15, 0x04, 0x04, 0x60, 0x2e, 0x2d, 0xb8, 0x00, 0xe4, 0x36, 0x05, 0x2c, 0x2a, 0x15, 0x04, 0x04, 0x60, 0x2e, 0xb6, 0x00, 0xe6, 0x36, 0x06, 0xa7, 0x04, 0xda, 0x2b, 0x2a, 0x15, 0x04, 0x04, 0x60, 0x2e, 0x2d, 0xb8, 0x00, 0xe7, 0x36, 0x05, 0x2c, 0x2a, 0x15, 0x04, 0x04, 0x60, 0x2e, 0xb6, 0x00, 0xe9, 0x36, 0x06, 0xa7, 0x04, 0xbe, 0x2b, 0x2a, 0x15, 0x04, 0x04, 0x60, 0x2e]
def lwc_18 : List UInt8 := [0x99, 0x00, 0x07, 0x04, 0xa7, 0x00, 0x04, 0x03, 0xb6, 0x00, 0xea, 0x57, 0x2c, 0x2a, 0x15, 0x04, 0x04, 0x60, 0x2e, 0x99, 0x00, 0x07, 0x04, 0xa7, 0x00, 0x04, 0x03, 0xb6, 0x00, 0xee, 0x57, 0xa7, 0x04, 0x95, 0x2b, 0x2a, 0x15, 0x04, 0x04, 0x60, 0x2e, 0x99, 0x00, 0x07, 0x04, 0xa7, 0x00, 0x04, 0x03, 0xb6, 0x00, 0xef, 0x57, 0x2c, 0x2a, 0x15, 0x04, 0x04, 0x60, 0x2e, 0x99, 0x00, 0x07, 0x04]
def lwc_19 : List UInt8 := [0xa7, 0x00, 0x04, 0x03, 0xb6, 0x00, 0xf2, 0x57, 0xa7, 0x04, 0x6c, 0x2b, 0x2d, 0xb8, 0x00, 0xf3, 0x36, 0x05, 0x2c, 0xb6, 0x00, 0xf6, 0x36, 0x06, 0xa7, 0x04, 0x5c, 0x2b, 0x2d, 0xb8, 0x00, 0xf7, 0x36, 0x05, 0x2c, 0xb6, 0x00, 0xf9, 0x36, 0x06, 0xa7, 0x04, 0x4c, 0x2b, 0x2a, 0x15, 0x04, 0x04, 0x60, 0x2e, 0x2a, 0x15, 0x04, 0x05, 0x60, 0x2e, 0x2a, 0x15, 0x04, 0x06, 0x60, 0x2e, 0x2d, 0xb8]
def lwc_20 : List UInt8 := [0x00, 0xfa, 0x36, 0x05, 0x2c, 0x2a, 0x15, 0x04, 0x04, 0x60, 0x2e, 0x2a, 0x15, 0x04, 0x05, 0x60, 0x2e, 0x2a, 0x15, 0x04, 0x06, 0x60, 0x2e, 0xb6, 0x00, 0xfc, 0x36, 0x06, 0xa7, 0x04, 0x18, 0x2b, 0x2a, 0x15, 0x04, 0x04, 0x60, 0x2e, 0x2d, 0xb8, 0x00, 0xfd, 0x36, 0x05, 0x2c, 0x2a, 0x15, 0x04, 0x04, 0x60, 0x2e, 0xb6, 0x00, 0xff, 0x36, 0x06, 0x2c, 0xb6, 0x01, 0x00, 0x15, 0x05, 0x9f, 0x00]
def lwc_21 : List UInt8 := [0x05, 0x03, 0xac, 0x15, 0x05, 0x9a, 0x00, 0x10, 0x2d, 0xb4, 0x00, 0x0d, 0x15, 0x06, 0x85, 0x94, 0x99, 0x00, 0x05, 0x03, 0xac, 0xa7, 0x03, 0xdf, 0x2b, 0x2a, 0x15, 0x04, 0x04, 0x60, 0x2e, 0x2a, 0x15, 0x04, 0x05, 0x60, 0x2e, 0x2a, 0x15, 0x04, 0x06, 0x60, 0x2e, 0x2d, 0xb8, 0x01, 0x03, 0x36, 0x05, 0x2c, 0x2a, 0x15, 0x04, 0x04, 0x60, 0x2e, 0x2a, 0x15, 0x04, 0x05, 0x60, 0x2e, 0x2a, 0x15]
def lwc_22 : List UInt8 := [0x04, 0x06, 0x60, 0x2e, 0xb6, 0x01, 0x05, 0x36, 0x06, 0xa7, 0x03, 0xab, 0x2b, 0x2a, 0x15, 0x04, 0x04, 0x60, 0x2e, 0x2d, 0xb8, 0x01, 0x06, 0x36, 0x05, 0x2c, 0x2a, 0x15, 0x04, 0x04, 0x60, 0x2e, 0xb6, 0x01, 0x08, 0x36, 0x06, 0xa7, 0x03, 0x8f, 0x2b, 0x2a, 0x15, 0x04, 0x04, 0x60, 0x2e, 0x2a, 0x15, 0x04, 0x05, 0x60, 0x2e, 0x99, 0x00, 0x07, 0x04, 0xa7, 0x00, 0x04, 0x03, 0x2d, 0xb8, 0x01]
def lwc_23 : List UInt8 := [0x09, 0x36, 0x05, 0x2c, 0x2a, 0x15, 0x04, 0x04, 0x60, 0x2e, 0x2a, 0x15, 0x04, 0x05, 0x60, 0x2e, 0x99, 0x00, 0x07, 0x04, 0xa7, 0x00, 0x04, 0x03, 0xb6, 0x01, 0x0b, 0x36, 0x06, 0xa7, 0x03, 0x57, 0x2b, 0x2a, 0x15, 0x04, 0x04, 0x60, 0x2e, 0x2d, 0xb8, 0x01, 0x0c, 0x36, 0x05, 0x2c, 0x2a, 0x15, 0x04, 0x04, 0x60, 0x2e, 0xb6, 0x01, 0x0e, 0x36, 0x06, 0xa7, 0x03, 0x3b, 0x2b, 0x2a, 0x15, 0x04]
def lwc_24 : List UInt8 := [0x04, 0x60, 0x2e, 0x2a, 0x15, 0x04, 0x05, 0x60, 0x2e, 0x2d, 0xb8, 0x01, 0x0f, 0x36, 0x05, 0x2c, 0x2a, 0x15, 0x04, 0x04, 0x60, 0x2e, 0x2a, 0x15, 0x04, 0x05, 0x60, 0x2e, 0xb6, 0x01, 0x11, 0x36, 0x06, 0xa7, 0x03, 0x13, 0x2b, 0x2a, 0x15, 0x04, 0x04, 0x60, 0x2e, 0x2a, 0x15, 0x04, 0x05, 0x60, 0x2e, 0x2d, 0xb8, 0x01, 0x12, 0x36, 0x05, 0x2c, 0x2a, 0x15, 0x04, 0x04, 0x60, 0x2e, 0x2a, 0x15]
def lwc_25 : List UInt8 := [0x04, 0x05, 0x60, 0x2e, 0xb6, 0x01, 0x14, 0x36, 0x06, 0xa7, 0x02, 0xeb, 0x2b, 0x2a, 0x15, 0x04, 0x04, 0x60, 0x2e, 0x2d, 0xb8, 0x01, 0x15, 0x36, 0x05, 0x2c, 0x2a, 0x15, 0x04, 0x04, 0x60, 0x2e, 0xb6, 0x01, 0x17, 0x36, 0x06, 0xa7, 0x02, 0xcf, 0x2b, 0x2a, 0x15, 0x04, 0x04, 0x60, 0x2e, 0x2d, 0xb8, 0x01, 0x18, 0x36, 0x05, 0x2c, 0x2a, 0x15, 0x04, 0x04, 0x60, 0x2e, 0xb6, 0x01, 0x1a, 0x36]
def lwc_26 : List UInt8 := [0x06, 0xa7, 0x02, 0xb3, 0x2b, 0x2a, 0x15, 0x04, 0x04, 0x60, 0x2e, 0x2d, 0xb8, 0x01, 0x1b, 0x36, 0x05, 0x2c, 0x2a, 0x15, 0x04, 0x04, 0x60, 0x2e, 0xb6, 0x01, 0x1d, 0x36, 0x06, 0xa7, 0x02, 0x97, 0x2b, 0x2a, 0x15, 0x04, 0x04, 0x60, 0x2e, 0x2a, 0x15, 0x04, 0x05, 0x60, 0x2e, 0x2a, 0x15, 0x04, 0x06, 0x60, 0x2e, 0x2d, 0xb8, 0x01, 0x1e, 0x36, 0x05, 0x2c, 0x2a, 0x15, 0x04, 0x04, 0x60, 0x2e]
def lwc_27 : List UInt8 := [0x2a, 0x15, 0x04, 0x05, 0x60, 0x2e, 0x2a, 0x15, 0x04, 0x06, 0x60, 0x2e, 0xb6, 0x01, 0x20, 0x36, 0x06, 0xa7, 0x02, 0x63, 0x2b, 0x2a, 0x15, 0x04, 0x04, 0x60, 0x2e, 0x2a, 0x15, 0x04, 0x05, 0x60, 0x2e, 0x2a, 0x15, 0x04, 0x06, 0x60, 0x2e, 0x2d, 0xb8, 0x01, 0x21, 0x36, 0x05, 0x2c, 0x2a, 0x15, 0x04, 0x04, 0x60, 0x2e, 0x2a, 0x15, 0x04, 0x05, 0x60, 0x2e, 0x2a, 0x15, 0x04, 0x06, 0x60, 0x2e]
def lwc_28 : List UInt8 := [0xb6, 0x01, 0x23, 0x36, 0x06, 0xa7, 0x02, 0x2f, 0x2b, 0x2a, 0x15, 0x04, 0x04, 0x60, 0x2e, 0x2a, 0x15, 0x04, 0x05, 0x60, 0x2e, 0x2d, 0xb8, 0x01, 0x24, 0x36, 0x05, 0x2c, 0x2a, 0x15, 0x04, 0x04, 0x60, 0x2e, 0x2a, 0x15, 0x04, 0x05, 0x60, 0x2e, 0xb6, 0x01, 0x26, 0x36, 0x06, 0xa7, 0x02, 0x07, 0x2b, 0x2a, 0x15, 0x04, 0x04, 0x60, 0x2e, 0x2d, 0xb8, 0x01, 0x27, 0x36, 0x05, 0x2c, 0x2a, 0x15]
def lwc_29 : List UInt8 := [0x04, 0x04, 0x60, 0x2e, 0xb6, 0x01, 0x29, 0x36, 0x06, 0xa7, 0x01, 0xeb, 0x2b, 0x2a, 0x15, 0x04, 0x04, 0x60, 0x2e, 0x2d, 0xb8, 0x01, 0x2a, 0x36, 0x05, 0x2c, 0x2a, 0x15, 0x04, 0x04, 0x60, 0x2e, 0xb6, 0x01, 0x2c, 0x36, 0x06, 0xa7, 0x01, 0xcf, 0x2b, 0x2a, 0x15, 0x04, 0x04, 0x60, 0x2e, 0x2a, 0x15, 0x04, 0x05, 0x60, 0x2e, 0x99, 0x00, 0x07, 0x04, 0xa7, 0x00, 0x04, 0x03, 0x2d, 0xb8, 0x01]
def lwc_30 : List UInt8 := [0x2d, 0x36, 0x05, 0x2c, 0x2a, 0x15, 0x04, 0x04, 0x60, 0x2e, 0x2a, 0x15, 0x04, 0x05, 0x60, 0x2e, 0x99, 0x00, 0x07, 0x04, 0xa7, 0x00, 0x04, 0x03, 0xb6, 0x01, 0x2f, 0x36, 0x06, 0xa7, 0x01, 0x97, 0x2b, 0x2a, 0x15, 0x04, 0x04, 0x60, 0x2e, 0x2a, 0x15, 0x04, 0x05, 0x60, 0x2e, 0x2d, 0xb8, 0x01, 0x30, 0x36, 0x05, 0x2c, 0x2a, 0x15, 0x04, 0x04, 0x60, 0x2e, 0x2a, 0x15, 0x04, 0x05, 0x60, 0x2e]
def lwc_31 : List UInt8 := [0xb6, 0x01, 0x32, 0x36, 0x06, 0xa7, 0x01, 0x6f, 0x2b, 0x2a, 0x15, 0x04, 0x04, 0x60, 0x2e, 0x2a, 0x15, 0x04, 0x05, 0x60, 0x2e, 0x2d, 0xb8, 0x01, 0x33, 0x36, 0x05, 0x2c, 0x2a, 0x15, 0x04, 0x04, 0x60, 0x2e, 0x2a, 0x15, 0x04, 0x05, 0x60, 0x2e, 0xb6, 0x01, 0x35, 0x36, 0x06, 0xa7, 0x01, 0x47, 0x2b, 0x2a, 0x15, 0x04, 0x04, 0x60, 0x2e, 0x2a, 0x15, 0x04, 0x05, 0x60, 0x2e, 0x2d, 0xb8, 0x01]
def lwc_32 : List UInt8 := [0x36, 0x36, 0x05, 0x2c, 0x2a, 0x15, 0x04, 0x04, 0x60, 0x2e, 0x2a, 0x15, 0x04, 0x05, 0x60, 0x2e, 0xb6, 0x01, 0x38, 0x36, 0x06, 0xa7, 0x01, 0x1f, 0x2b, 0x2a, 0x15, 0x04, 0x04, 0x60, 0x2e, 0x99, 0x00, 0x07, 0x04, 0xa7, 0x00, 0x04, 0x03, 0xb6, 0x01, 0x39, 0x57, 0x2c, 0x2a, 0x15, 0x04, 0x04, 0x60, 0x2e, 0x99, 0x00, 0x07, 0x04, 0xa7, 0x00, 0x04, 0x03, 0xb6, 0x01, 0x3d, 0x57, 0xa7, 0x00]
def lwc_33 : List UInt8 := [0xf6, 0x2b, 0x2a, 0x15, 0x04, 0x04, 0x60, 0x2e, 0x2a, 0x15, 0x04, 0x05, 0x60, 0x2e, 0x99, 0x00, 0x07, 0x04, 0xa7, 0x00, 0x04, 0x03, 0x2d, 0xb8, 0x01, 0x3e, 0x36, 0x05, 0x2c, 0x2a, 0x15, 0x04, 0x04, 0x60, 0x2e, 0x2a, 0x15, 0x04, 0x05, 0x60, 0x2e, 0x99, 0x00, 0x07, 0x04, 0xa7, 0x00, 0x04, 0x03, 0xb6, 0x01, 0x40, 0x3a, 0x06, 0xa7, 0x00, 0xbe, 0x2b, 0x2a, 0x15, 0x04, 0x04, 0x60, 0x2e]
def lwc_34 : List UInt8 := [0x2d, 0xb8, 0x01, 0x41, 0x36, 0x05, 0x2c, 0x2a, 0x15, 0x04, 0x04, 0x60, 0x2e, 0xb6, 0x01, 0x43, 0x36, 0x06, 0xa7, 0x00, 0xa2, 0x2b, 0x2a, 0x15, 0x04, 0x04, 0x60, 0x2e, 0x2a, 0x15, 0x04, 0x05, 0x60, 0x2e, 0x2a, 0x15, 0x04, 0x06, 0x60, 0x2e, 0x2d, 0xb8, 0x01, 0x44, 0x36, 0x05, 0x2c, 0x2a, 0x15, 0x04, 0x04, 0x60, 0x2e, 0x2a, 0x15, 0x04, 0x05, 0x60, 0x2e, 0x2a, 0x15, 0x04, 0x06, 0x60]
def lwc_35 : List UInt8 := [0x2e, 0xb6, 0x01, 0x46, 0x36, 0x06, 0xa7, 0x00, 0x6e, 0x2b, 0x2a, 0x15, 0x04, 0x04, 0x60, 0x2e, 0x2a, 0x15, 0x04, 0x05, 0x60, 0x2e, 0x2d, 0xb8, 0x01, 0x47, 0x36, 0x05, 0x2c, 0x2a, 0x15, 0x04, 0x04, 0x60, 0x2e, 0x2a, 0x15, 0x04, 0x05, 0x60, 0x2e, 0xb6, 0x01, 0x49, 0x36, 0x06, 0xa7, 0x00, 0x46, 0x2b, 0x2a, 0x15, 0x04, 0x04, 0x60, 0x2e, 0x2d, 0xb8, 0x01, 0x4a, 0x36, 0x05, 0x2c, 0x2a]
def lwc_36 : List UInt8 := [0x15, 0x04, 0x04, 0x60, 0x2e, 0xb6, 0x01, 0x4c, 0x36, 0x06, 0xa7, 0x00, 0x2a, 0x2b, 0xb6, 0x01, 0x4d, 0x57, 0x2c, 0xb6, 0x01, 0x50, 0x57, 0xa7, 0x00, 0x1d, 0x2b, 0xb6, 0x01, 0x51, 0x57, 0x2c, 0xb6, 0x01, 0x55, 0x57, 0xa7, 0x00, 0x10, 0x2b, 0xb6, 0x01, 0x56, 0x58, 0x2c, 0xb6, 0x01, 0x5a, 0x58, 0xa7, 0x00, 0x03, 0x84, 0x04, 0x05, 0xa7, 0xf6, 0xe4, 0x04, 0xac]
def lwr_36 : List UInt8 := lwc_36 ++ []
def lwr_35 : List UInt8 := lwc_35 ++ lwr_36
def lwr_34 : List UInt8 := lwc_34 ++ lwr_35
def lwr_33 : List UInt8 := lwc_33 ++ lwr_34
def lwr_32 : List UInt8 := lwc_32 ++ lwr_33
def lwr_31 : List UInt8 := lwc_31 ++ lwr_32
def lwr_30 : List UInt8 := lwc_30 ++ lwr_31
def lwr_29 : List UInt8 := lwc_29 ++ lwr_30
def lwr_28 : List UInt8 := lwc_28 ++ lwr_29
def lwr_27 : List UInt8 := lwc_27 ++ lwr_28
def lwr_26 : List UInt8 := lwc_26 ++ lwr_27
def lwr_25 : List UInt8 := lwc_25 ++ lwr_26
def lwr_24 : List UInt8 := lwc_24 ++ lwr_25
def lwr_23 : List UInt8 := lwc_23 ++ lwr_24
def lwr_22 : List UInt8 := lwc_22 ++ lwr_23
def lwr_21 : List UInt8 := lwc_21 ++ lwr_22
def lwr_20 : List UInt8 := lwc_20 ++ lwr_21
def lwr_19 : List UInt8 := lwc_19 ++ lwr_20
def lwr_18 : List UInt8 := lwc_18 ++ lwr_19
def lwr_17 : List UInt8 := lwc_17 ++ lwr_18
def lwr_16 : List UInt8 := lwc_16 ++ lwr_17
def lwr_15 : List UInt8 := lwc_15 ++ lwr_16
def lwr_14 : List UInt8 := lwc_14 ++ lwr_15
def lwr_13 : List UInt8 := lwc_13 ++ lwr_14
def lwr_12 : List UInt8 := lwc_12 ++ lwr_13
def lwr_11 : List UInt8 := lwc_11 ++ lwr_12
def lwr_10 : List UInt8 := lwc_10 ++ lwr_11
def lwr_9 : List UInt8 := lwc_9 ++ lwr_10
def lwr_8 : List UInt8 := lwc_8 ++ lwr_9
def lwr_7 : List UInt8 := lwc_7 ++ lwr_8
def lwr_6 : List UInt8 := lwc_6 ++ lwr_7
def lwr_5 : List UInt8 := lwc_5 ++ lwr_6
def lwr_4 : List UInt8 := lwc_4 ++ lwr_5
def lwr_3 : List UInt8 := lwc_3 ++ lwr_4
def lwr_2 : List UInt8 := lwc_2 ++ lwr_3
def lwr_1 : List UInt8 := lwc_1 ++ lwr_2
def lwr_0 : List UInt8 := lwc_0 ++ lwr_1
theorem lws_0 (i : Nat) : code.data.toList[64 * 0 + i]? = lwr_0[i]? := by
  have e : code.data.toList = lwr_0 := by decide +kernel
  rw [e, Nat.mul_zero, Nat.zero_add]
theorem lw_step {L c r : List UInt8} {a : Nat} (h : ∀ i, L[a + i]? = (c ++ r)[i]?) (i : Nat) : L[a + c.length + i]? = r[i]? := by
  rw [Nat.add_assoc, h, List.getElem?_append_right (Nat.le_add_right _ _), Nat.add_sub_cancel_left]
theorem lw_by {L : List UInt8} {A : ByteArray} {p : Nat} {b : UInt8} (hA : A.data.toList = L) (h : L[p]? = some b) : by8 A p b := by
  subst hA
  obtain ⟨h1, h2⟩ := List.getElem?_eq_some_iff.mp h
  exact ⟨h1, h2⟩
theorem lw_in {L c r : List UInt8} {a i : Nat} {b : UInt8} (h : ∀ i, L[a + i]? = (c ++ r)[i]?) (hi : c[i]? = some b) : L[a + i]? = some b := by
  obtain ⟨h1, h2⟩ := List.getElem?_eq_some_iff.mp hi
  rw [h, List.getElem?_append_left h1]
  exact hi
theorem lws_1 (i : Nat) : code.data.toList[64 + i]? = lwr_1[i]? := lw_step (c := lwc_0) (r := lwr_1) (a := 64 * 0) lws_0 i
theorem lws_2 (i : Nat) : code.data.toList[128 + i]? = lwr_2[i]? := lw_step (c := lwc_1) (r := lwr_2) (a := 64) lws_1 i
theorem lws_3 (i : Nat) : code.data.toList[192 + i]? = lwr_3[i]? := lw_step (c := lwc_2) (r := lwr_3) (a := 128) lws_2 i
theorem lws_4 (i : Nat) : code.data.toList[256 + i]? = lwr_4[i]? := lw_step (c := lwc_3) (r := lwr_4) (a := 192) lws_3 i
theorem lws_5 (i : Nat) : code.data.toList[320 + i]? = lwr_5[i]? := lw_step (c := lwc_4) (r := lwr_5) (a := 256) lws_4 i
theorem lws_6 (i : Nat) : code.data.toList[384 + i]? = lwr_6[i]? := lw_step (c := lwc_5) (r := lwr_6) (a := 320) lws_5 i
theorem lws_7 (i : Nat) : code.data.toList[448 + i]? = lwr_7[i]? := lw_step (c := lwc_6) (r := lwr_7) (a := 384) lws_6 i
theorem lws_8 (i : Nat) : code.data.toList[512 + i]? = lwr_8[i]? := lw_step (c := lwc_7) (r := lwr_8) (a := 448) lws_7 i
theorem lws_9 (i : Nat) : code.data.toList[576 + i]? = lwr_9[i]? := lw_step (c := lwc_8) (r := lwr_9) (a := 512) lws_8 i
theorem lws_10 (i : Nat) : code.data.toList[640 + i]? = lwr_10[i]? := lw_step (c := lwc_9) (r := lwr_10) (a := 576) lws_9 i
theorem lws_11 (i : Nat) : code.data.toList[704 + i]? = lwr_11[i]? := lw_step (c := lwc_10) (r := lwr_11) (a := 640) lws_10 i
theorem lws_12 (i : Nat) : code.data.toList[768 + i]? = lwr_12[i]? := lw_step (c := lwc_11) (r := lwr_12) (a := 704) lws_11 i
theorem lws_13 (i : Nat) : code.data.toList[832 + i]? = lwr_13[i]? := lw_step (c := lwc_12) (r := lwr_13) (a := 768) lws_12 i
theorem lws_14 (i : Nat) : code.data.toList[896 + i]? = lwr_14[i]? := lw_step (c := lwc_13) (r := lwr_14) (a := 832) lws_13 i
theorem lws_15 (i : Nat) : code.data.toList[960 + i]? = lwr_15[i]? := lw_step (c := lwc_14) (r := lwr_15) (a := 896) lws_14 i
theorem lws_16 (i : Nat) : code.data.toList[1024 + i]? = lwr_16[i]? := lw_step (c := lwc_15) (r := lwr_16) (a := 960) lws_15 i
theorem lws_17 (i : Nat) : code.data.toList[1088 + i]? = lwr_17[i]? := lw_step (c := lwc_16) (r := lwr_17) (a := 1024) lws_16 i
theorem lws_18 (i : Nat) : code.data.toList[1152 + i]? = lwr_18[i]? := lw_step (c := lwc_17) (r := lwr_18) (a := 1088) lws_17 i
theorem lws_19 (i : Nat) : code.data.toList[1216 + i]? = lwr_19[i]? := lw_step (c := lwc_18) (r := lwr_19) (a := 1152) lws_18 i
theorem lws_20 (i : Nat) : code.data.toList[1280 + i]? = lwr_20[i]? := lw_step (c := lwc_19) (r := lwr_20) (a := 1216) lws_19 i
theorem lws_21 (i : Nat) : code.data.toList[1344 + i]? = lwr_21[i]? := lw_step (c := lwc_20) (r := lwr_21) (a := 1280) lws_20 i
theorem lws_22 (i : Nat) : code.data.toList[1408 + i]? = lwr_22[i]? := lw_step (c := lwc_21) (r := lwr_22) (a := 1344) lws_21 i
theorem lws_23 (i : Nat) : code.data.toList[1472 + i]? = lwr_23[i]? := lw_step (c := lwc_22) (r := lwr_23) (a := 1408) lws_22 i
theorem lws_24 (i : Nat) : code.data.toList[1536 + i]? = lwr_24[i]? := lw_step (c := lwc_23) (r := lwr_24) (a := 1472) lws_23 i
theorem lws_25 (i : Nat) : code.data.toList[1600 + i]? = lwr_25[i]? := lw_step (c := lwc_24) (r := lwr_25) (a := 1536) lws_24 i
theorem lws_26 (i : Nat) : code.data.toList[1664 + i]? = lwr_26[i]? := lw_step (c := lwc_25) (r := lwr_26) (a := 1600) lws_25 i
theorem lws_27 (i : Nat) : code.data.toList[1728 + i]? = lwr_27[i]? := lw_step (c := lwc_26) (r := lwr_27) (a := 1664) lws_26 i
theorem lws_28 (i : Nat) : code.data.toList[1792 + i]? = lwr_28[i]? := lw_step (c := lwc_27) (r := lwr_28) (a := 1728) lws_27 i
theorem lws_29 (i : Nat) : code.data.toList[1856 + i]? = lwr_29[i]? := lw_step (c := lwc_28) (r := lwr_29) (a := 1792) lws_28 i
theorem lws_30 (i : Nat) : code.data.toList[1920 + i]? = lwr_30[i]? := lw_step (c := lwc_29) (r := lwr_30) (a := 1856) lws_29 i
theorem lws_31 (i : Nat) : code.data.toList[1984 + i]? = lwr_31[i]? := lw_step (c := lwc_30) (r := lwr_31) (a := 1920) lws_30 i
theorem lws_32 (i : Nat) : code.data.toList[2048 + i]? = lwr_32[i]? := lw_step (c := lwc_31) (r := lwr_32) (a := 1984) lws_31 i
theorem lws_33 (i : Nat) : code.data.toList[2112 + i]? = lwr_33[i]? := lw_step (c := lwc_32) (r := lwr_33) (a := 2048) lws_32 i
theorem lws_34 (i : Nat) : code.data.toList[2176 + i]? = lwr_34[i]? := lw_step (c := lwc_33) (r := lwr_34) (a := 2112) lws_33 i
theorem lws_35 (i : Nat) : code.data.toList[2240 + i]? = lwr_35[i]? := lw_step (c := lwc_34) (r := lwr_35) (a := 2176) lws_34 i
theorem lws_36 (i : Nat) : code.data.toList[2304 + i]? = lwr_36[i]? := lw_step (c := lwc_35) (r := lwr_36) (a := 2240) lws_35 i
theorem bt_0 {i : Nat} {b : UInt8} (h : lwc_0[i]? = some b) : by8 code (64 * 0 + i) b := lw_by rfl (lw_in (c := lwc_0) (r := lwr_1) lws_0 h)
theorem bt_1 {i : Nat} {b : UInt8} (h : lwc_1[i]? = some b) : by8 code (64 + i) b := lw_by rfl (lw_in (c := lwc_1) (r := lwr_2) lws_1 h)
theorem bt_2 {i : Nat} {b : UInt8} (h : lwc_2[i]? = some b) : by8 code (128 + i) b := lw_by rfl (lw_in (c := lwc_2) (r := lwr_3) lws_2 h)
theorem bt_3 {i : Nat} {b : UInt8} (h : lwc_3[i]? = some b) : by8 code (192 + i) b := lw_by rfl (lw_in (c := lwc_3) (r := lwr_4) lws_3 h)
theorem bt_4 {i : Nat} {b : UInt8} (h : lwc_4[i]? = some b) : by8 code (256 + i) b := lw_by rfl (lw_in (c := lwc_4) (r := lwr_5) lws_4 h)
theorem bt_5 {i : Nat} {b : UInt8} (h : lwc_5[i]? = some b) : by8 code (320 + i) b := lw_by rfl (lw_in (c := lwc_5) (r := lwr_6) lws_5 h)
theorem bt_6 {i : Nat} {b : UInt8} (h : lwc_6[i]? = some b) : by8 code (384 + i) b := lw_by rfl (lw_in (c := lwc_6) (r := lwr_7) lws_6 h)
theorem bt_7 {i : Nat} {b : UInt8} (h : lwc_7[i]? = some b) : by8 code (448 + i) b := lw_by rfl (lw_in (c := lwc_7) (r := lwr_8) lws_7 h)
theorem bt_8 {i : Nat} {b : UInt8} (h : lwc_8[i]? = some b) : by8 code (512 + i) b := lw_by rfl (lw_in (c := lwc_8) (r := lwr_9) lws_8 h)
theorem bt_9 {i : Nat} {b : UInt8} (h : lwc_9[i]? = some b) : by8 code (576 + i) b := lw_by rfl (lw_in (c := lwc_9) (r := lwr_10) lws_9 h)
theorem bt_10 {i : Nat} {b : UInt8} (h : lwc_10[i]? = some b) : by8 code (640 + i) b := lw_by rfl (lw_in (c := lwc_10) (r := lwr_11) lws_10 h)
theorem bt_11 {i : Nat} {b : UInt8} (h : lwc_11[i]? = some b) : by8 code (704 + i) b := lw_by rfl (lw_in (c := lwc_11) (r := lwr_12) lws_11 h)
theorem bt_12 {i : Nat} {b : UInt8} (h : lwc_12[i]? = some b) : by8 code (768 + i) b := lw_by rfl (lw_in (c := lwc_12) (r := lwr_13) lws_12 h)
theorem bt_13 {i : Nat} {b : UInt8} (h : lwc_13[i]? = some b) : by8 code (832 + i) b := lw_by rfl (lw_in (c := lwc_13) (r := lwr_14) lws_13 h)
theorem bt_14 {i : Nat} {b : UInt8} (h : lwc_14[i]? = some b) : by8 code (896 + i) b := lw_by rfl (lw_in (c := lwc_14) (r := lwr_15) lws_14 h)
theorem bt_15 {i : Nat} {b : UInt8} (h : lwc_15[i]? = some b) : by8 code (960 + i) b := lw_by rfl (lw_in (c := lwc_15) (r := lwr_16) lws_15 h)
theorem bt_16 {i : Nat} {b : UInt8} (h : lwc_16[i]? = some b) : by8 code (1024 + i) b := lw_by rfl (lw_in (c := lwc_16) (r := lwr_17) lws_16 h)
theorem bt_17 {i : Nat} {b : UInt8} (h : lwc_17[i]? = some b) : by8 code (1088 + i) b := lw_by rfl (lw_in (c := lwc_17) (r := lwr_18) lws_17 h)
theorem bt_18 {i : Nat} {b : UInt8} (h : lwc_18[i]? = some b) : by8 code (1152 + i) b := lw_by rfl (lw_in (c := lwc_18) (r := lwr_19) lws_18 h)
theorem bt_19 {i : Nat} {b : UInt8} (h : lwc_19[i]? = some b) : by8 code (1216 + i) b := lw_by rfl (lw_in (c := lwc_19) (r := lwr_20) lws_19 h)
theorem bt_20 {i : Nat} {b : UInt8} (h : lwc_20[i]? = some b) : by8 code (1280 + i) b := lw_by rfl (lw_in (c := lwc_20) (r := lwr_21) lws_20 h)
theorem bt_21 {i : Nat} {b : UInt8} (h : lwc_21[i]? = some b) : by8 code (1344 + i) b := lw_by rfl (lw_in (c := lwc_21) (r := lwr_22) lws_21 h)
theorem bt_22 {i : Nat} {b : UInt8} (h : lwc_22[i]? = some b) : by8 code (1408 + i) b := lw_by rfl (lw_in (c := lwc_22) (r := lwr_23) lws_22 h)
theorem bt_23 {i : Nat} {b : UInt8} (h : lwc_23[i]? = some b) : by8 code (1472 + i) b := lw_by rfl (lw_in (c := lwc_23) (r := lwr_24) lws_23 h)
theorem bt_24 {i : Nat} {b : UInt8} (h : lwc_24[i]? = some b) : by8 code (1536 + i) b := lw_by rfl (lw_in (c := lwc_24) (r := lwr_25) lws_24 h)
theorem bt_25 {i : Nat} {b : UInt8} (h : lwc_25[i]? = some b) : by8 code (1600 + i) b := lw_by rfl (lw_in (c := lwc_25) (r := lwr_26) lws_25 h)
theorem bt_26 {i : Nat} {b : UInt8} (h : lwc_26[i]? = some b) : by8 code (1664 + i) b := lw_by rfl (lw_in (c := lwc_26) (r := lwr_27) lws_26 h)
theorem bt_27 {i : Nat} {b : UInt8} (h : lwc_27[i]? = some b) : by8 code (1728 + i) b := lw_by rfl (lw_in (c := lwc_27) (r := lwr_28) lws_27 h)
theorem bt_28 {i : Nat} {b : UInt8} (h : lwc_28[i]? = some b) : by8 code (1792 + i) b := lw_by rfl (lw_in (c := lwc_28) (r := lwr_29) lws_28 h)
theorem bt_29 {i : Nat} {b : UInt8} (h : lwc_29[i]? = some b) : by8 code (1856 + i) b := lw_by rfl (lw_in (c := lwc_29) (r := lwr_30) lws_29 h)
theorem bt_30 {i : Nat} {b : UInt8} (h : lwc_30[i]? = some b) : by8 code (1920 + i) b := lw_by rfl (lw_in (c := lwc_30) (r := lwr_31) lws_30 h)
theorem bt_31 {i : Nat} {b : UInt8} (h : lwc_31[i]? = some b) : by8 code (1984 + i) b := lw_by rfl (lw_in (c := lwc_31) (r := lwr_32) lws_31 h)
theorem bt_32 {i : Nat} {b : UInt8} (h : lwc_32[i]? = some b) : by8 code (2048 + i) b := lw_by rfl (lw_in (c := lwc_32) (r := lwr_33) lws_32 h)
theorem bt_33 {i : Nat} {b : UInt8} (h : lwc_33[i]? = some b) : by8 code (2112 + i) b := lw_by rfl (lw_in (c := lwc_33) (r := lwr_34) lws_33 h)
theorem bt_34 {i : Nat} {b : UInt8} (h : lwc_34[i]? = some b) : by8 code (2176 + i) b := lw_by rfl (lw_in (c := lwc_34) (r := lwr_35) lws_34 h)
theorem bt_35 {i : Nat} {b : UInt8} (h : lwc_35[i]? = some b) : by8 code (2240 + i) b := lw_by rfl (lw_in (c := lwc_35) (r := lwr_36) lws_35 h)
theorem bt_36 {i : Nat} {b : UInt8} (h : lwc_36[i]? = some b) : by8 code (2304 + i) b := lw_by rfl (lw_in (c := lwc_36) (r := []) lws_36 h)
end
