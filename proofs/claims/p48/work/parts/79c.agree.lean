section
/-! level 3 gathered: class and model side by side, and alike -/
def INVX (σ : CS) (τ : MS) : Prop := INV τ ∧ RX σ τ
theorem tq_aft {C : Nat → Int32} {σ : CS} {res : Nat ⊕ (Int32 × CS)} {r2 : Int32 × MS} (h : TQ C σ res r2) : RX (aftM σ res) r2.2 := by
  cases res with
  | inl k => exact (h.1 k rfl).1
  | inr z => exact (h.2 z rfl).1
theorem tn_aft {C : Nat → Int32} {σ : CS} {res : Nat ⊕ Int32} {r2 : Int32 × MS} (h : TN C σ res r2) : RX σ r2.2 := by
  cases res with
  | inl k => exact (h.1 k rfl).1
  | inr z => exact (h.2 z rfl).1
theorem rx0 : RX σ0 τ0 := by
  refine ⟨⟨fun i _ => ⟨rfl, Nat.zero_le _, fun j hj => absurd hj (Nat.not_lt_zero j)⟩, fun q q1 q2 => ?_, rfl, fun v hv => absurd hv List.not_mem_nil, fun v hv => absurd hv List.not_mem_nil, fun v hv => absurd hv List.not_mem_nil, fun v hv => absurd hv List.not_mem_nil⟩, Or.inl ⟨rfl, rfl, rfl, rfl⟩⟩
  rcases (by omega : q = 5 ∨ q = 6 ∨ q = 7 ∨ q = 8 ∨ q = 9 ∨ q = 10) with e | e | e | e | e | e <;> subst e <;> rfl
theorem invx0 : INVX σ0 τ0 := ⟨inv0, rx0⟩
theorem ks_C3 {k : Nat} (h : ¬ C3 k = 0) : k = 0 ∨ k = 1 ∨ k = 2 := by
  unfold C3 at h
  refine Classical.byContradiction fun q => h ?_
  rw [if_neg (fun e => q (Or.inl e)), if_neg (fun e => q (Or.inr (Or.inl e))), if_neg (fun e => q (Or.inr (Or.inr e)))]
theorem ks_C2 {k : Nat} (h : ¬ C2 k = 0) : k = 0 ∨ k = 1 := by
  unfold C2 at h
  refine Classical.byContradiction fun q => h ?_
  rw [if_neg (fun e => q (Or.inl e)), if_neg (fun e => q (Or.inr e))]
theorem ks_C02 {k : Nat} (h : ¬ C02 k = 0) : k = 0 ∨ k = 2 := by
  unfold C02 at h
  refine Classical.byContradiction fun q => h ?_
  rw [if_neg (fun e => q (Or.inl e)), if_neg (fun e => q (Or.inr e))]
theorem ks_C1 {k : Nat} (h : ¬ C1 k = 0) : k = 0 := by
  unfold C1 at h
  refine Classical.byContradiction fun q => h ?_
  rw [if_neg (fun e => q (e))]
theorem ks_C11 {k : Nat} (h : ¬ C11 k = 0) : k = 1 := by
  unfold C11 at h
  refine Classical.byContradiction fun q => h ?_
  rw [if_neg (fun e => q (e))]
theorem ks_C22 {k : Nat} (h : ¬ C22 k = 0) : k = 2 := by
  unfold C22 at h
  refine Classical.byContradiction fun q => h ?_
  rw [if_neg (fun e => q (e))]
theorem ks_C12 {k : Nat} (h : ¬ C12 k = 0) : k = 1 ∨ k = 2 := by
  unfold C12 at h
  refine Classical.byContradiction fun q => h ?_
  rw [if_neg (fun e => q (Or.inl e)), if_neg (fun e => q (Or.inr e))]
theorem sx_join {σ : CS} {τ : MS} (hV : INVX σ τ) (x1 : Int32) (x2 : Int32) (q2 : x2 = 0 ∨ x2 = 1) (x3 : Int32) (x4 : Int32) : ∃ res res2, f_X3_join σ x1 x2 x3 x4 = some res ∧ (∀ k, res = .inl k → k = 0 ∨ k = 1 ∨ k = 2) ∧ f_X6_join τ x1 x2 x3 x4 = some res2 ∧ INVX (aftM σ res) res2.2 ∧ TQ C3 σ res res2 := by
  obtain ⟨⟨k, hb, hw, hu⟩, hx⟩ := hV
  obtain ⟨res2, e2, r2⟩ := ok_X6_join hb hw hu x1 x2 x3 x4
  obtain ⟨res, e1, q⟩ := ag_join hx x1 x2 x3 x4 res2 e2
  exact ⟨res, res2, e1, fun k9 h9 => ks_C3 (q.1 k9 h9).2.2, e2, ⟨⟨k, r2⟩, tq_aft q⟩, q⟩
theorem sx_offer {σ : CS} {τ : MS} (hV : INVX σ τ) (x1 : Int32) (x2 : Int32) (q2 : x2 = 0 ∨ x2 = 1) (x3 : Int32) (x4 : Int32) : ∃ res res2, f_X3_offer σ x1 x2 x3 x4 = some res ∧ (∀ k, res = .inl k → k = 0 ∨ k = 1 ∨ k = 2) ∧ f_X6_offer τ x1 x2 x3 x4 = some res2 ∧ INVX (aftM σ res) res2.2 ∧ TQ C3 σ res res2 := by
  obtain ⟨⟨k, hb, hw, hu⟩, hx⟩ := hV
  obtain ⟨res2, e2, r2⟩ := ok_X6_offer hb hw hu x1 x2 x3 x4
  obtain ⟨res, e1, q⟩ := ag_offer hx x1 x2 x3 x4 res2 e2
  exact ⟨res, res2, e1, fun k9 h9 => ks_C3 (q.1 k9 h9).2.2, e2, ⟨⟨k, r2⟩, tq_aft q⟩, q⟩
theorem sx_push {σ : CS} {τ : MS} (hV : INVX σ τ) (x1 : Int32) (x2 : Int32) (x3 : Int32) : ∃ res res2, f_X3_push σ x1 x2 x3 = some res ∧ (∀ k, res = .inl k → k = 0 ∨ k = 1 ∨ k = 2) ∧ f_X6_push τ x1 x2 x3 = some res2 ∧ INVX (aftM σ res) res2.2 ∧ TQ C3 σ res res2 := by
  obtain ⟨⟨k, hb, hw, hu⟩, hx⟩ := hV
  obtain ⟨res2, e2, r2⟩ := ok_X6_push hb hw hu x1 x2 x3
  obtain ⟨res, e1, q⟩ := ag_push hx x1 x2 x3 res2 e2
  exact ⟨res, res2, e1, fun k9 h9 => ks_C3 (q.1 k9 h9).2.2, e2, ⟨⟨k, r2⟩, tq_aft q⟩, q⟩
theorem sx_append {σ : CS} {τ : MS} (hV : INVX σ τ) (x1 : Int32) (x2 : Int32) (x3 : Int32) : ∃ res res2, f_X3_append σ x1 x2 x3 = some res ∧ (∀ k, res = .inl k → k = 0 ∨ k = 1 ∨ k = 2) ∧ f_X6_append τ x1 x2 x3 = some res2 ∧ INVX (aftM σ res) res2.2 ∧ TQ C3 σ res res2 := by
  obtain ⟨⟨k, hb, hw, hu⟩, hx⟩ := hV
  obtain ⟨res2, e2, r2⟩ := ok_X6_append hb hw hu x1 x2 x3
  obtain ⟨res, e1, q⟩ := ag_append hx x1 x2 x3 res2 e2
  exact ⟨res, res2, e1, fun k9 h9 => ks_C3 (q.1 k9 h9).2.2, e2, ⟨⟨k, r2⟩, tq_aft q⟩, q⟩
theorem sx_train {σ : CS} {τ : MS} (hV : INVX σ τ) (x1 : Int32) (x2 : Int32) (x3 : Int32) (x4 : Int32) : ∃ res res2, f_X3_train σ x1 x2 x3 x4 = some res ∧ (∀ k, res = .inl k → k = 0 ∨ k = 1 ∨ k = 2) ∧ f_X6_train τ x1 x2 x3 x4 = some res2 ∧ INVX (aftM σ res) res2.2 ∧ TQ C3 σ res res2 := by
  obtain ⟨⟨k, hb, hw, hu⟩, hx⟩ := hV
  obtain ⟨res2, e2, r2⟩ := ok_X6_train hb hw hu x1 x2 x3 x4
  obtain ⟨res, e1, q⟩ := ag_train hx x1 x2 x3 x4 res2 e2
  exact ⟨res, res2, e1, fun k9 h9 => ks_C3 (q.1 k9 h9).2.2, e2, ⟨⟨k, r2⟩, tq_aft q⟩, q⟩
theorem sx_take {σ : CS} {τ : MS} (hV : INVX σ τ) (x1 : Int32) (x2 : Int32) (q2 : x2 = 0 ∨ x2 = 1) : ∃ res res2, f_X3_take σ x1 x2 = some res ∧ (∀ k, res = .inl k → k = 0) ∧ f_X6_take τ x1 x2 = some res2 ∧ INVX (aftM σ res) res2.2 ∧ TQ C1 σ res res2 := by
  obtain ⟨⟨k, hb, hw, hu⟩, hx⟩ := hV
  obtain ⟨res2, e2, r2⟩ := ok_X6_take hb hw hu x1 x2
  obtain ⟨res, e1, q⟩ := ag_take hx x1 x2 res2 e2
  exact ⟨res, res2, e1, fun k9 h9 => ks_C1 (q.1 k9 h9).2.2, e2, ⟨⟨k, r2⟩, tq_aft q⟩, q⟩
theorem sx_poll {σ : CS} {τ : MS} (hV : INVX σ τ) (x1 : Int32) (x2 : Int32) (q2 : x2 = 0 ∨ x2 = 1) : ∃ res res2, f_X3_poll σ x1 x2 = some res ∧ (∀ k, res = .inl k → k = 0) ∧ f_X6_poll τ x1 x2 = some res2 ∧ INVX (aftM σ res) res2.2 ∧ TQ C1 σ res res2 := by
  obtain ⟨⟨k, hb, hw, hu⟩, hx⟩ := hV
  obtain ⟨res2, e2, r2⟩ := ok_X6_poll hb hw hu x1 x2
  obtain ⟨res, e1, q⟩ := ag_poll hx x1 x2 res2 e2
  exact ⟨res, res2, e1, fun k9 h9 => ks_C1 (q.1 k9 h9).2.2, e2, ⟨⟨k, r2⟩, tq_aft q⟩, q⟩
theorem sx_pop {σ : CS} {τ : MS} (hV : INVX σ τ) (x1 : Int32) : ∃ res res2, f_X3_pop σ x1 = some res ∧ (∀ k, res = .inl k → k = 0) ∧ f_X6_pop τ x1 = some res2 ∧ INVX (aftM σ res) res2.2 ∧ TQ C1 σ res res2 := by
  obtain ⟨⟨k, hb, hw, hu⟩, hx⟩ := hV
  obtain ⟨res2, e2, r2⟩ := ok_X6_pop hb hw hu x1
  obtain ⟨res, e1, q⟩ := ag_pop hx x1 res2 e2
  exact ⟨res, res2, e1, fun k9 h9 => ks_C1 (q.1 k9 h9).2.2, e2, ⟨⟨k, r2⟩, tq_aft q⟩, q⟩
theorem sx_serve {σ : CS} {τ : MS} (hV : INVX σ τ) (x1 : Int32) (x2 : Int32) (q2 : x2 = 0 ∨ x2 = 1) : ∃ res res2, f_X3_serve σ x1 x2 = some res ∧ (∀ k, res = .inl k → k = 0) ∧ f_X6_serve τ x1 x2 = some res2 ∧ INVX (aftM σ res) res2.2 ∧ TQ C1 σ res res2 := by
  obtain ⟨⟨k, hb, hw, hu⟩, hx⟩ := hV
  obtain ⟨res2, e2, r2⟩ := ok_X6_serve hb hw hu x1 x2
  obtain ⟨res, e1, q⟩ := ag_serve hx x1 x2 res2 e2
  exact ⟨res, res2, e1, fun k9 h9 => ks_C1 (q.1 k9 h9).2.2, e2, ⟨⟨k, r2⟩, tq_aft q⟩, q⟩
theorem sx_rotate {σ : CS} {τ : MS} (hV : INVX σ τ) (x1 : Int32) (x2 : Int32) : ∃ res res2, f_X3_rotate σ x1 x2 = some res ∧ (∀ k, res = .inl k → k = 0 ∨ k = 1) ∧ f_X6_rotate τ x1 x2 = some res2 ∧ INVX (aftM σ res) res2.2 ∧ TQ C2 σ res res2 := by
  obtain ⟨⟨k, hb, hw, hu⟩, hx⟩ := hV
  obtain ⟨res2, e2, r2⟩ := ok_X6_rotate hb hw hu x1 x2
  obtain ⟨res, e1, q⟩ := ag_rotate hx x1 x2 res2 e2
  exact ⟨res, res2, e1, fun k9 h9 => ks_C2 (q.1 k9 h9).2.2, e2, ⟨⟨k, r2⟩, tq_aft q⟩, q⟩
theorem sx_drop {σ : CS} {τ : MS} (hV : INVX σ τ) (x1 : Int32) (x2 : Int32) (x3 : Int32) (q3 : x3 = 0 ∨ x3 = 1) : ∃ res res2, f_X3_drop σ x1 x2 x3 = some res ∧ (∀ k, res = .inl k → k = 0 ∨ k = 1) ∧ f_X6_drop τ x1 x2 x3 = some res2 ∧ INVX (aftM σ res) res2.2 ∧ TQ C2 σ res res2 := by
  obtain ⟨⟨k, hb, hw, hu⟩, hx⟩ := hV
  obtain ⟨res2, e2, r2⟩ := ok_X6_drop hb hw hu x1 x2 x3
  obtain ⟨res, e1, q⟩ := ag_drop hx x1 x2 x3 res2 e2
  exact ⟨res, res2, e1, fun k9 h9 => ks_C2 (q.1 k9 h9).2.2, e2, ⟨⟨k, r2⟩, tq_aft q⟩, q⟩
theorem sx_dropAll {σ : CS} {τ : MS} (hV : INVX σ τ) (x1 : Int32) (x2 : Int32) : ∃ res res2, f_X3_dropAll σ x1 x2 = some res ∧ (∀ k, res = .inl k → k = 0 ∨ k = 1) ∧ f_X6_dropAll τ x1 x2 = some res2 ∧ INVX (aftM σ res) res2.2 ∧ TQ C2 σ res res2 := by
  obtain ⟨⟨k, hb, hw, hu⟩, hx⟩ := hV
  obtain ⟨res2, e2, r2⟩ := ok_X6_dropAll hb hw hu x1 x2
  obtain ⟨res, e1, q⟩ := ag_dropAll hx x1 x2 res2 e2
  exact ⟨res, res2, e1, fun k9 h9 => ks_C2 (q.1 k9 h9).2.2, e2, ⟨⟨k, r2⟩, tq_aft q⟩, q⟩
theorem sx_shed {σ : CS} {τ : MS} (hV : INVX σ τ) (x1 : Int32) (x2 : Int32) (q2 : x2 = 0 ∨ x2 = 1) (x3 : Int32) (x4 : Int32) : ∃ res res2, f_X3_shed σ x1 x2 x3 x4 = some res ∧ (∀ k, res = .inl k → k = 0 ∨ k = 1) ∧ f_X6_shed τ x1 x2 x3 x4 = some res2 ∧ INVX (aftM σ res) res2.2 ∧ TQ C2 σ res res2 := by
  obtain ⟨⟨k, hb, hw, hu⟩, hx⟩ := hV
  obtain ⟨res2, e2, r2⟩ := ok_X6_shed hb hw hu x1 x2 x3 x4
  obtain ⟨res, e1, q⟩ := ag_shed hx x1 x2 x3 x4 res2 e2
  exact ⟨res, res2, e1, fun k9 h9 => ks_C2 (q.1 k9 h9).2.2, e2, ⟨⟨k, r2⟩, tq_aft q⟩, q⟩
theorem sx_thin {σ : CS} {τ : MS} (hV : INVX σ τ) (x1 : Int32) (x2 : Int32) (q2 : x2 = 0 ∨ x2 = 1) (x3 : Int32) : ∃ res res2, f_X3_thin σ x1 x2 x3 = some res ∧ (∀ k, res = .inl k → k = 0 ∨ k = 1) ∧ f_X6_thin τ x1 x2 x3 = some res2 ∧ INVX (aftM σ res) res2.2 ∧ TQ C2 σ res res2 := by
  obtain ⟨⟨k, hb, hw, hu⟩, hx⟩ := hV
  obtain ⟨res2, e2, r2⟩ := ok_X6_thin hb hw hu x1 x2 x3
  obtain ⟨res, e1, q⟩ := ag_thin hx x1 x2 x3 res2 e2
  exact ⟨res, res2, e1, fun k9 h9 => ks_C2 (q.1 k9 h9).2.2, e2, ⟨⟨k, r2⟩, tq_aft q⟩, q⟩
theorem sx_turn {σ : CS} {τ : MS} (hV : INVX σ τ) (x1 : Int32) : ∃ res res2, f_X3_turn σ x1 = some res ∧ (∀ k, res = .inl k → k = 0) ∧ f_X6_turn τ x1 = some res2 ∧ INVX (aftM σ res) res2.2 ∧ TQ C1 σ res res2 := by
  obtain ⟨⟨k, hb, hw, hu⟩, hx⟩ := hV
  obtain ⟨res2, e2, r2⟩ := ok_X6_turn hb hw hu x1
  obtain ⟨res, e1, q⟩ := ag_turn hx x1 res2 e2
  exact ⟨res, res2, e1, fun k9 h9 => ks_C1 (q.1 k9 h9).2.2, e2, ⟨⟨k, r2⟩, tq_aft q⟩, q⟩
theorem sx_clear {σ : CS} {τ : MS} (hV : INVX σ τ) (x1 : Int32) : ∃ res res2, f_X3_clear σ x1 = some res ∧ (∀ k, res = .inl k → k = 0) ∧ f_X6_clear τ x1 = some res2 ∧ INVX (aftM σ res) res2.2 ∧ TQ C1 σ res res2 := by
  obtain ⟨⟨k, hb, hw, hu⟩, hx⟩ := hV
  obtain ⟨res2, e2, r2⟩ := ok_X6_clear hb hw hu x1
  obtain ⟨res, e1, q⟩ := ag_clear hx x1 res2 e2
  exact ⟨res, res2, e1, fun k9 h9 => ks_C1 (q.1 k9 h9).2.2, e2, ⟨⟨k, r2⟩, tq_aft q⟩, q⟩
theorem sx_step {σ : CS} {τ : MS} (hV : INVX σ τ) : ∃ res res2, f_X3_step σ = some res ∧ (∀ k, res = .inl k → k = 2) ∧ f_X6_step τ = some res2 ∧ INVX (aftM σ res) res2.2 ∧ TQ C22 σ res res2 := by
  obtain ⟨⟨k, hb, hw, hu⟩, hx⟩ := hV
  obtain ⟨res2, e2, r2⟩ := ok_X6_step hb hw hu
  obtain ⟨res, e1, q⟩ := ag_step hx res2 e2
  exact ⟨res, res2, e1, fun k9 h9 => ks_C22 (q.1 k9 h9).2.2, e2, ⟨⟨k, r2⟩, tq_aft q⟩, q⟩
theorem sx_pluck {σ : CS} {τ : MS} (hV : INVX σ τ) : ∃ res res2, f_X3_pluck σ = some res ∧ (∀ k, res = .inl k → k = 2) ∧ f_X6_pluck τ = some res2 ∧ INVX (aftM σ res) res2.2 ∧ TQ C22 σ res res2 := by
  obtain ⟨⟨k, hb, hw, hu⟩, hx⟩ := hV
  obtain ⟨res2, e2, r2⟩ := ok_X6_pluck hb hw hu
  obtain ⟨res, e1, q⟩ := ag_pluck hx res2 e2
  exact ⟨res, res2, e1, fun k9 h9 => ks_C22 (q.1 k9 h9).2.2, e2, ⟨⟨k, r2⟩, tq_aft q⟩, q⟩
theorem sx_insert {σ : CS} {τ : MS} (hV : INVX σ τ) (x1 : Int32) (x2 : Int32) (x3 : Int32) : ∃ res res2, f_X3_insert σ x1 x2 x3 = some res ∧ (∀ k, res = .inl k → k = 0 ∨ k = 1 ∨ k = 2) ∧ f_X6_insert τ x1 x2 x3 = some res2 ∧ INVX (aftM σ res) res2.2 ∧ TQ C3 σ res res2 := by
  obtain ⟨⟨k, hb, hw, hu⟩, hx⟩ := hV
  obtain ⟨res2, e2, r2⟩ := ok_X6_insert hb hw hu x1 x2 x3
  obtain ⟨res, e1, q⟩ := ag_insert hx x1 x2 x3 res2 e2
  exact ⟨res, res2, e1, fun k9 h9 => ks_C3 (q.1 k9 h9).2.2, e2, ⟨⟨k, r2⟩, tq_aft q⟩, q⟩
theorem sx_cut {σ : CS} {τ : MS} (hV : INVX σ τ) (x1 : Int32) : ∃ res res2, f_X3_cut σ x1 = some res ∧ (∀ k, res = .inl k → k = 0) ∧ f_X6_cut τ x1 = some res2 ∧ INVX (aftM σ res) res2.2 ∧ TQ C1 σ res res2 := by
  obtain ⟨⟨k, hb, hw, hu⟩, hx⟩ := hV
  obtain ⟨res2, e2, r2⟩ := ok_X6_cut hb hw hu x1
  obtain ⟨res, e1, q⟩ := ag_cut hx x1 res2 e2
  exact ⟨res, res2, e1, fun k9 h9 => ks_C1 (q.1 k9 h9).2.2, e2, ⟨⟨k, r2⟩, tq_aft q⟩, q⟩
theorem sx_replace {σ : CS} {τ : MS} (hV : INVX σ τ) (x1 : Int32) (x2 : Int32) (x3 : Int32) : ∃ res res2, f_X3_replace σ x1 x2 x3 = some res ∧ (∀ k, res = .inl k → k = 0 ∨ k = 1) ∧ f_X6_replace τ x1 x2 x3 = some res2 ∧ INVX (aftM σ res) res2.2 ∧ TQ C2 σ res res2 := by
  obtain ⟨⟨k, hb, hw, hu⟩, hx⟩ := hV
  obtain ⟨res2, e2, r2⟩ := ok_X6_replace hb hw hu x1 x2 x3
  obtain ⟨res, e1, q⟩ := ag_replace hx x1 x2 x3 res2 e2
  exact ⟨res, res2, e1, fun k9 h9 => ks_C2 (q.1 k9 h9).2.2, e2, ⟨⟨k, r2⟩, tq_aft q⟩, q⟩
theorem sx_at {σ : CS} {τ : MS} (hV : INVX σ τ) (x1 : Int32) : ∃ res res2, f_X3_at σ x1 = some res ∧ (∀ k, res = .inl k → k = 0) ∧ f_X6_at τ x1 = some res2 ∧ INVX σ res2.2 ∧ TN C1 σ res res2 := by
  obtain ⟨⟨k, hb, hw, hu⟩, hx⟩ := hV
  obtain ⟨res2, e2, r2⟩ := ok_X6_at hb hw hu x1
  obtain ⟨res, e1, q⟩ := ag_at hx x1 res2 e2
  exact ⟨res, res2, e1, fun k9 h9 => ks_C1 (q.1 k9 h9).2.2, e2, ⟨⟨k, r2⟩, tn_aft q⟩, q⟩
theorem sx_find {σ : CS} {τ : MS} (hV : INVX σ τ) (x1 : Int32) (x2 : Int32) (q2 : x2 = 0 ∨ x2 = 1) : ∃ res res2, f_X3_find σ x1 x2 = some res ∧ (∀ k, res = .inl k → k = 1) ∧ f_X6_find τ x1 x2 = some res2 ∧ INVX σ res2.2 ∧ TN C11 σ res res2 := by
  obtain ⟨⟨k, hb, hw, hu⟩, hx⟩ := hV
  obtain ⟨res2, e2, r2⟩ := ok_X6_find hb hw hu x1 x2
  obtain ⟨res, e1, q⟩ := ag_find hx x1 x2 res2 e2
  exact ⟨res, res2, e1, fun k9 h9 => ks_C11 (q.1 k9 h9).2.2, e2, ⟨⟨k, r2⟩, tn_aft q⟩, q⟩
theorem sx_splice {σ : CS} {τ : MS} (hV : INVX σ τ) (x1 : Int32) : ∃ res res2, f_X3_splice σ x1 = some res ∧ (∀ k, res = .inl k → k = 0 ∨ k = 2) ∧ f_X6_splice τ x1 = some res2 ∧ INVX (aftM σ res) res2.2 ∧ TQ C02 σ res res2 := by
  obtain ⟨⟨k, hb, hw, hu⟩, hx⟩ := hV
  obtain ⟨res2, e2, r2⟩ := ok_X6_splice hb hw hu x1
  obtain ⟨res, e1, q⟩ := ag_splice hx x1 res2 e2
  exact ⟨res, res2, e1, fun k9 h9 => ks_C02 (q.1 k9 h9).2.2, e2, ⟨⟨k, r2⟩, tq_aft q⟩, q⟩
theorem sx_shunt {σ : CS} {τ : MS} (hV : INVX σ τ) (x1 : Int32) (x2 : Int32) : ∃ res res2, f_X3_shunt σ x1 x2 = some res ∧ (∀ k, res = .inl k → k = 0 ∨ k = 1 ∨ k = 2) ∧ f_X6_shunt τ x1 x2 = some res2 ∧ INVX (aftM σ res) res2.2 ∧ TQ C3 σ res res2 := by
  obtain ⟨⟨k, hb, hw, hu⟩, hx⟩ := hV
  obtain ⟨res2, e2, r2⟩ := ok_X6_shunt hb hw hu x1 x2
  obtain ⟨res, e1, q⟩ := ag_shunt hx x1 x2 res2 e2
  exact ⟨res, res2, e1, fun k9 h9 => ks_C3 (q.1 k9 h9).2.2, e2, ⟨⟨k, r2⟩, tq_aft q⟩, q⟩
theorem sx_stand {σ : CS} {τ : MS} (hV : INVX σ τ) (x1 : Int32) (x2 : Int32) : ∃ res res2, f_X3_stand σ x1 x2 = some res ∧ (∀ k, res = .inl k → k = 0) ∧ f_X6_stand τ x1 x2 = some res2 ∧ INVX (aftM σ res) res2.2 ∧ TQ C1 σ res res2 := by
  obtain ⟨⟨k, hb, hw, hu⟩, hx⟩ := hV
  obtain ⟨res2, e2, r2⟩ := ok_X6_stand hb hw hu x1 x2
  obtain ⟨res, e1, q⟩ := ag_stand hx x1 x2 res2 e2
  exact ⟨res, res2, e1, fun k9 h9 => ks_C1 (q.1 k9 h9).2.2, e2, ⟨⟨k, r2⟩, tq_aft q⟩, q⟩
theorem sx_forth {σ : CS} {τ : MS} (hV : INVX σ τ) (x1 : Int32) : ∃ res res2, f_X3_forth σ x1 = some res ∧ (∀ k, res = .inl k → k = 0 ∨ k = 2) ∧ f_X6_forth τ x1 = some res2 ∧ INVX (aftM σ res) res2.2 ∧ TQ C02 σ res res2 := by
  obtain ⟨⟨k, hb, hw, hu⟩, hx⟩ := hV
  obtain ⟨res2, e2, r2⟩ := ok_X6_forth hb hw hu x1
  obtain ⟨res, e1, q⟩ := ag_forth hx hw x1 res2 e2
  exact ⟨res, res2, e1, fun k9 h9 => ks_C02 (q.1 k9 h9).2.2, e2, ⟨⟨k, r2⟩, tq_aft q⟩, q⟩
theorem sx_back {σ : CS} {τ : MS} (hV : INVX σ τ) (x1 : Int32) : ∃ res res2, f_X3_back σ x1 = some res ∧ (∀ k, res = .inl k → k = 0 ∨ k = 2) ∧ f_X6_back τ x1 = some res2 ∧ INVX (aftM σ res) res2.2 ∧ TQ C02 σ res res2 := by
  obtain ⟨⟨k, hb, hw, hu⟩, hx⟩ := hV
  obtain ⟨res2, e2, r2⟩ := ok_X6_back hb hw hu x1
  obtain ⟨res, e1, q⟩ := ag_back hx hw x1 res2 e2
  exact ⟨res, res2, e1, fun k9 h9 => ks_C02 (q.1 k9 h9).2.2, e2, ⟨⟨k, r2⟩, tq_aft q⟩, q⟩
theorem sx_takeHeld {σ : CS} {τ : MS} (hV : INVX σ τ) (x1 : Int32) : ∃ res res2, f_X3_takeHeld σ x1 = some res ∧ (∀ k, res = .inl k → k = 0 ∨ k = 2) ∧ f_X6_takeHeld τ x1 = some res2 ∧ INVX (aftM σ res) res2.2 ∧ TQ C02 σ res res2 := by
  obtain ⟨⟨k, hb, hw, hu⟩, hx⟩ := hV
  obtain ⟨res2, e2, r2⟩ := ok_X6_takeHeld hb hw hu x1
  obtain ⟨res, e1, q⟩ := ag_takeHeld hx hw x1 res2 e2
  exact ⟨res, res2, e1, fun k9 h9 => ks_C02 (q.1 k9 h9).2.2, e2, ⟨⟨k, r2⟩, tq_aft q⟩, q⟩
theorem sx_setHeld {σ : CS} {τ : MS} (hV : INVX σ τ) (x1 : Int32) (x2 : Int32) (x3 : Int32) : ∃ res res2, f_X3_setHeld σ x1 x2 x3 = some res ∧ (∀ k, res = .inl k → k = 0 ∨ k = 1 ∨ k = 2) ∧ f_X6_setHeld τ x1 x2 x3 = some res2 ∧ INVX (aftM σ res) res2.2 ∧ TQ C3 σ res res2 := by
  obtain ⟨⟨k, hb, hw, hu⟩, hx⟩ := hV
  obtain ⟨res2, e2, r2⟩ := ok_X6_setHeld hb hw hu x1 x2 x3
  obtain ⟨res, e1, q⟩ := ag_setHeld hx hw x1 x2 x3 res2 e2
  exact ⟨res, res2, e1, fun k9 h9 => ks_C3 (q.1 k9 h9).2.2, e2, ⟨⟨k, r2⟩, tq_aft q⟩, q⟩
theorem sx_put {σ : CS} {τ : MS} (hV : INVX σ τ) (x1 : Int32) (x2 : Int32) (x3 : Int32) : ∃ res res2, f_X3_put σ x1 x2 x3 = some res ∧ (∀ k, res = .inl k → k = 0 ∨ k = 1 ∨ k = 2) ∧ f_X6_put τ x1 x2 x3 = some res2 ∧ INVX (aftM σ res) res2.2 ∧ TQ C3 σ res res2 := by
  obtain ⟨⟨k, hb, hw, hu⟩, hx⟩ := hV
  obtain ⟨res2, e2, r2⟩ := ok_X6_put hb hw hu x1 x2 x3
  obtain ⟨res, e1, q⟩ := ag_put hx hw x1 x2 x3 res2 e2
  exact ⟨res, res2, e1, fun k9 h9 => ks_C3 (q.1 k9 h9).2.2, e2, ⟨⟨k, r2⟩, tq_aft q⟩, q⟩
theorem sx_where {σ : CS} {τ : MS} (hV : INVX σ τ) (x1 : Int32) (x2 : Int32) : ∃ res res2, f_X3_where σ x1 x2 = some res ∧ (∀ k, res = .inl k → k = 0 ∨ k = 1 ∨ k = 2) ∧ f_X6_where τ x1 x2 = some res2 ∧ INVX σ res2.2 ∧ TN C3 σ res res2 := by
  obtain ⟨⟨k, hb, hw, hu⟩, hx⟩ := hV
  obtain ⟨res2, e2, r2⟩ := ok_X6_where hb hw hu x1 x2
  obtain ⟨res, e1, q⟩ := ag_where hx hw x1 x2 res2 e2
  exact ⟨res, res2, e1, fun k9 h9 => ks_C3 (q.1 k9 h9).2.2, e2, ⟨⟨k, r2⟩, tn_aft q⟩, q⟩
theorem sx_order {σ : CS} {τ : MS} (hV : INVX σ τ) (x1 : Int32) : ∃ res res2, f_X3_order σ x1 = some res ∧ (∀ k, res = .inl k → k = 1 ∨ k = 2) ∧ f_X6_order τ x1 = some res2 ∧ INVX (aftM σ res) res2.2 ∧ TQ C12 σ res res2 := by
  obtain ⟨⟨k, hb, hw, hu⟩, hx⟩ := hV
  obtain ⟨res2, e2, r2⟩ := ok_X6_order hb hw hu x1
  obtain ⟨res, e1, q⟩ := ag_order hx x1 res2 e2
  exact ⟨res, res2, e1, fun k9 h9 => ks_C12 (q.1 k9 h9).2.2, e2, ⟨⟨k, r2⟩, tq_aft q⟩, q⟩
theorem sx_work {σ : CS} {τ : MS} (hV : INVX σ τ) (x1 : Int32) : ∃ res res2, f_X3_work σ x1 = some res ∧ (∀ k, res = .inl k → k = 1) ∧ f_X6_work τ x1 = some res2 ∧ INVX (aftM σ res) res2.2 ∧ TQ C11 σ res res2 := by
  obtain ⟨⟨k, hb, hw, hu⟩, hx⟩ := hV
  obtain ⟨res2, e2, r2⟩ := ok_X6_work hb hw hu x1
  obtain ⟨res, e1, q⟩ := ag_work hx x1 res2 e2
  exact ⟨res, res2, e1, fun k9 h9 => ks_C11 (q.1 k9 h9).2.2, e2, ⟨⟨k, r2⟩, tq_aft q⟩, q⟩
theorem sx_cancel {σ : CS} {τ : MS} (hV : INVX σ τ) (x1 : Int32) (x2 : Int32) (q2 : x2 = 0 ∨ x2 = 1) : ∃ res res2, f_X3_cancel σ x1 x2 = some res ∧ (∀ k, res = .inl k → k = 1) ∧ f_X6_cancel τ x1 x2 = some res2 ∧ INVX (aftM σ res) res2.2 ∧ TQ C11 σ res res2 := by
  obtain ⟨⟨k, hb, hw, hu⟩, hx⟩ := hV
  obtain ⟨res2, e2, r2⟩ := ok_X6_cancel hb hw hu x1 x2
  obtain ⟨res, e1, q⟩ := ag_cancel hx x1 x2 res2 e2
  exact ⟨res, res2, e1, fun k9 h9 => ks_C11 (q.1 k9 h9).2.2, e2, ⟨⟨k, r2⟩, tq_aft q⟩, q⟩
theorem sx_ask {σ : CS} {τ : MS} (hV : INVX σ τ) (x1 : Int32) (x2 : Int32) : ∃ res res2, f_X3_ask σ x1 x2 = some res ∧ (∀ k, res = .inl k → k = 0 ∨ k = 1) ∧ f_X6_ask τ x1 x2 = some res2 ∧ INVX σ res2.2 ∧ TN C2 σ res res2 := by
  obtain ⟨⟨k, hb, hw, hu⟩, hx⟩ := hV
  obtain ⟨res2, e2, r2⟩ := ok_X6_ask hb hw hu x1 x2
  obtain ⟨res, e1, q⟩ := ag_ask hx x1 x2 res2 e2
  exact ⟨res, res2, e1, fun k9 h9 => ks_C2 (q.1 k9 h9).2.2, e2, ⟨⟨k, r2⟩, tn_aft q⟩, q⟩
theorem sx_ofTrack {σ : CS} {τ : MS} (hV : INVX σ τ) (x1 : Int32) (x2 : Int32) : ∃ res res2, f_X3_ofTrack σ x1 x2 = some res ∧ (∀ k, res = .inl k → k = 0 ∨ k = 1) ∧ f_X6_ofTrack τ x1 x2 = some res2 ∧ INVX σ res2.2 ∧ TN C2 σ res res2 := by
  obtain ⟨⟨k, hb, hw, hu⟩, hx⟩ := hV
  obtain ⟨res2, e2, r2⟩ := ok_X6_ofTrack hb hw hu x1 x2
  obtain ⟨res, e1, q⟩ := ag_ofTrack hx x1 x2 res2 e2
  exact ⟨res, res2, e1, fun k9 h9 => ks_C2 (q.1 k9 h9).2.2, e2, ⟨⟨k, r2⟩, tn_aft q⟩, q⟩
theorem sx_has {σ : CS} {τ : MS} (hV : INVX σ τ) (x1 : Int32) (x2 : Int32) : ∃ res res2, f_X3_has σ x1 x2 = some res ∧ (∀ k, res = .inl k → k = 0 ∨ k = 1) ∧ f_X6_has τ x1 x2 = some res2 ∧ INVX σ res2.2 ∧ TN C2 σ res res2 := by
  obtain ⟨⟨k, hb, hw, hu⟩, hx⟩ := hV
  obtain ⟨res2, e2, r2⟩ := ok_X6_has hb hw hu x1 x2
  obtain ⟨res, e1, q⟩ := ag_has hx x1 x2 res2 e2
  exact ⟨res, res2, e1, fun k9 h9 => ks_C2 (q.1 k9 h9).2.2, e2, ⟨⟨k, r2⟩, tn_aft q⟩, q⟩
theorem sx_nested {σ : CS} {τ : MS} (hV : INVX σ τ) (x1 : Int32) : ∃ res res2, f_X3_nested σ x1 = some res ∧ (∀ k, res = .inl k → k = 0) ∧ f_X6_nested τ x1 = some res2 ∧ INVX (aftM σ res) res2.2 ∧ TQ C1 σ res res2 := by
  obtain ⟨⟨k, hb, hw, hu⟩, hx⟩ := hV
  obtain ⟨res2, e2, r2⟩ := ok_X6_nested hb hw hu x1
  obtain ⟨res, e1, q⟩ := ag_nested hx x1 res2 e2
  exact ⟨res, res2, e1, fun k9 h9 => ks_C1 (q.1 k9 h9).2.2, e2, ⟨⟨k, r2⟩, tq_aft q⟩, q⟩
theorem sx_heaviest {σ : CS} {τ : MS} (hV : INVX σ τ) (x1 : Int32) (x2 : Int32) (x3 : Int32) : ∃ res res2, f_X3_heaviest σ x1 x2 x3 = some res ∧ (∀ k, res = .inl k → k = 0 ∨ k = 1) ∧ f_X6_heaviest τ x1 x2 x3 = some res2 ∧ INVX σ res2.2 ∧ TN C2 σ res res2 := by
  obtain ⟨⟨k, hb, hw, hu⟩, hx⟩ := hV
  obtain ⟨res2, e2, r2⟩ := ok_X6_heaviest hb hw hu x1 x2 x3
  obtain ⟨res, e1, q⟩ := ag_heaviest hx x1 x2 x3 res2 e2
  exact ⟨res, res2, e1, fun k9 h9 => ks_C2 (q.1 k9 h9).2.2, e2, ⟨⟨k, r2⟩, tn_aft q⟩, q⟩
theorem sx_ahead {σ : CS} {τ : MS} (hV : INVX σ τ) (x1 : Int32) (x2 : Int32) : ∃ res res2, f_X3_ahead σ x1 x2 = some res ∧ (∀ k, res = .inl k → k = 0) ∧ f_X6_ahead τ x1 x2 = some res2 ∧ INVX σ res2.2 ∧ TN C1 σ res res2 := by
  obtain ⟨⟨k, hb, hw, hu⟩, hx⟩ := hV
  obtain ⟨res2, e2, r2⟩ := ok_X6_ahead hb hw hu x1 x2
  obtain ⟨res, e1, q⟩ := ag_ahead hx x1 x2 res2 e2
  exact ⟨res, res2, e1, fun k9 h9 => ks_C1 (q.1 k9 h9).2.2, e2, ⟨⟨k, r2⟩, tn_aft q⟩, q⟩
theorem sx_yard {σ : CS} {τ : MS} (hV : INVX σ τ) (x1 : Int32) : ∃ res res2, f_X3_yard σ x1 = some res ∧ (∀ k, res = .inl k → k = 1) ∧ f_X6_yard τ x1 = some res2 ∧ INVX σ res2.2 ∧ TN C11 σ res res2 := by
  obtain ⟨⟨k, hb, hw, hu⟩, hx⟩ := hV
  obtain ⟨res2, e2, r2⟩ := ok_X6_yard hb hw hu x1
  obtain ⟨res, e1, q⟩ := ag_yard hx x1 res2 e2
  exact ⟨res, res2, e1, fun k9 h9 => ks_C11 (q.1 k9 h9).2.2, e2, ⟨⟨k, r2⟩, tn_aft q⟩, q⟩
theorem sx_undo {σ : CS} {τ : MS} (hV : INVX σ τ) : ∃ res res2, f_X3_undo σ = some res ∧ f_X6_undo τ = some res2 ∧ INVX res.2 res2.2 ∧ res2.1 = res.1 := by
  obtain ⟨⟨k, hb, hw, hu⟩, hx⟩ := hV
  obtain ⟨res2, e2, r2⟩ := ok_X6_undo hb hw hu
  obtain ⟨res, e1, q⟩ := ag_undo hx hu res2 e2
  exact ⟨res, res2, e1, e2, ⟨⟨k, r2⟩, q.2⟩, q.1.symm⟩
theorem sx_purge {σ : CS} {τ : MS} (hV : INVX σ τ) (x1 : Int32) (q1 : x1 = 0 ∨ x1 = 1) : ∃ res res2, f_X3_purge σ x1 = some res ∧ f_X6_purge τ x1 = some res2 ∧ INVX res.2 res2.2 ∧ res2.1 = res.1 := by
  obtain ⟨⟨k, hb, hw, hu⟩, hx⟩ := hV
  obtain ⟨res2, e2, r2⟩ := ok_X6_purge hb hw hu x1
  obtain ⟨res, e1, q⟩ := ag_purge hx q1 res2 e2
  exact ⟨res, res2, e1, e2, ⟨⟨k, r2⟩, q.2⟩, q.1.symm⟩
theorem sx_walk {σ : CS} {τ : MS} (hV : INVX σ τ) (x1 : Int32) (q1 : x1 = 0 ∨ x1 = 1) : ∃ res res2, f_X3_walk σ x1 = some res ∧ f_X6_walk τ x1 = some res2 ∧ INVX res.2 res2.2 ∧ res2.1 = res.1 := by
  obtain ⟨⟨k, hb, hw, hu⟩, hx⟩ := hV
  obtain ⟨res2, e2, r2⟩ := ok_X6_walk hb hw hu x1
  obtain ⟨res, e1, q⟩ := ag_walk hx x1 q1 res2 e2
  exact ⟨res, res2, e1, e2, ⟨⟨k, r2⟩, q.2⟩, q.1.symm⟩
theorem sx_knock {σ : CS} {τ : MS} (hV : INVX σ τ) : ∃ res res2, f_X3_knock σ = some res ∧ f_X6_knock τ = some res2 ∧ INVX res.2 res2.2 ∧ res2.1 = res.1 := by
  obtain ⟨⟨k, hb, hw, hu⟩, hx⟩ := hV
  obtain ⟨res2, e2, r2⟩ := ok_X6_knock hb hw hu
  obtain ⟨res, e1, q⟩ := ag_knock hx res2 e2
  exact ⟨res, res2, e1, e2, ⟨⟨k + 1, r2.2⟩, q.2⟩, q.1.symm⟩
theorem sx_compare {σ : CS} {τ : MS} (hV : INVX σ τ) (x1 : Int32) (q1 : x1 = 0 ∨ x1 = 1) : ∃ res res2, f_X3_compare σ x1 = some res ∧ f_X6_compare τ x1 = some res2 ∧ INVX σ res2.2 ∧ res2.1 = res := by
  obtain ⟨⟨k, hb, hw, hu⟩, hx⟩ := hV
  obtain ⟨res2, e2, r2⟩ := ok_X6_compare hb hw hu x1
  obtain ⟨res, e1, q⟩ := ag_compare hx x1 res2 e2
  exact ⟨res, res2, e1, e2, ⟨⟨k, r2⟩, q.2.1⟩, q.1.symm⟩
theorem rx_th0 {σ : CS} {τ : MS} (h : RX σ τ) : RX σ (τ.1, va_up τ.2 0 0) := h.thr 0
theorem sx_isSound {σ : CS} {τ : MS} (hV : INVX σ τ) : ∃ res, f_X3_isSound σ = some res ∧ (∀ k, k < 2 → (τ.1 k).length ≤ 20) ∧ (τ.1 2).length ≤ 12 ∧ (∀ j, j < (τ.1 2).length → ∃ v, v < 8000 ∧ (τ.1 2).getD j 0 = nI v) ∧ INVX res.2 (τ.1, va_up τ.2 0 0) ∧ WHO (τ.1, va_up τ.2 0 0) ∧ res.1 = ub (unR (svN (τ.1 2)) (τ.1 2).length τ.1) := by
  obtain ⟨⟨k, hb, hw, hu⟩, hx⟩ := hV
  obtain ⟨res, e1, q⟩ := cl_sound hx hw hb.slv
  have hw1 : WK (τ.1, va_up τ.2 0 0) := hw.sc (by omega)
  exact ⟨res, e1, hb.len2, hb.len12, hb.slv, ⟨⟨k, hb.sc (by omega), hw1, hu⟩, (sr_sound SR.rf res e1).rx (rx_th0 hx)⟩, who_of (rx_th0 hx) hw1, q⟩
theorem sx_digest {σ : CS} {τ : MS} (hV : INVX σ τ) : ∃ res, f_X3_digest σ = some res ∧ DV (τ.1, va_up τ.2 0 0) (ttV (τ.1, va_up τ.2 0 0)) (akV (τ.1, va_up τ.2 0 0)) (neV (τ.1, va_up τ.2 0 0)) (foV (τ.1, va_up τ.2 0 0)) (whV (τ.1, va_up τ.2 0 0)) (yaV (τ.1, va_up τ.2 0 0)) (coV (τ.1, va_up τ.2 0 0)) ∧ (∀ k, k < 2 → (τ.1 k).length ≤ 20) ∧ (∀ t, t < 2 → ∀ j, j < (τ.1 t).length → ∃ v, v < 1000 ∧ (τ.1 t).getD j 0 = nI v) ∧ (τ.1 2).length ≤ 12 ∧ (τ.1 3).length ≤ 32 ∧ (∀ j, j < (τ.1 2).length → ∃ v, v < 8000 ∧ (τ.1 2).getD j 0 = nI v) ∧ INVX res.2 (τ.1, va_up τ.2 0 0) ∧ WHO (τ.1, va_up τ.2 0 0) ∧ res.1 = dgA (ttV (τ.1, va_up τ.2 0 0)) (akV (τ.1, va_up τ.2 0 0)) (neV (τ.1, va_up τ.2 0 0)) (foV (τ.1, va_up τ.2 0 0)) (whV (τ.1, va_up τ.2 0 0)) (fun w => (va_up τ.2 0 0) (5 + 3 * w)) (yaV (τ.1, va_up τ.2 0 0)) (coV (τ.1, va_up τ.2 0 0)) τ.1 (ub (unR (svN (τ.1 2)) (τ.1 2).length τ.1)) := by
  obtain ⟨⟨k, hb, hw, hu⟩, hx⟩ := hV
  have b1 : IB k (τ.1, va_up τ.2 0 0) := hb.sc (by omega)
  have w1 : WK (τ.1, va_up τ.2 0 0) := hw.sc (by omega)
  have hD : DH (τ.1, va_up τ.2 0 0) := dh_of b1 w1 hu
  obtain ⟨res, e1, q⟩ := cl_digestV (τ := (τ.1, va_up τ.2 0 0)) (rx_th0 hx) w1 hD hb.slv
  exact ⟨res, e1, dv_of (rx_th0 hx) hD, hb.len2, hb.cdv, hb.len12, Nat.le_trans (hb.l (i := 3) (by omega)).1 (by decide), hb.slv, ⟨⟨k, b1, w1, hu⟩, (sr_digest res e1).rx (rx_th0 hx)⟩, who_of (rx_th0 hx) w1, q⟩
theorem st_thr {σ : CS} {τ : MS} (h : RX σ τ) {x1 zn : Int32} {r : Int32 × MS} (e1 : f_X6_isNoTrack x1 = some zn) (e2 : f_X6_start τ zn 1 = some r) : RX σ r.2 := by
  rw [mo_noTrack] at e1
  cases e1
  by_cases c : x1 = 0 ∨ x1 = 1
  · rw [if_pos c, mo_st0 rfl] at e2
    cases e2
    exact h.thr 0
  · rw [if_neg c, mo_st1 ne10 (by decide)] at e2
    cases e2
    exact h.thr 1
/-- whatever a track is asked for is a code -/
theorem rd_any {σ : CS} {τ : MS} (h : RX σ τ) {i : Nat} (hi : i < 2) (p : Int32) : ∃ v, v < 1000 ∧ f_X0_read (cap i) (σ.1 i) p = some (nI v) := by
  have hr := h.row (i := i) (by omega)
  have hl := hr.len
  by_cases c : p < 0 ∨ nI (τ.1 i).length ≤ p
  · exact ⟨0, by omega, rw_read0 hr c⟩
  · have c0 : 0 ≤ p := Int32.not_lt.mp fun q => c (Or.inl q)
    have c1 : p < nI (τ.1 i).length := Int32.not_le.mp fun q => c (Or.inr q)
    obtain ⟨j, hj, rfl⟩ := nIof (b := (τ.1 i).length) (by omega) c0 (Int32.le_of_lt c1)
    have c2 := (nI_lti (by omega) (by omega)).mp c1
    have tv := h.1.2.2.2.tv hi (mem_getD c2)
    obtain ⟨v, hv, e⟩ := nIof (b := 999) (by omega) tv.1.rng.1 tv.1.rng.2
    exact ⟨v, by omega, by rw [rw_read hr c2, e]⟩
theorem rdf_any {σ : CS} {τ : MS} (h : RX σ τ) {i : Nat} (hi : i < 2) (x2 p : Int32) : ∃ v, v < 1000 ∧ f_X0_readFrom (cap i) (σ.1 i) x2 p = some (nI v) := by
  unfold f_X0_readFrom
  by_cases c : x2 = 0
  · obtain ⟨v, hv, e⟩ := rd_any h hi p
    exact ⟨v, hv, by rw [if_pos c]; unfold f_X0_readFrom_17; rw [e]; rfl⟩
  · obtain ⟨v, hv, e⟩ := rd_any h hi (((σ.1 i).2 - 1) - p)
    exact ⟨v, hv, by rw [if_neg c]; unfold f_X0_readFrom_17; rw [e]; rfl⟩
theorem sx_text {σ : CS} {τ : MS} (hV : INVX σ τ) (x1 x2 : Int32) (q2 : x2 = 0 ∨ x2 = 1) : (∀ i, i < 2 → ∃ k, k ≤ 20 ∧ (σ.1 i).2 = nI k) ∧ (∀ i, i < 2 → ∀ u p, ∃ v, v < 1000 ∧ f_X0_readFrom (cap i) (σ.1 i) u p = some (nI v)) ∧ (∀ k, f_X3_needTrack x1 = some (.inl k) → k = 0) ∧ ∃ zn res2, f_X6_isNoTrack x1 = some zn ∧ f_X6_start τ zn 1 = some res2 ∧ (res2.1 = 0 → ∃ t, gtr x1 = some t ∧ (res2.2.1 t).length ≤ 20 ∧ ∀ j, j < (res2.2.1 t).length → ∃ v, v < 1000 ∧ (res2.2.1 t).getD j 0 = nI v) ∧ INVX σ res2.2 := by
  obtain ⟨⟨k, hb, hw, hu⟩, hx⟩ := hV
  obtain ⟨zn, e1, r1⟩ := ok_X6_isNoTrack x1
  obtain ⟨res2, e2, ⟨⟨h1, h2⟩, ⟨h3, h4⟩, b, w, u⟩⟩ := ok_X6_start hb hw hu zn 1 (by decide)
  refine ⟨fun i hi => ⟨(τ.1 i).length, (hx.row (i := i) (by omega)).len, (hx.row (i := i) (by omega)).1⟩, fun i hi u p => rdf_any hx hi u p, fun k9 h9 => ?_, zn, res2, e1, e2, fun h => ?_, ⟨k, b, w, u⟩, st_thr hx e1 e2⟩
  · by_cases c : x1 = 0 ∨ x1 = 1
    · rw [cl_track c] at h9
      cases h9
    · rw [cl_notrack c] at h9
      cases h9
      rfl
  · have p := r1 (h2 h).1
    have ht : ∃ t, t < 2 ∧ gtr x1 = some t := by
      rcases p with p | p <;> subst p
      · exact ⟨0, by omega, rfl⟩
      · exact ⟨1, by omega, rfl⟩
    obtain ⟨t, ht, hg⟩ := ht
    exact ⟨t, hg, b.len2 t ht, b.cdv t ht⟩
end
section
/-! the law's bytes, and what they mean -/
def by8 (A : ByteArray) (p : Nat) (b : UInt8) : Prop := ∃ h : p < A.size, A[p] = b
theorem u1_at {A : ByteArray} {p : Nat} {b : UInt8} (h : by8 A p b) : (Reader.u1 : Decoder Nat).runAt A p = .ok (b.toNat, p + 1) := by
  obtain ⟨h1, h2⟩ := h
  have e : (Reader.u1 : Decoder Nat).runAt A p = (if h : p < A.size then (do set (p + 1); pure (A[p].toNat) : Decoder Nat) else throw (HasTruncated.truncated p)).runAt A p := rfl
  rw [e, dif_pos h1, h2]
  rfl
theorem run_b {α β : Type} (r : Decoder α) (f : α → Decoder β) (A : ByteArray) (p : Nat) {a : α} {q : Nat} (h : r.runAt A p = .ok (a, q)) : (r >>= f).runAt A p = (f a).runAt A q := by
  have e : (r >>= f).runAt A p = Except.bind (r.runAt A p) (fun x => (f x.1).runAt A x.2) := rfl
  rw [e, h]
  rfl
theorem u2_at {A : ByteArray} {p : Nat} {b c : UInt8} (h : by8 A p b) (h2 : by8 A (p + 1) c) : (Reader.u2 : Decoder Nat).runAt A p = .ok (b.toNat * 256 + c.toNat, p + 2) := by
  unfold Reader.u2
  rw [run_b _ _ _ _ (u1_at h), run_b _ _ _ _ (u1_at h2)]
  rfl
theorem run_m {α β : Type} (r : Decoder α) (f : α → β) (A : ByteArray) (p : Nat) {a : α} {q : Nat} (h : r.runAt A p = .ok (a, q)) : (f <$> r).runAt A p = .ok (f a, q) := by
  have e : (f <$> r).runAt A p = Except.bind (r.runAt A p) (fun x => Except.ok (f x.1, x.2)) := rfl
  rw [e, h]
  rfl
theorem s2_at {A : ByteArray} {p : Nat} {b c : UInt8} (h : by8 A p b) (h2 : by8 A (p + 1) c) : (Reader.s2 : Decoder Int).runAt A p = .ok (Reader.signed 16 (b.toNat * 256 + c.toNat), p + 2) := run_m _ _ _ _ (u2_at h h2)
theorem s1_at {A : ByteArray} {p : Nat} {b : UInt8} (h : by8 A p b) : (Reader.s1 : Decoder Int).runAt A p = .ok (Reader.signed 8 b.toNat, p + 1) := run_m _ _ _ _ (u1_at h)
theorem dec_i {A : ByteArray} {p n : Nat} {i : Instr} (h : (Decoder.instr p).runAt A p = .ok (i, p + n)) : decode A p = .ok (i, n) := by
  unfold decode
  rw [h]
  show Except.ok (i, p + n - p) = _
  rw [Nat.add_sub_cancel_left]
section DEC
variable {A : ByteArray} {p : Nat}
theorem dec_187 {b c : UInt8} {x : Nat} (h : by8 A p 187) (h1 : by8 A (p + 1) b) (h2 : by8 A (p + 2) c) (hx : b.toNat * 256 + c.toNat = x) : decode A p = .ok (.new x, 3) := dec_i (by
  subst hx
  unfold Decoder.instr
  rw [run_b _ _ _ _ (u1_at h)]
  show (Reader.u2 >>= fun x => pure (Instr.new x)).runAt A (p + 1) = _
  rw [run_b _ _ _ _ (u2_at h1 h2)]
  rfl)
theorem dec_89 (h : by8 A p 89) : decode A p = .ok (.dup, 1) := dec_i (by
  unfold Decoder.instr
  rw [run_b _ _ _ _ (u1_at h)]
  rfl)
theorem dec_183 {b c : UInt8} {x : Nat} (h : by8 A p 183) (h1 : by8 A (p + 1) b) (h2 : by8 A (p + 2) c) (hx : b.toNat * 256 + c.toNat = x) : decode A p = .ok (.invokespecial x, 3) := dec_i (by
  subst hx
  unfold Decoder.instr
  rw [run_b _ _ _ _ (u1_at h)]
  show (Reader.u2 >>= fun x => pure (Instr.invokespecial x)).runAt A (p + 1) = _
  rw [run_b _ _ _ _ (u2_at h1 h2)]
  rfl)
theorem dec_76 (h : by8 A p 76) : decode A p = .ok (.astore_n 1, 1) := dec_i (by
  unfold Decoder.instr
  rw [run_b _ _ _ _ (u1_at h)]
  rfl)
theorem dec_77 (h : by8 A p 77) : decode A p = .ok (.astore_n 2, 1) := dec_i (by
  unfold Decoder.instr
  rw [run_b _ _ _ _ (u1_at h)]
  rfl)
theorem dec_78 (h : by8 A p 78) : decode A p = .ok (.astore_n 3, 1) := dec_i (by
  unfold Decoder.instr
  rw [run_b _ _ _ _ (u1_at h)]
  rfl)
theorem dec_3 (h : by8 A p 3) : decode A p = .ok (.iconst 0, 1) := dec_i (by
  unfold Decoder.instr
  rw [run_b _ _ _ _ (u1_at h)]
  rfl)
theorem dec_54 {b : UInt8} {x : Nat} (h : by8 A p 54) (h1 : by8 A (p + 1) b) (hx : b.toNat = x) : decode A p = .ok (.istore x, 2) := dec_i (by
  subst hx
  unfold Decoder.instr
  rw [run_b _ _ _ _ (u1_at h)]
  show (Reader.u1 >>= fun x => pure (Instr.istore x)).runAt A (p + 1) = _
  rw [run_b _ _ _ _ (u1_at h1)]
  rfl)
theorem dec_21 {b : UInt8} {x : Nat} (h : by8 A p 21) (h1 : by8 A (p + 1) b) (hx : b.toNat = x) : decode A p = .ok (.iload x, 2) := dec_i (by
  subst hx
  unfold Decoder.instr
  rw [run_b _ _ _ _ (u1_at h)]
  show (Reader.u1 >>= fun x => pure (Instr.iload x)).runAt A (p + 1) = _
  rw [run_b _ _ _ _ (u1_at h1)]
  rfl)
theorem dec_42 (h : by8 A p 42) : decode A p = .ok (.aload_n 0, 1) := dec_i (by
  unfold Decoder.instr
  rw [run_b _ _ _ _ (u1_at h)]
  rfl)
theorem dec_190 (h : by8 A p 190) : decode A p = .ok (.arraylength, 1) := dec_i (by
  unfold Decoder.instr
  rw [run_b _ _ _ _ (u1_at h)]
  rfl)
theorem dec_8 (h : by8 A p 8) : decode A p = .ok (.iconst 5, 1) := dec_i (by
  unfold Decoder.instr
  rw [run_b _ _ _ _ (u1_at h)]
  rfl)
theorem dec_100 (h : by8 A p 100) : decode A p = .ok (.isub, 1) := dec_i (by
  unfold Decoder.instr
  rw [run_b _ _ _ _ (u1_at h)]
  rfl)
theorem dec_163 {b c : UInt8} {x : Int} (h : by8 A p 163) (h1 : by8 A (p + 1) b) (h2 : by8 A (p + 2) c) (hx : Reader.signed 16 (b.toNat * 256 + c.toNat) = x) : decode A p = .ok (.if_icmp .gt x, 3) := dec_i (by
  subst hx
  unfold Decoder.instr
  rw [run_b _ _ _ _ (u1_at h)]
  show (Reader.s2 >>= fun x => pure (Instr.if_icmp .gt x)).runAt A (p + 1) = _
  rw [run_b _ _ _ _ (s2_at h1 h2)]
  rfl)
theorem dec_46 (h : by8 A p 46) : decode A p = .ok (.iaload, 1) := dec_i (by
  unfold Decoder.instr
  rw [run_b _ _ _ _ (u1_at h)]
  rfl)
theorem dec_16 {b : UInt8} {x : Int} (h : by8 A p 16) (h1 : by8 A (p + 1) b) (hx : Reader.signed 8 b.toNat = x) : decode A p = .ok (.bipush x, 2) := dec_i (by
  subst hx
  unfold Decoder.instr
  rw [run_b _ _ _ _ (u1_at h)]
  show (Reader.s1 >>= fun x => pure (Instr.bipush x)).runAt A (p + 1) = _
  rw [run_b _ _ _ _ (s1_at h1)]
  rfl)
theorem dec_126 (h : by8 A p 126) : decode A p = .ok (.iand, 1) := dec_i (by
  unfold Decoder.instr
  rw [run_b _ _ _ _ (u1_at h)]
  rfl)
theorem dec_43 (h : by8 A p 43) : decode A p = .ok (.aload_n 1, 1) := dec_i (by
  unfold Decoder.instr
  rw [run_b _ _ _ _ (u1_at h)]
  rfl)
theorem dec_4 (h : by8 A p 4) : decode A p = .ok (.iconst 1, 1) := dec_i (by
  unfold Decoder.instr
  rw [run_b _ _ _ _ (u1_at h)]
  rfl)
theorem dec_96 (h : by8 A p 96) : decode A p = .ok (.iadd, 1) := dec_i (by
  unfold Decoder.instr
  rw [run_b _ _ _ _ (u1_at h)]
  rfl)
theorem dec_5 (h : by8 A p 5) : decode A p = .ok (.iconst 2, 1) := dec_i (by
  unfold Decoder.instr
  rw [run_b _ _ _ _ (u1_at h)]
  rfl)
theorem dec_153 {b c : UInt8} {x : Int} (h : by8 A p 153) (h1 : by8 A (p + 1) b) (h2 : by8 A (p + 2) c) (hx : Reader.signed 16 (b.toNat * 256 + c.toNat) = x) : decode A p = .ok (.ifCond .eq x, 3) := dec_i (by
  subst hx
  unfold Decoder.instr
  rw [run_b _ _ _ _ (u1_at h)]
  show (Reader.s2 >>= fun x => pure (Instr.ifCond .eq x)).runAt A (p + 1) = _
  rw [run_b _ _ _ _ (s2_at h1 h2)]
  rfl)
theorem dec_167 {b c : UInt8} {x : Int} (h : by8 A p 167) (h1 : by8 A (p + 1) b) (h2 : by8 A (p + 2) c) (hx : Reader.signed 16 (b.toNat * 256 + c.toNat) = x) : decode A p = .ok (.goto x, 3) := dec_i (by
  subst hx
  unfold Decoder.instr
  rw [run_b _ _ _ _ (u1_at h)]
  show (Reader.s2 >>= fun x => pure (Instr.goto x)).runAt A (p + 1) = _
  rw [run_b _ _ _ _ (s2_at h1 h2)]
  rfl)
theorem dec_6 (h : by8 A p 6) : decode A p = .ok (.iconst 3, 1) := dec_i (by
  unfold Decoder.instr
  rw [run_b _ _ _ _ (u1_at h)]
  rfl)
theorem dec_7 (h : by8 A p 7) : decode A p = .ok (.iconst 4, 1) := dec_i (by
  unfold Decoder.instr
  rw [run_b _ _ _ _ (u1_at h)]
  rfl)
theorem dec_45 (h : by8 A p 45) : decode A p = .ok (.aload_n 3, 1) := dec_i (by
  unfold Decoder.instr
  rw [run_b _ _ _ _ (u1_at h)]
  rfl)
theorem dec_184 {b c : UInt8} {x : Nat} (h : by8 A p 184) (h1 : by8 A (p + 1) b) (h2 : by8 A (p + 2) c) (hx : b.toNat * 256 + c.toNat = x) : decode A p = .ok (.invokestatic x, 3) := dec_i (by
  subst hx
  unfold Decoder.instr
  rw [run_b _ _ _ _ (u1_at h)]
  show (Reader.u2 >>= fun x => pure (Instr.invokestatic x)).runAt A (p + 1) = _
  rw [run_b _ _ _ _ (u2_at h1 h2)]
  rfl)
theorem dec_44 (h : by8 A p 44) : decode A p = .ok (.aload_n 2, 1) := dec_i (by
  unfold Decoder.instr
  rw [run_b _ _ _ _ (u1_at h)]
  rfl)
theorem dec_182 {b c : UInt8} {x : Nat} (h : by8 A p 182) (h1 : by8 A (p + 1) b) (h2 : by8 A (p + 2) c) (hx : b.toNat * 256 + c.toNat = x) : decode A p = .ok (.invokevirtual x, 3) := dec_i (by
  subst hx
  unfold Decoder.instr
  rw [run_b _ _ _ _ (u1_at h)]
  show (Reader.u2 >>= fun x => pure (Instr.invokevirtual x)).runAt A (p + 1) = _
  rw [run_b _ _ _ _ (u2_at h1 h2)]
  rfl)
theorem dec_87 (h : by8 A p 87) : decode A p = .ok (.pop, 1) := dec_i (by
  unfold Decoder.instr
  rw [run_b _ _ _ _ (u1_at h)]
  rfl)
theorem dec_58 {b : UInt8} {x : Nat} (h : by8 A p 58) (h1 : by8 A (p + 1) b) (hx : b.toNat = x) : decode A p = .ok (.astore x, 2) := dec_i (by
  subst hx
  unfold Decoder.instr
  rw [run_b _ _ _ _ (u1_at h)]
  show (Reader.u1 >>= fun x => pure (Instr.astore x)).runAt A (p + 1) = _
  rw [run_b _ _ _ _ (u1_at h1)]
  rfl)
theorem dec_159 {b c : UInt8} {x : Int} (h : by8 A p 159) (h1 : by8 A (p + 1) b) (h2 : by8 A (p + 2) c) (hx : Reader.signed 16 (b.toNat * 256 + c.toNat) = x) : decode A p = .ok (.if_icmp .eq x, 3) := dec_i (by
  subst hx
  unfold Decoder.instr
  rw [run_b _ _ _ _ (u1_at h)]
  show (Reader.s2 >>= fun x => pure (Instr.if_icmp .eq x)).runAt A (p + 1) = _
  rw [run_b _ _ _ _ (s2_at h1 h2)]
  rfl)
theorem dec_172 (h : by8 A p 172) : decode A p = .ok (.ireturn, 1) := dec_i (by
  unfold Decoder.instr
  rw [run_b _ _ _ _ (u1_at h)]
  rfl)
theorem dec_154 {b c : UInt8} {x : Int} (h : by8 A p 154) (h1 : by8 A (p + 1) b) (h2 : by8 A (p + 2) c) (hx : Reader.signed 16 (b.toNat * 256 + c.toNat) = x) : decode A p = .ok (.ifCond .ne x, 3) := dec_i (by
  subst hx
  unfold Decoder.instr
  rw [run_b _ _ _ _ (u1_at h)]
  show (Reader.s2 >>= fun x => pure (Instr.ifCond .ne x)).runAt A (p + 1) = _
  rw [run_b _ _ _ _ (s2_at h1 h2)]
  rfl)
theorem dec_180 {b c : UInt8} {x : Nat} (h : by8 A p 180) (h1 : by8 A (p + 1) b) (h2 : by8 A (p + 2) c) (hx : b.toNat * 256 + c.toNat = x) : decode A p = .ok (.getfield x, 3) := dec_i (by
  subst hx
  unfold Decoder.instr
  rw [run_b _ _ _ _ (u1_at h)]
  show (Reader.u2 >>= fun x => pure (Instr.getfield x)).runAt A (p + 1) = _
  rw [run_b _ _ _ _ (u2_at h1 h2)]
  rfl)
theorem dec_133 (h : by8 A p 133) : decode A p = .ok (.i2l, 1) := dec_i (by
  unfold Decoder.instr
  rw [run_b _ _ _ _ (u1_at h)]
  rfl)
theorem dec_148 (h : by8 A p 148) : decode A p = .ok (.lcmp, 1) := dec_i (by
  unfold Decoder.instr
  rw [run_b _ _ _ _ (u1_at h)]
  rfl)
theorem dec_88 (h : by8 A p 88) : decode A p = .ok (.pop2, 1) := dec_i (by
  unfold Decoder.instr
  rw [run_b _ _ _ _ (u1_at h)]
  rfl)
end DEC
end
