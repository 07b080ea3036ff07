/-! WHAT A STATE OF THE CLASS IS, in the pool: rows (cells, count), the walk, the walkers, the yard -/
abbrev cls : List vw_C := [(RJ0, TJ0, 4), (RJ4, TJ4, 4), (RJ6, TJ6, 1), (RJx35411, TJx35411, 4), (RJx4a65c, TJx4a65c, 3), (RX0, TX0, 2), (RX1, TX1, 4), (RX2, TX2, 3), (RX3, TX3, 11), (RX4, TX4, 2), (RX5, TX5, 3), (RX6, TX6, 9)]
abbrev ty5 (κ : Nat → ClassId) : List (ClassId × FieldType) := [(κ 0, .int), (κ 1, .byte), (κ 2, .boolean), (κ 3, .object "java/lang/Object"), (κ 4, .object "TwoendsModel$Walker")]
abbrev RS : Type := (Nat → Int32) × Int32
abbrev CS : Type := (Nat → RS) × (Nat → Int32)
def scUp (g : Nat → Int32) (b n : Nat) (w : Nat → Int32) : Nat → Int32 := fun q => if b ≤ q ∧ q < b + n then w (q - b) else g q
def cap (i : Nat) : Nat := if i = 2 then 12 else if i = 3 then 10 else 20
def xName (k : Nat) : String := if k = 0 then "java/lang/IndexOutOfBoundsException" else if k = 1 then "java/lang/IllegalArgumentException" else "java/lang/IllegalStateException"
def FrR (h a : Nat) (F F' : Nat → va_E) : Prop := ∀ q, q ≠ h → q ≠ a → F' q = F q
def FrW (h : Nat) (F F' : Nat → va_E) : Prop := ∀ q, q ≠ h → F' q = F q
def FrA (A : Nat → Nat) (F F' : Nat → va_E) : Prop := ∀ q, (∀ i, i < 18 → q ≠ A i) → F' q = F q
def RI (κ : Nat → ClassId) (h a n : Nat) (ρ : RS) (L : List Nat) (F : Nat → va_E) : Prop := h ∈ L ∧ a ∈ L ∧ h ≠ a ∧ F h = .inr (5, [.ref a, .int ρ.2]) ∧ F a = .inl (κ 0, n, .inl ρ.1)
def WI (h : Nat) (ω : Nat → Int32) (L : List Nat) (F : Nat → va_E) : Prop := h ∈ L ∧ F h = .inr (6, [.int (ω 0), .int (ω 1), .int (ω 2), .int (ω 3)])
def KI (h : Nat) (ω : Nat → Int32) (L : List Nat) (F : Nat → va_E) : Prop := h ∈ L ∧ F h = .inr (7, [.int (ω 0), .int (ω 1), .int (ω 2)])
def CI (κ : Nat → ClassId) (A : Nat → Nat) (σ : CS) (L : List Nat) (F : Nat → va_E) : Prop :=
  (∀ i, i < 18 → A i ∈ L) ∧ (∀ i j, i < 18 → j < 18 → A i = A j → i = j) ∧
  F (A 0) = .inr (8, [.ref (A 1), .ref (A 3), .ref (A 5), .ref (A 7), .ref (A 15), .ref (A 16), .ref (A 17), .int (σ.2 0), .ref (A 9), .ref (A 11), .ref (A 13)]) ∧
  (∀ i, i < 7 → F (A (1 + 2 * i)) = .inr (5, [.ref (A (2 + 2 * i)), .int (σ.1 i).2]) ∧ F (A (2 + 2 * i)) = .inl (κ 0, cap i, .inl (σ.1 i).1)) ∧
  F (A 15) = .inr (6, [.int (σ.2 1), .int (σ.2 2), .int (σ.2 3), .int (σ.2 4)]) ∧
  (∀ j, j < 2 → F (A (16 + j)) = .inr (7, [.int (σ.2 (5 + 3 * j)), .int (σ.2 (5 + 3 * j + 1)), .int (σ.2 (5 + 3 * j + 2))]))
/-! small helps -/
theorem ob {α β : Type} {o : Option α} {f : α → Option β} {b : β} (h : o.bind f = some b) : ∃ a, o = some a ∧ f a = some b := by
  cases o with
  | none => cases h
  | some a => exact ⟨a, rfl, h⟩
def obx {α β : Type} (o : Option (Nat ⊕ α)) (k : α → Option (Nat ⊕ β)) : Option (Nat ⊕ β) := o.bind fun z => match z with
  | .inl e => some (.inl e)
  | .inr z => k z
theorem obx_ok {α β : Type} {o : Option (Nat ⊕ α)} {k : α → Option (Nat ⊕ β)} {res : Nat ⊕ β} (h : obx o k = some res) : ∃ z1, o = some z1 ∧ (∀ e, z1 = .inl e → res = .inl e) ∧ ∀ z, z1 = .inr z → k z = some res := by
  obtain ⟨z1, h1, h2⟩ := ob h
  refine ⟨z1, h1, fun e he => ?_, fun z hz => ?_⟩
  · subst he; exact (Option.some.inj h2).symm
  · subst hz; exact h2
theorem gd {α : Type} {c : Prop} [Decidable c] {k : Option α} {r : α} (h : (if c then none else k) = some r) : ¬ c ∧ k = some r := by
  by_cases hc : c
  · rw [if_pos hc] at h; cases h
  · rw [if_neg hc] at h; exact ⟨hc, h⟩
theorem gdp {α : Type} {c : Prop} [Decidable c] {k : Option α} {r : α} (h : (if c then k else none) = some r) : c ∧ k = some r := by
  by_cases hc : c
  · rw [if_pos hc] at h; exact ⟨hc, h⟩
  · rw [if_neg hc] at h; cases h
theorem eqm {α : Sort _} {P : α → Prop} {a b : α} (h : P a) (e : a = b) : P b := e ▸ h
theorem tbl_in {x : Int32} {k : Nat} (hk : k < 2147483648) (h : x = nI k) : x.toInt = (k : Int) := by rw [h]; exact nI_toInt hk
theorem tbl_out {x : Int32} (n : Nat) (hn : n < 2147483648) (h : ∀ k, k < n → ¬ x = nI k) : x.toInt < 0 ∨ (n : Int) - 1 < x.toInt := by
  by_cases q : x.toInt < 0
  · exact Or.inl q
  · right
    by_cases q2 : (n : Int) - 1 < x.toInt
    · exact q2
    · exfalso
      have h3 : x.toInt.toNat < n := by omega
      exact h _ h3 (by
        apply Int32.toInt_inj.mp
        rw [nI_toInt (by omega)]
        omega)
theorem up_eq {α : Type} {f : Nat → α} {k : Nat} {v : α} : va_up f k v k = v := by simp [va_up]
theorem up_ne {α : Type} {f : Nat → α} {k j : Nat} {v : α} (h : j ≠ k) : va_up f k v j = f j := by simp [va_up, h]
theorem FrA.rf {A : Nat → Nat} {F : Nat → va_E} : FrA A F F := fun _ _ => rfl
theorem FrR.rf {h a : Nat} {F : Nat → va_E} : FrR h a F F := fun _ _ _ => rfl
theorem FrW.rf {h : Nat} {F : Nat → va_E} : FrW h F F := fun _ _ => rfl
theorem FrA.tr {A : Nat → Nat} {F F1 F2 : Nat → va_E} (h1 : FrA A F F1) (h2 : FrA A F1 F2) : FrA A F F2 := fun q hq => (h2 q hq).trans (h1 q hq)
theorem FrR.tr {h a : Nat} {F F1 F2 : Nat → va_E} (h1 : FrR h a F F1) (h2 : FrR h a F1 F2) : FrR h a F F2 := fun q hq ha => (h2 q hq ha).trans (h1 q hq ha)
theorem FrW.tr {h : Nat} {F F1 F2 : Nat → va_E} (h1 : FrW h F F1) (h2 : FrW h F1 F2) : FrW h F F2 := fun q hq => (h2 q hq).trans (h1 q hq)
/-! a row's two writes -/
theorem RI.setCount {κ : Nat → ClassId} {h a n : Nat} {ρ : RS} {L : List Nat} {F : Nat → va_E} (hI : RI κ h a n ρ L F) (v : Int32) : RI κ h a n (ρ.1, v) L (va_up F h (.inr (5, ([.ref a, .int ρ.2] : List Value).set 1 (.int v)))) := by
  obtain ⟨h1, h2, h3, h4, h5⟩ := hI
  exact ⟨h1, h2, h3, up_eq, by rw [up_ne h3.symm]; exact h5⟩
theorem RI.setCell {κ : Nat → ClassId} {h a n : Nat} {ρ : RS} {L : List Nat} {F : Nat → va_E} (hI : RI κ h a n ρ L F) (f : Nat → Int32) : RI κ h a n (f, ρ.2) L (va_up F a (.inl (κ 0, n, .inl f))) := by
  obtain ⟨h1, h2, h3, h4, h5⟩ := hI
  exact ⟨h1, h2, h3, by rw [up_ne h3]; exact h4, up_eq⟩
theorem FrR.h {h a : Nat} {F : Nat → va_E} {e : va_E} : FrR h a F (va_up F h e) := fun _ hq _ => up_ne hq
theorem FrR.a {h a : Nat} {F : Nat → va_E} {e : va_E} : FrR h a F (va_up F a e) := fun _ _ hq => up_ne hq
theorem FrW.h {h : Nat} {F : Nat → va_E} {e : va_E} : FrW h F (va_up F h e) := fun _ hq => up_ne hq
theorem WI.set0 {h : Nat} {ω : Nat → Int32} {L : List Nat} {F : Nat → va_E} (hI : WI h ω L F) (v : Int32) : WI h (va_up ω 0 v) L (va_up F h (.inr (6, ([.int (ω 0), .int (ω 1), .int (ω 2), .int (ω 3)] : List Value).set 0 (.int v)))) := ⟨hI.1, up_eq⟩
theorem WI.set1 {h : Nat} {ω : Nat → Int32} {L : List Nat} {F : Nat → va_E} (hI : WI h ω L F) (v : Int32) : WI h (va_up ω 1 v) L (va_up F h (.inr (6, ([.int (ω 0), .int (ω 1), .int (ω 2), .int (ω 3)] : List Value).set 1 (.int v)))) := ⟨hI.1, up_eq⟩
theorem WI.set2 {h : Nat} {ω : Nat → Int32} {L : List Nat} {F : Nat → va_E} (hI : WI h ω L F) (v : Int32) : WI h (va_up ω 2 v) L (va_up F h (.inr (6, ([.int (ω 0), .int (ω 1), .int (ω 2), .int (ω 3)] : List Value).set 2 (.int v)))) := ⟨hI.1, up_eq⟩
theorem WI.set3 {h : Nat} {ω : Nat → Int32} {L : List Nat} {F : Nat → va_E} (hI : WI h ω L F) (v : Int32) : WI h (va_up ω 3 v) L (va_up F h (.inr (6, ([.int (ω 0), .int (ω 1), .int (ω 2), .int (ω 3)] : List Value).set 3 (.int v)))) := ⟨hI.1, up_eq⟩
theorem KI.set0 {h : Nat} {ω : Nat → Int32} {L : List Nat} {F : Nat → va_E} (hI : KI h ω L F) (v : Int32) : KI h (va_up ω 0 v) L (va_up F h (.inr (7, ([.int (ω 0), .int (ω 1), .int (ω 2)] : List Value).set 0 (.int v)))) := ⟨hI.1, up_eq⟩
theorem KI.set1 {h : Nat} {ω : Nat → Int32} {L : List Nat} {F : Nat → va_E} (hI : KI h ω L F) (v : Int32) : KI h (va_up ω 1 v) L (va_up F h (.inr (7, ([.int (ω 0), .int (ω 1), .int (ω 2)] : List Value).set 1 (.int v)))) := ⟨hI.1, up_eq⟩
theorem KI.set2 {h : Nat} {ω : Nat → Int32} {L : List Nat} {F : Nat → va_E} (hI : KI h ω L F) (v : Int32) : KI h (va_up ω 2 v) L (va_up F h (.inr (7, ([.int (ω 0), .int (ω 1), .int (ω 2)] : List Value).set 2 (.int v)))) := ⟨hI.1, up_eq⟩
section CIL
variable {κ : Nat → ClassId} {A : Nat → Nat} {σ : CS} {L : List Nat} {F F' : Nat → va_E}
theorem CI.mem (hI : CI κ A σ L F) (i : Nat) (hi : i < 18) : A i ∈ L := hI.1 i hi
theorem CI.this (hI : CI κ A σ L F) : F (A 0) = .inr (8, [.ref (A 1), .ref (A 3), .ref (A 5), .ref (A 7), .ref (A 15), .ref (A 16), .ref (A 17), .int (σ.2 0), .ref (A 9), .ref (A 11), .ref (A 13)]) := hI.2.2.1
theorem CI.ne (hI : CI κ A σ L F) {i j : Nat} (hi : i < 18) (hj : j < 18) (h : i ≠ j) : A i ≠ A j := fun e => h (hI.2.1 i j hi hj e)
theorem CI.rowH (hI : CI κ A σ L F) {i : Nat} (hi : i < 7) : F (A (1 + 2 * i)) = .inr (5, [.ref (A (2 + 2 * i)), .int (σ.1 i).2]) := (hI.2.2.2.1 i hi).1
theorem CI.walkH (hI : CI κ A σ L F) : F (A 15) = .inr (6, [.int (σ.2 1), .int (σ.2 2), .int (σ.2 3), .int (σ.2 4)]) := hI.2.2.2.2.1
theorem CI.kerH (hI : CI κ A σ L F) {j : Nat} (hj : j < 2) : F (A (16 + j)) = .inr (7, [.int (σ.2 (5 + 3 * j)), .int (σ.2 (5 + 3 * j + 1)), .int (σ.2 (5 + 3 * j + 2))]) := hI.2.2.2.2.2 j hj
theorem CI.row (hI : CI κ A σ L F) {i : Nat} (hi : i < 7) : RI κ (A (1 + 2 * i)) (A (2 + 2 * i)) (cap i) (σ.1 i) L F :=
  ⟨hI.1 _ (by omega), hI.1 _ (by omega), hI.ne (by omega) (by omega) (by omega), (hI.2.2.2.1 i hi).1, (hI.2.2.2.1 i hi).2⟩
theorem CI.walk (hI : CI κ A σ L F) : WI (A 15) (fun k => σ.2 (1 + k)) L F := ⟨hI.1 _ (by omega), hI.2.2.2.2.1⟩
theorem CI.ker (hI : CI κ A σ L F) {j : Nat} (hj : j < 2) : KI (A (16 + j)) (fun k => σ.2 (5 + 3 * j + k)) L F := ⟨hI.1 _ (by omega), hI.2.2.2.2.2 j hj⟩
theorem CI.setRow (hI : CI κ A σ L F) {i : Nat} (hi : i < 7) {ρ : RS} (hR : RI κ (A (1 + 2 * i)) (A (2 + 2 * i)) (cap i) ρ L F') (hf : FrR (A (1 + 2 * i)) (A (2 + 2 * i)) F F') : CI κ A (va_up σ.1 i ρ, σ.2) L F' := by
  obtain ⟨h1, h2, h3, h4, h5, h6⟩ := hI
  have hn : ∀ q, q < 18 → q ≠ 1 + 2 * i → q ≠ 2 + 2 * i → F' (A q) = F (A q) := fun q hq n1 n2 => hf _ (fun e => n1 (h2 _ _ hq (by omega) e)) (fun e => n2 (h2 _ _ hq (by omega) e))
  refine ⟨h1, h2, by rw [hn 0 (by omega) (by omega) (by omega)]; exact h3, fun j hj => ?_, by rw [hn 15 (by omega) (by omega) (by omega)]; exact h5, fun j hj => by rw [hn (16 + j) (by omega) (by omega) (by omega)]; exact h6 j hj⟩
  by_cases e : j = i
  · subst e
    exact ⟨by rw [show (va_up σ.1 j ρ, σ.2).1 j = ρ from up_eq]; exact hR.2.2.2.1, by rw [show (va_up σ.1 j ρ, σ.2).1 j = ρ from up_eq]; exact hR.2.2.2.2⟩
  · rw [show (va_up σ.1 i ρ, σ.2).1 j = σ.1 j from up_ne e, hn (1 + 2 * j) (by omega) (by omega) (by omega), hn (2 + 2 * j) (by omega) (by omega) (by omega)]
    exact h4 j hj
theorem CI.setWalk (hI : CI κ A σ L F) {ω : Nat → Int32} (hR : WI (A 15) ω L F') (hf : FrW (A 15) F F') : CI κ A (σ.1, scUp σ.2 1 4 ω) L F' := by
  obtain ⟨h1, h2, h3, h4, h5, h6⟩ := hI
  have hn : ∀ q, q < 18 → q ≠ 15 → F' (A q) = F (A q) := fun q hq n1 => hf _ (fun e => n1 (h2 _ _ hq (by omega) e))
  refine ⟨h1, h2, by rw [hn 0 (by omega) (by omega)]; exact h3, fun j hj => ?_, hR.2, fun j hj => ?_⟩
  · rw [hn (1 + 2 * j) (by omega) (by omega), hn (2 + 2 * j) (by omega) (by omega)]
    exact h4 j hj
  · rw [hn (16 + j) (by omega) (by omega), h6 j hj]
    simp only [scUp]
    rw [if_neg (by omega), if_neg (by omega), if_neg (by omega)]
theorem CI.setKer (hI : CI κ A σ L F) {i : Nat} (hi : i < 2) {ω : Nat → Int32} (hR : KI (A (16 + i)) ω L F') (hf : FrW (A (16 + i)) F F') : CI κ A (σ.1, scUp σ.2 (5 + 3 * i) 3 ω) L F' := by
  obtain ⟨h1, h2, h3, h4, h5, h6⟩ := hI
  have hn : ∀ q, q < 18 → q ≠ 16 + i → F' (A q) = F (A q) := fun q hq n1 => hf _ (fun e => n1 (h2 _ _ hq (by omega) e))
  refine ⟨h1, h2, ?_, fun j hj => ?_, ?_, fun j hj => ?_⟩
  · rw [hn 0 (by omega) (by omega), h3]
    simp only [scUp]
    rw [if_neg (by omega)]
  · rw [hn (1 + 2 * j) (by omega) (by omega), hn (2 + 2 * j) (by omega) (by omega)]
    exact h4 j hj
  · rw [hn 15 (by omega) (by omega), h5]
    simp only [scUp]
    rw [if_neg (by omega), if_neg (by omega), if_neg (by omega), if_neg (by omega)]
  · by_cases e : j = i
    · subst e
      rw [hR.2]
      simp only [scUp]
      rw [if_pos (by omega), if_pos (by omega), if_pos (by omega), show 5 + 3 * j - (5 + 3 * j) = 0 by omega, show 5 + 3 * j + 1 - (5 + 3 * j) = 1 by omega, show 5 + 3 * j + 2 - (5 + 3 * j) = 2 by omega]
    · rw [hn (16 + j) (by omega) (by omega), h6 j hj]
      simp only [scUp]
      rw [if_neg (by omega), if_neg (by omega), if_neg (by omega)]
theorem CI.setKnocks (hI : CI κ A σ L F) (v : Int32) : CI κ A (σ.1, va_up σ.2 0 v) L (va_up F (A 0) (.inr (8, ([.ref (A 1), .ref (A 3), .ref (A 5), .ref (A 7), .ref (A 15), .ref (A 16), .ref (A 17), .int (σ.2 0), .ref (A 9), .ref (A 11), .ref (A 13)] : List Value).set 7 (.int v)))) := by
  obtain ⟨h1, h2, h3, h4, h5, h6⟩ := hI
  have hn : ∀ q, q < 18 → q ≠ 0 → A q ≠ A 0 := fun q hq n1 e => n1 (h2 _ _ hq (by omega) e)
  refine ⟨h1, h2, up_eq, fun j hj => ?_, ?_, fun j hj => ?_⟩
  · rw [up_ne (hn _ (by omega) (by omega)), up_ne (hn _ (by omega) (by omega))]
    exact h4 j hj
  · rw [up_ne (hn _ (by omega) (by omega)), h5]
    rfl
  · rw [up_ne (hn _ (by omega) (by omega)), h6 j hj]
    show _ = Sum.inr (7, [Value.int (va_up σ.2 0 v (5 + 3 * j)), .int (va_up σ.2 0 v (5 + 3 * j + 1)), .int (va_up σ.2 0 v (5 + 3 * j + 2))])
    rw [up_ne (by omega), up_ne (by omega), up_ne (by omega)]
theorem FrA.row {i : Nat} (hi : i < 7) (hf : FrR (A (1 + 2 * i)) (A (2 + 2 * i)) F F') : FrA A F F' := fun q hq => hf q (hq _ (by omega)) (hq _ (by omega))
theorem FrA.ker {i : Nat} (hi : i < 18) (hf : FrW (A i) F F') : FrA A F F' := fun q hq => hf q (hq _ hi)
theorem FrA.this {e : va_E} : FrA A F (va_up F (A 0) e) := fun q hq => up_ne (hq 0 (by omega))
end CIL
/-! ends of methods -/
abbrev QPu {α : Type} (L : List Nat) (F : Nat → va_E) (res : α) : α → List Nat → (Nat → va_E) → Prop := fun r L' F' => L' = L ∧ F' = F ∧ r = res
