section
/-! WHAT A STATE OF THE MODEL IS, in the pool -/
abbrev MS : Type := (Nat → List Int32) × (Nat → Int32)
def isM (e : va_E) : Prop := match e with
  | .inr o => o.1 = 4 ∨ o.1 = 10 ∨ o.1 = 11
  | .inl a => ∃ f, a.2.2 = .inr (.inr (.inr (.inr f)))
def FrM (L : List Nat) (F : Nat → va_E) (L' : List Nat) (F' : Nat → va_E) : Prop := (∀ x ∈ L, x ∈ L') ∧ ∀ x ∈ L, ¬ isM (F x) → F' x = F x
def MI (κ : Nat → ClassId) (ζ : Nat → Nat) (B : Nat → Nat) (τ : MS) (L : List Nat) (F : Nat → va_E) : Prop :=
  (∀ i, i < 10 → B i ∈ L) ∧ (∀ i j, i < 10 → j < 10 → B i = B j → i = j) ∧
  F (B 0) = .inr (11, [.int (τ.2 0), .ref (B 1), .ref (B 5), .ref (B 6), .ref (B 7), .int (τ.2 1), .int (τ.2 2), .int (τ.2 3), .int (τ.2 4)]) ∧
  (∃ md : Int32, F (B 1) = .inr (4, [.int md, .ref (B 2), .int 2])) ∧ (∃ f, F (B 2) = rfA (κ 3) 10 f ∧ f 0 = some (B 3) ∧ f 1 = some (B 4)) ∧
  (∃ f, F (B 7) = rfA (κ 4) 2 f ∧ f 0 = some (B 8) ∧ f 1 = some (B 9)) ∧
  (∀ j, j < 2 → F (B (8 + j)) = .inr (10, [.int (τ.2 (5 + 3 * j)), .int (τ.2 (5 + 3 * j + 1)), .int (τ.2 (5 + 3 * j + 2))])) ∧ ζ 256 ∉ L ∧
  ∃ ar : Nat → Nat, (∀ j, j < 4 → LI κ ζ (B (3 + j)) (ar j) (τ.1 j) L F) ∧ (∀ i j, i < 4 → j < 4 → ar i = ar j → ar i ∈ L → i = j) ∧ ∀ j, j < 4 → ar j ≠ B 2 ∧ ar j ≠ B 7
theorem FrM.rf {L : List Nat} {F : Nat → va_E} : FrM L F L F := ⟨fun _ h => h, fun _ _ _ => rfl⟩
theorem FrM.tr {L L1 L2 : List Nat} {F F1 F2 : Nat → va_E} (h1 : FrM L F L1 F1) (h2 : FrM L1 F1 L2 F2) : FrM L F L2 F2 :=
  ⟨fun x h => h2.1 x (h1.1 x h), fun x h hm => (h2.2 x (h1.1 x h) (by rw [h1.2 x h hm]; exact hm)).trans (h1.2 x h hm)⟩
theorem noE {D : va_G} {s : State} {H : Heap} {locs : List Loc} {L0 L : List Nat} {F : Nat → va_E} {ζ : Nat → Nat} (hW : HW D cls L0 s H locs L F) (hST : ST ζ (AL L0 s.heap.size) s s.heap) : ζ 256 ∉ L := by
  intro h
  obtain ⟨cell, h1, h2, h3, h4, h5, h6, h7⟩ := hST.2.tEmpty
  exact h7 (hW.inA h)
/-- a list stays what it was, if its cells do -/
theorem LI.keep {κ : Nat → ClassId} {ζ : Nat → Nat} {h ar : Nat} {xs : List Int32} {L L' : List Nat} {F F' : Nat → va_E} (hI : LI κ ζ h ar xs L F) (hsub : ∀ x ∈ L, x ∈ L') (hh : F' h = F h) (ha : ar ∈ L → F' ar = F ar) (hb : ∀ y v, bx ζ L F y v → bx ζ L' F' y v) : LI κ ζ h ar xs L' F' := by
  obtain ⟨n, f, md, h1, h2, h3, h4, h5, h6⟩ := hI
  refine ⟨n, f, md, hsub _ h1, hh.trans h2, ?_, h4, h5, fun j hj => by obtain ⟨y, hy, hby⟩ := h6 j hj; exact ⟨y, hy, hb _ _ hby⟩⟩
  rcases h3 with ⟨a, b, c, d⟩ | h
  · exact Or.inl ⟨hsub _ a, b, (ha a).trans c, d⟩
  · exact Or.inr h
section MIL
variable {κ : Nat → ClassId} {ζ : Nat → Nat} {B : Nat → Nat} {τ : MS} {L L' : List Nat} {F F' : Nat → va_E}
theorem MI.mem (hI : MI κ ζ B τ L F) {i : Nat} (hi : i < 10) : B i ∈ L := hI.1 i hi
theorem MI.ne (hI : MI κ ζ B τ L F) {i j : Nat} (hi : i < 10) (hj : j < 10) (h : i ≠ j) : B i ≠ B j := fun e => h (hI.2.1 i j hi hj e)
theorem MI.this (hI : MI κ ζ B τ L F) : F (B 0) = .inr (11, [.int (τ.2 0), .ref (B 1), .ref (B 5), .ref (B 6), .ref (B 7), .int (τ.2 1), .int (τ.2 2), .int (τ.2 3), .int (τ.2 4)]) := hI.2.2.1
theorem MI.mkH (hI : MI κ ζ B τ L F) {j : Nat} (hj : j < 2) : F (B (8 + j)) = .inr (10, [.int (τ.2 (5 + 3 * j)), .int (τ.2 (5 + 3 * j + 1)), .int (τ.2 (5 + 3 * j + 2))]) := hI.2.2.2.2.2.2.1 j hj
theorem MI.noE (hI : MI κ ζ B τ L F) : ζ 256 ∉ L := hI.2.2.2.2.2.2.2.1
theorem isM_l {w : List Value} : isM (.inr (4, w)) := Or.inl rfl
theorem isM_r {c : ClassId} {n : Nat} {f : Nat → Option Nat} : isM (rfA c n f) := ⟨f, rfl⟩
theorem bx_notM {y : Nat} {v : Int32} (h : F y = .inr (2, [.int v])) : ¬ isM (F y) := by
  rw [h]
  rintro (h | h | h) <;> cases h
/-- nothing old changed -/
theorem MI.keep0 (hI : MI κ ζ B τ L F) (hsub : ∀ x ∈ L, x ∈ L') (hfr : ∀ x ∈ L, F' x = F x) (hz : ζ 256 ∉ L') : MI κ ζ B τ L' F' := by
  obtain ⟨h1, h2, h3, ⟨md, h4⟩, ⟨f, h5, h5a, h5b⟩, ⟨g, h6, h6a, h6b⟩, h7, h8, ar, h9, h10, h11⟩ := hI
  have hm : ∀ i, i < 10 → F' (B i) = F (B i) := fun i hi => hfr _ (h1 i hi)
  refine ⟨fun i hi => hsub _ (h1 i hi), h2, (hm 0 (by omega)).trans h3, ⟨md, (hm 1 (by omega)).trans h4⟩, ⟨f, (hm 2 (by omega)).trans h5, h5a, h5b⟩, ⟨g, (hm 7 (by omega)).trans h6, h6a, h6b⟩, fun j hj => (hm (8 + j) (by omega)).trans (h7 j hj), hz, ar, fun j hj => (h9 j hj).keep hsub (hm (3 + j) (by omega)) (fun ha => hfr _ ha) (fun y v hb => hb.keep0 hsub hfr), fun i j hi hj e ha => ?_, h11⟩
  by_cases hL : ar i ∈ L
  · exact h10 i j hi hj e hL
  · exfalso
    obtain ⟨n, f9, md9, a1, a2, a3, -⟩ := h9 i hi
    rcases a3 with ⟨a, -⟩ | ⟨a, -⟩
    · exact hL a
    · exact hz (a ▸ ha)
/-- a list of the model, and what a change of it makes of the model -/
theorem MI.list (hI : MI κ ζ B τ L F) {j : Nat} (hj : j < 4) : ∃ ar, LI κ ζ (B (3 + j)) ar (τ.1 j) L F ∧ ∀ (ar' : Nat) (xs' : List Int32) (L' : List Nat) (F' : Nat → va_E), LI κ ζ (B (3 + j)) ar' xs' L' F' → FrN (B (3 + j)) ar ar' L F L' F' → ζ 256 ∉ L' → MI κ ζ B (va_up τ.1 j xs', τ.2) L' F' ∧ FrM L F L' F' := by
  obtain ⟨h1, h2, h3, ⟨md, h4⟩, ⟨f, h5, h5a, h5b⟩, ⟨g, h6, h6a, h6b⟩, h7, h8, ar, h9, h10, h11⟩ := hI
  refine ⟨ar j, h9 j hj, fun ar' xs' L' F' hL hF hz => ?_⟩
  obtain ⟨hsub, hfr, har⟩ := hF
  obtain ⟨mo, eo⟩ := (h9 j hj).obj
  obtain ⟨mdj, ej⟩ := eo
  -- what the array of this list is
  have hisA : ar j ∈ L → ∃ n f, F (ar j) = rfA (κ 3) n f := by
    intro ha
    obtain ⟨n, f9, md9, a1, a2, a3, -⟩ := h9 j hj
    rcases a3 with ⟨a, b, c, d⟩ | ⟨a, -⟩
    · exact ⟨n, f9, c⟩
    · exact absurd (a ▸ ha) h8
  have hB : ∀ i, i < 10 → i ≠ 3 + j → B i ≠ ar j → F' (B i) = F (B i) := fun i hi hne ha => hfr _ (h1 i hi) (fun e => hne (h2 _ _ hi (by omega) e)) ha
  have hobj : ∀ (x : Nat) (o : Nat × List Value), x ∈ L → F x = .inr o → x ≠ ar j := by
    intro x o hx he e
    obtain ⟨n, f9, hf9⟩ := hisA (e ▸ hx)
    rw [← e, he] at hf9
    cases hf9
  have hbx : ∀ y v, bx ζ L F y v → bx ζ L' F' y v := by
    intro y v hb
    rcases hb with ⟨b1, b2⟩ | hb
    · exact Or.inl ⟨hsub _ b1, (hfr _ b1 (fun e => by rw [e, ej] at b2; cases b2) (hobj _ _ b1 b2)).trans b2⟩
    · exact Or.inr hb
  refine ⟨⟨fun i hi => hsub _ (h1 i hi), h2, (hB 0 (by omega) (by omega) (hobj _ _ (h1 0 (by omega)) h3)).trans h3, ⟨md, (hB 1 (by omega) (by omega) (hobj _ _ (h1 1 (by omega)) h4)).trans h4⟩, ⟨f, (hB 2 (by omega) (by omega) (fun e => (h11 j hj).1 e.symm)).trans h5, h5a, h5b⟩, ⟨g, (hB 7 (by omega) (by omega) (fun e => (h11 j hj).2 e.symm)).trans h6, h6a, h6b⟩, fun i hi => (hB (8 + i) (by omega) (by omega) (hobj _ _ (h1 (8 + i) (by omega)) (h7 i hi))).trans (h7 i hi), hz, fun i => if i = j then ar' else ar i, fun i hi => ?_, fun i k hi hk e ha => ?_, fun i hi => ?_⟩, hsub, fun x hx hm => hfr x hx (fun e => hm (by rw [e, ej]; exact isM_l)) (fun e => hm (by obtain ⟨n, f9, hf9⟩ := hisA (e ▸ hx); rw [e, hf9]; exact isM_r))⟩
  · by_cases e : i = j
    · subst e
      simp only [if_true]
      rw [up_eq]
      exact hL
    · simp only [if_neg e]
      rw [up_ne e]
      obtain ⟨mi, mdi, ei⟩ := (h9 i hi).obj
      refine (h9 i hi).keep hsub (hB (3 + i) (by omega) (by omega) (hobj _ _ mi ei)) (fun ha => hfr _ ha (fun e2 => ?_) (fun e2 => e (h10 i j hi hj e2 ha))) hbx
      obtain ⟨n, f9, md9, a1, a2, a3, -⟩ := h9 i hi
      rcases a3 with ⟨a, b, c, d⟩ | ⟨a, -⟩
      · rw [e2, ej] at c; cases c
      · exact h8 (a ▸ ha)
  · -- arrays apart
    have hnew : ∀ i, i < 4 → ar' = ar i → ar' ∈ L' → i = j := by
      intro i hi e2 ha2
      rcases har with e3 | ⟨hn, -⟩
      · by_cases hL9 : ar i ∈ L
        · exact h10 i j hi hj (e2.symm.trans e3) hL9
        · exfalso
          obtain ⟨n, f9, md9, a1, a2, a3, -⟩ := h9 i hi
          rcases a3 with ⟨a, -⟩ | ⟨a, -⟩
          · exact hL9 a
          · exact hz (a ▸ e2 ▸ ha2)
      · exfalso
        obtain ⟨n, f9, md9, a1, a2, a3, -⟩ := h9 i hi
        rcases a3 with ⟨a, -⟩ | ⟨a, -⟩
        · exact hn (e2 ▸ a)
        · exact hz (a ▸ e2 ▸ ha2)
    by_cases ei : i = j
    · by_cases ek : k = j
      · rw [ei, ek]
      · simp only [if_pos ei, if_neg ek] at e ha
        exact ei.trans (hnew k hk e ha).symm
    · by_cases ek : k = j
      · simp only [if_neg ei, if_pos ek] at e ha
        exact (hnew i hi e.symm (e ▸ ha)).trans ek.symm
      · simp only [if_neg ei, if_neg ek] at e ha
        by_cases hL9 : ar i ∈ L
        · exact h10 i k hi hk e hL9
        · exfalso
          obtain ⟨n, f9, md9, a1, a2, a3, -⟩ := h9 i hi
          rcases a3 with ⟨a, -⟩ | ⟨a, -⟩
          · exact hL9 a
          · exact hz (a ▸ ha)
  · by_cases ei : i = j
    · simp only [if_pos ei]
      rcases har with e3 | ⟨hn, -⟩
      · rw [e3]; exact h11 j hj
      · exact ⟨fun e => hn (e ▸ h1 2 (by omega)), fun e => hn (e ▸ h1 7 (by omega))⟩
    · simp only [if_neg ei]
      exact h11 i hi
/-- a write of one of the model's own cells that keep their kind -/
theorem MI.cell (hI : MI κ ζ B τ L F) {q : Nat} {ci : Nat} {w0 w : List Value} (hq : F q = .inr (ci, w0)) (hc : ci = 10 ∨ ci = 11) (hm : q ∈ L) : (∀ x, x ≠ q → (va_up F q (.inr (ci, w))) x = F x) ∧ (∀ j xs ar, LI κ ζ j ar xs L F → LI κ ζ j ar xs L (va_up F q (.inr (ci, w)))) := by
  refine ⟨fun x hx => up_ne hx, fun j xs ar hL => ?_⟩
  obtain ⟨mo, mdj, ej⟩ := hL.obj
  refine hL.keep (fun x h => h) (up_ne (fun e => by rw [e, hq] at ej; cases ej; rcases hc with h | h <;> cases h)) (fun ha => up_ne (fun e => ?_)) (fun y v hb => ?_)
  · obtain ⟨n, f9, md9, a1, a2, a3, -⟩ := hL
    rcases a3 with ⟨a, b, c, d⟩ | ⟨a, -⟩
    · rw [e, hq] at c; cases c
    · exact hI.noE (a ▸ ha)
  · rcases hb with ⟨b1, b2⟩ | hb
    · exact Or.inl ⟨b1, (up_ne (fun e => by rw [e, hq] at b2; cases b2; rcases hc with h | h <;> cases h)).trans b2⟩
    · exact Or.inr hb
theorem FrM.cell {q ci : Nat} {w0 w : List Value} (hq : F q = .inr (ci, w0)) (hc : ci = 10 ∨ ci = 11) : FrM L F L (va_up F q (.inr (ci, w))) :=
  ⟨fun _ h => h, fun x hx hm => up_ne (fun e => hm (by rw [e, hq]; exact Or.inr hc))⟩
/-- fields of the model: 0 thrown, 1 walk, 2 next, 3 held, 4 knocks, at the places 0, 5, 6, 7, 8 -/
theorem MI.setSc (hI : MI κ ζ B τ L F) (k p : Nat) (hk : k < 5) (v : Int32) (hp : ([.int (τ.2 0), .ref (B 1), .ref (B 5), .ref (B 6), .ref (B 7), .int (τ.2 1), .int (τ.2 2), .int (τ.2 3), .int (τ.2 4)] : List Value).set p (.int v) = [.int (va_up τ.2 k v 0), .ref (B 1), .ref (B 5), .ref (B 6), .ref (B 7), .int (va_up τ.2 k v 1), .int (va_up τ.2 k v 2), .int (va_up τ.2 k v 3), .int (va_up τ.2 k v 4)]) : MI κ ζ B (τ.1, va_up τ.2 k v) L (va_up F (B 0) (.inr (11, ([.int (τ.2 0), .ref (B 1), .ref (B 5), .ref (B 6), .ref (B 7), .int (τ.2 1), .int (τ.2 2), .int (τ.2 3), .int (τ.2 4)] : List Value).set p (.int v)))) := by
  have hc := hI.cell (w := ([.int (τ.2 0), .ref (B 1), .ref (B 5), .ref (B 6), .ref (B 7), .int (τ.2 1), .int (τ.2 2), .int (τ.2 3), .int (τ.2 4)] : List Value).set p (.int v)) hI.this (Or.inr rfl) (hI.mem (by omega))
  obtain ⟨h1, h2, h3, ⟨md, h4⟩, ⟨f, h5, h5a, h5b⟩, ⟨g, h6, h6a, h6b⟩, h7, h8, ar, h9, h10, h11⟩ := hI
  have hn : ∀ i, i < 10 → i ≠ 0 → B i ≠ B 0 := fun i hi hne e => hne (h2 _ _ hi (by omega) e)
  refine ⟨h1, h2, up_eq.trans (by rw [hp]), ⟨md, (hc.1 _ (hn 1 (by omega) (by omega))).trans h4⟩, ⟨f, (hc.1 _ (hn 2 (by omega) (by omega))).trans h5, h5a, h5b⟩, ⟨g, (hc.1 _ (hn 7 (by omega) (by omega))).trans h6, h6a, h6b⟩, fun j hj => ?_, h8, ar, fun j hj => hc.2 _ _ _ (h9 j hj), h10, h11⟩
  rw [hc.1 _ (hn (8 + j) (by omega) (by omega)), h7 j hj]
  show _ = Sum.inr (10, [Value.int (va_up τ.2 k v (5 + 3 * j)), .int (va_up τ.2 k v (5 + 3 * j + 1)), .int (va_up τ.2 k v (5 + 3 * j + 2))])
  rw [up_ne (by omega), up_ne (by omega), up_ne (by omega)]
theorem MI.setMk (hI : MI κ ζ B τ L F) {i : Nat} (hi : i < 2) (p : Nat) (hp : p < 3) (v : Int32) : MI κ ζ B (τ.1, va_up τ.2 (5 + 3 * i + p) v) L (va_up F (B (8 + i)) (.inr (10, ([.int (τ.2 (5 + 3 * i)), .int (τ.2 (5 + 3 * i + 1)), .int (τ.2 (5 + 3 * i + 2))] : List Value).set p (.int v)))) := by
  have hc := hI.cell (w := ([.int (τ.2 (5 + 3 * i)), .int (τ.2 (5 + 3 * i + 1)), .int (τ.2 (5 + 3 * i + 2))] : List Value).set p (.int v)) (hI.mkH hi) (Or.inl rfl) (hI.mem (by omega))
  obtain ⟨h1, h2, h3, ⟨md, h4⟩, ⟨f, h5, h5a, h5b⟩, ⟨g, h6, h6a, h6b⟩, h7, h8, ar, h9, h10, h11⟩ := hI
  have hn : ∀ q, q < 10 → q ≠ 8 + i → B q ≠ B (8 + i) := fun q hq hne e => hne (h2 _ _ hq (by omega) e)
  refine ⟨h1, h2, ?_, ⟨md, (hc.1 _ (hn 1 (by omega) (by omega))).trans h4⟩, ⟨f, (hc.1 _ (hn 2 (by omega) (by omega))).trans h5, h5a, h5b⟩, ⟨g, (hc.1 _ (hn 7 (by omega) (by omega))).trans h6, h6a, h6b⟩, fun j hj => ?_, h8, ar, fun j hj => hc.2 _ _ _ (h9 j hj), h10, h11⟩
  · rw [hc.1 _ (hn 0 (by omega) (by omega)), h3]
    show _ = Sum.inr (11, [Value.int (va_up τ.2 (5 + 3 * i + p) v 0), .ref (B 1), .ref (B 5), .ref (B 6), .ref (B 7), .int (va_up τ.2 (5 + 3 * i + p) v 1), .int (va_up τ.2 (5 + 3 * i + p) v 2), .int (va_up τ.2 (5 + 3 * i + p) v 3), .int (va_up τ.2 (5 + 3 * i + p) v 4)])
    rw [up_ne (by omega), up_ne (by omega), up_ne (by omega), up_ne (by omega), up_ne (by omega)]
  · show _ = Sum.inr (10, [Value.int (va_up τ.2 (5 + 3 * i + p) v (5 + 3 * j)), .int (va_up τ.2 (5 + 3 * i + p) v (5 + 3 * j + 1)), .int (va_up τ.2 (5 + 3 * i + p) v (5 + 3 * j + 2))])
    by_cases e : j = i
    · subst e
      rw [up_eq]
      match p, hp with
      | 0, _ => rw [show (5 + 3 * j + 0) = 5 + 3 * j from rfl, up_eq, up_ne (by omega), up_ne (by omega)]; rfl
      | 1, _ => rw [up_eq, up_ne (by omega), up_ne (by omega)]; rfl
      | 2, _ => rw [up_eq, up_ne (by omega), up_ne (by omega)]; rfl
      | p + 3, hp => exact absurd hp (by omega)
    · rw [hc.1 _ (hn (8 + j) (by omega) (by omega)), h7 j hj, up_ne (by omega), up_ne (by omega), up_ne (by omega)]
end MIL
/-! the words of the model's functions -/
def gtr (x : Int32) : Option Nat := if x = 0 then some 0 else if x = 1 then some 1 else none
def lget (xs : List Int32) (k : Int32) : Option Int32 := if k < 0 ∨ xs.length ≤ k.toNatClampNeg then none else some (xs.getD k.toNatClampNeg 0)
def lset (xs : List Int32) (k v : Int32) : Option (List Int32) := if k < 0 ∨ xs.length ≤ k.toNatClampNeg then none else some (xs.set k.toNatClampNeg v)
def ladd (xs : List Int32) (v : Int32) : Option (List Int32) := if 21 < xs.length then none else some (xs ++ [v])
def lins (xs : List Int32) (k v : Int32) : Option (List Int32) := if 21 < xs.length ∨ k < 0 ∨ xs.length < k.toNatClampNeg then none else some (insAt xs k.toNatClampNeg v)
def ldel (xs : List Int32) (k : Int32) : Option (List Int32) := if k < 0 ∨ xs.length ≤ k.toNatClampNeg then none else some (delAt xs k.toNatClampNeg)
theorem gtr_ok {x : Int32} {i : Nat} (h : gtr x = some i) : i < 2 ∧ x = nI i := by
  unfold gtr at h
  by_cases h0 : x = 0
  · rw [if_pos h0] at h; cases h; exact ⟨by omega, h0⟩
  · rw [if_neg h0] at h
    by_cases h1 : x = 1
    · rw [if_pos h1] at h; cases h; exact ⟨by omega, h1⟩
    · rw [if_neg h1] at h; cases h
theorem ix_ok {k : Int32} {n : Nat} (h : ¬ (k < 0 ∨ n ≤ k.toNatClampNeg)) : ∃ j : Nat, j < n ∧ k = nI j ∧ k.toNatClampNeg = j := by
  have h0 : ¬ k < 0 := fun q => h (Or.inl q)
  have h1 : k.toNatClampNeg < n := Nat.not_le.mp fun q => h (Or.inr q)
  obtain ⟨j, hj, e⟩ := nI_of h0
  have ej : k.toNatClampNeg = j := by rw [e]; exact nI_clamp hj
  exact ⟨j, ej ▸ h1, e, ej⟩
theorem rmc {d mc ms x : Nat} (h : x ≤ mc) : x ≤ (Rm d mc ms).cells := h
theorem rms {d mc ms x : Nat} (h : x ≤ ms) : x ≤ (Rm d mc ms).slots := h
end
section
/-! local rows of numbers and truths beside the model -/
section LOC
variable {κ : Nat → ClassId} {ζ : Nat → Nat} {B : Nat → Nat} {τ : MS} {L L' : List Nat} {F F' : Nat → va_E}
def nIA (e : va_E) : Prop := ∀ (c : ClassId) (n : Nat) (g : Nat → Int32), e ≠ .inl (c, n, .inl g)
theorem nIA_o {o : Nat × List Value} (h : F' = F') {x : Nat} (e : F x = .inr o) : nIA (F x) := fun c n g q => by rw [e] at q; cases q
theorem nIA_r {x : Nat} {c : ClassId} {n : Nat} {f : Nat → Option Nat} (e : F x = rfA c n f) : nIA (F x) := fun c n g q => by rw [e] at q; cases q
theorem MI.keepI (hI : MI κ ζ B τ L F) (hsub : ∀ x ∈ L, x ∈ L') (hfr : ∀ x ∈ L, nIA (F x) → F' x = F x) (hz : ζ 256 ∉ L') : MI κ ζ B τ L' F' := by
  obtain ⟨h1, h2, h3, ⟨md, h4⟩, ⟨f, h5, h5a, h5b⟩, ⟨g, h6, h6a, h6b⟩, h7, h8, ar, h9, h10, h11⟩ := hI
  have hm : ∀ i, i < 10 → nIA (F (B i)) → F' (B i) = F (B i) := fun i hi h => hfr _ (h1 i hi) h
  refine ⟨fun i hi => hsub _ (h1 i hi), h2, (hm 0 (by omega) (nIA_o (F' := F) rfl h3)).trans h3, ⟨md, (hm 1 (by omega) (nIA_o (F' := F) rfl h4)).trans h4⟩, ⟨f, (hm 2 (by omega) (nIA_r h5)).trans h5, h5a, h5b⟩, ⟨g, (hm 7 (by omega) (nIA_r h6)).trans h6, h6a, h6b⟩, fun j hj => (hm (8 + j) (by omega) (nIA_o (F' := F) rfl (h7 j hj))).trans (h7 j hj), hz, ar, fun j hj => ?_, fun i j hi hj e ha => ?_, h11⟩
  · obtain ⟨mo, mdj, ej⟩ := (h9 j hj).obj
    refine (h9 j hj).keep hsub (hm (3 + j) (by omega) (nIA_o (F' := F) rfl ej)) (fun ha => hfr _ ha ?_) (fun y v hb => ?_)
    · obtain ⟨n, f9, md9, a1, a2, a3, -⟩ := h9 j hj
      rcases a3 with ⟨a, b, c, d⟩ | ⟨a, -⟩
      · exact nIA_r c
      · exact absurd (a ▸ ha) h8
    · rcases hb with ⟨b1, b2⟩ | hb
      · exact Or.inl ⟨hsub _ b1, (hfr _ b1 (nIA_o (F' := F) rfl b2)).trans b2⟩
      · exact Or.inr hb
  · by_cases hL : ar i ∈ L
    · exact h10 i j hi hj e hL
    · exfalso
      obtain ⟨n, f9, md9, a1, a2, a3, -⟩ := h9 i hi
      rcases a3 with ⟨a, -⟩ | ⟨a, -⟩
      · exact hL a
      · exact hz (a ▸ ha)
theorem MI.loc (hI : MI κ ζ B τ L F) {q n : Nat} {c : ClassId} {g g' : Nat → Int32} (hq : F q = .inl (c, n, .inl g)) : MI κ ζ B τ L (va_up F q (.inl (c, n, .inl g'))) :=
  hI.keepI (fun _ h => h) (fun x _ hn => up_ne (fun e => hn c n g (e ▸ hq))) hI.noE
theorem notM_a {q n : Nat} {c : ClassId} {g : Nat → Int32} (hq : F q = .inl (c, n, .inl g)) : ¬ isM (F q) := by
  rw [hq]
  rintro ⟨f, hf⟩
  cases hf
theorem FrM.loc {L0 : List Nat} {F0 : Nat → va_E} {q : Nat} {e : va_E} (hF : FrM L0 F0 L F) (hq : q ∉ L0) : FrM L0 F0 L (va_up F q e) :=
  ⟨hF.1, fun x hx hm => (up_ne (fun (ee : x = q) => hq (ee ▸ hx))).trans (hF.2 x hx hm)⟩
theorem FrM.push {q : Nat} {e : va_E} (hq : q ∉ L) : FrM L F (L ++ [q]) (va_up F q e) :=
  ⟨fun x hx => List.mem_append_left _ hx, fun x hx _ => up_ne (fun (ee : x = q) => hq (ee ▸ hx))⟩
theorem MI.push (hI : MI κ ζ B τ L F) {q : Nat} {e : va_E} (hq : q ∉ L) (hz : ζ 256 ∉ L ++ [q]) : MI κ ζ B τ (L ++ [q]) (va_up F q e) :=
  hI.keep0 (fun x hx => List.mem_append_left _ hx) (fun x hx => up_ne (fun (ee : x = q) => hq (ee ▸ hx))) hz
theorem MI.tracks (hI : MI κ ζ B τ L F) : ∃ (md : Int32) (f : Nat → Option Nat), RA κ (B 1) (B 2) 10 f md (nI 2) L F ∧ f 0 = some (B 3) ∧ f 1 = some (B 4) := by
  obtain ⟨h1, h2, h3, ⟨md, h4⟩, ⟨f, h5, h5a, h5b⟩, -⟩ := hI
  exact ⟨md, f, ⟨h1 1 (by omega), h4, h1 2 (by omega), fun e => absurd (h2 1 2 (by omega) (by omega) e) (by omega), h5⟩, h5a, h5b⟩
theorem MI.wks (hI : MI κ ζ B τ L F) : B 7 ∈ L ∧ ∃ f, F (B 7) = rfA (κ 4) 2 f ∧ f 0 = some (B 8) ∧ f 1 = some (B 9) := ⟨hI.mem (by omega), hI.2.2.2.2.2.1⟩
variable {l : Launch} {D : va_G}
theorem c_tracks (hI : MI κ ζ B τ L F) {x : Int32} {i : Nat} (hx : gtr x = some i) : MtR l D cls (ty5 κ) ζ yJx4a65c_get_915e3 cJx4a65c_get_915e3 2 (some (.object "java/lang/Object")) 3 0 0 [.ref (B 1), .int x] L F (fun r L' F' => L = L' ∧ F = F' ∧ B (3 + i) = r) := by
  obtain ⟨hi, rfl⟩ := gtr_ok hx
  obtain ⟨md, f, hR, f0, f1⟩ := hI.tracks
  refine c_Jx4a65c_get_915e3 hR (nI_pos (by omega)) (nI_lt hi (by omega)) (vp_in_nI (by omega) (by omega)) ?_
  rw [nI_clamp (by omega)]
  match i, hi with
  | 0, _ => exact f0
  | 1, _ => exact f1
  | i + 2, hi => exact absurd hi (by omega)
variable {h ar : Nat} {xs : List Int32}
theorem c_mget (hI : LI κ ζ h ar xs L F) {k v : Int32} (hk : lget xs k = some v) : MtR l D cls (ty5 κ) ζ yJx4a65c_get_915e3 cJx4a65c_get_915e3 2 (some (.object "java/lang/Object")) 3 0 0 [.ref h, .int k] L F (fun r L' F' => L = L' ∧ F = F' ∧ bx ζ L F r v) := by
  obtain ⟨h1, h2⟩ := gd hk
  obtain ⟨j, hj, rfl, ej⟩ := ix_ok h1
  rw [ej] at h2
  cases h2
  exact c_lget hI hj
theorem c_mset (hI : LI κ ζ h ar xs L F) {k : Int32} {ys : List Int32} {y2 : Nat} {v2 : Int32} (hk : lset xs k v2 = some ys) (hb2 : bx ζ L F y2 v2) : MtR l D cls (ty5 κ) ζ yJx4a65c_set_bcc79 cJx4a65c_set_bcc79 4 (some (.object "java/lang/Object")) 3 0 0 [.ref h, .int k, .ref y2] L F (fun r L' F' => bx ζ L' F' r (xs.getD k.toNatClampNeg 0) ∧ LI κ ζ h ar ys L' F' ∧ FrN h ar ar L F L' F') := by
  obtain ⟨h1, h2⟩ := gd hk
  obtain ⟨j, hj, rfl, ej⟩ := ix_ok h1
  rw [ej] at h2 ⊢
  cases h2
  exact c_lset hI hj hb2
theorem c_madd (hI : LI κ ζ h ar xs L F) {ys : List Int32} {y : Nat} {v : Int32} (hk : ladd xs v = some ys) (hb : bx ζ L F y v) : MtI l D cls (ty5 κ) ζ yJx4a65c_add_9ea2d cJx4a65c_add_9ea2d 2 (some .boolean) 7 1 32 [.ref h, .ref y] L F (fun r L' F' => ∃ ar', LI κ ζ h ar' ys L' F' ∧ FrN h ar ar' L F L' F') := by
  obtain ⟨h1, h2⟩ := gd hk
  cases h2
  exact c_ladd hI (by omega) hb
theorem c_mins (hI : LI κ ζ h ar xs L F) {k : Int32} {ys : List Int32} {y : Nat} {v : Int32} (hk : lins xs k v = some ys) (hb : bx ζ L F y v) : MtV l D cls (ty5 κ) ζ yJx4a65c_add_7a177 cJx4a65c_add_7a177 5 none 6 1 32 [.ref h, .int k, .ref y] L F (fun L' F' => ∃ ar', LI κ ζ h ar' ys L' F' ∧ FrN h ar ar' L F L' F') := by
  obtain ⟨h1, h2⟩ := gd hk
  obtain ⟨j, hj, rfl, ej⟩ := ix_ok (k := k) (n := xs.length + 1) (fun q => h1 (Or.inr (q.imp id (fun q => by omega))))
  rw [ej] at h2
  cases h2
  exact c_lins hI (by have := fun q => h1 (Or.inl q); omega) (by omega) hb
theorem c_mdel (hI : LI κ ζ h ar xs L F) {k : Int32} {ys : List Int32} (hk : ldel xs k = some ys) : MtR l D cls (ty5 κ) ζ yJx4a65c_remove_915e3 cJx4a65c_remove_915e3 4 (some (.object "java/lang/Object")) 3 0 0 [.ref h, .int k] L F (fun r L' F' => bx ζ L' F' r (xs.getD k.toNatClampNeg 0) ∧ LI κ ζ h ar ys L' F' ∧ FrN h ar ar L F L' F') := by
  obtain ⟨h1, h2⟩ := gd hk
  obtain ⟨j, hj, rfl, ej⟩ := ix_ok h1
  rw [ej] at h2 ⊢
  cases h2
  exact c_ldel hI hj
end LOC
section LOK
variable {p : Program} {l : Launch} {e : Env} {R : Room} {s : State} {m : MethodId} {args : Array Value} {below : List Frame} {meth : Method} {c : Code} {cc : ByteArray} {nL : Nat} {own : String} {H : Heap} {locs : List Loc} {cells slots : Nat} {Q : State → Prop} {D : va_G} {cl : List vw_C} {tys : List (ClassId × FieldType)} {pc : Nat} {ls : Array Slot} {rest : List Value} {L0 L : List Nat} {F : Nat → va_E}
theorem pk_zald (S : CallFix p m c cc nL s args Gw own) (hK : va_K D cl tys s) (hW : HW D cl L0 s H locs L F) {a n : Nat} {cA : ClassId} {f : Nat → Int32} (t0 : Nat) (ha : a ∈ L) (he : F a = .inl (cA, n, .inl f)) (ht : tys[t0]? = some (cA, .boolean)) {i : Int32} (hin : vp_in i n) (hdg : decode cc pc = .ok (.baload, 1))
    (kk : W p l e R s m args below meth c H locs cells slots Q (F0 m (pc + 1) ls (.int (f i.toNatClampNeg) :: rest))) : W p l e R s m args below meth c H locs cells slots Q (F0 m pc ls (.int i :: .ref a :: rest)) := by
  obtain ⟨k0, hk0⟩ := pl_get ha he
  exact va_zald S.1 S.2.1 hK hW.1 k0 t0 hk0 ht hin hdg kk
theorem pk_zast (S : CallFix p m c cc nL s args Gw own) (hK : va_K D cl tys s) (hW : HW D cl L0 s H locs L F) {a n : Nat} {cA : ClassId} {f : Nat → Int32} (t0 : Nat) (ha : a ∈ L) (he : F a = .inl (cA, n, .inl f)) (ht : tys[t0]? = some (cA, .boolean)) {i x : Int32} (hin : vp_in i n) (hdg : decode cc pc = .ok (.bastore, 1))
    (kk : ∀ (H1 : Heap) (locs1 : List Loc), HW D cl L0 s H1 locs1 L (va_up F a (.inl (cA, n, .inl (upd f i.toNatClampNeg (vp_nar .boolean x))))) → W p l e R s m args below meth c H1 locs1 cells slots Q (F0 m (pc + 1) ls rest)) : W p l e R s m args below meth c H locs cells slots Q (F0 m pc ls (.int x :: .int i :: .ref a :: rest)) := by
  obtain ⟨k0, hk0⟩ := pl_get (F := F) ha rfl
  exact va_zast S.1 S.2.1 hK hW.1 hW.2.1 hW.2.2 k0 t0 (hk0.trans (congrArg (fun ee => some (a, ee)) he)) ht hin hdg
    (fun H1 locs1 h1 h2 h3 => kk H1 locs1 (hW.set (e0 := F a) ha _ hk0 h1 h2 h3))
end LOK
def gwk (x : Int32) : Option Nat := gtr x
end
