/-! the model's inner methods -/
section INNER
variable {k : Int32} {τ : MS}
theorem ok_gtr (x : Int32) (p : x = 0 ∨ x = 1) : Ok (gtr x) fun z => (x = 0 → z = 0) ∧ (x = 1 → z = 1) ∧ z < 2 := by
  rcases p with p | p <;> subst p
  · exact ⟨0, rfl, by decide, by decide, by decide⟩
  · exact ⟨1, rfl, by decide, by decide, by decide⟩
theorem ok_gwk (x : Int32) (p : x = 0 ∨ x = 1) : Ok (gwk x) fun z => (x = 0 → z = 0) ∧ (x = 1 → z = 1) ∧ z < 2 := ok_gtr x p
theorem ok_X6_isIn (x1 x2 x3 : Int32) : Ok (f_X6_isIn x1 x2 x3) fun r => (r = 0 ∨ r = 1) ∧ (¬ r = 0 → x2 ≤ x1 ∧ x1 ≤ x3) := by
  unfold f_X6_isIn
  exact ok_if (fun _ => ok_some (by (first | assumption | trivial | grind))) fun _ => ok_if (fun _ => ok_some (by (first | assumption | trivial | grind))) fun _ => ok_some (by (first | assumption | trivial | grind))
theorem ok_X6_one (x1 : Int32) : Ok (f_X6_one x1) fun r => (r = 0 ∨ r = 1) ∧ (r = 0 ↔ x1 = 0) := by
  unfold f_X6_one
  exact ok_if (fun _ => ok_some (by (first | assumption | trivial | grind))) fun _ => ok_some (by (first | assumption | trivial | grind))
theorem ok_X6_isNoTrack (x1 : Int32) : Ok (f_X6_isNoTrack x1) fun r => (r = 0 → x1 = 0 ∨ x1 = 1) := by
  unfold f_X6_isNoTrack
  exact ok_bind (ok_X6_isIn _ _ _) fun z hz => ok_if (fun _ => ok_some (by (first | assumption | trivial | grind))) fun _ => ok_some (by (first | assumption | trivial | grind))
theorem ok_X6_isNoWalker (x1 : Int32) : Ok (f_X6_isNoWalker x1) fun r => (r = 0 → x1 = 0 ∨ x1 = 1) := by
  unfold f_X6_isNoWalker
  exact ok_bind (ok_X6_isIn _ _ _) fun z hz => ok_if (fun _ => ok_some (by (first | assumption | trivial | grind))) fun _ => ok_some (by (first | assumption | trivial | grind))
theorem ok_X6_isNoPlace (x1 : Int32) : Ok (f_X6_isNoPlace τ x1) fun r => (r = 0 → 0 ≤ x1 ∧ x1 ≤ 19) := by
  unfold f_X6_isNoPlace
  exact ok_bind (ok_X6_isIn _ _ _) fun z hz => ok_if (fun _ => ok_some (by (first | assumption | trivial | grind))) fun _ => ok_some (by (first | assumption | trivial | grind))
theorem ok_X6_isNoPiece (x1 x2 : Int32) : Ok (f_X6_isNoPiece x1 x2) fun r => (r = 0 → (0 ≤ x1 ∧ x1 ≤ 9) ∧ 0 ≤ x2 ∧ x2 ≤ 99) := by
  unfold f_X6_isNoPiece f_X6_isNoPiece_20
  exact ok_bind (ok_X6_isIn _ _ _) fun z hz => ok_if (fun _ => ok_some (by (first | assumption | trivial | grind))) fun _ => ok_bind (ok_X6_isIn _ _ _) fun z2 hz2 => ok_if (fun _ => ok_some (by (first | assumption | trivial | grind))) fun _ => ok_some (by (first | assumption | trivial | grind))
theorem ok_X6_code (x1 x2 : Int32) (p : (0 ≤ x1 ∧ x1 ≤ 9) ∧ 0 ≤ x2 ∧ x2 ≤ 99) : Ok (f_X6_code x1 x2) fun r => 0 ≤ r ∧ r ≤ 999 := by
  unfold f_X6_code
  exact ok_if (fun _ => ok_some (by (first | assumption | trivial | grind))) fun _ => ok_some (by (first | assumption | trivial | grind))
theorem ok_X6_kind (x1 : Int32) : Ok (f_X6_kind x1) fun r => 0 ≤ x1 → x1 ≤ 999 → 0 ≤ r ∧ r ≤ 9 := ok_some fun h h2 => dv100 h h2
theorem ok_X6_load (x1 : Int32) : Ok (f_X6_load x1) fun r => True := ok_some trivial
theorem ok_X6_isBarred (x1 x2 : Int32) : Ok (f_X6_isBarred x1 x2) fun r => True := by
  unfold f_X6_isBarred
  exact ok_if (fun _ => ok_if (fun _ => ok_some trivial) fun _ => ok_some trivial) fun _ => ok_some trivial
theorem ok_X6_size (hb : IB k τ) (x1 : Int32) (p : x1 = 0 ∨ x1 = 1) : Ok (f_X6_size τ x1) fun r => r = (if x1 = 0 then SL (τ.1 0) else SL (τ.1 1)) ∧ 0 ≤ r ∧ r ≤ 20 := by
  unfold f_X6_size
  rcases p with p | p <;> subst p
  · exact ok_bind (P := fun z => z = 0) ⟨0, rfl, rfl⟩ fun z hz => by subst hz; exact ok_some ⟨rfl, (SL_n (hb.l (by omega))).1, (SL_n (hb.l (by omega))).2.1⟩
  · exact ok_bind (P := fun z => z = 1) ⟨1, rfl, rfl⟩ fun z hz => by subst hz; exact ok_some ⟨rfl, (SL_n (hb.l (by omega))).1, (SL_n (hb.l (by omega))).2.1⟩
theorem ok_X6_get (hb : IB k τ) (x1 x2 : Int32) (p : x1 = 0 ∨ x1 = 1) (p1 : 0 ≤ x2) (p2 : x2 < if x1 = 0 then SL (τ.1 0) else SL (τ.1 1)) : Ok (f_X6_get τ x1 x2) fun r => 0 ≤ r ∧ r ≤ 999 := by
  unfold f_X6_get
  rcases p with p | p <;> subst p
  · exact ok_bind (P := fun z => z = 0) ⟨0, rfl, rfl⟩ fun z hz => by subst hz; exact ok_bind (ok_lget (hb.l (by omega)) _ p1 p2) fun z hz => ok_some hz
  · exact ok_bind (P := fun z => z = 1) ⟨1, rfl, rfl⟩ fun z hz => by subst hz; exact ok_bind (ok_lget (hb.l (by omega)) _ p1 p2) fun z hz => ok_some hz
/-- what a refusal leaves -/
def RF (k : Int32) (τ : MS) (x1 : Int32) (r : Int32 × MS) : Prop := ((r.1 = 0 ∨ r.1 = 1) ∧ (r.1 = 0 → x1 = 0 ∧ r.2.2 0 = 0)) ∧ (r.2.1 = τ.1 ∧ ∀ j, j ≠ 0 → r.2.2 j = τ.2 j) ∧ IB k r.2 ∧ WK r.2 ∧ UT r.2
theorem ok_X6_refuse (hb : IB k τ) (hw : WK τ) (hu : UT τ) (x1 x2 : Int32) (h0 : τ.2 0 = 0) (p : 1 ≤ x2) : Ok (f_X6_refuse τ x1 x2) (RF k τ x1) := by
  have hz : ∀ t : MS, (t = τ → x1 = 0) → t.1 = τ.1 → (∀ j, j ≠ 0 → t.2 j = τ.2 j) → (t.2 0 ≤ 0 → x1 = 0 ∧ t.2 0 = 0) → IB k t → WK t → UT t → Ok (f_X6_refuse_16 t) (RF k τ x1) := by
    intro t _ e1 e2 e3 b w u
    unfold f_X6_refuse_16
    refine ok_if (fun c => ok_some ⟨⟨Or.inl rfl, fun _ => e3 c⟩, ⟨e1, e2⟩, b, w, u⟩) fun c => ok_some ⟨⟨Or.inr rfl, fun e => by cases e⟩, ⟨e1, e2⟩, b, w, u⟩
  unfold f_X6_refuse
  refine ok_if (fun c => hz τ (fun _ => c) rfl (fun _ _ => rfl) (fun _ => ⟨c, h0⟩) hb hw hu) fun c => ok_if (fun c2 => ?_) fun c2 => absurd h0 c2
  refine ok_nme fun t ht => ?_
  subst ht
  refine hz _ (fun e => ?_) rfl (fun j hj => up_ne hj) (fun e => ?_) (hb.sc (by omega)) (hw.sc (by omega)) hu.sc
  · exfalso
    have := congrArg (fun q : MS => q.2 0) e
    have e2 : va_up τ.2 0 x2 0 = x2 := up_eq
    dsimp only at this
    rw [e2, h0] at this
    subst this
    exact absurd p (by decide)
  · exfalso
    have e2 : (τ.1, va_up τ.2 0 x2).2 0 = x2 := show va_up τ.2 0 x2 0 = x2 from up_eq
    rw [e2] at e
    (first | assumption | trivial | grind)
theorem ok_X6_start (hb : IB k τ) (hw : WK τ) (hu : UT τ) (x1 x2 : Int32) (p : 1 ≤ x2) : Ok (f_X6_start τ x1 x2) (RF k τ x1) := by
  unfold f_X6_start
  refine ok_nme fun t ht => ?_
  subst ht
  refine ok_bind (ok_X6_refuse (hb.sc (by omega)) (hw.sc (by omega)) hu.sc _ _ (show va_up τ.2 0 0 0 = 0 from up_eq) p) fun z hz => ?_
  obtain ⟨⟨h1, h2⟩, ⟨h3, h4⟩, h5⟩ := hz
  refine ok_yes h1 (ok_some ⟨⟨h1, h2⟩, ⟨h3, fun j hj => (h4 j hj).trans (up_ne hj)⟩, h5⟩)
/-- what a change of a track's pieces leaves of the walks -/
def CH (τ : MS) (x1 x2 : Int32) (r : MS) : Prop := r.1 = τ.1 ∧ r.2 0 = τ.2 0 ∧ r.2 4 = τ.2 4 ∧
  (x1 = 0 → r.2 3 = -1 ∧ ∀ q, 5 ≤ q → r.2 q = τ.2 q) ∧
  (¬ x1 = 0 → (∀ q, q ≠ 5 → q ≠ 8 → r.2 q = τ.2 q) ∧ (x2 = 0 → r.2 5 = τ.2 5) ∧ (x2 = 1 → r.2 8 = τ.2 8) ∧ (¬ x2 = 0 → r.2 5 = 0 ∨ r.2 5 = 2) ∧ (¬ x2 = 1 → r.2 8 = 0 ∨ r.2 8 = 2))
theorem ok_X6_changed (x1 x2 : Int32) : Ok (f_X6_changed τ x1 x2) (CH τ x1 x2) := by
  unfold f_X6_changed
  refine ok_if (fun c => ?_) fun c => ?_
  · refine ok_nme fun t ht => ok_nme fun t2 ht2 => ok_nme fun t3 ht3 => ok_some ?_
    subst ht ht2 ht3
    refine ⟨rfl, rfl, rfl, fun _ => ⟨show va_up (va_up (va_up τ.2 1 0) 2 0) 3 (-1) 3 = -1 from up_eq, fun q hq => ?_⟩, fun h => absurd c h⟩
    show va_up (va_up (va_up τ.2 1 0) 2 0) 3 (-1) q = _
    rw [up_ne (by omega), up_ne (by omega), up_ne (by omega)]
  · refine lpn24 (fun N t => t.1.1 = τ.1 ∧ (∀ q, q ≠ 5 → q ≠ 8 → t.1.2 q = τ.2 q) ∧ t.2.1 = x2 ∧ 0 ≤ t.2.2 ∧ t.2.2 ≤ 2 ∧ 2 ≤ t.2.2 + N ∧ (x2 = 0 → t.1.2 5 = τ.2 5) ∧ (x2 = 1 → t.1.2 8 = τ.2 8) ∧ (1 ≤ t.2.2 → ¬ x2 = 0 → t.1.2 5 = 0 ∨ t.1.2 5 = 2) ∧ (2 ≤ t.2.2 → ¬ x2 = 1 → t.1.2 8 = 0 ∨ t.1.2 8 = 2)) ?_ ⟨rfl, fun _ _ _ => rfl, rfl, by ((try dsimp only) <;> (first | decide | assumption | trivial | grind)), by ((try dsimp only) <;> (first | decide | assumption | trivial | grind)), by ((try dsimp only) <;> (first | decide | assumption | trivial | grind)), fun _ => rfl, fun _ => rfl, fun h => absurd h (by ((try dsimp only) <;> (first | decide | assumption | trivial | grind))), fun h => absurd h (by ((try dsimp only) <;> (first | decide | assumption | trivial | grind)))⟩
    rintro N kk ⟨t, sk, j⟩ hN hN2 ⟨a1, a2, a3, a4, a5, a6, a7, a8, a9, a10⟩ hk
    dsimp only at a1 a2 a3 a4 a5 a6 a7 a8 a9 a10
    subst a3
    unfold f_X6_changed_22 f_X6_changed_54
    dsimp only
    refine ok_if (fun d => ok_some ⟨a1, a2 0 (by ((try dsimp only) <;> (first | decide | assumption | trivial | grind))) (by ((try dsimp only) <;> (first | decide | assumption | trivial | grind))), a2 4 (by ((try dsimp only) <;> (first | decide | assumption | trivial | grind))) (by ((try dsimp only) <;> (first | decide | assumption | trivial | grind))), fun h => absurd h c, fun _ => ⟨a2, a7, a8, a9 (by (first | assumption | trivial | grind)), a10 (by (first | assumption | trivial | grind))⟩⟩) fun d => ?_
    have hj : j = 0 ∨ j = 1 := by (first | assumption | trivial | grind)
    refine ok_if (fun e => ok_nme fun y hy => hk _ (by (first | assumption | trivial | grind)) ?_) fun e => ?_
    · subst e hy
      refine ⟨a1, a2, rfl, ?_, ?_, ?_, a7, a8, ?_, ?_⟩ <;> ((try dsimp only) <;> (first | decide | assumption | trivial | grind))
    · rcases hj with hj | hj <;> subst hj
      · refine ok_bind (P := fun z => z = 0) ⟨0, rfl, rfl⟩ fun z hz => ?_
        subst hz
        refine ok_if (fun f => ok_nme fun y hy => hk _ (by (first | assumption | trivial | grind)) ?_) fun f => ?_
        · subst hy
          refine ⟨a1, a2, rfl, by ((try dsimp only) <;> (first | decide | assumption | trivial | grind)), by ((try dsimp only) <;> (first | decide | assumption | trivial | grind)), ?_, a7, a8, fun _ _ => Or.inl f, fun h => absurd h (by ((try dsimp only) <;> (first | decide | assumption | trivial | grind)))⟩
          ((try dsimp only) <;> (first | decide | assumption | trivial | grind))
        · refine ok_bind (P := fun z => z = 0) ⟨0, rfl, rfl⟩ fun z hz => ?_
          subst hz
          refine ok_nme fun t2 ht2 => ok_nme fun y hy => hk _ (by (first | assumption | trivial | grind)) ?_
          subst hy ht2
          refine ⟨a1, fun q h5 h8 => (show va_up t.2 (5 + 3 * 0 + 0) 2 q = t.2 q from up_ne h5).trans (a2 q h5 h8), rfl, by ((try dsimp only) <;> (first | decide | assumption | trivial | grind)), by ((try dsimp only) <;> (first | decide | assumption | trivial | grind)), ?_, fun h => absurd h.symm e, fun h => (show va_up t.2 (5 + 3 * 0 + 0) 2 8 = t.2 8 from up_ne (by omega)).trans (a8 h), fun _ _ => Or.inr (by (dsimp only; exact up_eq)), fun h => absurd h (by ((try dsimp only) <;> (first | decide | assumption | trivial | grind)))⟩
          ((try dsimp only) <;> (first | decide | assumption | trivial | grind))
      · refine ok_bind (P := fun z => z = 1) ⟨1, rfl, rfl⟩ fun z hz => ?_
        subst hz
        refine ok_if (fun f => ok_nme fun y hy => hk _ (by (first | assumption | trivial | grind)) ?_) fun f => ?_
        · subst hy
          refine ⟨a1, a2, rfl, by ((try dsimp only) <;> (first | decide | assumption | trivial | grind)), by ((try dsimp only) <;> (first | decide | assumption | trivial | grind)), ?_, a7, a8, fun _ => a9 (by ((try dsimp only) <;> (first | decide | assumption | trivial | grind))), fun _ _ => Or.inl f⟩
          ((try dsimp only) <;> (first | decide | assumption | trivial | grind))
        · refine ok_bind (P := fun z => z = 1) ⟨1, rfl, rfl⟩ fun z hz => ?_
          subst hz
          refine ok_nme fun t2 ht2 => ok_nme fun y hy => hk _ (by (first | assumption | trivial | grind)) ?_
          subst hy ht2
          refine ⟨a1, fun q h5 h8 => (show va_up t.2 (5 + 3 * 1 + 0) 2 q = t.2 q from up_ne h8).trans (a2 q h5 h8), rfl, by ((try dsimp only) <;> (first | decide | assumption | trivial | grind)), by ((try dsimp only) <;> (first | decide | assumption | trivial | grind)), ?_, fun h => (show va_up t.2 (5 + 3 * 1 + 0) 2 5 = t.2 5 from up_ne (by omega)).trans (a7 h), fun h => absurd h.symm e, fun _ h => ?_, fun _ _ => Or.inr (by (dsimp only; exact up_eq))⟩
          · ((try dsimp only) <;> (first | decide | assumption | trivial | grind))
          · have := a9 (by ((try dsimp only) <;> (first | decide | assumption | trivial | grind))) h
            rw [show (t.1, va_up t.2 (5 + 3 * 1 + 0) 2).2 5 = t.2 5 from (show va_up t.2 (5 + 3 * 1 + 0) 2 5 = t.2 5 from up_ne (by omega))]
            exact this
end INNER
