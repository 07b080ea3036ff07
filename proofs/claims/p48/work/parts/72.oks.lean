section
/-! the model: walks, walkers, orders by hand -/
section OKW
variable {k : Int32} {τ : MS}
def Al {α : Type} (o : Option α) (Q : α → Prop) : Prop := ∀ r, o = some r → Q r
theorem al_bind {α β : Type} {o : Option β} {f : β → Option α} {P : β → Prop} {Q : α → Prop} (h : Al o P) (g : ∀ x, P x → Al (f x) Q) : Al (o.bind f) Q := by
  intro r e
  cases ho : o with
  | none => rw [ho] at e; cases e
  | some x => rw [ho] at e; exact g x (h x ho) r e
theorem al_if {α : Type} {c : Prop} [Decidable c] {a b : Option α} {Q : α → Prop} (h1 : c → Al a Q) (h2 : ¬ c → Al b Q) : Al (if c then a else b) Q := by
  by_cases hc : c
  · rw [if_pos hc]; exact h1 hc
  · rw [if_neg hc]; exact h2 hc
theorem al_nme {α β : Type} {v : β} {f : β → Option α} {Q : α → Prop} (h : ∀ x, x = v → Al (f x) Q) : Al (nm v f) Q := h v rfl
theorem al_some {α : Type} {r : α} {Q : α → Prop} (h : Q r) : Al (some r) Q := fun x e => by cases e; exact h
theorem al_any {α : Type} {o : Option α} : Al o fun _ => True := fun _ _ => trivial
theorem al_of {α : Type} {o : Option α} {Q : α → Prop} (h : Ok o Q) : Al o Q := by
  obtain ⟨r, e, hr⟩ := h
  intro x ex
  rw [e] at ex
  cases ex; exact hr
theorem al_ok {α : Type} {o : Option α} {P Q : α → Prop} (h : Ok o P) (g : Al o Q) : Ok o fun r => P r ∧ Q r := by
  obtain ⟨r, e, hr⟩ := h
  exact ⟨r, e, hr, g r e⟩
theorem al_gtr {x : Int32} : Al (gtr x) fun z => z < 2 := by
  unfold gtr
  exact al_if (fun _ => al_some (by omega)) fun _ => al_if (fun _ => al_some (by omega)) fun _ => fun r e => by cases e
theorem slip3 {x1 x2 x3 x4 : Int32} : Al (f_X6_slip τ x1 x2 x3 x4) fun r => r.1 3 = τ.1 3 := by
  have main : ∀ t : MS, t.1 3 = τ.1 3 → Al (f_X6_slip_21 t x1 x2 x3 x4) fun r => r.1 3 = τ.1 3 := by
    intro t ht
    unfold f_X6_slip_21
    refine al_bind al_any fun z _ => al_bind al_any fun z _ => al_bind al_any fun z _ => al_nme fun t2 ht2 => al_some ?_
    rw [(up_ls ht2).2.2 3 (by omega)]; exact ht
  unfold f_X6_slip
  refine al_if (fun _ => al_bind al_any fun z _ => al_nme fun t ht => main t ?_) fun _ => main τ rfl
  exact (up_ls ht).2.2 3 (by omega)
theorem come3 {x1 x2 x3 : Int32} : Al (f_X6_come τ x1 x2 x3) fun r => r.1 3 = τ.1 3 := by
  unfold f_X6_come
  refine al_bind al_gtr fun j hj => al_bind al_any fun z _ => al_nme fun t ht => al_bind (al_of (ok_X6_changed _ _)) fun r hr => al_some ?_
  rw [hr.1]
  exact (up_ls ht).2.2 3 (by omega)
theorem go3 {x1 x2 : Int32} : Al (f_X6_go τ x1 x2) fun r => r.2.1 3 = τ.1 3 := by
  unfold f_X6_go
  refine al_bind al_gtr fun j hj => al_bind al_any fun z _ => al_nme fun t ht => al_nme fun y _ => al_bind (al_of (ok_X6_changed _ _)) fun r hr => al_some ?_
  dsimp only
  rw [hr.1]
  exact (up_ls ht).2.2 3 (by omega)
theorem stepIn3 {x1 x2 x3 : Int32} : Al (f_X6_stepIn τ x1 x2 x3) fun r => r.1 3 = τ.1 3 := by
  have main : ∀ a b c d e : Int32, Al (f_X6_stepIn_15 τ a b c d e) fun r => r.1 3 = τ.1 3 := by
    intro a b c d e
    unfold f_X6_stepIn_15
    exact al_bind come3 fun z hz => al_bind slip3 fun z2 hz2 => al_some (hz2.trans hz)
  unfold f_X6_stepIn
  exact al_if (fun _ => main _ _ _ _ _) fun _ => al_bind al_any fun z _ => main _ _ _ _ _
theorem stepOut3 {x1 x2 : Int32} : Al (f_X6_stepOut τ x1 x2) fun r => r.2.1 3 = τ.1 3 := by
  have main : ∀ a b c d : Int32, Al (f_X6_stepOut_17 τ a b c d) fun r => r.2.1 3 = τ.1 3 := by
    intro a b c d
    unfold f_X6_stepOut_17
    exact al_bind go3 fun z hz => al_bind slip3 fun z2 hz2 => al_some (hz2.trans hz)
  unfold f_X6_stepOut
  exact al_if (fun _ => main _ _ _ _) fun _ => al_bind al_any fun z _ => main _ _ _ _
theorem move3 {x1 : Int32} : Al (f_X6_move τ x1) fun r => r.2.1 3 = τ.1 3 := by
  have m86 : ∀ a b c d : Int32, Al (f_X6_move_86 τ a b c d) fun r => r.2.1 3 = τ.1 3 := by
    intro a b c d
    unfold f_X6_move_86
    exact al_bind stepOut3 fun z hz => al_bind stepIn3 fun z2 hz2 => al_some (hz2.trans hz)
  have m59 : ∀ a b c d e f : Int32, Al (f_X6_move_59 τ a b c d e f) fun r => r.2.1 3 = τ.1 3 := by
    intro a b c d e f
    unfold f_X6_move_59
    exact al_bind al_any fun z _ => al_bind al_any fun z _ => al_if (fun _ => al_if (fun _ => m86 _ _ _ _) fun _ => m86 _ _ _ _) fun _ => al_some rfl
  have m18 : ∀ a b c : Int32, Al (f_X6_move_18 τ a b c) fun r => r.2.1 3 = τ.1 3 := by
    intro a b c
    unfold f_X6_move_18
    exact al_bind al_any fun z _ => al_if (fun _ => al_some rfl) fun _ => al_bind al_any fun z _ => al_if (fun _ => al_some rfl) fun _ => al_if (fun _ => m59 _ _ _ _ _ _) fun _ => al_bind al_any fun z _ => m59 _ _ _ _ _ _
  unfold f_X6_move
  exact al_nme fun y _ => al_if (fun _ => m18 _ _ _) fun _ => m18 _ _ _
def KQ (k : Int32) (r : Int32 × MS) : Prop := IB k r.2 ∧ WK r.2 ∧ UT r.2
/-! turn -/
def TuI (k N : Int32) (t : MS × Int32 × Int32 × Int32) : Prop := (IB k t.1 ∧ WK t.1) ∧ (t.2.1 = 0 ∨ t.2.1 = 1) ∧ (t.2.2.1 = TS t.1 t.2.1 ∧ 1 ≤ t.2.2.1) ∧ 1 ≤ t.2.2.2 ∧ t.2.2.2 ≤ 20 ∧ 20 ≤ t.2.2.2 + N
theorem st_X6_turn (N : Int32) (kk) (t) (hN : 0 ≤ N) (hN2 : N ≤ 63) (ha : TuI k N t) (hk : ∀ b, 1 ≤ N → TuI k (N - 1) b → Ok (kk b) (KQ k)) : Ok (f_X6_turn_28 kk t) (KQ k) := by
  obtain ⟨s, v1, v2, i⟩ := t
  obtain ⟨⟨b, w⟩, p, ⟨a1, a2⟩, a3, a4, a5⟩ := ha
  dsimp only at b w p a1 a2 a3 a4 a5
  unfold f_X6_turn_28
  dsimp only
  have hts := b.ts (x := v1)
  refine ok_if (fun c => ?_) fun c => ?_
  · refine ok_bind (ok_X6_changed _ _) fun r hr => ?_
    have br := hr.ib b
    have wr : WK r := CH.wk (τ := s) (t := s) w rfl p (fun _ => rfl) (fun _ => rfl) hr
    refine ok_bind (ok_X6_tear br wr) fun r2 hr2 => ?_
    obtain ⟨b2, w2, u2, -, e0, e1⟩ := hr2
    have e : TS r2 v1 = TS s v1 := by unfold TS; rw [e0, e1, hr.1]
    exact ok_bind (ok_X6_get b2 _ _ p (by decide) (show (0 : Int32) < TS r2 v1 by rw [e, ← a1]; grind)) fun z hz => ok_some ⟨b2, w2, u2⟩
  · have hj : ∃ j, j < 2 ∧ gtr v1 = some j ∧ TS s v1 = SL (s.1 j) := by
      rcases p with p | p <;> subst p
      · exact ⟨0, by omega, rfl, rfl⟩
      · exact ⟨1, by omega, rfl, rfl⟩
    obtain ⟨j, hj, hg, hs⟩ := hj
    have G : Ok (gtr v1) (fun y => j = y) := ⟨j, hg, rfl⟩
    refine ok_bind G fun _ e => ?_
    subst e
    refine ok_bind G fun _ e => ?_
    subst e
    have hl := b.l (i := j) (by omega)
    have hl1 : (s.1 j).length ≤ cap j := hl.1
    have ci : i < SL (s.1 j) := by rw [← hs, ← a1]; clear a5; grind
    refine ok_bind (ok_ldel hl i (by clear a5; grind) ci) fun x hx => ok_nme fun t ht => ?_
    obtain ⟨t2, t1, t0⟩ := up_ls ht
    have bt : IB k t := by rw [ht]; exact b.lst hx.1
    rw [t1]
    refine ok_bind (ok_lins hx.1 0 _ (by decide) (SL_n hx.1).1 (by have := hx.2.1; omega) (hl.getD _)) fun x2 hx2 => ok_nme fun t3 ht3 => ok_nme fun y hy => ?_
    obtain ⟨s2, s1, s0⟩ := up_ls ht3
    have b3 : IB k t3 := by rw [ht3]; exact bt.lst hx2.1
    have len : ∀ q, (t3.1 q).length = (s.1 q).length := by
      intro q
      by_cases e : q = j
      · subst e
        rw [s1, hx2.2]; exact hx.2.1
      · rw [s0 q e, t0 q e]
    have w3 : WK t3 := w.len (s2.trans t2) (len 0) (len 1)
    have hts3 : TS t3 v1 = TS s v1 := by unfold TS SL; rw [len 0, len 1]
    have a6 : v2 ≤ 20 := by rw [a1]; exact hts.2
    have ci2 : i < v2 := by rw [a1, hs]; exact ci
    refine hk _ (by clear a1 hs ci len t0 s0 t2 s2 hts hts3 w3 b3 hx hx2 t1 s1 hl1; grind) ⟨⟨b3, w3⟩, p, ⟨a1.trans hts3.symm, a2⟩, ?_, ?_, ?_⟩ <;> dsimp only
    · rw [hy]; clear a1 hs ci a5 hN hN2; grind
    · rw [hy]; clear hs ci a5 hN hN2; grind
    · rw [hy]; clear a1 hs ci; grind
theorem ok_X6_turn (hb : IB k τ) (hw : WK τ) (hu : UT τ) (x1 : Int32) : Ok (f_X6_turn τ x1) (KQ k) := by
  unfold f_X6_turn
  refine ok_bind (ok_X6_isNoTrack _) fun z hz => ok_bind (ok_X6_start hb hw hu _ _ (by decide)) fun z2 hz2 => ?_
  obtain ⟨⟨-, hi⟩, -, b, w, u⟩ := hz2
  refine ok_if (fun c => ?_) fun c => ok_some ⟨b, w, u⟩
  obtain ⟨i0, i1⟩ := hi c
  have p := hz i0
  refine ok_bind (ok_X6_size b _ p) fun y hy => ok_if (fun _ => ok_some ⟨b, w, u⟩) fun c4 => ?_
  have hy : y = TS z2.2 x1 ∧ 0 ≤ y ∧ y ≤ 20 := hy
  refine lpn24 (TuI k) (fun N kk t hN hN2 ha hk => st_X6_turn N kk t hN hN2 ha hk) ⟨⟨b, w⟩, p, ⟨hy.1, ?_⟩, (by dsimp only; decide), (by dsimp only; decide), (by dsimp only; decide)⟩
  dsimp only
  grind
/-! walk, step, pluck -/
theorem ok_walk34 (hb : IB k τ) (hw : WK τ) (hu : UT τ) (u1 : Int32) : Ok (f_X6_walk_34 τ u1) (KQ k) := by
  unfold f_X6_walk_34
  refine ok_nme fun t ht => ok_nme fun t2 ht2 => ?_
  obtain ⟨l1, e1, n1⟩ := up_sc ht
  obtain ⟨l2, e2, n2⟩ := up_sc ht2
  have b : IB k t2 := hb.eq (l2.trans l1) ((n2 4 (by omega)).trans (n1 4 (by omega)))
  have w : WK t2 := hw.noH (Or.inl e2) (by rw [l2, l1]) fun q hq => (n2 q (by omega)).trans (n1 q (by omega))
  have u : UT t2 := hu.eq (l2.trans l1)
  exact ok_bind (ok_size0 b) fun y hy => ok_some ⟨b, w, u⟩
theorem ok_X6_walk (hb : IB k τ) (hw : WK τ) (hu : UT τ) (x1 : Int32) : Ok (f_X6_walk τ x1) (KQ k) := by
  have main : ∀ s v u, IB k s → WK s → UT s → Ok (f_X6_walk_15 s v u) (KQ k) := by
    intro s v u b w q
    unfold f_X6_walk_15
    refine ok_nme fun t ht => ?_
    have bt : IB k t := by rw [ht]; exact b.sc (by omega)
    have wt : WK t := by rw [ht]; exact w.sc (by omega)
    have ut : UT t := by rw [ht]; exact q.sc
    exact ok_if (fun _ => ok_walk34 bt wt ut _) fun _ => ok_bind (ok_size0 bt) fun y hy => ok_walk34 bt wt ut _
  unfold f_X6_walk
  refine ok_nme fun t ht => ?_
  have bt : IB k t := by rw [ht]; exact hb.sc (by omega)
  have wt : WK t := by rw [ht]; exact hw.sc (by omega)
  have ut : UT t := by rw [ht]; exact hu.sc
  exact ok_if (fun _ => main _ _ _ bt wt ut) fun _ => main _ _ _ bt wt ut
theorem ok_hasNext (hb : IB k τ) : Ok (f_X6_hasNext τ) fun r => ¬ r = 0 → 0 ≤ τ.2 2 ∧ τ.2 2 < SL (τ.1 0) := by
  unfold f_X6_hasNext
  refine ok_if (fun _ => ok_some fun h => absurd rfl h) fun _ => ok_bind (ok_size0 hb) fun y hy => ok_bind (ok_X6_isIn _ _ _) fun z hz => ok_if (fun _ => ok_some fun h => absurd rfl h) fun c => ok_some fun _ => ?_
  have q := hz.2 c
  refine ⟨q.1, ?_⟩
  rw [← hy.1]
  clear hz
  grind
theorem ok_X6_step (hb : IB k τ) (hw : WK τ) (hu : UT τ) : Ok (f_X6_step τ) (KQ k) := by
  have main : ∀ u1, Ok (f_X6_step_13 τ u1) (KQ k) := by
    intro u1
    unfold f_X6_step_13
    refine ok_bind (ok_X6_start hb hw hu _ _ (by decide)) fun z hz => ?_
    obtain ⟨-, -, b, w, u⟩ := hz
    refine ok_if (fun c => ok_bind (ok_hasNext b) fun y hy => ok_if (fun _ => ok_some ⟨b, w, u⟩) fun c2 => ok_nme fun t ht => ?_) fun c => ok_some ⟨b, w, u⟩
    have q := hy c2
    obtain ⟨l1, e1, n1⟩ := up_sc ht
    have bt : IB k t := b.eq l1 (n1 4 (by omega))
    have wt : WK t := w.noH (Or.inr (by rw [e1, l1]; exact q)) (by rw [l1]) fun q hq => n1 q (by omega)
    have ut : UT t := u.eq l1
    have fin : ∀ a c, Ok (f_X6_step_58 t a c) (KQ k) := by
      intro a c
      unfold f_X6_step_58
      refine ok_nme fun t2 ht2 => ?_
      obtain ⟨l2, e2, n2⟩ := up_sc ht2
      have b2 : IB k t2 := by rw [ht2]; exact bt.sc (by omega)
      have w2 : WK t2 := by rw [ht2]; exact wt.sc (by omega)
      have u2 : UT t2 := by rw [ht2]; exact ut.sc
      have e3 : t2.2 3 = z.2.2 2 := (n2 3 (by omega)).trans e1
      exact ok_bind (ok_get0 b2 _ (by rw [e3]; exact q.1) (by rw [e3, l2, l1]; exact q.2)) fun y hy => ok_some ⟨b2, w2, u2⟩
    exact ok_if (fun _ => fin _ _) fun _ => fin _ _
  unfold f_X6_step
  exact ok_if (fun _ => main _) fun _ => main _
theorem ok_X6_pluck (hb : IB k τ) (hw : WK τ) (hu : UT τ) : Ok (f_X6_pluck τ) (KQ k) := by
  have main : ∀ u1, Ok (f_X6_pluck_13 τ u1) (KQ k) := by
    intro u1
    unfold f_X6_pluck_13
    refine ok_bind (ok_X6_start hb hw hu _ _ (by decide)) fun z hz => ?_
    obtain ⟨-, -, b, w, u⟩ := hz
    refine ok_if (fun c => ok_if (fun _ => ok_some ⟨b, w, u⟩) fun c2 => ?_) fun c => ok_some ⟨b, w, u⟩
    obtain ⟨h0, h1⟩ := w.1.resolve_left c2
    have G : Ok (gtr 0) (fun y => 0 = y) := ⟨0, rfl, rfl⟩
    refine ok_bind G fun _ e => ?_
    subst e
    refine ok_bind (ok_ldel (b.l (i := 0) (by omega)) _ h0 h1) fun x hx => ok_nme fun t ht => ?_
    obtain ⟨t2, t1, t0⟩ := up_ls ht
    have bt : IB k t := by rw [ht]; exact b.lst hx.1
    have fin : ∀ s : MS, s.1 = t.1 → (∀ q, q ≠ 2 → s.2 q = t.2 q) → Ok (f_X6_pluck_70 s) (KQ k) := by
      intro s ls ns
      unfold f_X6_pluck_70
      refine ok_nme fun r hr => ?_
      obtain ⟨l3, e3, n3⟩ := up_sc hr
      have b3 : IB k r := bt.eq (l3.trans ls) ((n3 4 (by omega)).trans (ns 4 (by omega)))
      have w3 : WK r := w.noH (Or.inl e3) (by rw [l3, ls]; exact t0 1 (by omega)) fun q hq => (n3 q (by omega)).trans ((ns q (by omega)).trans (by rw [t2]))
      refine ok_bind (ok_X6_tear b3 w3) fun r2 hr2 => ?_
      obtain ⟨b4, w4, u4, -, -, -⟩ := hr2
      exact ok_bind (ok_size0 b4) fun y hy => ok_some ⟨b4, w4, u4⟩
    refine ok_if (fun _ => ok_nme fun s hs => ?_) fun _ => fin t rfl fun _ _ => rfl
    obtain ⟨l3, e3, n3⟩ := up_sc hs
    exact fin s l3 n3
  unfold f_X6_pluck
  exact ok_if (fun _ => main _) fun _ => main _
/-! replace -/
theorem ok_X6_replace (hb : IB k τ) (hw : WK τ) (hu : UT τ) (x1 x2 x3 : Int32) : Ok (f_X6_replace τ x1 x2 x3) (KQ k) := by
  unfold f_X6_replace
  refine ok_bind (ok_X6_isNoPlace _) fun z hz => ok_bind (ok_X6_start hb hw hu _ _ (by decide)) fun z2 hz2 => ?_
  obtain ⟨⟨-, hi⟩, -, b, w, u⟩ := hz2
  refine ok_if (fun c => ?_) fun c => ok_some ⟨b, w, u⟩
  obtain ⟨i0, i1⟩ := hi c
  have p := hz i0
  refine ok_bind (ok_X6_isNoPiece _ _) fun z3 hz3 => ok_bind (ok_X6_refuse b w u _ _ i1 (by decide)) fun z4 hz4 => ?_
  obtain ⟨⟨-, hi4⟩, -, b4, w4, u4⟩ := hz4
  refine ok_if (fun c4 => ?_) fun c4 => ok_some ⟨b4, w4, u4⟩
  refine ok_bind (ok_size1 b4) fun y hy => ok_if (fun c5 => ?_) fun c5 => ok_some ⟨b4, w4, u4⟩
  refine ok_bind (ok_X6_tear b4 w4) fun t ht => ?_
  obtain ⟨bt, wt, ut, -, -, e1⟩ := ht
  have G : Ok (gtr 1) (fun y => 1 = y) := ⟨1, rfl, rfl⟩
  refine ok_bind G fun _ e => ?_
  subst e
  refine ok_bind (ok_X6_code _ _ (hz3 (hi4 c4).1)) fun v hv => ?_
  refine ok_bind (ok_lset (bt.l (i := 1) (by omega)) _ _ p.1 (by rw [e1, ← hy.1]; exact c5) hv) fun x hx => ok_nme fun r hr => ok_some ?_
  obtain ⟨r2, r1, r0⟩ := up_ls hr
  have len : ∀ q, (r.1 q).length = (t.1 q).length := by
    intro q
    by_cases e : q = 1
    · subst e
      rw [r1]; exact hx.2
    · rw [r0 q e]
  exact ⟨by rw [hr]; exact bt.lst hx.1, wt.len r2 (len 0) (len 1), ut.len (r0 2 (by omega)) (len 0) (len 1)⟩
/-! stand, forth, back -/
theorem ok_stand23 (hb : IB k τ) (hw : WK τ) (hu : UT τ) (v1 v2 u1 : Int32) (p : u1 = 0 → (v1 = 0 ∨ v1 = 1) ∧ 0 ≤ v2) : Ok (f_X6_stand_23 τ v1 v2 u1) (KQ k) := by
  unfold f_X6_stand_23
  refine ok_bind (ok_X6_start hb hw hu _ _ (by decide)) fun z hz => ?_
  obtain ⟨⟨-, hi⟩, -, b, w, u⟩ := hz
  refine ok_if (fun c => ?_) fun c => ok_some ⟨b, w, u⟩
  obtain ⟨p1, p2⟩ := p (hi c).1
  refine ok_bind (ok_size1 b) fun y hy => ok_if (fun c2 => ?_) fun c2 => ok_some ⟨b, w, u⟩
  obtain ⟨j, hj, -, hg⟩ := gwk_ok p1
  have G : Ok (gwk v1) (fun y => j = y) := ⟨j, hg, rfl⟩
  refine ok_bind G fun _ e => ?_
  subst e
  refine ok_nme fun t ht => ok_bind G fun _ e => ?_
  subst e
  refine ok_nme fun t2 ht2 => ok_bind G fun _ e => ?_
  subst e
  refine ok_nme fun t3 ht3 => ok_some ?_
  obtain ⟨l1, e1, n1⟩ := up_sc ht
  obtain ⟨l2, e2, n2⟩ := up_sc ht2
  obtain ⟨l3, e3, n3⟩ := up_sc ht3
  have L : t3.1 = z.2.1 := l3.trans (l2.trans l1)
  have O : ∀ q, q ≠ 5 + 3 * j + 0 → q ≠ 5 + 3 * j + 1 → q ≠ 5 + 3 * j + 2 → t3.2 q = z.2.2 q := fun q a b c => (n3 q c).trans ((n2 q b).trans (n1 q a))
  have f0 : t3.2 (5 + 3 * j) = 1 := (n3 _ (by omega)).trans ((n2 _ (by omega)).trans e1)
  have f1 : t3.2 (5 + 3 * j + 1) = v2 := (n3 _ (by omega)).trans e2
  exact ⟨b.eq L (O 4 (by omega) (by omega) (by omega)), w.one hj L O (by rw [f0, f1, e3]; exact ⟨Or.inr (Or.inl rfl), fun _ => ⟨⟨p2, by rw [← hy.1]; exact c2⟩, Or.inl rfl⟩⟩), u.eq L⟩
theorem ok_X6_stand (hb : IB k τ) (hw : WK τ) (hu : UT τ) (x1 x2 : Int32) : Ok (f_X6_stand τ x1 x2) (KQ k) := by
  have m1 : Ok (f_X6_stand_18 τ x1 x2) (KQ k) := ok_stand23 hb hw hu _ _ _ fun e => absurd e (by decide)
  unfold f_X6_stand
  exact ok_bind (ok_X6_isNoWalker _) fun z hz => ok_if (fun c => ok_bind (ok_X6_isIn _ _ _) fun y hy => ok_if (fun _ => m1) fun c2 => ok_stand23 hb hw hu _ _ _ fun _ => ⟨hz c, (hy.2 c2).1⟩) fun _ => m1
end OKW
end
section
/-! the model: loops told by natural numbers -/
section OKN
variable {k : Int32} {τ : MS}
theorem nI_lei {a b : Nat} (ha : a < 2147483648) (hb : b < 2147483648) : nI a ≤ nI b ↔ a ≤ b := by
  have h1 := nI_toInt (n := a) (by omega)
  have h2 := nI_toInt (n := b) (by omega)
  constructor
  · intro h
    have := Int32.le_iff_toInt_le.mp h
    omega
  · intro h
    exact Int32.le_iff_toInt_le.mpr (by omega)
theorem nI_lti {a b : Nat} (ha : a < 2147483648) (hb : b < 2147483648) : nI a < nI b ↔ a < b := by
  have h1 := nI_toInt (n := a) (by omega)
  have h2 := nI_toInt (n := b) (by omega)
  constructor
  · intro h
    have := Int32.lt_iff_toInt_lt.mp h
    omega
  · intro h
    exact Int32.lt_iff_toInt_lt.mpr (by omega)
theorem nI_eqi {a b : Nat} (ha : a < 2147483648) (hb : b < 2147483648) : nI a = nI b ↔ a = b := by
  have h1 := nI_toInt (n := a) (by omega)
  have h2 := nI_toInt (n := b) (by omega)
  constructor
  · intro h
    rw [h] at h1
    omega
  · intro h
    rw [h]
theorem nI_suc {a : Nat} (h : a + 1 < 2147483648) : nI a + 1 = nI (a + 1) := by
  have := nI_dec (m := a) h
  rw [← this]
  exact Int32.sub_add_cancel _ _
theorem nI_prd {a : Nat} (h : 1 ≤ a) (h2 : a < 2147483648) : nI a - 1 = nI (a - 1) := by
  have := nI_dec (m := a - 1) (by omega)
  rw [show a - 1 + 1 = a by omega] at this
  exact this
theorem nI_prd2 {a : Nat} (h : 1 ≤ a) (h2 : a < 2147483648) : nI a + (-1) = nI (a - 1) := by
  rw [← nI_prd h h2]
  exact (Int32.sub_eq_add_neg _ _).symm
theorem nI_sum {a b : Nat} (h : a + b < 2147483648) : nI a + nI b = nI (a + b) := by
  apply Int32.toInt_inj.mp
  rw [Int32.toInt_add, nI_toInt (by omega), nI_toInt (by omega), nI_toInt (by omega), Int.bmod_eq_of_le (by omega) (by omega)]
  omega
theorem nI_dif {a b : Nat} (h : b ≤ a) (h2 : a < 2147483648) : nI a - nI b = nI (a - b) := by
  apply Int32.toInt_inj.mp
  rw [Int32.toInt_sub, nI_toInt (by omega), nI_toInt (by omega), nI_toInt (by omega), Int.bmod_eq_of_le (by omega) (by omega)]
  omega
theorem nI_nn {a : Nat} (h : a < 2147483648) : ¬ nI a < 0 := by
  intro e
  have h1 := nI_toInt (n := a) (by omega)
  have h2 := Int32.lt_iff_toInt_lt.mp e
  have h3 : (0 : Int32).toInt = 0 := rfl
  omega
theorem nI_n1 {a : Nat} (h : a < 2147483648) : ¬ nI a = -1 := by
  intro e
  have h1 := nI_toInt (n := a) (by omega)
  have h3 : (-1 : Int32).toInt = -1 := rfl
  rw [e] at h1
  omega
theorem nIof {x : Int32} {b : Nat} (hb : b < 2147483648) (h0 : 0 ≤ x) (h1 : x ≤ nI b) : ∃ v, v ≤ b ∧ x = nI v := by
  have h2 := Int32.le_iff_toInt_le.mp h0
  have h3 := Int32.le_iff_toInt_le.mp h1
  have h4 := nI_toInt (n := b) (by omega)
  have h5 : (0 : Int32).toInt = 0 := rfl
  refine ⟨x.toInt.toNat, by omega, ?_⟩
  apply Int32.toInt_inj.mp
  rw [nI_toInt (by omega)]
  omega
theorem up_loop {α β : Type} {Q : α → Prop} {st : (β → Option α) → β → Option α} (I : Nat → β → Prop) (n : Nat) (h : ∀ k a j, j ≤ n → I j a → (∀ b, j < n → I (j + 1) b → Ok (k b) Q) → Ok (st k a) Q) : ∀ (d j : Nat) (a : β), j + d = n → I j a → ∀ f, d < f → Ok (lpn st f a) Q := by
  intro d
  induction d with
  | zero =>
    intro j a hj ha f hf
    obtain ⟨f, rfl⟩ : ∃ f', f = f' + 1 := ⟨f - 1, by omega⟩
    exact h _ a j (by omega) ha fun b hlt _ => absurd hlt (by omega)
  | succ d ih =>
    intro j a hj ha f hf
    obtain ⟨f, rfl⟩ : ∃ f', f = f' + 1 := ⟨f - 1, by omega⟩
    exact h _ a j (by omega) ha fun b hlt hb => ih (j + 1) b (by omega) hb f (by omega)
theorem up24 {α β : Type} {Q : α → Prop} {st : (β → Option α) → β → Option α} (I : Nat → β → Prop) (n : Nat) (hn : n < 24) (h : ∀ k a j, j ≤ n → I j a → (∀ b, j < n → I (j + 1) b → Ok (k b) Q) → Ok (st k a) Q) {a : β} (ha : I 0 a) : Ok (lpn st 24 a) Q := up_loop I n h n 0 a (by omega) ha 24 (by omega)
theorem trk_ok {x : Int32} (p : x = 0 ∨ x = 1) : ∃ j, j < 2 ∧ (x = 0 ∧ j = 0 ∨ x = 1 ∧ j = 1) ∧ gtr x = some j := gwk_ok p
theorem IB.lenj (hb : IB k τ) {j : Nat} (hj : j < 2) : (τ.1 j).length ≤ 20 := Nat.le_trans (hb.l (i := j) (by omega)).1 (capn j)
theorem sizeN {x : Int32} {j : Nat} (hg : gtr x = some j) : f_X6_size τ x = some (nI (τ.1 j).length) := by
  unfold f_X6_size
  rw [hg]; rfl
theorem lgetN {xs : List Int32} {i : Nat} (hi : i < xs.length) (h : xs.length < 2147483648) : lget xs (nI i) = some (xs.getD i 0) := by
  unfold lget
  have e : (nI i).toNatClampNeg = i := by
    have := nI_toInt (n := i) (by omega)
    show (nI i).toInt.toNat = i
    omega
  rw [e, if_neg]
  rintro (h1 | h1)
  · exact nI_nn (by omega) h1
  · omega
theorem ldelN {xs : List Int32} {i : Nat} (hi : i < xs.length) (h : xs.length < 2147483648) : ldel xs (nI i) = some (delAt xs i) := by
  unfold ldel
  have e : (nI i).toNatClampNeg = i := by
    have := nI_toInt (n := i) (by omega)
    show (nI i).toInt.toNat = i
    omega
  rw [e, if_neg]
  rintro (h1 | h1)
  · exact nI_nn (by omega) h1
  · omega
theorem getN {x : Int32} {j i : Nat} (hg : gtr x = some j) (hi : i < (τ.1 j).length) (h : (τ.1 j).length ≤ 20) : f_X6_get τ x (nI i) = some ((τ.1 j).getD i 0) := by
  unfold f_X6_get
  rw [hg]
  show (lget (τ.1 j) (nI i)).bind _ = _
  rw [lgetN hi (by omega)]; rfl
theorem IB.code (hb : IB k τ) {j : Nat} (hj : j < 2) (i : Nat) : 0 ≤ (τ.1 j).getD i 0 ∧ (τ.1 j).getD i 0 ≤ 999 := by
  have h := (hb.l (i := j) (by omega)).getD i
  have e : hiR j = 999 := by unfold hiR; rw [if_neg (by omega), if_neg (by omega)]
  rw [e] at h; exact h
theorem goN (hb : IB k τ) (hw : WK τ) {x : Int32} {j i : Nat} (hj : j < 2) (hx : x = 0 ∧ j = 0 ∨ x = 1 ∧ j = 1) (hi : i < (τ.1 j).length) : Ok (f_X6_go τ x (nI i)) fun r => (IB k r.2 ∧ WK r.2 ∧ (0 ≤ r.1 ∧ r.1 ≤ 999) ∧ r.2.2 0 = τ.2 0) ∧ (r.2.1 j).length + 1 = (τ.1 j).length ∧ ∀ q, q ≠ j → r.2.1 q = τ.1 q := by
  have hl := hb.lenj hj
  have p : x = 0 ∨ x = 1 := by rcases hx with h | h <;> simp [h.1]
  refine ok_mono (go0 hb hw x (nI i) p (nI_bnd (b := 20) (by omega) (by omega)).1 ?_) fun r h => ?_
  · rcases hx with ⟨h1, h2⟩ | ⟨h1, h2⟩ <;> subst h1 h2
    · exact (nI_lti (by omega) (by omega)).mpr hi
    · exact (nI_lti (by omega) (by omega)).mpr hi
  · obtain ⟨⟨h1, h2, h3, h4, h5, h6⟩, h7⟩ := h
    refine ⟨⟨h1, h2, h7, h3⟩, ?_⟩
    rcases hx with ⟨e1, e2⟩ | ⟨e1, e2⟩ <;> subst e1 e2
    · obtain ⟨a, b⟩ := h5 rfl
      refine ⟨a, fun q hq => ?_⟩
      rcases (by omega : q = 1 ∨ 2 ≤ q) with e | e
      · subst e; exact b
      · exact h4 q e
    · obtain ⟨a, b⟩ := h6 rfl
      refine ⟨a, fun q hq => ?_⟩
      rcases (by omega : q = 0 ∨ 2 ≤ q) with e | e
      · subst e; exact b
      · exact h4 q e
theorem comeN (hb : IB k τ) (hw : WK τ) {x v : Int32} {j i : Nat} (hj : j < 2) (hx : x = 0 ∧ j = 0 ∨ x = 1 ∧ j = 1) (hi : i ≤ (τ.1 j).length) (hl : (τ.1 j).length < 20) (hv : 0 ≤ v ∧ v ≤ 999) : Ok (f_X6_come τ x (nI i) v) fun r => (IB k r ∧ WK r ∧ r.2 0 = τ.2 0) ∧ (r.1 j).length = (τ.1 j).length + 1 ∧ ∀ q, q ≠ j → r.1 q = τ.1 q := by
  have p : x = 0 ∨ x = 1 := by rcases hx with h | h <;> simp [h.1]
  refine ok_mono (come0 hb hw x (nI i) v p (nI_bnd (b := 20) (by omega) (by omega)).1 ?_ ?_ hv) fun r h => ?_
  · rcases hx with ⟨h1, h2⟩ | ⟨h1, h2⟩ <;> subst h1 h2
    · exact (nI_lei (by omega) (by omega)).mpr hi
    · exact (nI_lei (by omega) (by omega)).mpr hi
  · rcases hx with ⟨h1, h2⟩ | ⟨h1, h2⟩ <;> subst h1 h2
    · exact (nI_lti (b := 20) (by omega) (by omega)).mpr hl
    · exact (nI_lti (b := 20) (by omega) (by omega)).mpr hl
  · obtain ⟨h1, h2, h3, h4, h5, h6⟩ := h
    refine ⟨⟨h1, h2, h3⟩, ?_⟩
    rcases hx with ⟨e1, e2⟩ | ⟨e1, e2⟩ <;> subst e1 e2
    · obtain ⟨a, b⟩ := h5 rfl
      refine ⟨a, fun q hq => ?_⟩
      rcases (by omega : q = 1 ∨ 2 ≤ q) with e | e
      · subst e; exact b
      · exact h4 q e
    · obtain ⟨a, b⟩ := h6 rfl
      refine ⟨a, fun q hq => ?_⟩
      rcases (by omega : q = 0 ∨ 2 ≤ q) with e | e
      · subst e; exact b
      · exact h4 q e
/-! refusals, in short -/
theorem ok_start (hb : IB k τ) (hw : WK τ) (hu : UT τ) {x1 x2 : Int32} (p : 1 ≤ x2) {f : Int32 × MS → Option (Int32 × MS)} (h0 : ∀ s, x1 = 0 → s.1 = τ.1 → s.2 0 = 0 → (∀ j, j ≠ 0 → s.2 j = τ.2 j) → IB k s → WK s → UT s → Ok (f (0, s)) (KQ k)) (h1 : ∀ s, IB k s → WK s → UT s → Ok (f (1, s)) (KQ k)) : Ok ((f_X6_start τ x1 x2).bind f) (KQ k) := by
  refine ok_bind (ok_X6_start hb hw hu x1 x2 p) fun z hz => ?_
  obtain ⟨⟨o, i⟩, ⟨l, s⟩, b, w, u⟩ := hz
  obtain ⟨z1, z2⟩ := z
  rcases o with o | o
  · have o : z1 = 0 := o
    subst o
    obtain ⟨i1, i2⟩ := i rfl
    exact h0 z2 i1 l i2 s b w u
  · have o : z1 = 1 := o
    subst o
    exact h1 z2 b w u
theorem ok_refuse (hb : IB k τ) (hw : WK τ) (hu : UT τ) {x1 x2 : Int32} (q : τ.2 0 = 0) (p : 1 ≤ x2) {f : Int32 × MS → Option (Int32 × MS)} (h0 : ∀ s, x1 = 0 → s.1 = τ.1 → s.2 0 = 0 → (∀ j, j ≠ 0 → s.2 j = τ.2 j) → IB k s → WK s → UT s → Ok (f (0, s)) (KQ k)) (h1 : ∀ s, IB k s → WK s → UT s → Ok (f (1, s)) (KQ k)) : Ok ((f_X6_refuse τ x1 x2).bind f) (KQ k) := by
  refine ok_bind (ok_X6_refuse hb hw hu x1 x2 q p) fun z hz => ?_
  obtain ⟨⟨o, i⟩, ⟨l, s⟩, b, w, u⟩ := hz
  obtain ⟨z1, z2⟩ := z
  rcases o with o | o
  · have o : z1 = 0 := o
    subst o
    obtain ⟨i1, i2⟩ := i rfl
    exact h0 z2 i1 l i2 s b w u
  · have o : z1 = 1 := o
    subst o
    exact h1 z2 b w u
theorem kq {r : Int32} {s : MS} (b : IB k s) (w : WK s) (u : UT s) : Ok (some (r, s)) (KQ k) := ok_some ⟨b, w, u⟩
theorem ok_ev {α β : Type} {o : Option β} {v : β} {f : β → Option α} {Q : α → Prop} (e : o = some v) (h : Ok (f v) Q) : Ok (o.bind f) Q := by rw [e]; exact h
theorem ok_t {α : Type} {c : Prop} [Decidable c] {a b : Option α} {Q : α → Prop} (hc : c) (h : Ok a Q) : Ok (if c then a else b) Q := by rw [if_pos hc]; exact h
theorem ok_f {α : Type} {c : Prop} [Decidable c] {a b : Option α} {Q : α → Prop} (hc : ¬ c) (h : Ok b Q) : Ok (if c then a else b) Q := by rw [if_neg hc]; exact h
/-! found -/
theorem ok_found (hb : IB k τ) {x1 : Int32} {j : Nat} (hj : j < 2) (hg : gtr x1 = some j) (x2 x3 : Int32) : Ok (f_X6_found τ x1 x2 x3) fun r => r = -1 ∨ ∃ i, i < (τ.1 j).length ∧ r = nI i := by
  have hl := hb.lenj hj
  unfold f_X6_found
  refine up24 (fun m t => t.1 = x1 ∧ t.2.2.2.2 = nI m ∧ (t.2.2.2.1 = -1 ∨ ∃ i, i < (τ.1 j).length ∧ t.2.2.2.1 = nI i)) (τ.1 j).length (by omega) ?_ ⟨rfl, rfl, Or.inl rfl⟩
  rintro kk ⟨v1, v2, v3, v4, v5⟩ m hm ⟨a1, a2, a3⟩ hk
  dsimp only at a1 a2 a3
  subst a1 a2
  have c44 : m < (τ.1 j).length → ∀ w, (w = -1 ∨ ∃ i, i < (τ.1 j).length ∧ w = nI i) → Ok (f_X6_found_44 τ kk v1 v2 v3 w (nI m)) fun r => r = -1 ∨ ∃ i, i < (τ.1 j).length ∧ r = nI i := by
    intro hm w hw
    unfold f_X6_found_44
    exact ok_nme fun y hy => hk _ hm ⟨rfl, by rw [hy]; exact nI_suc (by omega), hw⟩
  unfold f_X6_found_6
  refine ok_ev (sizeN hg) (ok_if (fun _ => ok_some a3) fun c => ?_)
  have hm : m < (τ.1 j).length := by
    have := mt (nI_lei (a := (τ.1 j).length) (b := m) (by omega) (by omega)).mpr c
    omega
  have c40 : Ok (f_X6_found_40 τ kk v1 v2 v3 (nI m)) fun r => r = -1 ∨ ∃ i, i < (τ.1 j).length ∧ r = nI i := c44 hm _ (Or.inr ⟨m, hm, rfl⟩)
  refine ok_ev (getN hg hm hl) (ok_bind (P := fun _ => True) (ok_some trivial) fun z _ => ?_)
  exact ok_if (fun _ => ok_if (fun _ => ok_if (fun _ => c40) fun _ => c44 hm _ a3) fun _ => c40) fun _ => c44 hm _ a3
theorem ok_X6_found (hb : IB k τ) (x1 x2 x3 : Int32) (p0 : x1 = 0 ∨ x1 = 1) : Ok (f_X6_found τ x1 x2 x3) fun _ => True := by
  obtain ⟨j, hj, -, hg⟩ := trk_ok p0
  exact ok_mono (ok_found hb hj hg x2 x3) fun _ _ => trivial
theorem ok_isNoKind (hb : IB k τ) (hw : WK τ) (hu : UT τ) {x1 x2 : Int32} {f : Int32 × MS → Option (Int32 × MS)} (h0 : ∀ s, (x1 = 0 ∨ x1 = 1) → s.1 = τ.1 → IB k s → WK s → UT s → Ok (f (0, s)) (KQ k)) (h1 : ∀ s, IB k s → WK s → UT s → Ok (f (1, s)) (KQ k)) : Ok ((f_X6_isNoKind τ x1 x2).bind f) (KQ k) := by
  have key : Ok (f_X6_isNoKind τ x1 x2) fun r => (r.1 = 0 ∨ r.1 = 1) ∧ (r.1 = 0 → (x1 = 0 ∨ x1 = 1) ∧ r.2.1 = τ.1) ∧ IB k r.2 ∧ WK r.2 ∧ UT r.2 := by
    unfold f_X6_isNoKind
    refine ok_bind (ok_X6_isNoTrack _) fun z hz => ok_bind (ok_X6_start hb hw hu _ _ (by decide)) fun z2 hz2 => ?_
    obtain ⟨⟨-, i⟩, ⟨l, -⟩, b, w, u⟩ := hz2
    have e43 : Ok (f_X6_isNoKind_43 z2.2) fun r => (r.1 = 0 ∨ r.1 = 1) ∧ (r.1 = 0 → (x1 = 0 ∨ x1 = 1) ∧ r.2.1 = τ.1) ∧ IB k r.2 ∧ WK r.2 ∧ UT r.2 := ok_some ⟨Or.inr rfl, fun e => absurd e (show ¬ (1 : Int32) = 0 by decide), b, w, u⟩
    refine ok_if (fun c => ?_) fun c => e43
    obtain ⟨i0, i1⟩ := i c
    have p := hz i0
    have e36 : ∀ v, Ok (f_X6_isNoKind_36 z2.2 v) fun r => (r.1 = 0 ∨ r.1 = 1) ∧ (r.1 = 0 → (x1 = 0 ∨ x1 = 1) ∧ r.2.1 = τ.1) ∧ IB k r.2 ∧ WK r.2 ∧ UT r.2 := by
      intro v
      unfold f_X6_isNoKind_36
      refine ok_bind (ok_X6_refuse b w u _ _ i1 (by decide)) fun z3 hz3 => ?_
      obtain ⟨-, ⟨l3, -⟩, b3, w3, u3⟩ := hz3
      exact ok_if (fun _ => ok_some ⟨Or.inl rfl, fun _ => ⟨p, l3.trans l⟩, b3, w3, u3⟩) fun _ => ok_some ⟨Or.inr rfl, fun e => absurd e (show ¬ (1 : Int32) = 0 by decide), b3, w3, u3⟩
    exact ok_bind (ok_X6_isIn _ _ _) fun z4 _ => ok_if (fun _ => e36 _) fun _ => ok_if (fun _ => ok_if (fun _ => e36 _) fun _ => e36 _) fun _ => e36 _
  refine ok_bind key fun z hz => ?_
  obtain ⟨o, i, b, w, u⟩ := hz
  obtain ⟨z1, z2⟩ := z
  rcases o with o | o
  · have o : z1 = 0 := o
    subst o
    obtain ⟨i1, i2⟩ := i rfl
    exact h0 z2 i1 i2 b w u
  · have o : z1 = 1 := o
    subst o
    exact h1 z2 b w u
theorem ok_tear {f : MS → Option (Int32 × MS)} (hb : IB k τ) (hw : WK τ) (h : ∀ s, IB k s → WK s → UT s → s.1 0 = τ.1 0 → s.1 1 = τ.1 1 → s.2 = τ.2 → Ok (f s) (KQ k)) : Ok ((f_X6_tear τ).bind f) (KQ k) := by
  refine ok_bind (ok_X6_tear hb hw) fun z hz => ?_
  obtain ⟨b, w, u, e, e0, e1⟩ := hz
  exact h z b w u e0 e1 e
theorem ok_X6_drop (hb : IB k τ) (hw : WK τ) (hu : UT τ) (x1 x2 x3 : Int32) : Ok (f_X6_drop τ x1 x2 x3) (KQ k) := by
  unfold f_X6_drop
  refine ok_isNoKind hb hw hu (fun s p e b w u => ok_t rfl ?_) fun s b w u => ok_f (show ¬ (1 : Int32) = 0 by decide) (kq b w u)
  obtain ⟨j, hj, hx, hg⟩ := trk_ok p
  refine ok_bind (ok_found b hj hg _ _) fun z hz => ok_if (fun _ => kq b w u) fun c => ?_
  obtain ⟨i, hi, e⟩ := hz.resolve_left c
  rw [e]
  refine ok_bind (goN b w hj hx hi) fun z2 hz2 => ?_
  obtain ⟨⟨b2, w2, -, -⟩, -⟩ := hz2
  exact ok_tear b2 w2 fun s3 b3 w3 u3 _ _ _ => kq b3 w3 u3
theorem ok_X6_has (hb : IB k τ) (hw : WK τ) (hu : UT τ) (x1 x2 : Int32) : Ok (f_X6_has τ x1 x2) (KQ k) := by
  unfold f_X6_has
  refine ok_isNoKind hb hw hu (fun s p e b w u => ok_t rfl ?_) fun s b w u => ok_f (show ¬ (1 : Int32) = 0 by decide) (kq b w u)
  exact ok_bind (ok_X6_found b _ _ _ p) fun z hz => ok_if (fun _ => kq b w u) fun c => kq b w u
/-! taken off at an end -/
theorem ok_off (hb : IB k τ) (hw : WK τ) (hu : UT τ) (x1 x2 x3 : Int32) (p : x1 = 0 ∨ x1 = 1) : Ok (f_X6_off τ x1 x2 x3) (KQ k) := by
  unfold f_X6_off
  refine ok_bind (ok_X6_size hb _ p) fun z hz => ok_if (fun _ => kq hb hw hu) fun c => ?_
  have hz : z = TS τ x1 ∧ 0 ≤ z ∧ z ≤ 20 := hz
  refine ok_bind (ok_X6_stepOut hb hw hu _ _ p ?_) fun z2 hz2 => ok_some ⟨hz2.1, hz2.2.1, hz2.2.2.1⟩
  show 1 ≤ TS τ x1
  rw [← hz.1]
  have h0 := hz.2.1
  clear hz
  grind
theorem ok_X6_take (hb : IB k τ) (hw : WK τ) (hu : UT τ) (x1 x2 : Int32) : Ok (f_X6_take τ x1 x2) (KQ k) := by
  unfold f_X6_take
  refine ok_bind (ok_X6_isNoTrack _) fun z hz => ok_start hb hw hu (by decide) (fun s i e e0 en b w u => ok_t rfl ?_) fun s b w u => ok_f (show ¬ (1 : Int32) = 0 by decide) (kq b w u)
  exact ok_bind (ok_off b w u _ _ _ (hz i)) fun z2 hz2 => ok_some hz2
theorem ok_X6_poll (hb : IB k τ) (hw : WK τ) (hu : UT τ) (x1 x2 : Int32) : Ok (f_X6_poll τ x1 x2) (KQ k) := by
  unfold f_X6_poll
  refine ok_bind (ok_X6_isNoTrack _) fun z hz => ok_start hb hw hu (by decide) (fun s i e e0 en b w u => ok_t rfl ?_) fun s b w u => ok_f (show ¬ (1 : Int32) = 0 by decide) (kq b w u)
  exact ok_bind (ok_off b w u _ _ _ (hz i)) fun z2 hz2 => ok_some hz2
theorem ok_X6_pop (hb : IB k τ) (hw : WK τ) (hu : UT τ) (x1 : Int32) : Ok (f_X6_pop τ x1) (KQ k) := by
  unfold f_X6_pop
  refine ok_bind (ok_X6_isNoTrack _) fun z hz => ok_start hb hw hu (by decide) (fun s i e e0 en b w u => ok_t rfl ?_) fun s b w u => ok_f (show ¬ (1 : Int32) = 0 by decide) (kq b w u)
  exact ok_bind (ok_off b w u _ _ _ (hz i)) fun z2 hz2 => ok_some hz2
theorem ok_X6_serve (hb : IB k τ) (hw : WK τ) (hu : UT τ) (x1 x2 : Int32) : Ok (f_X6_serve τ x1 x2) (KQ k) := by
  have m : ∀ s v1 v2 v3, (v1 = 0 ∨ v1 = 1) → IB k s → WK s → UT s → Ok (f_X6_serve_29 s v1 v2 v3) (KQ k) := by
    intro s v1 v2 v3 p b w u
    unfold f_X6_serve_29
    exact ok_bind (ok_off b w u _ _ _ p) fun z2 hz2 => ok_some hz2
  unfold f_X6_serve
  refine ok_bind (ok_X6_isNoTrack _) fun z hz => ok_start hb hw hu (by decide) (fun s i e e0 en b w u => ok_t rfl ?_) fun s b w u => ok_f (show ¬ (1 : Int32) = 0 by decide) (kq b w u)
  exact ok_if (fun _ => m _ _ _ _ (hz i) b w u) fun _ => m _ _ _ _ (hz i) b w u
end OKN
end
section
/-! the model: what is marked, what is told -/
section OKP
variable {k : Int32} {τ : MS}
theorem ne10 : ¬ (1 : Int32) = 0 := by decide
/-- a row of marks as long as the track -/
theorem ok_offAll (hb : IB k τ) (hw : WK τ) (hu : UT τ) {x1 : Int32} {j n : Nat} (hj : j < 2) (hx : x1 = 0 ∧ j = 0 ∨ x1 = 1 ∧ j = 1) (hn : n ≤ (τ.1 j).length) (g : Nat → Int32) : Ok (f_X6_offAll τ x1 n g) (KQ k) := by
  have hl := hb.lenj hj
  unfold f_X6_offAll
  refine ok_nme fun y hy => ?_
  refine up24 (fun m t => (IB k t.1 ∧ WK t.1) ∧ (t.2.1 = x1 ∧ t.2.2.1 = n ∧ t.2.2.2.1 = g) ∧ (∃ c, c ≤ m ∧ t.2.2.2.2.1 = nI c ∧ (c = 0 → UT t.1)) ∧ t.2.2.2.2.2 = nI (n - m) - 1 ∧ n - m ≤ (t.1.1 j).length) n (by omega) ?_ ⟨⟨hb, hw⟩, ⟨rfl, rfl, rfl⟩, ⟨0, Nat.le_refl _, rfl, fun _ => hu⟩, hy, hn⟩
  rintro kk ⟨s, v1, v2, v3, v4, v5⟩ m hm ⟨⟨b, w⟩, ⟨a1, a2, a3⟩, ⟨c, hc, a4, a5⟩, a6, a7⟩ hk
  dsimp only at b w a1 a2 a3 a4 a5 a6 a7
  subst a1 a2 a3 a4
  unfold f_X6_offAll_8
  dsimp only
  refine ok_if (fun c1 => ?_) fun c1 => ?_
  · have m45 : ∀ s3, IB k s3 → WK s3 → UT s3 → Ok (f_X6_offAll_45 s3 (nI c)) (KQ k) := fun s3 b3 w3 u3 => kq b3 w3 u3
    refine ok_if (fun c2 => ?_) fun c2 => ok_tear b w fun s3 b3 w3 u3 _ _ _ => m45 s3 b3 w3 u3
    have : c = 0 := by
      have := (nI_lei (a := c) (b := 0) (by omega) (by omega)).mp c2
      omega
    exact m45 s b w (a5 this)
  · have hmn : m < v2 := by
      rcases Nat.lt_or_ge m v2 with h | h
      · exact h
      · exfalso
        apply c1
        rw [a6, show v2 - m = 0 by omega]
        decide
    have e5 : v5 = nI (v2 - m - 1) := by rw [a6]; exact nI_prd (by omega) (by omega)
    clear a6
    subst e5
    have c31 : ∀ s3 c3, IB k s3 → WK s3 → c3 ≤ m + 1 → (c3 = 0 → UT s3) → v2 - m ≤ (s3.1 j).length + 1 → Ok (f_X6_offAll_31 kk s3 v1 v2 v3 (nI c3) (nI (v2 - m - 1))) (KQ k) := by
      intro s3 c3 b3 w3 h3 u3 l3
      unfold f_X6_offAll_31
      refine ok_nme fun y2 hy2 => hk _ hmn ⟨⟨b3, w3⟩, ⟨rfl, rfl, rfl⟩, ⟨c3, h3, rfl, u3⟩, ?_, ?_⟩
      · show y2 = _
        rw [hy2, show v2 - (m + 1) = v2 - m - 1 by omega]
        exact (Int32.sub_eq_add_neg _ _).symm
      · show v2 - (m + 1) ≤ (s3.1 j).length
        omega
    refine ok_f (arr_in (nI_bnd (b := 20) (by omega) (by omega)).1 ((nI_lti (by omega) (by omega)).mpr (by omega)) (by omega)) ?_
    refine ok_if (fun _ => c31 s c b w (by omega) a5 (by omega)) fun _ => ?_
    refine ok_bind (goN b w hj hx (by omega)) fun z hz => ok_nme fun y3 hy3 => ?_
    obtain ⟨⟨b3, w3, -, -⟩, l3, -⟩ := hz
    rw [hy3, nI_suc (by omega)]
    exact c31 z.2 (c + 1) b3 w3 (by omega) (fun h => absurd h (by omega)) (by omega)
theorem arr_nN {n : Nat} (h : n ≤ 20) : ¬ (nI n < 0 ∨ 32 < (nI n).toNatClampNeg) := arr_new (nI_bnd (b := 20) h (by omega)).1 ((nI_bnd (b := 32) (by omega) (by omega)).2)
theorem nI_cn {n : Nat} (h : n ≤ 20) : (nI n).toNatClampNeg = n := by
  have := nI_toInt (n := n) (by omega)
  show (nI n).toInt.toNat = n
  omega
theorem arr_iN {n i : Nat} (h : i < n) (hn : n ≤ 32) : ¬ (nI i < 0 ∨ n ≤ (nI i).toNatClampNeg) := arr_in (nI_bnd (b := 32) (by omega) (by omega)).1 ((nI_lti (by omega) (by omega)).mpr h) hn
theorem ok_X6_dropAll (hb : IB k τ) (hw : WK τ) (hu : UT τ) (x1 x2 : Int32) : Ok (f_X6_dropAll τ x1 x2) (KQ k) := by
  unfold f_X6_dropAll
  refine ok_isNoKind hb hw hu (fun s p e b w u => ok_t rfl ?_) fun s b w u => ok_f ne10 (kq b w u)
  obtain ⟨j, hj, hx, hg⟩ := trk_ok p
  have hl := b.lenj hj
  refine ok_ev (sizeN hg) (ok_f (arr_nN hl) (ok_nme fun n hn => ok_nme fun g hgg => ?_))
  rw [nI_cn hl] at hn
  subst hn
  clear hgg
  refine up24 (fun m t => t.1 = s ∧ t.2.1 = x1 ∧ t.2.2.2.1 = (s.1 j).length ∧ t.2.2.2.2.2 = nI m) (s.1 j).length (by omega) ?_ ⟨rfl, rfl, rfl, rfl⟩
  rintro kk ⟨s2, v1, v2, v3, v4, v5⟩ m hm ⟨a1, a2, a3, a4⟩ hk
  dsimp only at a1 a2 a3 a4
  subst a1 a2 a3 a4
  unfold f_X6_dropAll_22
  dsimp only
  refine ok_if (fun _ => ok_bind (ok_offAll b w u hj hx (Nat.le_refl _) _) fun z hz => ok_some hz) fun c => ?_
  have hml : m < (s2.1 j).length := Nat.lt_of_not_le (mt (nI_lei (by omega) (by omega)).mpr c)
  have c51 : ∀ v w0, Ok (f_X6_dropAll_51 kk s2 v1 w0 (s2.1 j).length v4 (nI m) (nI m) v) (KQ k) := by
    intro v w0
    unfold f_X6_dropAll_51
    exact ok_f (arr_iN hml (by omega)) (ok_nme fun g1 _ => ok_nme fun y hy => hk _ hml ⟨rfl, rfl, rfl, by rw [hy]; exact nI_suc (by omega)⟩)
  refine ok_ev (getN hg hml hl) (ok_bind (P := fun _ => True) (ok_some trivial) fun z _ => ?_)
  exact ok_if (fun _ => c51 _ _) fun _ => c51 _ _
theorem ok_X6_clear (hb : IB k τ) (hw : WK τ) (hu : UT τ) (x1 : Int32) : Ok (f_X6_clear τ x1) (KQ k) := by
  unfold f_X6_clear
  refine ok_bind (ok_X6_isNoTrack _) fun z hz => ok_start hb hw hu (by decide) (fun s i e e0 en b w u => ok_t rfl ?_) fun s b w u => ok_f ne10 (kq b w u)
  obtain ⟨j, hj, hx, hg⟩ := trk_ok (hz i)
  have hl := b.lenj hj
  refine ok_ev (sizeN hg) (ok_f (arr_nN hl) (ok_nme fun n hn => ok_nme fun g hgg => ?_))
  rw [nI_cn hl] at hn
  subst hn
  clear hgg
  refine up24 (fun m t => t.1 = s ∧ t.2.1 = x1 ∧ t.2.2.1 = (s.1 j).length ∧ t.2.2.2.2 = nI m) (s.1 j).length (by omega) ?_ ⟨rfl, rfl, rfl, rfl⟩
  rintro kk ⟨s2, v1, v3, v4, v5⟩ m hm ⟨a1, a2, a3, a4⟩ hk
  dsimp only at a1 a2 a3 a4
  subst a1 a2 a3 a4
  unfold f_X6_clear_24
  dsimp only
  refine ok_if (fun _ => ok_bind (ok_offAll b w u hj hx (Nat.le_refl _) _) fun z hz => ok_some hz) fun c => ?_
  have hml : m < (s2.1 j).length := Nat.lt_of_not_le (mt (nI_lei (by omega) (by omega)).mpr c)
  exact ok_f (arr_iN hml (by omega)) (ok_nme fun g1 _ => ok_nme fun y hy => hk _ hml ⟨rfl, rfl, rfl, by rw [hy]; exact nI_suc (by omega)⟩)
theorem ok_X6_purge (hb : IB k τ) (hw : WK τ) (hu : UT τ) (x1 : Int32) : Ok (f_X6_purge τ x1) (KQ k) := by
  unfold f_X6_purge
  refine ok_nme fun s hs => ?_
  have b : IB k s := by rw [hs]; exact hb.sc (by omega)
  have w : WK s := by rw [hs]; exact hw.sc (by omega)
  have u : UT s := by rw [hs]; exact hu.sc
  clear hs
  have hg : gtr 1 = some 1 := rfl
  have hl := b.lenj (j := 1) (by omega)
  refine ok_ev (sizeN hg) (ok_f (arr_nN hl) (ok_nme fun n hn => ok_nme fun g hgg => ?_))
  rw [nI_cn hl] at hn
  subst hn
  clear hgg
  refine up24 (fun m t => t.1 = s ∧ t.2.2.1 = (s.1 1).length ∧ t.2.2.2.2 = nI m) (s.1 1).length (by omega) ?_ ⟨rfl, rfl, rfl⟩
  rintro kk ⟨s2, v1, v3, v4, v5⟩ m hm ⟨a1, a3, a4⟩ hk
  dsimp only at a1 a3 a4
  subst a1 a3 a4
  unfold f_X6_purge_15
  dsimp only
  refine ok_if (fun _ => ok_bind (ok_offAll b w u (j := 1) (by omega) (Or.inr ⟨rfl, rfl⟩) (Nat.le_refl _) _) fun z hz => ok_some hz) fun c => ?_
  have hml : m < (s2.1 1).length := Nat.lt_of_not_le (mt (nI_lei (by omega) (by omega)).mpr c)
  have c56 : ∀ v, Ok (f_X6_purge_56 kk s2 v1 (s2.1 1).length v4 (nI m) (nI m) v) (KQ k) := by
    intro v
    unfold f_X6_purge_56
    exact ok_f (arr_iN hml (by omega)) (ok_nme fun g1 _ => ok_nme fun y hy => hk _ hml ⟨rfl, rfl, by rw [hy]; exact nI_suc (by omega)⟩)
  have c47 : ∀ v, Ok (f_X6_purge_47 kk s2 v1 (s2.1 1).length v4 (nI m) (nI m) v) (KQ k) := by
    intro v
    unfold f_X6_purge_47
    exact ok_if (fun _ => c56 _) fun _ => c56 _
  refine ok_ev (getN hg hml hl) (ok_bind (P := fun _ => True) (ok_some trivial) fun z _ => ok_bind (ok_X6_found b _ _ _ (Or.inl rfl)) fun z2 _ => ?_)
  exact ok_if (fun _ => c47 _) fun _ => c47 _
theorem ok_shed39 (hb : IB k τ) (hw : WK τ) (hu : UT τ) (x1 x2 x3 x4 u1 : Int32) (h0 : τ.2 0 = 0) (p : x1 = 0 ∨ x1 = 1) : Ok (f_X6_shed_39 τ x1 x2 x3 x4 u1) (KQ k) := by
  unfold f_X6_shed_39
  refine ok_refuse hb hw hu h0 (by decide) (fun s i e e0 en b w u => ok_t rfl ?_) fun s b w u => ok_f ne10 (kq b w u)
  obtain ⟨j, hj, hx, hg⟩ := trk_ok p
  have hl := b.lenj hj
  refine ok_ev (sizeN hg) (ok_f (arr_nN hl) (ok_nme fun n hn => ok_nme fun g hgg => ?_))
  rw [nI_cn hl] at hn
  subst hn
  clear hgg
  refine up24 (fun m t => t.1 = s ∧ t.2.1 = x1 ∧ t.2.2.2.2.1 = (s.1 j).length ∧ t.2.2.2.2.2.2.2.2 = nI m) (s.1 j).length (by omega) ?_ ⟨rfl, rfl, rfl, rfl⟩
  rintro kk ⟨s2, v1, v2, v3, n5, g5, v6, v7, v8⟩ m hm ⟨a1, a2, a3, a4⟩ hk
  dsimp only at a1 a2 a3 a4
  subst a1 a2 a3 a4
  unfold f_X6_shed_67
  dsimp only
  refine ok_if (fun _ => ok_bind (ok_offAll b w u hj hx (Nat.le_refl _) _) fun z hz => ok_some ⟨hz.1, hz.2.1, hz.2.2⟩) fun c => ?_
  have hml : m < (s2.1 j).length := Nat.lt_of_not_le (mt (nI_lei (by omega) (by omega)).mpr c)
  have c140 : ∀ g v6 v7, Ok (f_X6_shed_140 kk s2 v1 v2 v3 (s2.1 j).length g v6 v7 (nI m)) (KQ k) := by
    intro g v6 v7
    unfold f_X6_shed_140
    exact ok_nme fun y hy => hk _ hml ⟨rfl, rfl, rfl, by rw [hy]; exact nI_suc (by omega)⟩
  have c92 : ∀ i, i < (s2.1 j).length → Ok (f_X6_shed_92 kk s2 v1 v2 v3 (s2.1 j).length g5 v6 v7 (nI m) (nI i)) (KQ k) := by
    intro i hi
    unfold f_X6_shed_92
    refine ok_if (fun _ => c140 _ _ _) fun _ => ok_ev (getN hg hi hl) (ok_bind (P := fun _ => True) (ok_some trivial) fun z _ => ok_if (fun _ => ok_f (arr_iN hi (by omega)) (ok_nme fun g1 _ => ok_ev (getN hg hi hl) (ok_bind (P := fun _ => True) (ok_some trivial) fun z3 _ => ok_nme fun y1 _ => ok_nme fun y2 _ => c140 _ _ _))) fun _ => c140 _ _ _)
  refine ok_if (fun _ => c92 m hml) fun _ => ?_
  rw [nI_prd (by omega) (by omega), nI_dif (by omega) (by omega)]
  exact c92 _ (by omega)
theorem ok_X6_shed (hb : IB k τ) (hw : WK τ) (hu : UT τ) (x1 x2 x3 x4 : Int32) : Ok (f_X6_shed τ x1 x2 x3 x4) (KQ k) := by
  unfold f_X6_shed
  refine ok_bind (ok_X6_isNoTrack _) fun z hz => ok_start hb hw hu (by decide) (fun s i e e0 en b w u => ok_t rfl ?_) fun s b w u => ok_f ne10 (kq b w u)
  have m : ∀ u1, Ok (f_X6_shed_39 s x1 x2 x3 x4 u1) (KQ k) := fun u1 => ok_shed39 b w u _ _ _ _ _ e0 (hz i)
  exact ok_bind (ok_X6_isIn _ _ _) fun z1 _ => ok_if (fun _ => m _) fun _ => ok_bind (ok_X6_isIn _ _ _) fun z2 _ => ok_if (fun _ => m _) fun _ => m _
theorem ok_X6_thin (hb : IB k τ) (hw : WK τ) (hu : UT τ) (x1 x2 x3 : Int32) : Ok (f_X6_thin τ x1 x2 x3) (KQ k) := by
  unfold f_X6_thin
  refine ok_bind (ok_X6_isNoTrack _) fun z hz => ok_start hb hw hu (by decide) (fun s i e e0 en b w u => ok_t rfl ?_) fun s b w u => ok_f ne10 (kq b w u)
  have m27 : ∀ u1, (u1 = 0 → ¬ x3 = 0) → Ok (f_X6_thin_27 s x1 x2 x3 u1) (KQ k) := by
    intro u1 h3
    unfold f_X6_thin_27
    refine ok_refuse b w u e0 (by decide) (fun s i2 e e0 en b w u => ok_t rfl ?_) fun s b w u => ok_f ne10 (kq b w u)
    have h3 := h3 i2
    obtain ⟨j, hj, hx, hg⟩ := trk_ok (hz i)
    have hl := b.lenj hj
    refine ok_ev (sizeN hg) (ok_f (arr_nN hl) (ok_nme fun n hn => ok_nme fun g hgg => ?_))
    rw [nI_cn hl] at hn
    subst hn
    clear hgg
    refine up24 (fun m t => t.1 = s ∧ t.2.1 = x1 ∧ t.2.2.2.1 = x3 ∧ t.2.2.2.2.1 = (s.1 j).length ∧ t.2.2.2.2.2.2 = nI (m + 1)) (s.1 j).length (by omega) ?_ ⟨rfl, rfl, rfl, rfl, rfl⟩
    rintro kk ⟨s2, v1, v2, v3, n4, g4, v5⟩ m hm ⟨a1, a2, a2b, a3, a4⟩ hk
    dsimp only at a1 a2 a2b a3 a4
    subst a1 a2 a2b a3 a4
    unfold f_X6_thin_48
    dsimp only
    refine ok_if (fun _ => ok_bind (ok_offAll b w u hj hx (Nat.le_refl _) _) fun z hz => ok_some hz) fun c => ?_
    have hml : m < (s2.1 j).length := by
      have := mt (nI_lti (a := (s2.1 j).length) (b := m + 1) (by omega) (by omega)).mpr c
      omega
    have c87 : ∀ i v, i < (s2.1 j).length → Ok (f_X6_thin_87 kk s2 v1 v2 v3 (s2.1 j).length g4 (nI (m + 1)) (nI i) v) (KQ k) := by
      intro i v hi
      unfold f_X6_thin_87
      exact ok_f (arr_iN hi (by omega)) (ok_nme fun g1 _ => ok_nme fun y hy => hk _ hml ⟨rfl, rfl, rfl, rfl, by rw [hy]; exact nI_suc (by omega)⟩)
    have c75 : ∀ i, i < (s2.1 j).length → Ok (f_X6_thin_75 kk s2 v1 v2 v3 (s2.1 j).length g4 (nI (m + 1)) (nI i)) (KQ k) := by
      intro i hi
      unfold f_X6_thin_75
      exact ok_f h3 (ok_if (fun _ => c87 _ _ hi) fun _ => c87 _ _ hi)
    refine ok_if (fun _ => ?_) fun _ => ?_
    · rw [nI_prd (by omega) (by omega)]
      exact c75 _ (by omega)
    · rw [nI_dif (by omega) (by omega)]
      exact c75 _ (by omega)
  refine ok_bind (ok_X6_isIn _ _ _) fun z1 hz1 => ok_if (fun _ => m27 _ fun h => absurd h ne10) fun c => m27 _ fun _ h => ?_
  have := (hz1.2 c).1
  rw [h] at this
  exact absurd this (by decide)
/-! the line by its places -/
theorem ok_X6_insert (hb : IB k τ) (hw : WK τ) (hu : UT τ) (x1 x2 x3 : Int32) : Ok (f_X6_insert τ x1 x2 x3) (KQ k) := by
  have m52 : ∀ s u1, s.2 0 = 0 → IB k s → WK s → UT s → 0 ≤ x1 → ((0 ≤ x2 ∧ x2 ≤ 9) ∧ 0 ≤ x3 ∧ x3 ≤ 99) → (u1 = 0 → (s.1 1).length < 20) → Ok (f_X6_insert_52 s x1 x2 x3 u1) (KQ k) := by
    intro s u1 e0 b w u h0 hp hl
    unfold f_X6_insert_52
    refine ok_refuse b w u e0 (by decide) (fun s2 i2 e _ en b w u => ok_t rfl ?_) fun s b w u => ok_f ne10 (kq b w u)
    have hl := hl i2
    rw [← e] at hl
    have hg : gtr 1 = some 1 := rfl
    refine ok_ev (sizeN hg) (ok_if (fun c => ?_) fun _ => kq b w u)
    have c : x1 ≤ nI (s2.1 1).length := c
    obtain ⟨i, hi, rfl⟩ := nIof (by omega) h0 c
    refine ok_bind (ok_X6_code _ _ hp) fun z hz => ok_bind (comeN b w (j := 1) (by omega) (Or.inr ⟨rfl, rfl⟩) hi hl hz) fun z2 hz2 => ?_
    refine ok_tear hz2.1.1 hz2.1.2.1 fun s3 b3 w3 u3 _ _ _ => ok_ev (sizeN hg) (kq b3 w3 u3)
  have m16 : ∀ u1, (u1 = 0 → 0 ≤ x1) → Ok (f_X6_insert_16 τ x1 x2 x3 u1) (KQ k) := by
    intro u1 h1
    unfold f_X6_insert_16
    refine ok_start hb hw hu (by decide) (fun s i e e0 en b w u => ok_t rfl ?_) fun s b w u => ok_f ne10 (kq b w u)
    have h1 := h1 i
    refine ok_bind (ok_X6_isNoPiece _ _) fun z hz => ok_refuse b w u e0 (by decide) (fun s i2 e e0 en b w u => ok_t rfl ?_) fun s b w u => ok_f ne10 (kq b w u)
    have hz := hz i2
    refine ok_ev (sizeN (j := 1) rfl) (ok_if (fun _ => m52 _ _ e0 b w u h1 hz fun h => absurd h ne10) fun c => m52 _ _ e0 b w u h1 hz fun _ => ?_)
    have hl := b.lenj (j := 1) (by omega)
    rcases Nat.lt_or_ge (s.1 1).length 20 with h | h
    · exact h
    · exfalso
      apply c
      rw [show (s.1 1).length = 20 by omega]
      rfl
  unfold f_X6_insert
  exact ok_bind (ok_X6_isIn _ _ _) fun z hz => ok_if (fun _ => m16 _ fun h => absurd h ne10) fun c => m16 _ fun _ => (hz.2 c).1
theorem ok_tearN {f : MS → Option (Int32 × MS)} (hb : IB k τ) (hw : WK τ) (h : ∀ s, IB k s → WK s → UT s → s.1 0 = τ.1 0 → s.1 1 = τ.1 1 → s.1 2 = [] → s.2 = τ.2 → Ok (f s) (KQ k)) : Ok ((f_X6_tear τ).bind f) (KQ k) := by
  have e : f_X6_tear τ = some (va_up τ.1 2 [], τ.2) := rfl
  obtain ⟨r, e2, b, w, u, e3, e0, e1⟩ := ok_X6_tear hb hw
  rw [e] at e2
  cases e2
  exact ok_ev e (h _ b w u e0 e1 l_eq rfl)
theorem ok_X6_cut (hb : IB k τ) (hw : WK τ) (hu : UT τ) (x1 : Int32) : Ok (f_X6_cut τ x1) (KQ k) := by
  unfold f_X6_cut
  refine ok_bind (ok_X6_isNoPlace _) fun z hz => ok_start hb hw hu (by decide) (fun s i e e0 en b w u => ok_t rfl ?_) fun s b w u => ok_f ne10 (kq b w u)
  have h0 := (hz i).1
  have hl := b.lenj (j := 1) (by omega)
  refine ok_ev (sizeN (j := 1) rfl) (ok_if (fun c => ?_) fun _ => kq b w u)
  have c : x1 < nI (s.1 1).length := c
  obtain ⟨i, hi, rfl⟩ := nIof (b := (s.1 1).length) (by omega) h0 (Int32.le_of_lt c)
  have hi2 := (nI_lti (by omega) (by omega)).mp c
  refine ok_tearN b w fun s3 b3 w3 u3 l0 l1 l2 _ => ?_
  refine ok_bind (goN b3 w3 (j := 1) (x := 1) (by omega) (Or.inr ⟨rfl, rfl⟩) (by rw [l1]; exact hi2)) fun z2 hz2 => ok_some ⟨hz2.1.1, hz2.1.2.1, ?_⟩
  show UD (z2.2.1 2).reverse _ _
  rw [hz2.2.2 2 (by omega), l2]
  trivial
theorem ok_X6_at (hb : IB k τ) (hw : WK τ) (hu : UT τ) (x1 : Int32) : Ok (f_X6_at τ x1) (KQ k) := by
  unfold f_X6_at
  refine ok_bind (ok_X6_isNoPlace _) fun z hz => ok_start hb hw hu (by decide) (fun s i e e0 en b w u => ok_t rfl ?_) fun s b w u => ok_f ne10 (kq b w u)
  have h0 := (hz i).1
  have hl := b.lenj (j := 1) (by omega)
  refine ok_ev (sizeN (j := 1) rfl) (ok_if (fun c => ?_) fun _ => kq b w u)
  have c : x1 < nI (s.1 1).length := c
  obtain ⟨i, hi, rfl⟩ := nIof (b := (s.1 1).length) (by omega) h0 (Int32.le_of_lt c)
  have c2 := (nI_lti (a := i) (b := (s.1 1).length) (by omega) (by omega)).mp c
  exact ok_ev (getN (j := 1) (τ := s) rfl c2 hl) (kq b w u)
theorem ok_X6_find (hb : IB k τ) (hw : WK τ) (hu : UT τ) (x1 x2 : Int32) : Ok (f_X6_find τ x1 x2) (KQ k) := by
  have m16 : ∀ u1, Ok (f_X6_find_16 τ x1 x2 u1) (KQ k) := by
    intro u1
    unfold f_X6_find_16
    refine ok_start hb hw hu (by decide) (fun s i e e0 en b w u => ok_t rfl ?_) fun s b w u => ok_f ne10 (kq b w u)
    exact ok_bind (ok_X6_found b _ _ _ (Or.inr rfl)) fun z _ => kq b w u
  unfold f_X6_find
  exact ok_bind (ok_X6_isIn _ _ _) fun z hz => ok_if (fun _ => m16 _) fun c => m16 _
end OKP
end
section
/-! the model: splice, shunt, walkers, moves, what is told -/
section OKS
variable {k : Int32} {τ : MS}
theorem ok_X6_splice (hb : IB k τ) (hw : WK τ) (hu : UT τ) (x1 : Int32) : Ok (f_X6_splice τ x1) (KQ k) := by
  have m45 : ∀ s u1, s.2 0 = 0 → IB k s → WK s → UT s → 0 ≤ x1 → (u1 = 0 → (s.1 0).length + (s.1 1).length ≤ 20) → Ok (f_X6_splice_45 s x1 u1) (KQ k) := by
    intro s u1 e0 b w u h0 hl
    unfold f_X6_splice_45
    refine ok_refuse b w u e0 (by decide) (fun s2 i2 e _ en b w u => ok_t rfl ?_) fun s b w u => ok_f ne10 (kq b w u)
    have hl := hl i2
    rw [← e] at hl
    refine ok_ev (sizeN (j := 0) rfl) (ok_if (fun _ => kq b w u) fun _ => ok_ev (sizeN (j := 1) rfl) (ok_if (fun c => ?_) fun _ => kq b w u))
    have c : x1 ≤ nI (s2.1 1).length := c
    show Ok (lpn f_X6_splice_80 24 (s2, x1, nI (s2.1 0).length, 0)) (KQ k)
    obtain ⟨i, hi, rfl⟩ := nIof (by omega) h0 c
    generalize hA : (s2.1 0).length = a at *
    generalize hB : (s2.1 1).length = d at *
    refine up24 (fun m t => (IB k t.1 ∧ WK t.1) ∧ t.2.1 = nI i ∧ t.2.2.1 = nI a ∧ t.2.2.2 = nI m ∧ (t.1.1 0).length + m = a ∧ (t.1.1 1).length = d + m) a (by omega) ?_ ⟨⟨b, w⟩, rfl, rfl, rfl, hA, hB⟩
    clear hA hB b w u e0 en e
    rintro kk ⟨s3, v1, v2, v3⟩ m hm ⟨⟨b, w⟩, a1, a2, a3, a4, a5⟩ hk
    dsimp only at b w a1 a2 a3 a4 a5
    subst a1 a2 a3
    unfold f_X6_splice_80
    dsimp only
    refine ok_if (fun _ => ok_tear b w fun s4 b4 w4 u4 _ _ _ => kq b4 w4 u4) fun c1 => ?_
    have hml : m < a := Nat.lt_of_not_le (mt (nI_lei (by omega) (by omega)).mpr c1)
    refine ok_bind (goN b w (j := 0) (x := 0) (i := 0) (by omega) (Or.inl ⟨rfl, rfl⟩) (by omega)) fun z hz => ?_
    obtain ⟨⟨b4, w4, hv, -⟩, l4, o4⟩ := hz
    have l41 : (z.2.1 1).length = d + m := by rw [o4 1 (by omega)]; exact a5
    rw [nI_sum (by omega)]
    refine ok_bind (comeN b4 w4 (j := 1) (x := 1) (by omega) (Or.inr ⟨rfl, rfl⟩) (by omega) (by omega) hv) fun z5 hz5 => ?_
    obtain ⟨⟨b5, w5, -⟩, l5, o5⟩ := hz5
    refine ok_nme fun y hy => hk _ hml ⟨⟨b5, w5⟩, rfl, rfl, by rw [hy]; exact nI_suc (by omega), ?_, ?_⟩
    · show (z5.1 0).length + (m + 1) = a
      rw [o5 0 (by omega)]
      omega
    · show (z5.1 1).length = d + (m + 1)
      omega
  have m16 : ∀ u1, (u1 = 0 → 0 ≤ x1) → Ok (f_X6_splice_16 τ x1 u1) (KQ k) := by
    intro u1 h1
    unfold f_X6_splice_16
    refine ok_start hb hw hu (by decide) (fun s i e e0 en b w u => ok_t rfl ?_) fun s b w u => ok_f ne10 (kq b w u)
    have l0 := b.lenj (j := 0) (by omega)
    have l1 := b.lenj (j := 1) (by omega)
    refine ok_ev (sizeN (j := 0) rfl) (ok_ev (sizeN (j := 1) rfl) (ok_if (fun c => m45 _ _ e0 b w u (h1 i) fun _ => ?_) fun c => m45 _ _ e0 b w u (h1 i) fun h => absurd h ne10))
    have c : nI (s.1 0).length + nI (s.1 1).length ≤ nI 20 := c
    rw [nI_sum (by omega)] at c
    exact (nI_lei (a := (s.1 0).length + (s.1 1).length) (b := 20) (by omega) (by omega)).mp c
  unfold f_X6_splice
  exact ok_bind (ok_X6_isIn _ _ _) fun z hz => ok_if (fun _ => m16 _ fun h => absurd h ne10) fun c => m16 _ fun _ => (hz.2 c).1
theorem ok_X6_shunt (hb : IB k τ) (hw : WK τ) (hu : UT τ) (x1 x2 : Int32) : Ok (f_X6_shunt τ x1 x2) (KQ k) := by
  have m54 : ∀ s u1 n, s.2 0 = 0 → IB k s → WK s → UT s → 0 ≤ x1 → (u1 = 0 → x2 = nI n ∧ n ≤ 20 ∧ (s.1 0).length + n ≤ 20) → Ok (f_X6_shunt_54 s x1 x2 u1) (KQ k) := by
    intro s u1 n e0 b w u h0 hl
    unfold f_X6_shunt_54
    refine ok_refuse b w u e0 (by decide) (fun s2 i2 e _ en b w u => ok_t rfl ?_) fun s b w u => ok_f ne10 (kq b w u)
    obtain ⟨rfl, hn, hl⟩ := hl i2
    rw [← e] at hl
    have l1 := b.lenj (j := 1) (by omega)
    refine ok_ev (sizeN (j := 1) rfl) (ok_if (fun c => ?_) fun _ => kq b w u)
    have c : x1 < nI (s2.1 1).length := c
    obtain ⟨i, hi, rfl⟩ := nIof (by omega) h0 (Int32.le_of_lt c)
    have hi2 := (nI_lti (by omega) (by omega)).mp c
    refine ok_ev (sizeN (j := 1) rfl) (ok_nme fun y hy => ?_)
    obtain ⟨a, ha, ha2, rfl⟩ : ∃ a, a ≤ n ∧ a + i ≤ (s2.1 1).length ∧ y = nI a := by
      have hy : y = if nI (s2.1 1).length - nI i < nI n then nI (s2.1 1).length - nI i else nI n := hy
      rw [nI_dif (by omega) (by omega)] at hy
      by_cases q : nI ((s2.1 1).length - i) < nI n
      · rw [if_pos q] at hy
        have q2 := (nI_lti (by omega) (by omega)).mp q
        exact ⟨_, by omega, by omega, hy⟩
      · rw [if_neg q] at hy
        have q2 := mt (nI_lti (a := (s2.1 1).length - i) (b := n) (by omega) (by omega)).mpr q
        exact ⟨n, by omega, by omega, hy⟩
    show Ok (lpn f_X6_shunt_90 24 (s2, nI i, 0, nI a)) (KQ k)
    clear hy
    refine up24 (fun m t => (IB k t.1 ∧ WK t.1) ∧ t.2.1 = nI i ∧ t.2.2.2 = nI (a - m) ∧ (t.1.1 0).length + (a - m) ≤ 20 ∧ a - m + i ≤ (t.1.1 1).length) a (by omega) ?_ ⟨⟨b, w⟩, rfl, rfl, by show (s2.1 0).length + (a - 0) ≤ 20; omega, ha2⟩
    clear b w u e0 en e hl
    rintro kk ⟨s3, v1, v2, v3⟩ m hm ⟨⟨b, w⟩, a1, a3, a4, a5⟩ hk
    dsimp only at b w a1 a3 a4 a5
    subst a1 a3
    unfold f_X6_shunt_90
    dsimp only
    refine ok_if (fun _ => ok_tear b w fun s4 b4 w4 u4 _ _ _ => kq b4 w4 u4) fun c1 => ?_
    have hml : m < a := by
      have := mt (nI_lei (a := a - m) (b := 0) (by omega) (by omega)).mpr c1
      omega
    refine ok_bind (goN b w (j := 1) (x := 1) (i := i) (by omega) (Or.inr ⟨rfl, rfl⟩) (by omega)) fun z hz => ?_
    obtain ⟨⟨b4, w4, hv, -⟩, l4, o4⟩ := hz
    have l40 : (z.2.1 0).length = (s3.1 0).length := by rw [o4 0 (by omega)]
    have m126 : ∀ s5 v, IB k s5 → WK s5 → (s5.1 0).length ≤ (s3.1 0).length + 1 → (s5.1 1).length = (z.2.1 1).length → Ok (f_X6_shunt_126 kk s5 (nI i) v (nI (a - m))) (KQ k) := by
      intro s5 v b5 w5 h50 h51
      unfold f_X6_shunt_126
      refine ok_nme fun y hy => hk _ hml ⟨⟨b5, w5⟩, rfl, ?_, ?_, ?_⟩
      · show y = _
        rw [hy, nI_prd2 (by omega) (by omega), show a - m - 1 = a - (m + 1) by omega]
      · show (s5.1 0).length + (a - (m + 1)) ≤ 20
        omega
      · show a - (m + 1) + i ≤ (s5.1 1).length
        omega
    refine ok_if (fun _ => m126 _ _ b4 w4 (by omega) rfl) fun _ => ok_ev (sizeN (j := 0) rfl) ?_
    refine ok_bind (comeN b4 w4 (j := 0) (x := 0) (by omega) (Or.inl ⟨rfl, rfl⟩) (Nat.le_refl _) (by omega) hv) fun z5 hz5 => ok_nme fun y _ => ?_
    obtain ⟨⟨b5, w5, -⟩, l5, o5⟩ := hz5
    exact m126 _ _ b5 w5 (by omega) (by rw [o5 1 (by omega)])
  have m29 : ∀ s u1, s.2 0 = 0 → IB k s → WK s → UT s → 0 ≤ x1 → (u1 = 0 → 1 ≤ x2 ∧ x2 ≤ 20) → Ok (f_X6_shunt_29 s x1 x2 u1) (KQ k) := by
    intro s u1 e0 b w u h0 h2
    unfold f_X6_shunt_29
    refine ok_refuse b w u e0 (by decide) (fun s i e e0 en b w u => ok_t rfl ?_) fun s b w u => ok_f ne10 (kq b w u)
    obtain ⟨h21, h22⟩ := h2 i
    have l0 := b.lenj (j := 0) (by omega)
    obtain ⟨n, hn, rfl⟩ := nIof (b := 20) (by omega) (Int32.le_trans (by decide) h21) h22
    refine ok_ev (sizeN (j := 0) rfl) (ok_if (fun c => m54 _ _ n e0 b w u h0 fun _ => ⟨rfl, hn, ?_⟩) fun c => m54 _ _ n e0 b w u h0 fun h => absurd h ne10)
    have c : nI (s.1 0).length + nI n ≤ nI 20 := c
    rw [nI_sum (by omega)] at c
    exact (nI_lei (a := (s.1 0).length + n) (b := 20) (by omega) (by omega)).mp c
  unfold f_X6_shunt
  refine ok_bind (ok_X6_isNoPlace _) fun z hz => ok_start hb hw hu (by decide) (fun s i e e0 en b w u => ok_t rfl ?_) fun s b w u => ok_f ne10 (kq b w u)
  exact ok_bind (ok_X6_isIn _ _ _) fun z2 hz2 => ok_if (fun _ => m29 _ _ e0 b w u (hz i).1 fun h => absurd h ne10) fun c => m29 _ _ e0 b w u (hz i).1 fun _ => hz2.2 c
theorem ok_X6_isNowhere (hb : IB k τ) (hw : WK τ) (hu : UT τ) (x1 : Int32) : Ok (f_X6_isNowhere τ x1) (fun r => (r.1 = 0 ∨ r.1 = 1) ∧ (r.1 = 0 → (x1 = 0 ∨ x1 = 1) ∧ r.2.2 0 = 0 ∧ (x1 = 0 → ¬ r.2.2 5 = 0) ∧ (x1 = 1 → ¬ r.2.2 8 = 0)) ∧ IB k r.2 ∧ WK r.2 ∧ UT r.2) := by
  unfold f_X6_isNowhere
  refine ok_bind (ok_X6_isNoWalker _) fun z hz => ok_bind (ok_X6_start hb hw hu _ _ (by decide)) fun z2 hz2 => ?_
  obtain ⟨⟨-, i⟩, ⟨l, s⟩, b, w, u⟩ := hz2
  have e37 : ∀ s, IB k s → WK s → UT s → Ok (f_X6_isNowhere_37 s) (fun r => (r.1 = 0 ∨ r.1 = 1) ∧ (r.1 = 0 → (x1 = 0 ∨ x1 = 1) ∧ r.2.2 0 = 0 ∧ (x1 = 0 → ¬ r.2.2 5 = 0) ∧ (x1 = 1 → ¬ r.2.2 8 = 0)) ∧ IB k r.2 ∧ WK r.2 ∧ UT r.2) := fun s b w u => ok_some ⟨Or.inr rfl, fun e => absurd e ne10, b, w, u⟩
  refine ok_if (fun c => ?_) fun c => e37 _ b w u
  obtain ⟨i0, i1⟩ := i c
  have p := hz i0
  obtain ⟨j, hj, hx, hg⟩ := gwk_ok p
  have e30 : ∀ v, (v = 0 → ¬ z2.2.2 (5 + 3 * j) = 0) → Ok (f_X6_isNowhere_30 z2.2 v) (fun r => (r.1 = 0 ∨ r.1 = 1) ∧ (r.1 = 0 → (x1 = 0 ∨ x1 = 1) ∧ r.2.2 0 = 0 ∧ (x1 = 0 → ¬ r.2.2 5 = 0) ∧ (x1 = 1 → ¬ r.2.2 8 = 0)) ∧ IB k r.2 ∧ WK r.2 ∧ UT r.2) := by
    intro v hv
    unfold f_X6_isNowhere_30
    refine ok_bind (ok_X6_refuse b w u _ _ i1 (by decide)) fun z3 hz3 => ?_
    obtain ⟨⟨-, i3⟩, ⟨l3, s3⟩, b3, w3, u3⟩ := hz3
    refine ok_if (fun c3 => ok_some ⟨Or.inl rfl, fun _ => ⟨p, (i3 c3).2, fun e => ?_, fun e => ?_⟩, b3, w3, u3⟩) fun _ => e37 _ b3 w3 u3
    · have hv := hv (i3 c3).1
      rcases hx with ⟨a, a2⟩ | ⟨a, a2⟩
      · subst a2
        show ¬ z3.2.2 5 = 0
        rw [s3 5 (by omega)]; exact hv
      · rw [a] at e; exact absurd e ne10
    · have hv := hv (i3 c3).1
      rcases hx with ⟨a, a2⟩ | ⟨a, a2⟩
      · rw [a] at e; exact absurd e (by decide)
      · subst a2
        show ¬ z3.2.2 8 = 0
        rw [s3 8 (by omega)]; exact hv
  exact ok_ev hg (ok_if (fun _ => e30 _ fun h => absurd h ne10) fun c => e30 _ fun _ => c)
theorem ok_move (hb : IB k τ) (hw : WK τ) (hu : UT τ) (x1 : Int32) (p0 : 0 ≤ x1) (p1 : x1 ≤ 7) : Ok (f_X6_move τ x1) (KQ k) := by
  have m86 : ∀ v2 v3 u1 u2, (v2 = 0 ∨ v2 = 1) → (u1 = 0 ∨ u1 = 1) → v2 ≠ u1 → 1 ≤ TS τ v2 → TS τ u1 < 20 → Ok (f_X6_move_86 τ v2 v3 u1 u2) (KQ k) := by
    intro v2 v3 u1 u2 q1 q2 q3 h1 h2
    unfold f_X6_move_86
    refine ok_bind (ok_X6_stepOut hb hw hu v2 v3 q1 h1) fun z hz => ?_
    obtain ⟨b, w, u, hv, -, s⟩ := hz
    have e : TS z.2 u1 = TS τ u1 := by
      obtain ⟨s0, s1⟩ := s
      rcases q1 with q1 | q1 <;> rcases q2 with q2 | q2 <;> subst q1 q2
      · exact absurd rfl q3
      · rw [if_neg (by decide)] at s1
        exact s1
      · rw [if_neg (by decide)] at s0
        exact s0
      · exact absurd rfl q3
    refine ok_bind (ok_X6_stepIn b w u _ _ _ q2 (show TS z.2 u1 < 20 by rw [e]; exact h2) hv) fun z2 hz2 => ok_some ⟨hz2.1, hz2.2.1, hz2.2.2.1⟩
  have hq := dv4 p0 p1
  have q1 : x1 / 4 = 0 ∨ x1 / 4 = 1 := by
    have h0 := hq.1
    have h1 := hq.2
    generalize x1 / 4 = y at *
    clear hq
    grind
  have q2 : ∀ y : Int32, (y = 0 ∨ y = 1) → (1 - y = 0 ∨ 1 - y = 1) ∧ y ≠ 1 - y := by
    rintro y (h | h) <;> subst h <;> decide
  have m18 : ∀ y v0, (y = 0 ∨ y = 1) → Ok (f_X6_move_18 τ x1 y v0) (KQ k) := by
    intro y v0 hy
    obtain ⟨p2, p3⟩ := q2 y hy
    unfold f_X6_move_18
    refine ok_bind (ok_X6_size hb _ hy) fun z hz => ok_if (fun _ => kq hb hw hu) fun c => ok_bind (ok_X6_size hb _ p2) fun z2 hz2 => ok_if (fun _ => kq hb hw hu) fun c2 => ?_
    have hz : z = TS τ y ∧ 0 ≤ z ∧ z ≤ 20 := hz
    have hz2 : z2 = TS τ (1 - y) ∧ 0 ≤ z2 ∧ z2 ≤ 20 := hz2
    have h1 : 1 ≤ TS τ y := by
      rw [← hz.1]
      have := hz.2.1
      clear hz hz2
      grind
    have h2 : TS τ (1 - y) < 20 := by
      rw [← hz2.1]
      have := hz2.2.2
      clear hz hz2
      grind
    have m59 : ∀ i, 0 ≤ i → i < TS τ y → Ok (f_X6_move_59 τ x1 y v0 (1 - y) y i) (KQ k) := by
      intro i i0 i1
      unfold f_X6_move_59
      refine ok_bind (ok_X6_get hb _ _ hy i0 i1) fun z3 hz3 => ok_bind (ok_X6_isBarred _ _) fun z4 _ => ok_if (fun _ => ?_) fun _ => kq hb hw hu
      exact ok_if (fun _ => m86 _ _ _ _ hy p2 p3 h1 h2) fun _ => m86 _ _ _ _ hy p2 p3 h1 h2
    refine ok_if (fun _ => m59 0 (by decide) ?_) fun _ => ok_bind (ok_X6_size hb _ hy) fun z5 hz5 => m59 _ ?_ ?_
    · clear hz hz2
      grind
    · have hz5 : z5 = TS τ y ∧ 0 ≤ z5 ∧ z5 ≤ 20 := hz5
      rw [← hz5.1] at h1
      clear hz hz2 hz5
      grind
    · have hz5 : z5 = TS τ y ∧ 0 ≤ z5 ∧ z5 ≤ 20 := hz5
      rw [← hz5.1] at h1 ⊢
      have := hz5.2.2
      clear hz hz2 hz5
      grind
  unfold f_X6_move
  exact ok_nme fun y hy => ok_if (fun _ => m18 _ _ (by rw [hy]; exact q1)) fun _ => m18 _ _ (by rw [hy]; exact q1)
theorem ok_X6_move (hb : IB k τ) (hw : WK τ) (hu : UT τ) (x1 : Int32) (p0 : 0 ≤ x1) (p1 : x1 ≤ 7) : Ok (f_X6_move τ x1) (fun r => IB k r.2 ∧ WK r.2 ∧ UT r.2) := ok_move hb hw hu x1 p0 p1
/-! what is asked -/
theorem ok_X6_asked (hb : IB k τ) (x1 x2 : Int32) (p : x1 = 0 ∨ x1 = 1) : Ok (f_X6_asked τ x1 x2) fun _ => True := by
  obtain ⟨j, hj, hx, hg⟩ := trk_ok p
  have hl := hb.lenj hj
  have m15 : ∀ u, Ok (f_X6_asked_15 τ x1 x2 u) fun _ => True := by
    intro u
    unfold f_X6_asked_15
    have m34 : Ok (f_X6_asked_34 τ) fun _ => True := ok_some trivial
    have m58 : ∀ i, i < (τ.1 j).length → Ok (f_X6_asked_58 τ x1 (nI i)) fun _ => True := by
      intro i hi
      unfold f_X6_asked_58
      exact ok_ev (getN hg hi hl) (ok_some trivial)
    refine ok_ev (sizeN hg) (ok_if (fun _ => ok_if (fun _ => m34) fun _ => ok_if (fun _ => m34) fun _ => ok_some trivial) fun c => ?_)
    have h1 : 1 ≤ (τ.1 j).length := by
      have := mt (nI_eqi (a := (τ.1 j).length) (b := 0) (by omega) (by omega)).mpr c
      omega
    refine ok_if (fun _ => m58 0 (by omega)) fun _ => ok_ev (sizeN hg) ?_
    rw [nI_prd h1 (by omega)]
    exact m58 _ (by omega)
  have m10 : Ok (f_X6_asked_10 τ x1 x2) fun _ => True := m15 1
  unfold f_X6_asked
  exact ok_if (fun _ => m10) fun _ => ok_if (fun _ => m10) fun _ => m15 0
theorem ok_ask27 (hb : IB k τ) (hw : WK τ) (hu : UT τ) (h0 : τ.2 0 = 0) (x1 x2 u1 : Int32) (p : x1 = 0 ∨ x1 = 1) : Ok (f_X6_ask_27 τ x1 x2 u1) (KQ k) := by
  unfold f_X6_ask_27
  refine ok_refuse hb hw hu h0 (by decide) (fun s i e e0 en b w u => ok_t rfl ?_) fun s b w u => ok_f ne10 (kq b w u)
  exact ok_bind (ok_X6_asked b _ _ p) fun z _ => kq b w u
theorem ok_X6_ask (hb : IB k τ) (hw : WK τ) (hu : UT τ) (x1 x2 : Int32) : Ok (f_X6_ask τ x1 x2) (KQ k) := by
  unfold f_X6_ask
  refine ok_bind (ok_X6_isNoTrack _) fun z hz => ok_start hb hw hu (by decide) (fun s i e e0 en b w u => ok_t rfl ?_) fun s b w u => ok_f ne10 (kq b w u)
  exact ok_bind (ok_X6_isIn _ _ _) fun z2 _ => ok_if (fun _ => ok_ask27 b w u e0 _ _ _ (hz i)) fun _ => ok_ask27 b w u e0 _ _ _ (hz i)
theorem ok_X6_trackTold (hb : IB k τ) (hw : WK τ) (hu : UT τ) (x1 x2 : Int32) (p : x1 = 0 ∨ x1 = 1) (p0 : 0 ≤ x2) (p1 : x2 ≤ 3) : Ok (f_X6_trackTold τ x1 x2) (fun r => IB k r.2 ∧ WK r.2 ∧ UT r.2) := by
  obtain ⟨j, hj, hx, hg⟩ := trk_ok p
  have hl := hb.lenj hj
  obtain ⟨w2, hw2, rfl⟩ := nIof (b := 3) (by omega) p0 p1
  unfold f_X6_trackTold
  refine up24 (fun m t => t.1 = x1 ∧ t.2.1 = nI w2 ∧ t.2.2.2.2 = nI m) (τ.1 j).length (by omega) ?_ ⟨rfl, rfl, rfl⟩
  rintro kk ⟨v1, v2, v3, v4, v5⟩ m hm ⟨a1, a2, a3⟩ hk
  dsimp only at a1 a2 a3
  subst a1 a2 a3
  have m81 : ∀ g u, Ok (f_X6_trackTold_81 τ (nI w2) v3 v4 4 g 1 u) (fun r => IB k r.2 ∧ WK r.2 ∧ UT r.2) := by
    intro g u
    unfold f_X6_trackTold_81
    exact ok_bind (ok_X6_one _) fun z _ => ok_f (by decide) (ok_nme fun g1 _ => ok_f (by decide) (ok_nme fun g2 _ => ok_f (by decide) (ok_nme fun g3 _ => ok_f (arr_iN (by omega) (by omega)) (ok_some ⟨hb, hw, hu⟩))))
  unfold f_X6_trackTold_8
  dsimp only
  refine ok_ev (sizeN hg) (ok_if (fun _ => ?_) fun c => ?_)
  · refine ok_f (by decide) (ok_nme fun n hn => ok_nme fun g _ => ?_)
    have hn : n = 4 := hn
    subst hn
    exact ok_ev (sizeN hg) (ok_f (by decide) (ok_nme fun g1 _ => ok_ev (sizeN hg) (ok_if (fun _ => m81 _ _) fun _ => m81 _ _)))
  · have hml : m < (τ.1 j).length := Nat.lt_of_not_le (mt (nI_lei (by omega) (by omega)).mpr c)
    refine ok_ev (getN hg hml hl) (ok_bind (P := fun _ => True) (ok_some trivial) fun z _ => ok_nme fun y1 _ => ok_ev (getN hg hml hl) (ok_bind (P := fun _ => True) (ok_some trivial) fun z2 _ => ok_nme fun y2 _ => ok_nme fun y3 hy3 => hk _ hml ⟨rfl, rfl, by rw [hy3]; exact nI_suc (by omega)⟩))
theorem ok_ofTrack27 (hb : IB k τ) (hw : WK τ) (hu : UT τ) (h0 : τ.2 0 = 0) (x1 x2 u1 : Int32) (p : x1 = 0 ∨ x1 = 1) (q : u1 = 0 → 0 ≤ x2 ∧ x2 ≤ 3) : Ok (f_X6_ofTrack_27 τ x1 x2 u1) (KQ k) := by
  unfold f_X6_ofTrack_27
  refine ok_refuse hb hw hu h0 (by decide) (fun s i e e0 en b w u => ok_t rfl ?_) fun s b w u => ok_f ne10 (kq b w u)
  exact ok_bind (ok_X6_trackTold b w u _ _ p (q i).1 (q i).2) fun z hz => ok_some hz
theorem ok_X6_ofTrack (hb : IB k τ) (hw : WK τ) (hu : UT τ) (x1 x2 : Int32) : Ok (f_X6_ofTrack τ x1 x2) (KQ k) := by
  unfold f_X6_ofTrack
  refine ok_bind (ok_X6_isNoTrack _) fun z hz => ok_start hb hw hu (by decide) (fun s i e e0 en b w u => ok_t rfl ?_) fun s b w u => ok_f ne10 (kq b w u)
  exact ok_bind (ok_X6_isIn _ _ _) fun z2 hz2 => ok_if (fun _ => ok_ofTrack27 b w u e0 _ _ _ (hz i) fun h => absurd h ne10) fun c => ok_ofTrack27 b w u e0 _ _ _ (hz i) fun _ => hz2.2 c
theorem ok_X6_compared (hb : IB k τ) (x1 : Int32) : Ok (f_X6_compared τ x1) fun r => r = 0 ∨ r = 1 := by
  have l0 := hb.lenj (j := 0) (by omega)
  have m19 : (¬ x1 = 0 → (τ.1 0).length = (τ.1 1).length) → Ok (f_X6_compared_19 τ x1) fun r => r = 0 ∨ r = 1 := by
    intro he
    unfold f_X6_compared_19
    refine up24 (fun m t => t.1 = x1 ∧ t.2 = nI m) (τ.1 0).length (by omega) ?_ ⟨rfl, rfl⟩
    rintro kk ⟨v1, v2⟩ m hm ⟨a1, a2⟩ hk
    dsimp only at a1 a2
    subst a1 a2
    unfold f_X6_compared_21
    dsimp only
    refine ok_ev (sizeN (j := 0) rfl) (ok_if (fun _ => ok_some (Or.inr rfl)) fun c => ?_)
    have hml : m < (τ.1 0).length := Nat.lt_of_not_le (mt (nI_lei (by omega) (by omega)).mpr c)
    have m73 : Ok (f_X6_compared_73 τ kk v1 (nI m)) fun r => r = 0 ∨ r = 1 := by
      unfold f_X6_compared_73
      exact ok_nme fun y hy => hk _ hml ⟨rfl, by rw [hy]; exact nI_suc (by omega)⟩
    refine ok_ev (getN (j := 0) rfl hml l0) (ok_bind (P := fun _ => True) (ok_some trivial) fun z _ => ok_if (fun _ => ok_bind (ok_X6_found hb _ _ _ (Or.inr rfl)) fun z2 _ => ok_if (fun _ => ok_some (Or.inl rfl)) fun _ => m73) fun c2 => ?_)
    have e := he c2
    exact ok_ev (getN (j := 1) rfl (by omega) (by omega)) (ok_bind (P := fun _ => True) (ok_some trivial) fun z3 _ => ok_if (fun _ => m73) fun _ => ok_some (Or.inl rfl))
  unfold f_X6_compared
  refine ok_if (fun c => m19 fun h => absurd c h) fun _ => ok_ev (sizeN (j := 0) rfl) (ok_ev (sizeN (j := 1) rfl) (ok_if (fun c => m19 fun _ => ?_) fun _ => ok_some (Or.inl rfl)))
  have l1 := hb.lenj (j := 1) (by omega)
  exact (nI_eqi (by omega) (by omega)).mp c
theorem ok_X6_compare (hb : IB k τ) (hw : WK τ) (hu : UT τ) (x1 : Int32) : Ok (f_X6_compare τ x1) (KQ k) := by
  unfold f_X6_compare
  refine ok_nme fun s hs => ?_
  have b : IB k s := by rw [hs]; exact hb.sc (by omega)
  have w : WK s := by rw [hs]; exact hw.sc (by omega)
  have u : UT s := by rw [hs]; exact hu.sc
  exact ok_bind (ok_X6_compared b _) fun z hz => ok_yes hz (kq b w u)
theorem ok_X6_nestedNow (hb : IB k τ) (hw : WK τ) (hu : UT τ) (x1 : Int32) (p : x1 = 0 ∨ x1 = 1) : Ok (f_X6_nestedNow τ x1) (fun r => IB k r.2 ∧ WK r.2 ∧ UT r.2) := by
  obtain ⟨j, hj, hx, hg⟩ := trk_ok p
  have hl := hb.lenj hj
  have fin : ∀ v : Int32, Ok (some (v, τ)) (fun r => IB k r.2 ∧ WK r.2 ∧ UT r.2) := fun v => ok_some ⟨hb, hw, hu⟩
  unfold f_X6_nestedNow
  refine ok_f (by decide) (ok_nme fun n hn => ok_nme fun g _ => ?_)
  have hn : n = 21 := hn
  subst hn
  refine up24 (fun m t => t.1 = τ ∧ t.2.1 = x1 ∧ t.2.2.1 = 21 ∧ (∃ c, c ≤ m ∧ t.2.2.2.2.1 = nI c) ∧ t.2.2.2.2.2.2 = nI m) (τ.1 j).length (by omega) ?_ ⟨rfl, rfl, rfl, ⟨0, Nat.le_refl _, rfl⟩, rfl⟩
  rintro kk ⟨s, v1, n, g2, v3, v4, v5⟩ m hm ⟨a1, a2, a3, ⟨c, hc, a4⟩, a5⟩ hk
  dsimp only at a1 a2 a3 a4 a5
  subst a1 a2 a3 a4 a5
  unfold f_X6_nestedNow_13
  dsimp only
  refine ok_ev (sizeN hg) (ok_if (fun _ => ok_if (fun _ => fin _) fun _ => fin _) fun c1 => ?_)
  have hml : m < (s.1 j).length := Nat.lt_of_not_le (mt (nI_lei (by omega) (by omega)).mpr c1)
  have m98 : ∀ g3 c3 v, c3 ≤ m + 1 → Ok (f_X6_nestedNow_98 kk s v1 21 g3 (nI c3) v (nI m)) (fun r => IB k r.2 ∧ WK r.2 ∧ UT r.2) := by
    intro g3 c3 v h3
    unfold f_X6_nestedNow_98
    exact ok_nme fun y hy => hk _ hml ⟨rfl, rfl, rfl, ⟨c3, h3, rfl⟩, by rw [hy]; exact nI_suc (by omega)⟩
  refine ok_ev (getN hg hml hl) (ok_bind (P := fun _ => True) (ok_some trivial) fun z _ => ok_if (fun _ => m98 _ _ _ (by omega)) fun _ => ok_if (fun _ => m98 _ _ _ (by omega)) fun _ => ok_if (fun _ => ?_) fun _ => ok_if (fun _ => fin _) fun c2 => ?_)
  · refine ok_f (arr_iN (by omega) (by omega)) (ok_nme fun g3 _ => ok_nme fun y hy => ok_nme fun y2 _ => ?_)
    rw [hy, nI_suc (by omega)]
    exact m98 _ _ _ (by omega)
  · have h1 : 1 ≤ c := by
      have := mt (nI_eqi (a := c) (b := 0) (by omega) (by omega)).mpr c2
      omega
    rw [nI_prd h1 (by omega)]
    refine ok_f (arr_iN (by omega) (by omega)) (ok_if (fun _ => ok_nme fun y hy => ?_) fun _ => fin _)
    rw [hy, nI_prd2 h1 (by omega)]
    exact m98 _ _ _ (by omega)
theorem ok_X6_nested (hb : IB k τ) (hw : WK τ) (hu : UT τ) (x1 : Int32) : Ok (f_X6_nested τ x1) (KQ k) := by
  unfold f_X6_nested
  refine ok_bind (ok_X6_isNoTrack _) fun z hz => ok_start hb hw hu (by decide) (fun s i e e0 en b w u => ok_t rfl ?_) fun s b w u => ok_f ne10 (kq b w u)
  exact ok_bind (ok_X6_nestedNow b w u _ (hz i)) fun z2 hz2 => ok_some hz2
theorem ok_X6_heaviest (hb : IB k τ) (hw : WK τ) (hu : UT τ) (x1 x2 x3 : Int32) : Ok (f_X6_heaviest τ x1 x2 x3) (KQ k) := by
  have m44 : ∀ s u1, s.2 0 = 0 → IB k s → WK s → UT s → (x1 = 0 ∨ x1 = 1) → (0 ≤ x3 ∧ x3 ≤ 19) → (u1 = 0 → 1 ≤ x2 ∧ x2 ≤ 20) → Ok (f_X6_heaviest_44 s x1 x2 x3 u1) (KQ k) := by
    intro s u1 e0 b w u p h3 h2
    unfold f_X6_heaviest_44
    refine ok_refuse b w u e0 (by decide) (fun s i e e0 en b w u => ok_t rfl ?_) fun s b w u => ok_f ne10 (kq b w u)
    obtain ⟨h21, h22⟩ := h2 i
    obtain ⟨j, hj, hx, hg⟩ := trk_ok p
    have hl := b.lenj hj
    obtain ⟨n, hn, rfl⟩ := nIof (b := 20) (by omega) (Int32.le_trans (by decide) h21) h22
    obtain ⟨a, ha, rfl⟩ := nIof (b := 19) (by omega) h3.1 h3.2
    refine ok_ev (sizeN hg) (ok_if (fun c => ?_) fun _ => kq b w u)
    have c : nI a + nI n ≤ nI (s.1 j).length := c
    rw [nI_sum (by omega)] at c
    have c := (nI_lei (by omega) (by omega)).mp c
    show Ok (lpn f_X6_heaviest_72 24 (s, x1, nI n, nI a, 0, 0)) (KQ k)
    refine up24 (fun m t => t.1 = s ∧ t.2.1 = x1 ∧ t.2.2.1 = nI n ∧ t.2.2.2.1 = nI a ∧ t.2.2.2.2.2 = nI m) n (by omega) ?_ ⟨rfl, rfl, rfl, rfl, rfl⟩
    rintro kk ⟨s2, v1, v2, v3, v4, v5⟩ m hm ⟨a1, a2, a3, a4, a5⟩ hk
    dsimp only at a1 a2 a3 a4 a5
    subst a1 a2 a3 a4 a5
    unfold f_X6_heaviest_72
    dsimp only
    refine ok_if (fun _ => kq b w u) fun c1 => ?_
    have hml : m < n := Nat.lt_of_not_le (mt (nI_lei (by omega) (by omega)).mpr c1)
    rw [nI_sum (by omega)]
    exact ok_ev (getN hg (by omega) hl) (ok_bind (P := fun _ => True) (ok_some trivial) fun z _ => ok_nme fun y _ => ok_nme fun y2 hy2 => hk _ hml ⟨rfl, rfl, rfl, rfl, by rw [hy2]; exact nI_suc (by omega)⟩)
  have m21 : ∀ u1, (u1 = 0 → (x1 = 0 ∨ x1 = 1) ∧ 0 ≤ x3 ∧ x3 ≤ 19) → Ok (f_X6_heaviest_21 τ x1 x2 x3 u1) (KQ k) := by
    intro u1 h
    unfold f_X6_heaviest_21
    refine ok_start hb hw hu (by decide) (fun s i e e0 en b w u => ok_t rfl ?_) fun s b w u => ok_f ne10 (kq b w u)
    obtain ⟨p, h3⟩ := h i
    exact ok_bind (ok_X6_isIn _ _ _) fun z hz => ok_if (fun _ => m44 _ _ e0 b w u p h3 fun h => absurd h ne10) fun c => m44 _ _ e0 b w u p h3 fun _ => hz.2 c
  have m16 : Ok (f_X6_heaviest_16 τ x1 x2 x3) (KQ k) := m21 1 fun h => absurd h ne10
  unfold f_X6_heaviest
  exact ok_bind (ok_X6_isNoTrack _) fun z hz => ok_if (fun c => ok_bind (ok_X6_isNoPlace _) fun z2 hz2 => ok_if (fun c2 => m21 0 fun _ => ⟨hz c, hz2 c2⟩) fun _ => m16) fun _ => m16
theorem ok_X6_ahead (hb : IB k τ) (hw : WK τ) (hu : UT τ) (x1 x2 : Int32) : Ok (f_X6_ahead τ x1 x2) (KQ k) := by
  have m21 : ∀ u1, (u1 = 0 → (x1 = 0 ∨ x1 = 1) ∧ 0 ≤ x2 ∧ x2 ≤ 19) → Ok (f_X6_ahead_21 τ x1 x2 u1) (KQ k) := by
    intro u1 h
    unfold f_X6_ahead_21
    refine ok_start hb hw hu (by decide) (fun s i e e0 en b w u => ok_t rfl ?_) fun s b w u => ok_f ne10 (kq b w u)
    obtain ⟨p, h3⟩ := h i
    obtain ⟨j, hj, hx, hg⟩ := trk_ok p
    have hl := b.lenj hj
    obtain ⟨n, hn, rfl⟩ := nIof (b := 19) (by omega) h3.1 h3.2
    refine ok_ev (sizeN hg) (ok_if (fun c => ?_) fun _ => kq b w u)
    have c : nI n < nI (s.1 j).length := c
    have c := (nI_lti (by omega) (by omega)).mp c
    show Ok (lpn f_X6_ahead_47 24 (s, x1, nI n, -1, 0)) (KQ k)
    refine up24 (fun m t => t.1 = s ∧ t.2.1 = x1 ∧ t.2.2.1 = nI n ∧ t.2.2.2.2 = nI m) n (by omega) ?_ ⟨rfl, rfl, rfl, rfl⟩
    rintro kk ⟨s2, v1, v2, v3, v5⟩ m hm ⟨a1, a2, a3, a5⟩ hk
    dsimp only at a1 a2 a3 a5
    subst a1 a2 a3 a5
    unfold f_X6_ahead_47
    dsimp only
    refine ok_if (fun _ => kq b w u) fun c1 => ?_
    have hml : m < n := Nat.lt_of_not_le (mt (nI_lei (by omega) (by omega)).mpr c1)
    have m78 : ∀ v, Ok (f_X6_ahead_78 kk s2 v1 (nI n) v (nI m)) (KQ k) := by
      intro v
      unfold f_X6_ahead_78
      exact ok_nme fun y hy => hk _ hml ⟨rfl, rfl, rfl, by rw [hy]; exact nI_suc (by omega)⟩
    exact ok_ev (getN hg (by omega) hl) (ok_bind (P := fun _ => True) (ok_some trivial) fun z _ => ok_ev (getN hg c hl) (ok_bind (P := fun _ => True) (ok_some trivial) fun z2 _ => ok_if (fun _ => m78 _) fun _ => m78 _))
  have m16 : Ok (f_X6_ahead_16 τ x1 x2) (KQ k) := m21 1 fun h => absurd h ne10
  unfold f_X6_ahead
  exact ok_bind (ok_X6_isNoTrack _) fun z hz => ok_if (fun c => ok_bind (ok_X6_isNoPlace _) fun z2 hz2 => ok_if (fun c2 => m21 0 fun _ => ⟨hz c, hz2 c2⟩) fun _ => m16) fun _ => m16
theorem ok_X6_whereNow (hb : IB k τ) (hw : WK τ) (hu : UT τ) (x1 x2 : Int32) (p : x1 = 0 ∨ x1 = 1) (p0 : 0 ≤ x2) (p1 : x2 ≤ 4) : Ok (f_X6_whereNow τ x1 x2) (fun r => IB k r.2 ∧ WK r.2 ∧ UT r.2) := by
  obtain ⟨j, hj, hx, hg⟩ := gwk_ok p
  obtain ⟨w2, hw2, rfl⟩ := nIof (b := 4) (by omega) p0 p1
  have m70 : ∀ g u, Ok (f_X6_whereNow_70 τ (nI w2) 5 g 4 u) (fun r => IB k r.2 ∧ WK r.2 ∧ UT r.2) := by
    intro g u
    unfold f_X6_whereNow_70
    exact ok_bind (ok_X6_one _) fun z _ => ok_f (by decide) (ok_nme fun g1 _ => ok_f (arr_iN (by omega) (by omega)) (ok_some ⟨hb, hw, hu⟩))
  have m52 : ∀ v3 g u, Ok (f_X6_whereNow_52 τ (nI w2) v3 5 g 3 u) (fun r => IB k r.2 ∧ WK r.2 ∧ UT r.2) := by
    intro v3 g u
    unfold f_X6_whereNow_52
    exact ok_bind (ok_X6_one _) fun z _ => ok_f (by decide) (ok_nme fun g1 _ => ok_if (fun _ => m70 _ _) fun _ => m70 _ _)
  unfold f_X6_whereNow
  refine ok_ev hg (ok_f (by decide) (ok_nme fun n hn => ok_nme fun g _ => ?_))
  have hn : n = 5 := hn
  subst hn
  exact ok_f (by decide) (ok_nme fun g1 _ => ok_f (by decide) (ok_nme fun g2 _ => ok_f (by decide) (ok_nme fun g3 _ => ok_ev (sizeN (j := 1) rfl) (ok_if (fun _ => m52 _ _ _) fun _ => m52 _ _ _))))
theorem ok_X6_where (hb : IB k τ) (hw : WK τ) (hu : UT τ) (x1 x2 : Int32) : Ok (f_X6_where τ x1 x2) (KQ k) := by
  have m57 : ∀ s u1, s.2 0 = 0 → IB k s → WK s → UT s → (x1 = 0 ∨ x1 = 1) → (0 ≤ x2 ∧ x2 ≤ 4) → Ok (f_X6_where_57 s x1 x2 u1) (KQ k) := by
    intro s u1 e0 b w u p h2
    unfold f_X6_where_57
    refine ok_refuse b w u e0 (by decide) (fun s i e e0 en b w u => ok_t rfl ?_) fun s b w u => ok_f ne10 (kq b w u)
    exact ok_bind (ok_X6_whereNow b w u _ _ p h2.1 h2.2) fun z hz => ok_some hz
  have m27 : ∀ s u1, s.2 0 = 0 → IB k s → WK s → UT s → (x1 = 0 ∨ x1 = 1) → (u1 = 0 → 0 ≤ x2 ∧ x2 ≤ 4) → Ok (f_X6_where_27 s x1 x2 u1) (KQ k) := by
    intro s u1 e0 b w u p h2
    unfold f_X6_where_27
    refine ok_refuse b w u e0 (by decide) (fun s i e e0 en b w u => ok_t rfl ?_) fun s b w u => ok_f ne10 (kq b w u)
    have m56 : Ok (f_X6_where_56 s x1 x2) (KQ k) := m57 s 0 e0 b w u p (h2 i)
    obtain ⟨j, hj, hx, hg⟩ := gwk_ok p
    exact ok_if (fun _ => m56) fun _ => ok_ev hg (ok_if (fun _ => m56) fun _ => m57 s 1 e0 b w u p (h2 i))
  unfold f_X6_where
  refine ok_bind (ok_X6_isNoWalker _) fun z hz => ok_start hb hw hu (by decide) (fun s i e e0 en b w u => ok_t rfl ?_) fun s b w u => ok_f ne10 (kq b w u)
  exact ok_bind (ok_X6_isIn _ _ _) fun z2 hz2 => ok_if (fun _ => m27 _ _ e0 b w u (hz i) fun h => absurd h ne10) fun c => m27 _ _ e0 b w u (hz i) fun _ => hz2.2 c
end OKS
end
section
/-! the model: walkers and orders by hand -/
section OKV
variable {k : Int32} {τ : MS}
/-- a call of a walker that passed: its walker, alive -/
theorem nowj {z : Int32 × MS} {x1 : Int32} {j : Nat} (hj : x1 = 0 ∧ j = 0 ∨ x1 = 1 ∧ j = 1) (a : x1 = 0 → ¬ z.2.2 5 = 0) (b : x1 = 1 → ¬ z.2.2 8 = 0) : ¬ z.2.2 (5 + 3 * j) = 0 := by
  rcases hj with ⟨e, f⟩ | ⟨e, f⟩
  · rw [f]; exact a e
  · rw [f]; exact b e
theorem ok_X6_forth (hb : IB k τ) (hw : WK τ) (hu : UT τ) (x1 : Int32) : Ok (f_X6_forth τ x1) (KQ k) := by
  unfold f_X6_forth
  refine ok_bind (ok_X6_isNowhere hb hw hu _) fun z hz => ?_
  obtain ⟨-, hi, b, w, u⟩ := hz
  refine ok_if (fun c => ?_) fun c => ok_some ⟨b, w, u⟩
  obtain ⟨p, -, q0, q1⟩ := hi c
  obtain ⟨j, hj, hx, hg⟩ := gwk_ok p
  have G : Ok (gwk x1) (fun y => j = y) := ⟨j, hg, rfl⟩
  refine ok_bind G fun _ e => ?_
  subst e
  have m37 : Ok (f_X6_forth_37 z.2) (KQ k) := ok_some ⟨b, w, u⟩
  refine ok_if (fun _ => m37) fun c2 => ok_bind (ok_size1 b) fun y hy => ok_if (fun _ => m37) fun c3 => ?_
  obtain ⟨s1, ⟨g0, g1⟩, -⟩ := (w.get hj).live (nowj hx q0 q1) c2
  refine ok_nme fun t ht => ok_nme fun t2 ht2 => ?_
  obtain ⟨l1, e1, n1⟩ := up_sc ht
  obtain ⟨l2, e2, n2⟩ := up_sc ht2
  have L : t2.1 = z.2.1 := l2.trans l1
  have O : ∀ q, q ≠ 5 + 3 * j + 0 → q ≠ 5 + 3 * j + 1 → q ≠ 5 + 3 * j + 2 → t2.2 q = z.2.2 q := fun q _ b c => (n2 q b).trans (n1 q c)
  have f0 : t2.2 (5 + 3 * j) = z.2.2 (5 + 3 * j) := (n2 _ (by omega)).trans (n1 _ (by omega))
  have f1 : t2.2 (5 + 3 * j + 1) = z.2.2 (5 + 3 * j + 1) + 1 := by rw [e2, n1 _ (by omega)]
  have f2 : t2.2 (5 + 3 * j + 2) = z.2.2 (5 + 3 * j + 1) := (n2 _ (by omega)).trans e1
  have hn := SL_n (b.l (i := 1) (by omega))
  have g2 : z.2.2 (5 + 3 * j + 1) < SL (z.2.1 1) := by rw [hy.1] at c3; clear hy e2 e1 f0 f1 f2 hn; grind
  have b2 : IB k t2 := b.eq L (O 4 (by omega) (by omega) (by omega))
  have w2 : WK t2 := w.one hj L O (by rw [f0, f1, f2, s1]; exact ⟨Or.inr (Or.inl rfl), fun _ => ⟨⟨by grind, by grind⟩, Or.inr ⟨g0, g2⟩⟩⟩)
  exact ok_bind (ok_get1 b2 _ (by rw [f2]; exact g0) (by rw [f2, L]; exact g2)) fun y hy => ok_some ⟨b2, w2, u.eq L⟩
theorem ok_X6_back (hb : IB k τ) (hw : WK τ) (hu : UT τ) (x1 : Int32) : Ok (f_X6_back τ x1) (KQ k) := by
  unfold f_X6_back
  refine ok_bind (ok_X6_isNowhere hb hw hu _) fun z hz => ?_
  obtain ⟨-, hi, b, w, u⟩ := hz
  refine ok_if (fun c => ?_) fun c => ok_some ⟨b, w, u⟩
  obtain ⟨p, -, q0, q1⟩ := hi c
  obtain ⟨j, hj, hx, hg⟩ := gwk_ok p
  have G : Ok (gwk x1) (fun y => j = y) := ⟨j, hg, rfl⟩
  refine ok_bind G fun _ e => ?_
  subst e
  have m37 : Ok (f_X6_back_32 z.2) (KQ k) := ok_some ⟨b, w, u⟩
  refine ok_if (fun _ => m37) fun c2 => ok_if (fun _ => m37) fun c3 => ?_
  obtain ⟨s1, ⟨g0, g1⟩, -⟩ := (w.get hj).live (nowj hx q0 q1) c2
  refine ok_nme fun t ht => ok_nme fun t2 ht2 => ?_
  obtain ⟨l1, e1, n1⟩ := up_sc ht
  obtain ⟨l2, e2, n2⟩ := up_sc ht2
  have L : t2.1 = z.2.1 := l2.trans l1
  have O : ∀ q, q ≠ 5 + 3 * j + 0 → q ≠ 5 + 3 * j + 1 → q ≠ 5 + 3 * j + 2 → t2.2 q = z.2.2 q := fun q _ b c => (n2 q c).trans (n1 q b)
  have f0 : t2.2 (5 + 3 * j) = z.2.2 (5 + 3 * j) := (n2 _ (by omega)).trans (n1 _ (by omega))
  have f1 : t2.2 (5 + 3 * j + 1) = z.2.2 (5 + 3 * j + 1) - 1 := (n2 _ (by omega)).trans e1
  have f2 : t2.2 (5 + 3 * j + 2) = z.2.2 (5 + 3 * j + 1) - 1 := e2.trans e1
  have hn := SL_n (b.l (i := 1) (by omega))
  generalize hP : z.2.2 (5 + 3 * j + 1) = P at *
  have g3 : 0 ≤ P - 1 := by clear hn f0 f1 f2 e1 e2 n1 n2 O; grind
  have g4 : P - 1 < SL (z.2.1 1) := by clear f0 f1 f2 e1 e2 n1 n2 O; grind
  have g5 : P - 1 ≤ SL (z.2.1 1) := by clear f0 f1 f2 e1 e2 n1 n2 O; grind
  have b2 : IB k t2 := b.eq L (O 4 (by omega) (by omega) (by omega))
  have w2 : WK t2 := w.one hj L O (by rw [f0, f1, f2, s1]; exact ⟨Or.inr (Or.inl rfl), fun _ => ⟨⟨g3, g5⟩, Or.inr ⟨g3, g4⟩⟩⟩)
  exact ok_bind (ok_get1 b2 _ (by rw [f2]; exact g3) (by rw [f2, L]; exact g4)) fun y hy => ok_some ⟨b2, w2, u.eq L⟩
theorem ok_X6_takeHeld (hb : IB k τ) (hw : WK τ) (hu : UT τ) (x1 : Int32) : Ok (f_X6_takeHeld τ x1) (KQ k) := by
  unfold f_X6_takeHeld
  refine ok_bind (ok_X6_isNowhere hb hw hu _) fun z hz => ?_
  obtain ⟨-, hi, b, w, u⟩ := hz
  refine ok_if (fun c => ?_) fun c => ok_some ⟨b, w, u⟩
  obtain ⟨p, -, q0, q1⟩ := hi c
  obtain ⟨j, hj, hx, hg⟩ := gwk_ok p
  have G : Ok (gwk x1) (fun y => j = y) := ⟨j, hg, rfl⟩
  refine ok_bind G fun _ e => ?_
  subst e
  have m37 : Ok (f_X6_takeHeld_33 z.2) (KQ k) := ok_some ⟨b, w, u⟩
  refine ok_if (fun _ => m37) fun c2 => ok_if (fun _ => m37) fun c3 => ?_
  obtain ⟨s1, ⟨g0, g1⟩, g2⟩ := (w.get hj).live (nowj hx q0 q1) c2
  obtain ⟨h0, h1⟩ := g2.resolve_left c3
  have G1 : Ok (gtr 1) (fun y => 1 = y) := ⟨1, rfl, rfl⟩
  refine ok_bind G1 fun _ e => ?_
  subst e
  refine ok_bind (ok_ldel (b.l (i := 1) (by omega)) _ h0 h1) fun x hx2 => ok_nme fun t ht => ?_
  obtain ⟨t2, t1, t0⟩ := up_ls ht
  have bt : IB k t := by rw [ht]; exact b.lst hx2.1
  have hsl : SL (z.2.1 1) = SL (t.1 1) + 1 := by
    rw [t1]
    exact SL_up (b.l (i := 1) (by omega)) hx2.2.1.symm
  have hn := SL_n (bt.l (i := 1) (by omega))
  have main : ∀ u2 : Int32, (u2 = 0 → z.2.2 (5 + 3 * j + 1) ≤ z.2.2 (5 + 3 * j + 2)) → (¬ u2 = 0 → ¬ z.2.2 (5 + 3 * j + 1) ≤ z.2.2 (5 + 3 * j + 2)) → Ok (f_X6_takeHeld_76 t x1 j j (t.2 (5 + 3 * j + 1)) u2) (KQ k) := by
    intro u2 a0 a1
    unfold f_X6_takeHeld_76
    refine ok_bind (ok_X6_one _) fun o ho => ok_nme fun t3 ht3 => ok_nme fun t4 ht4 => ?_
    obtain ⟨l3, e3, n3⟩ := up_sc ht3
    obtain ⟨l4, e4, n4⟩ := up_sc ht4
    have L : t4.1 = t.1 := l4.trans l3
    have O : ∀ q, q ≠ 5 + 3 * j + 1 → q ≠ 5 + 3 * j + 2 → t4.2 q = z.2.2 q := fun q a b => (n4 q b).trans ((n3 q a).trans (by rw [t2]))
    have b4 : IB k t4 := bt.eq L (by rw [O 4 (by omega) (by omega), t2])
    have f0 : t4.2 (5 + 3 * j) = 1 := (O _ (by omega) (by omega)).trans s1
    have f1 : t4.2 (5 + 3 * j + 1) = z.2.2 (5 + 3 * j + 1) - o := (n4 _ (by omega)).trans (e3.trans (by rw [t2]))
    refine ok_bind (ok_X6_changed _ _) fun r hr => ?_
    have br := hr.ib b4
    have hW0 : WH t4 := by
      unfold WH
      rw [O 3 (by omega) (by omega), L, t0 0 (by omega)]; exact w.1
    have pos : 0 ≤ z.2.2 (5 + 3 * j + 1) - o ∧ z.2.2 (5 + 3 * j + 1) - o ≤ SL (t.1 1) := by
      clear f0 f1 e3 n3 e4 n4 O hr br hW0 ht ht3 ht4
      generalize z.2.2 (5 + 3 * j + 1) = P at *
      generalize z.2.2 (5 + 3 * j + 2) = H at *
      generalize SL (t.1 1) = M at *
      generalize SL (z.2.1 1) = S at *
      obtain ⟨o1, o2⟩ := ho
      by_cases e : u2 = 0
      · have e0 := o2.mpr e
        have := a0 e
        subst e0
        clear a0 a1 o1 o2
        constructor <;> grind
      · have e0 : o = 1 := o1.resolve_left fun q => e (o2.mp q)
        have := a1 e
        subst e0
        clear a0 a1 o1 o2
        constructor <;> grind
    have wr : WK r := CH.wkj hx hW0 (by rw [f0, f1, e4, L]; exact ⟨Or.inr (Or.inl rfl), fun _ => ⟨pos, Or.inl rfl⟩⟩) hr
    refine ok_bind (ok_X6_tear br wr) fun r2 hr2 => ok_some ?_
    obtain ⟨b5, w5, u5, -, -, -⟩ := hr2
    exact ⟨b5, w5, u5⟩
  rw [show t.2 (5 + 3 * j + 1) = z.2.2 (5 + 3 * j + 1) by rw [t2], show t.2 (5 + 3 * j + 2) = z.2.2 (5 + 3 * j + 2) by rw [t2]]
  rw [show t.2 (5 + 3 * j + 1) = z.2.2 (5 + 3 * j + 1) by rw [t2]] at main
  exact ok_if (fun d => main 0 (fun _ => d) fun e => absurd rfl e) fun d => main 1 (fun e => absurd e (by decide)) fun _ => d
theorem ok_setHeld43 (hb : IB k τ) (hw : WK τ) (hu : UT τ) (x1 x2 x3 u1 : Int32) (h0 : τ.2 0 = 0) (p : x1 = 0 ∨ x1 = 1) (pc : (0 ≤ x2 ∧ x2 ≤ 9) ∧ 0 ≤ x3 ∧ x3 ≤ 99) (q : u1 = 0 → ∀ j, gwk x1 = some j → ¬ τ.2 (5 + 3 * j) = 0) : Ok (f_X6_setHeld_43 τ x1 x2 x3 u1) (KQ k) := by
  unfold f_X6_setHeld_43
  refine ok_bind (ok_X6_refuse hb hw hu _ _ h0 (by decide)) fun z hz => ?_
  obtain ⟨⟨-, hi⟩, ⟨hl, hs⟩, b, w, u⟩ := hz
  refine ok_if (fun c => ?_) fun c => ok_some ⟨b, w, u⟩
  obtain ⟨i0, i1⟩ := hi c
  obtain ⟨j, hj, hx, hg⟩ := gwk_ok p
  have live := q i0 j hg
  have G : Ok (gwk x1) (fun y => j = y) := ⟨j, hg, rfl⟩
  refine ok_bind G fun _ e => ?_
  subst e
  have m37 : Ok (f_X6_setHeld_78 z.2) (KQ k) := ok_some ⟨b, w, u⟩
  refine ok_if (fun _ => m37) fun c2 => ok_if (fun _ => m37) fun c3 => ?_
  obtain ⟨s1, ⟨g0, g1⟩, g2⟩ := (w.get hj).live (by rw [hs _ (by omega)]; exact live) c2
  obtain ⟨h0, h1⟩ := g2.resolve_left c3
  have G1 : Ok (gtr 1) (fun y => 1 = y) := ⟨1, rfl, rfl⟩
  refine ok_bind G1 fun _ e => ?_
  subst e
  refine ok_bind (ok_X6_code _ _ pc) fun v hv => ok_bind (ok_lset (b.l (i := 1) (by omega)) _ _ h0 h1 hv) fun x hx => ok_nme fun r hr => ?_
  obtain ⟨r2, r1, r0⟩ := up_ls hr
  have len : ∀ q, (r.1 q).length = (z.2.1 q).length := by
    intro q
    by_cases e : q = 1
    · subst e
      rw [r1]; exact hx.2
    · rw [r0 q e]
  have br : IB k r := by rw [hr]; exact b.lst hx.1
  refine ok_bind (ok_X6_tear br (w.len r2 (len 0) (len 1))) fun r2 hr2 => ok_some ?_
  obtain ⟨b5, w5, u5, -, -, -⟩ := hr2
  exact ⟨b5, w5, u5⟩
theorem ok_X6_setHeld (hb : IB k τ) (hw : WK τ) (hu : UT τ) (x1 x2 x3 : Int32) : Ok (f_X6_setHeld τ x1 x2 x3) (KQ k) := by
  unfold f_X6_setHeld
  refine ok_bind (ok_X6_isNoWalker _) fun z hz => ok_bind (ok_X6_start hb hw hu _ _ (by decide)) fun z2 hz2 => ?_
  obtain ⟨⟨-, hi⟩, -, b, w, u⟩ := hz2
  refine ok_if (fun c => ?_) fun c => ok_some ⟨b, w, u⟩
  obtain ⟨i0, i1⟩ := hi c
  have p := hz i0
  refine ok_bind (ok_X6_isNoPiece _ _) fun z3 hz3 => ok_bind (ok_X6_refuse b w u _ _ i1 (by decide)) fun z4 hz4 => ?_
  obtain ⟨⟨-, hi4⟩, -, b4, w4, u4⟩ := hz4
  refine ok_if (fun c4 => ?_) fun c4 => ok_some ⟨b4, w4, u4⟩
  obtain ⟨i4, j4⟩ := hi4 c4
  obtain ⟨j, hj, hx, hg⟩ := gwk_ok p
  have G : Ok (gwk x1) (fun y => j = y) := ⟨j, hg, rfl⟩
  refine ok_bind G fun _ e => ?_
  subst e
  exact ok_if (fun _ => ok_setHeld43 b4 w4 u4 _ _ _ _ j4 p (hz3 i4) fun e => absurd e (by decide)) fun c5 => ok_setHeld43 b4 w4 u4 _ _ _ _ j4 p (hz3 i4) fun _ y hy => by
    rw [hg] at hy
    cases hy
    exact c5
theorem ok_put53 (hb : IB k τ) (hw : WK τ) (x1 x2 x3 u1 : Int32) (hu : UT τ) (h0 : τ.2 0 = 0) (p : x1 = 0 ∨ x1 = 1) (pc : (0 ≤ x2 ∧ x2 ≤ 9) ∧ 0 ≤ x3 ∧ x3 ≤ 99) (q : u1 = 0 → (∀ j, gwk x1 = some j → ¬ τ.2 (5 + 3 * j) = 0) ∧ ¬ SL (τ.1 1) = 20) : Ok (f_X6_put_53 τ x1 x2 x3 u1) (KQ k) := by
  unfold f_X6_put_53
  refine ok_bind (ok_X6_refuse hb hw hu _ _ h0 (by decide)) fun z hz => ?_
  obtain ⟨⟨-, hi⟩, ⟨hl, hs⟩, b, w, u⟩ := hz
  refine ok_if (fun c => ?_) fun c => ok_some ⟨b, w, u⟩
  obtain ⟨i0, i1⟩ := hi c
  obtain ⟨j, hj, hx, hg⟩ := gwk_ok p
  have live := (q i0).1 j hg
  have full := (q i0).2
  have G : Ok (gwk x1) (fun y => j = y) := ⟨j, hg, rfl⟩
  refine ok_bind G fun _ e => ?_
  subst e
  refine ok_if (fun _ => ok_some ⟨b, w, u⟩) fun c2 => ?_
  obtain ⟨s1, ⟨g0, g1⟩, g2⟩ := (w.get hj).live (by rw [hs _ (by omega)]; exact live) c2
  have G1 : Ok (gtr 1) (fun y => 1 = y) := ⟨1, rfl, rfl⟩
  refine ok_bind G1 fun _ e => ?_
  subst e
  have hl1 := b.l (i := 1) (by omega)
  have hn := SL_n hl1
  have hlen : (z.2.1 1).length < cap 1 := by
    refine SL_lt hl1 ?_
    rw [← hl] at full
    show SL (z.2.1 1) < 20
    clear g1 g2
    grind
  refine ok_bind (ok_X6_code _ _ pc) fun v hv => ok_bind (ok_lins hl1 _ _ g0 g1 hlen hv) fun x hx2 => ok_nme fun t ht => ok_nme fun t3 ht3 => ok_nme fun t4 ht4 => ?_
  obtain ⟨t2, t1, t0⟩ := up_ls ht
  obtain ⟨l3, e3, n3⟩ := up_sc ht3
  obtain ⟨l4, e4, n4⟩ := up_sc ht4
  have bt : IB k t := by rw [ht]; exact b.lst hx2.1
  have hsl : SL (t.1 1) = SL (z.2.1 1) + 1 := by rw [t1]; exact SL_up hx2.1 hx2.2
  have L : t4.1 = t.1 := l4.trans l3
  have O : ∀ q, q ≠ 5 + 3 * j + 1 → q ≠ 5 + 3 * j + 2 → t4.2 q = z.2.2 q := fun q a b => (n4 q b).trans ((n3 q a).trans (by rw [t2]))
  have b4 : IB k t4 := bt.eq L (by rw [O 4 (by omega) (by omega), t2])
  have f0 : t4.2 (5 + 3 * j) = 1 := (O _ (by omega) (by omega)).trans s1
  have f1 : t4.2 (5 + 3 * j + 1) = z.2.2 (5 + 3 * j + 1) + 1 := (n4 _ (by omega)).trans (e3.trans (by rw [t2]))
  refine ok_bind (ok_X6_changed _ _) fun r hr => ?_
  have br := hr.ib b4
  have hW0 : WH t4 := by
    unfold WH
    rw [O 3 (by omega) (by omega), L, t0 0 (by omega)]; exact w.1
  have pos : 0 ≤ z.2.2 (5 + 3 * j + 1) + 1 ∧ z.2.2 (5 + 3 * j + 1) + 1 ≤ SL (t.1 1) := by
    rw [hsl]
    clear f0 f1 e3 n3 e4 n4 O hr br hW0 ht ht3 ht4 hsl g2
    generalize z.2.2 (5 + 3 * j + 1) = P at *
    generalize SL (z.2.1 1) = S at *
    constructor <;> grind
  have wr : WK r := CH.wkj hx hW0 (by rw [f0, f1, e4, L]; exact ⟨Or.inr (Or.inl rfl), fun _ => ⟨pos, Or.inl rfl⟩⟩) hr
  refine ok_bind (ok_X6_tear br wr) fun r2 hr2 => ok_some ?_
  obtain ⟨b5, w5, u5, -, -, -⟩ := hr2
  exact ⟨b5, w5, u5⟩
theorem ok_X6_put (hb : IB k τ) (hw : WK τ) (hu : UT τ) (x1 x2 x3 : Int32) : Ok (f_X6_put τ x1 x2 x3) (KQ k) := by
  unfold f_X6_put
  refine ok_bind (ok_X6_isNoWalker _) fun z hz => ok_bind (ok_X6_start hb hw hu _ _ (by decide)) fun z2 hz2 => ?_
  obtain ⟨⟨-, hi⟩, -, b, w, u⟩ := hz2
  refine ok_if (fun c => ?_) fun c => ok_some ⟨b, w, u⟩
  obtain ⟨i0, i1⟩ := hi c
  have p := hz i0
  refine ok_bind (ok_X6_isNoPiece _ _) fun z3 hz3 => ok_bind (ok_X6_refuse b w u _ _ i1 (by decide)) fun z4 hz4 => ?_
  obtain ⟨⟨-, hi4⟩, -, b4, w4, u4⟩ := hz4
  refine ok_if (fun c4 => ?_) fun c4 => ok_some ⟨b4, w4, u4⟩
  obtain ⟨i4, j4⟩ := hi4 c4
  obtain ⟨j, hj, hx, hg⟩ := gwk_ok p
  have G : Ok (gwk x1) (fun y => j = y) := ⟨j, hg, rfl⟩
  refine ok_bind G fun _ e => ?_
  subst e
  have m1 : Ok (f_X6_put_48 z4.2 x1 x2 x3) (KQ k) := ok_put53 b4 w4 _ _ _ _ u4 j4 p (hz3 i4) fun e => absurd e (by decide)
  refine ok_if (fun _ => m1) fun c5 => ok_bind (ok_size1 b4) fun y hy => ok_if (fun _ => m1) fun c6 => ?_
  refine ok_put53 b4 w4 _ _ _ _ u4 j4 p (hz3 i4) fun _ => ⟨fun y hy => ?_, by rw [← hy.1]; exact c6⟩
  rw [hg] at hy
  cases hy
  exact c5
/-! orders -/
theorem ok_order41 (hb : IB k τ) (hw : WK τ) (hu : UT τ) (v1 u1 : Int32) (h0 : τ.2 0 = 0) (q : u1 = 0 → (0 ≤ v1 ∧ v1 ≤ 7) ∧ ¬ nI (τ.1 3).length = 10) : Ok (f_X6_order_41 τ v1 u1) (KQ k) := by
  unfold f_X6_order_41
  refine ok_bind (ok_X6_refuse hb hw hu _ _ h0 (by decide)) fun z hz => ?_
  obtain ⟨⟨-, hi⟩, ⟨hl, hs⟩, b, w, u⟩ := hz
  refine ok_if (fun c => ?_) fun c => ok_some ⟨b, w, u⟩
  obtain ⟨q1, q2⟩ := q (hi c).1
  have hl3 := b.l (i := 3) (by omega)
  have hl4 : (z.2.1 3).length ≤ 10 := hl3.1
  refine ok_bind (ok_ladd hl3 v1 ?_ q1) fun x hx => ok_nme fun r hr => ok_some ?_
  · show (z.2.1 3).length < 10
    rcases Nat.lt_or_ge (z.2.1 3).length 10 with e | e
    · exact e
    · exfalso
      rw [← hl, show (z.2.1 3).length = 10 by omega] at q2
      exact q2 rfl
  · obtain ⟨r2, r1, r0⟩ := up_ls hr
    exact ⟨by rw [hr]; exact b.lst hx.2, w.len r2 (by rw [r0 0 (by omega)]) (by rw [r0 1 (by omega)]), u.len (r0 2 (by omega)) (by rw [r0 0 (by omega)]) (by rw [r0 1 (by omega)])⟩
theorem ok_X6_order (hb : IB k τ) (hw : WK τ) (hu : UT τ) (x1 : Int32) : Ok (f_X6_order τ x1) (KQ k) := by
  have main : ∀ u1 : Int32, (u1 = 0 → 0 ≤ x1 ∧ x1 ≤ 7) → Ok (f_X6_order_16 τ x1 u1) (KQ k) := by
    intro u1 hh
    unfold f_X6_order_16
    refine ok_bind (ok_X6_start hb hw hu _ _ (by decide)) fun z hz => ?_
    obtain ⟨⟨-, hi⟩, -, b, w, u⟩ := hz
    refine ok_if (fun c => ?_) fun c => ok_some ⟨b, w, u⟩
    obtain ⟨i0, i1⟩ := hi c
    exact ok_if (fun _ => ok_order41 b w u _ _ i1 fun e => absurd e (by decide)) fun c2 => ok_order41 b w u _ _ i1 fun _ => ⟨hh i0, c2⟩
  unfold f_X6_order
  exact ok_bind (ok_X6_isIn _ _ _) fun z hz => ok_if (fun _ => main 1 fun e => absurd e (by decide)) fun c => main 0 fun _ => hz.2 c
def WoI (k N : Int32) (t : MS × Int32 × Int32 × Int32) : Prop := (IB k t.1 ∧ WK t.1 ∧ UT t.1) ∧ t.2.1 ≤ 10 ∧ 0 ≤ t.2.2.2 ∧ t.2.2.2 ≤ 20 ∧ 20 ≤ t.2.2.2 + N
theorem st_X6_work (N : Int32) (kk) (t) (hN : 0 ≤ N) (hN2 : N ≤ 63) (ha : WoI k N t) (hk : ∀ b, 1 ≤ N → WoI k (N - 1) b → Ok (kk b) (KQ k)) : Ok (f_X6_work_29 kk t) (KQ k) := by
  obtain ⟨s, v1, v2, i⟩ := t
  obtain ⟨⟨b, w, u⟩, a1, a2, a3, a4⟩ := ha
  dsimp only at b w u a1 a2 a3 a4
  unfold f_X6_work_29
  dsimp only
  have fin : Ok (f_X6_work_94 s v2) (KQ k) := ok_some ⟨b, w, u⟩
  refine ok_if (fun _ => fin) fun c => ok_nme fun y hy => ok_if (fun c2 => ?_) fun _ => fin
  have next : ∀ r v, IB k r → WK r → UT r → Ok (f_X6_work_88 kk r v1 v i) (KQ k) := by
    intro r v br wr ur
    unfold f_X6_work_88
    refine ok_nme fun y2 hy2 => hk _ (by clear hy hy2 c2; grind) ⟨⟨br, wr, ur⟩, a1, ?_, ?_, ?_⟩ <;> dsimp only
    · rw [hy2]; clear hy c2 a4 hN hN2; grind
    · rw [hy2]; clear hy c2 a4 hN hN2; grind
    · rw [hy2]; clear hy c2; grind
  have hne : (s.1 3).length ≠ 0 := by
    intro e
    rw [if_pos e] at hy
    rw [hy] at c2
    exact absurd c2 (by decide)
  have hl := b.l (i := 3) (by omega)
  have hl3 : (s.1 3).length ≤ 10 := hl.1
  have hpos : (0 : Int32) < SL (s.1 3) := by
    refine Int32.lt_iff_toInt_lt.mpr ?_
    rw [(SL_n hl).2.2]
    show (0 : Int) < _
    omega
  refine ok_bind (ok_ldel hl 0 (by decide) hpos) fun x hx => ok_nme fun t ht => ok_nme fun o ho => ?_
  obtain ⟨t2, t1, t0⟩ := up_ls ht
  have bt : IB k t := by rw [ht]; exact b.lst hx.1
  have wt : WK t := w.len t2 (by rw [t0 0 (by omega)]) (by rw [t0 1 (by omega)])
  have ut : UT t := u.len (t0 2 (by omega)) (by rw [t0 0 (by omega)]) (by rw [t0 1 (by omega)])
  have o7 : 0 ≤ o ∧ o ≤ 7 := by rw [ho]; exact hl.getD _
  refine ok_bind (al_ok (ok_X6_move bt wt ut o o7.1 o7.2) move3) fun z hz => ?_
  obtain ⟨⟨bz, wz, uz⟩, z3⟩ := hz
  refine ok_if (fun c3 => ?_) fun c3 => ok_nme fun y3 _ => next _ _ bz wz uz
  refine ok_bind (ok_ladd (bz.l (i := 3) (by omega)) o (by rw [z3, t1]; show _ < 10; have := hx.2.1; omega) o7) fun x2 hx2 => ok_nme fun r hr => ?_
  obtain ⟨r2, r1, r0⟩ := up_ls hr
  exact next _ _ (by rw [hr]; exact bz.lst hx2.2) (wz.len r2 (by rw [r0 0 (by omega)]) (by rw [r0 1 (by omega)])) (uz.len (r0 2 (by omega)) (by rw [r0 0 (by omega)]) (by rw [r0 1 (by omega)]))
theorem ok_X6_work (hb : IB k τ) (hw : WK τ) (hu : UT τ) (x1 : Int32) : Ok (f_X6_work τ x1) (KQ k) := by
  have main : ∀ u1 : Int32, (u1 = 0 → x1 ≤ 10) → Ok (f_X6_work_16 τ x1 u1) (KQ k) := by
    intro u1 hh
    unfold f_X6_work_16
    refine ok_bind (ok_X6_start hb hw hu _ _ (by decide)) fun z hz => ?_
    obtain ⟨⟨-, hi⟩, -, b, w, u⟩ := hz
    refine ok_if (fun c => ?_) fun c => ok_some ⟨b, w, u⟩
    exact lpn24 (WoI k) (fun N kk t hN hN2 ha hk => st_X6_work N kk t hN hN2 ha hk) ⟨⟨b, w, u⟩, hh (hi c).1, (by dsimp only; decide), (by dsimp only; decide), (by dsimp only; decide)⟩
  unfold f_X6_work
  exact ok_bind (ok_X6_isIn _ _ _) fun z hz => ok_if (fun _ => main 1 fun e => absurd e (by decide)) fun c => main 0 fun _ => (hz.2 c).2
def CaI (k N : Int32) (t : MS × Int32 × Int32 × Int32 × Int32) : Prop := (IB k t.1 ∧ WK t.1 ∧ UT t.1) ∧ (t.2.2.2.1 = -1 ∨ (0 ≤ t.2.2.2.1 ∧ t.2.2.2.1 < SL (t.1.1 3))) ∧ 0 ≤ t.2.2.2.2 ∧ t.2.2.2.2 ≤ 20 ∧ 20 ≤ t.2.2.2.2 + N
theorem st_X6_cancel (N : Int32) (kk) (t) (hN : 0 ≤ N) (hN2 : N ≤ 63) (ha : CaI k N t) (hk : ∀ b, 1 ≤ N → CaI k (N - 1) b → Ok (kk b) (KQ k)) : Ok (f_X6_cancel_30 kk t) (KQ k) := by
  obtain ⟨s, v1, v2, f, i⟩ := t
  obtain ⟨⟨b, w, u⟩, a1, a2, a3, a4⟩ := ha
  dsimp only at b w u a1 a2 a3 a4
  unfold f_X6_cancel_30
  dsimp only
  have hl := b.l (i := 3) (by omega)
  have hn := SL_n hl
  refine ok_if (fun c => ok_if (fun _ => ok_some ⟨b, w, u⟩) fun c2 => ?_) fun c => ?_
  · obtain ⟨f0, f1⟩ := a1.resolve_left c2
    refine ok_bind (ok_ldel hl _ f0 f1) fun x hx => ok_nme fun r hr => ok_some ?_
    obtain ⟨r2, r1, r0⟩ := up_ls hr
    exact ⟨by rw [hr]; exact b.lst hx.1, w.len r2 (by rw [r0 0 (by omega)]) (by rw [r0 1 (by omega)]), u.len (r0 2 (by omega)) (by rw [r0 0 (by omega)]) (by rw [r0 1 (by omega)])⟩
  · have ci : i < SL (s.1 3) := by
      show i < nI _
      clear a1 a4 hn; grind
    have m73 : ∀ g, (g = -1 ∨ (0 ≤ g ∧ g < SL (s.1 3))) → Ok (f_X6_cancel_73 kk s v1 v2 g i) (KQ k) := by
      intro g hg
      unfold f_X6_cancel_73
      have i20 : i < 20 := by clear hg a1 a4 c; grind
      refine ok_nme fun y hy => hk _ (by clear hg hy hn ci c a1; grind) ⟨⟨b, w, u⟩, hg, ?_, ?_, ?_⟩ <;> dsimp only
      · rw [hy]; clear hg hn ci c a1 a4 hN hN2; grind
      · rw [hy]; clear hg hn ci c a1 a4 hN hN2; grind
      · rw [hy]; clear hg hn ci c a1; grind
    have m70 : Ok (f_X6_cancel_70 kk s v1 v2 i) (KQ k) := m73 i (Or.inr ⟨a2, ci⟩)
    exact ok_bind (ok_lget hl i a2 ci) fun z hz => ok_if (fun _ => ok_if (fun _ => ok_if (fun _ => m70) fun _ => m73 _ a1) fun _ => m70) fun _ => m73 _ a1
theorem ok_X6_cancel (hb : IB k τ) (hw : WK τ) (hu : UT τ) (x1 x2 : Int32) : Ok (f_X6_cancel τ x1 x2) (KQ k) := by
  have main : ∀ u1 : Int32, Ok (f_X6_cancel_16 τ x1 x2 u1) (KQ k) := by
    intro u1
    unfold f_X6_cancel_16
    refine ok_bind (ok_X6_start hb hw hu _ _ (by decide)) fun z hz => ?_
    obtain ⟨⟨-, hi⟩, -, b, w, u⟩ := hz
    refine ok_if (fun c => ?_) fun c => ok_some ⟨b, w, u⟩
    exact lpn24 (CaI k) (fun N kk t hN hN2 ha hk => st_X6_cancel N kk t hN hN2 ha hk) ⟨⟨b, w, u⟩, Or.inl rfl, (by dsimp only; decide), (by dsimp only; decide), (by dsimp only; decide)⟩
  unfold f_X6_cancel
  exact ok_bind (ok_X6_isIn _ _ _) fun z hz => ok_if (fun _ => main 1) fun c => main 0
/-! told of the yard, knock -/
theorem ok_X6_yardTold (hb : IB k τ) (x1 : Int32) : Ok (f_X6_yardTold τ x1) fun _ => True := by
  have first : ∀ i, i < 4 → ∀ y : Int32, y = (if (τ.1 i).length = 0 then 1 else 0) → y = 0 → 0 < SL (τ.1 i) ∧ SL (τ.1 i) ≤ 20 := by
    intro i hi y hy c
    have hl := SL_n (hb.l hi)
    refine ⟨Int32.lt_iff_toInt_lt.mpr ?_, hl.2.1⟩
    rw [hl.2.2]
    show (0 : Int) < _
    by_cases e : (τ.1 i).length = 0
    · rw [if_pos e] at hy
      rw [hy] at c
      exact absurd c (by decide)
    · omega
  have last : ∀ i, i < 4 → ∀ y : Int32, y = (if (τ.1 i).length = 0 then 1 else 0) → Ok (if y = 0 then (lget (τ.1 i) ((nI (τ.1 i).length) - 1)).bind fun z => some z else some (-1)) fun _ => True := by
    intro i hi y hy
    refine ok_if (fun c => ?_) fun c => ok_some trivial
    obtain ⟨q0, q1⟩ := first i hi y hy c
    have q2 : 0 ≤ SL (τ.1 i) - 1 ∧ SL (τ.1 i) - 1 < SL (τ.1 i) := by
      clear hy c
      generalize SL (τ.1 i) = S at *
      constructor <;> grind
    exact ok_bind (ok_lget (hb.l hi) _ q2.1 q2.2) fun z hz => ok_some trivial
  unfold f_X6_yardTold
  refine ok_if (fun _ => ok_some trivial) fun _ => ok_if (fun _ => ok_nme fun y hy => ?_) fun _ => ok_if (fun _ => ok_nme fun y hy => last 3 (by omega) y hy) fun _ => ok_if (fun _ => ok_some trivial) fun _ => ok_if (fun _ => ok_nme fun y hy => last 2 (by omega) y hy) fun _ => ok_if (fun _ => ok_some trivial) fun _ => ok_if (fun _ => ok_bind (ok_hasNext hb) fun z hz => ok_bind (ok_X6_one _) fun z hz => ok_some trivial) fun _ => ok_some trivial
  refine ok_if (fun c => ?_) fun c => ok_some trivial
  exact ok_bind (ok_lget (hb.l (i := 3) (by omega)) _ (by decide) (first 3 (by omega) y hy c).1) fun z hz => ok_some trivial
theorem ok_X6_yard (hb : IB k τ) (hw : WK τ) (hu : UT τ) (x1 : Int32) : Ok (f_X6_yard τ x1) (KQ k) := by
  have main : ∀ u1 : Int32, Ok (f_X6_yard_16 τ x1 u1) (KQ k) := by
    intro u1
    unfold f_X6_yard_16
    refine ok_bind (ok_X6_start hb hw hu _ _ (by decide)) fun z hz => ?_
    obtain ⟨⟨-, hi⟩, -, b, w, u⟩ := hz
    exact ok_if (fun c => ok_bind (ok_X6_yardTold b _) fun y hy => ok_some ⟨b, w, u⟩) fun c => ok_some ⟨b, w, u⟩
  unfold f_X6_yard
  exact ok_bind (ok_X6_isIn _ _ _) fun z hz => ok_if (fun _ => main 1) fun c => main 0
theorem ok_X6_knock (hb : IB k τ) (hw : WK τ) (hu : UT τ) : Ok (f_X6_knock τ) fun r => r.1 = k + 1 ∧ KQ (k + 1) r := by
  unfold f_X6_knock
  refine ok_nme fun t ht => ok_nme fun t2 ht2 => ok_some ?_
  obtain ⟨l1, e1, n1⟩ := up_sc ht
  obtain ⟨l2, e2, n2⟩ := up_sc ht2
  have e : t2.2 4 = k + 1 := by rw [e2, n1 4 (by omega), hb.2]
  refine ⟨e, ⟨by dsimp only; rw [l2, l1]; exact hb.1, e⟩, ?_, hu.eq (l2.trans l1)⟩
  have w1 : WK t := by rw [ht]; exact hw.sc (by omega)
  rw [ht2]; exact w1.sc (by omega)
end OKV
end
