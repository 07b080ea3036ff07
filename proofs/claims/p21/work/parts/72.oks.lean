/-! the model: walks, walkers, orders by hand -/
section OKW
variable {k : Int32} {τ : MS}
def Al {α : Type} (o : Option α) (Q : α → Prop) : Prop := ∀ r, o = some r → Q r
theorem al_bind {α β : Type} {o : Option β} {f : β → Option α} {P : β → Prop} {Q : α → Prop} (h : Al o P) (g : ∀ x, P x → Al (f x) Q) : Al (o.bind f) Q := by
  intro r e
  cases ho : o with
  | none => rw [ho] at e; cases e
  | some x => rw [ho] at e; exact g x (h x ho) r e
theorem al_if {α : Type} {c : Prop} [Decidable c] {a b : Option α} {Q : α → Prop} (h1 : c → Al a Q) (h2 : ¬ c → Al b Q) : Al (if c then a else b) Q := by
  by_cases hc : c
  · rw [if_pos hc]; exact h1 hc
  · rw [if_neg hc]; exact h2 hc
theorem al_nme {α β : Type} {v : β} {f : β → Option α} {Q : α → Prop} (h : ∀ x, x = v → Al (f x) Q) : Al (nm v f) Q := h v rfl
theorem al_some {α : Type} {r : α} {Q : α → Prop} (h : Q r) : Al (some r) Q := fun x e => by cases e; exact h
theorem al_any {α : Type} {o : Option α} : Al o fun _ => True := fun _ _ => trivial
theorem al_of {α : Type} {o : Option α} {Q : α → Prop} (h : Ok o Q) : Al o Q := by
  obtain ⟨r, e, hr⟩ := h
  intro x ex
  rw [e] at ex
  cases ex; exact hr
theorem al_ok {α : Type} {o : Option α} {P Q : α → Prop} (h : Ok o P) (g : Al o Q) : Ok o fun r => P r ∧ Q r := by
  obtain ⟨r, e, hr⟩ := h
  exact ⟨r, e, hr, g r e⟩
theorem al_gtr {x : Int32} : Al (gtr x) fun z => z < 2 := by
  unfold gtr
  exact al_if (fun _ => al_some (by omega)) fun _ => al_if (fun _ => al_some (by omega)) fun _ => fun r e => by cases e
theorem slip3 {x1 x2 x3 x4 : Int32} : Al (f_X6_slip τ x1 x2 x3 x4) fun r => r.1 3 = τ.1 3 := by
  have main : ∀ t : MS, t.1 3 = τ.1 3 → Al (f_X6_slip_21 t x1 x2 x3 x4) fun r => r.1 3 = τ.1 3 := by
    intro t ht
    unfold f_X6_slip_21
    refine al_bind al_any fun z _ => al_bind al_any fun z _ => al_bind al_any fun z _ => al_nme fun t2 ht2 => al_some ?_
    rw [(up_ls ht2).2.2 3 (by omega)]; exact ht
  unfold f_X6_slip
  refine al_if (fun _ => al_bind al_any fun z _ => al_nme fun t ht => main t ?_) fun _ => main τ rfl
  exact (up_ls ht).2.2 3 (by omega)
theorem come3 {x1 x2 x3 : Int32} : Al (f_X6_come τ x1 x2 x3) fun r => r.1 3 = τ.1 3 := by
  unfold f_X6_come
  refine al_bind al_gtr fun j hj => al_bind al_any fun z _ => al_nme fun t ht => al_bind (al_of (ok_X6_changed _ _)) fun r hr => al_some ?_
  rw [hr.1]
  exact (up_ls ht).2.2 3 (by omega)
theorem go3 {x1 x2 : Int32} : Al (f_X6_go τ x1 x2) fun r => r.2.1 3 = τ.1 3 := by
  unfold f_X6_go
  refine al_bind al_gtr fun j hj => al_bind al_any fun z _ => al_nme fun t ht => al_nme fun y _ => al_bind (al_of (ok_X6_changed _ _)) fun r hr => al_some ?_
  dsimp only
  rw [hr.1]
  exact (up_ls ht).2.2 3 (by omega)
theorem stepIn3 {x1 x2 x3 : Int32} : Al (f_X6_stepIn τ x1 x2 x3) fun r => r.1 3 = τ.1 3 := by
  have main : ∀ a b c d e : Int32, Al (f_X6_stepIn_15 τ a b c d e) fun r => r.1 3 = τ.1 3 := by
    intro a b c d e
    unfold f_X6_stepIn_15
    exact al_bind come3 fun z hz => al_bind slip3 fun z2 hz2 => al_some (hz2.trans hz)
  unfold f_X6_stepIn
  exact al_if (fun _ => main _ _ _ _ _) fun _ => al_bind al_any fun z _ => main _ _ _ _ _
theorem stepOut3 {x1 x2 : Int32} : Al (f_X6_stepOut τ x1 x2) fun r => r.2.1 3 = τ.1 3 := by
  have main : ∀ a b c d : Int32, Al (f_X6_stepOut_17 τ a b c d) fun r => r.2.1 3 = τ.1 3 := by
    intro a b c d
    unfold f_X6_stepOut_17
    exact al_bind go3 fun z hz => al_bind slip3 fun z2 hz2 => al_some (hz2.trans hz)
  unfold f_X6_stepOut
  exact al_if (fun _ => main _ _ _ _) fun _ => al_bind al_any fun z _ => main _ _ _ _
theorem move3 {x1 : Int32} : Al (f_X6_move τ x1) fun r => r.2.1 3 = τ.1 3 := by
  have m86 : ∀ a b c d : Int32, Al (f_X6_move_86 τ a b c d) fun r => r.2.1 3 = τ.1 3 := by
    intro a b c d
    unfold f_X6_move_86
    exact al_bind stepOut3 fun z hz => al_bind stepIn3 fun z2 hz2 => al_some (hz2.trans hz)
  have m59 : ∀ a b c d e f : Int32, Al (f_X6_move_59 τ a b c d e f) fun r => r.2.1 3 = τ.1 3 := by
    intro a b c d e f
    unfold f_X6_move_59
    exact al_bind al_any fun z _ => al_bind al_any fun z _ => al_if (fun _ => al_if (fun _ => m86 _ _ _ _) fun _ => m86 _ _ _ _) fun _ => al_some rfl
  have m18 : ∀ a b c : Int32, Al (f_X6_move_18 τ a b c) fun r => r.2.1 3 = τ.1 3 := by
    intro a b c
    unfold f_X6_move_18
    exact al_bind al_any fun z _ => al_if (fun _ => al_some rfl) fun _ => al_bind al_any fun z _ => al_if (fun _ => al_some rfl) fun _ => al_if (fun _ => m59 _ _ _ _ _ _) fun _ => al_bind al_any fun z _ => m59 _ _ _ _ _ _
  unfold f_X6_move
  exact al_nme fun y _ => al_if (fun _ => m18 _ _ _) fun _ => m18 _ _ _
def KQ (k : Int32) (r : Int32 × MS) : Prop := IB k r.2 ∧ WK r.2 ∧ UT r.2
/-! turn -/
def TuI (k N : Int32) (t : MS × Int32 × Int32 × Int32) : Prop := (IB k t.1 ∧ WK t.1) ∧ (t.2.1 = 0 ∨ t.2.1 = 1) ∧ (t.2.2.1 = TS t.1 t.2.1 ∧ 1 ≤ t.2.2.1) ∧ 1 ≤ t.2.2.2 ∧ t.2.2.2 ≤ 20 ∧ 20 ≤ t.2.2.2 + N
theorem st_X6_turn (N : Int32) (kk) (t) (hN : 0 ≤ N) (hN2 : N ≤ 63) (ha : TuI k N t) (hk : ∀ b, 1 ≤ N → TuI k (N - 1) b → Ok (kk b) (KQ k)) : Ok (f_X6_turn_28 kk t) (KQ k) := by
  obtain ⟨s, v1, v2, i⟩ := t
  obtain ⟨⟨b, w⟩, p, ⟨a1, a2⟩, a3, a4, a5⟩ := ha
  dsimp only at b w p a1 a2 a3 a4 a5
  unfold f_X6_turn_28
  dsimp only
  have hts := b.ts (x := v1)
  refine ok_if (fun c => ?_) fun c => ?_
  · refine ok_bind (ok_X6_changed _ _) fun r hr => ?_
    have br := hr.ib b
    have wr : WK r := CH.wk (τ := s) (t := s) w rfl p (fun _ => rfl) (fun _ => rfl) hr
    refine ok_bind (ok_X6_tear br wr) fun r2 hr2 => ?_
    obtain ⟨b2, w2, u2, -, e0, e1⟩ := hr2
    have e : TS r2 v1 = TS s v1 := by unfold TS; rw [e0, e1, hr.1]
    exact ok_bind (ok_X6_get b2 _ _ p (by decide) (show (0 : Int32) < TS r2 v1 by rw [e, ← a1]; grind)) fun z hz => ok_some ⟨b2, w2, u2⟩
  · have hj : ∃ j, j < 2 ∧ gtr v1 = some j ∧ TS s v1 = SL (s.1 j) := by
      rcases p with p | p <;> subst p
      · exact ⟨0, by omega, rfl, rfl⟩
      · exact ⟨1, by omega, rfl, rfl⟩
    obtain ⟨j, hj, hg, hs⟩ := hj
    have G : Ok (gtr v1) (fun y => j = y) := ⟨j, hg, rfl⟩
    refine ok_bind G fun _ e => ?_
    subst e
    refine ok_bind G fun _ e => ?_
    subst e
    have hl := b.l (i := j) (by omega)
    have hl1 : (s.1 j).length ≤ cap j := hl.1
    have ci : i < SL (s.1 j) := by rw [← hs, ← a1]; clear a5; grind
    refine ok_bind (ok_ldel hl i (by clear a5; grind) ci) fun x hx => ok_nme fun t ht => ?_
    obtain ⟨t2, t1, t0⟩ := up_ls ht
    have bt : IB k t := by rw [ht]; exact b.lst hx.1
    rw [t1]
    refine ok_bind (ok_lins hx.1 0 _ (by decide) (SL_n hx.1).1 (by have := hx.2.1; omega) (hl.getD _)) fun x2 hx2 => ok_nme fun t3 ht3 => ok_nme fun y hy => ?_
    obtain ⟨s2, s1, s0⟩ := up_ls ht3
    have b3 : IB k t3 := by rw [ht3]; exact bt.lst hx2.1
    have len : ∀ q, (t3.1 q).length = (s.1 q).length := by
      intro q
      by_cases e : q = j
      · subst e
        rw [s1, hx2.2]; exact hx.2.1
      · rw [s0 q e, t0 q e]
    have w3 : WK t3 := w.len (s2.trans t2) (len 0) (len 1)
    have hts3 : TS t3 v1 = TS s v1 := by unfold TS SL; rw [len 0, len 1]
    have a6 : v2 ≤ 20 := by rw [a1]; exact hts.2
    have ci2 : i < v2 := by rw [a1, hs]; exact ci
    refine hk _ (by clear a1 hs ci len t0 s0 t2 s2 hts hts3 w3 b3 hx hx2 t1 s1 hl1; grind) ⟨⟨b3, w3⟩, p, ⟨a1.trans hts3.symm, a2⟩, ?_, ?_, ?_⟩ <;> dsimp only
    · rw [hy]; clear a1 hs ci a5 hN hN2; grind
    · rw [hy]; clear hs ci a5 hN hN2; grind
    · rw [hy]; clear a1 hs ci; grind
theorem ok_X6_turn (hb : IB k τ) (hw : WK τ) (hu : UT τ) (x1 : Int32) : Ok (f_X6_turn τ x1) (KQ k) := by
  unfold f_X6_turn
  refine ok_bind (ok_X6_isNoTrack _) fun z hz => ok_bind (ok_X6_start hb hw hu _ _ (by decide)) fun z2 hz2 => ?_
  obtain ⟨⟨-, hi⟩, -, b, w, u⟩ := hz2
  refine ok_if (fun c => ?_) fun c => ok_some ⟨b, w, u⟩
  obtain ⟨i0, i1⟩ := hi c
  have p := hz i0
  refine ok_bind (ok_X6_size b _ p) fun y hy => ok_if (fun _ => ok_some ⟨b, w, u⟩) fun c4 => ?_
  have hy : y = TS z2.2 x1 ∧ 0 ≤ y ∧ y ≤ 20 := hy
  refine lpn24 (TuI k) (fun N kk t hN hN2 ha hk => st_X6_turn N kk t hN hN2 ha hk) ⟨⟨b, w⟩, p, ⟨hy.1, ?_⟩, (by dsimp only; decide), (by dsimp only; decide), (by dsimp only; decide)⟩
  dsimp only
  grind
/-! walk, step, pluck -/
theorem ok_walk34 (hb : IB k τ) (hw : WK τ) (hu : UT τ) (u1 : Int32) : Ok (f_X6_walk_34 τ u1) (KQ k) := by
  unfold f_X6_walk_34
  refine ok_nme fun t ht => ok_nme fun t2 ht2 => ?_
  obtain ⟨l1, e1, n1⟩ := up_sc ht
  obtain ⟨l2, e2, n2⟩ := up_sc ht2
  have b : IB k t2 := hb.eq (l2.trans l1) ((n2 4 (by omega)).trans (n1 4 (by omega)))
  have w : WK t2 := hw.noH (Or.inl e2) (by rw [l2, l1]) fun q hq => (n2 q (by omega)).trans (n1 q (by omega))
  have u : UT t2 := hu.eq (l2.trans l1)
  exact ok_bind (ok_size0 b) fun y hy => ok_some ⟨b, w, u⟩
theorem ok_X6_walk (hb : IB k τ) (hw : WK τ) (hu : UT τ) (x1 : Int32) : Ok (f_X6_walk τ x1) (KQ k) := by
  have main : ∀ s v u, IB k s → WK s → UT s → Ok (f_X6_walk_15 s v u) (KQ k) := by
    intro s v u b w q
    unfold f_X6_walk_15
    refine ok_nme fun t ht => ?_
    have bt : IB k t := by rw [ht]; exact b.sc (by omega)
    have wt : WK t := by rw [ht]; exact w.sc (by omega)
    have ut : UT t := by rw [ht]; exact q.sc
    exact ok_if (fun _ => ok_walk34 bt wt ut _) fun _ => ok_bind (ok_size0 bt) fun y hy => ok_walk34 bt wt ut _
  unfold f_X6_walk
  refine ok_nme fun t ht => ?_
  have bt : IB k t := by rw [ht]; exact hb.sc (by omega)
  have wt : WK t := by rw [ht]; exact hw.sc (by omega)
  have ut : UT t := by rw [ht]; exact hu.sc
  exact ok_if (fun _ => main _ _ _ bt wt ut) fun _ => main _ _ _ bt wt ut
theorem ok_hasNext (hb : IB k τ) : Ok (f_X6_hasNext τ) fun r => ¬ r = 0 → 0 ≤ τ.2 2 ∧ τ.2 2 < SL (τ.1 0) := by
  unfold f_X6_hasNext
  refine ok_if (fun _ => ok_some fun h => absurd rfl h) fun _ => ok_bind (ok_size0 hb) fun y hy => ok_bind (ok_X6_isIn _ _ _) fun z hz => ok_if (fun _ => ok_some fun h => absurd rfl h) fun c => ok_some fun _ => ?_
  have q := hz.2 c
  refine ⟨q.1, ?_⟩
  rw [← hy.1]
  clear hz
  grind
theorem ok_X6_step (hb : IB k τ) (hw : WK τ) (hu : UT τ) : Ok (f_X6_step τ) (KQ k) := by
  have main : ∀ u1, Ok (f_X6_step_13 τ u1) (KQ k) := by
    intro u1
    unfold f_X6_step_13
    refine ok_bind (ok_X6_start hb hw hu _ _ (by decide)) fun z hz => ?_
    obtain ⟨-, -, b, w, u⟩ := hz
    refine ok_if (fun c => ok_bind (ok_hasNext b) fun y hy => ok_if (fun _ => ok_some ⟨b, w, u⟩) fun c2 => ok_nme fun t ht => ?_) fun c => ok_some ⟨b, w, u⟩
    have q := hy c2
    obtain ⟨l1, e1, n1⟩ := up_sc ht
    have bt : IB k t := b.eq l1 (n1 4 (by omega))
    have wt : WK t := w.noH (Or.inr (by rw [e1, l1]; exact q)) (by rw [l1]) fun q hq => n1 q (by omega)
    have ut : UT t := u.eq l1
    have fin : ∀ a c, Ok (f_X6_step_58 t a c) (KQ k) := by
      intro a c
      unfold f_X6_step_58
      refine ok_nme fun t2 ht2 => ?_
      obtain ⟨l2, e2, n2⟩ := up_sc ht2
      have b2 : IB k t2 := by rw [ht2]; exact bt.sc (by omega)
      have w2 : WK t2 := by rw [ht2]; exact wt.sc (by omega)
      have u2 : UT t2 := by rw [ht2]; exact ut.sc
      have e3 : t2.2 3 = z.2.2 2 := (n2 3 (by omega)).trans e1
      exact ok_bind (ok_get0 b2 _ (by rw [e3]; exact q.1) (by rw [e3, l2, l1]; exact q.2)) fun y hy => ok_some ⟨b2, w2, u2⟩
    exact ok_if (fun _ => fin _ _) fun _ => fin _ _
  unfold f_X6_step
  exact ok_if (fun _ => main _) fun _ => main _
theorem ok_X6_pluck (hb : IB k τ) (hw : WK τ) (hu : UT τ) : Ok (f_X6_pluck τ) (KQ k) := by
  have main : ∀ u1, Ok (f_X6_pluck_13 τ u1) (KQ k) := by
    intro u1
    unfold f_X6_pluck_13
    refine ok_bind (ok_X6_start hb hw hu _ _ (by decide)) fun z hz => ?_
    obtain ⟨-, -, b, w, u⟩ := hz
    refine ok_if (fun c => ok_if (fun _ => ok_some ⟨b, w, u⟩) fun c2 => ?_) fun c => ok_some ⟨b, w, u⟩
    obtain ⟨h0, h1⟩ := w.1.resolve_left c2
    have G : Ok (gtr 0) (fun y => 0 = y) := ⟨0, rfl, rfl⟩
    refine ok_bind G fun _ e => ?_
    subst e
    refine ok_bind (ok_ldel (b.l (i := 0) (by omega)) _ h0 h1) fun x hx => ok_nme fun t ht => ?_
    obtain ⟨t2, t1, t0⟩ := up_ls ht
    have bt : IB k t := by rw [ht]; exact b.lst hx.1
    have fin : ∀ s : MS, s.1 = t.1 → (∀ q, q ≠ 2 → s.2 q = t.2 q) → Ok (f_X6_pluck_70 s) (KQ k) := by
      intro s ls ns
      unfold f_X6_pluck_70
      refine ok_nme fun r hr => ?_
      obtain ⟨l3, e3, n3⟩ := up_sc hr
      have b3 : IB k r := bt.eq (l3.trans ls) ((n3 4 (by omega)).trans (ns 4 (by omega)))
      have w3 : WK r := w.noH (Or.inl e3) (by rw [l3, ls]; exact t0 1 (by omega)) fun q hq => (n3 q (by omega)).trans ((ns q (by omega)).trans (by rw [t2]))
      refine ok_bind (ok_X6_tear b3 w3) fun r2 hr2 => ?_
      obtain ⟨b4, w4, u4, -, -, -⟩ := hr2
      exact ok_bind (ok_size0 b4) fun y hy => ok_some ⟨b4, w4, u4⟩
    refine ok_if (fun _ => ok_nme fun s hs => ?_) fun _ => fin t rfl fun _ _ => rfl
    obtain ⟨l3, e3, n3⟩ := up_sc hs
    exact fin s l3 n3
  unfold f_X6_pluck
  exact ok_if (fun _ => main _) fun _ => main _
/-! replace -/
theorem ok_X6_replace (hb : IB k τ) (hw : WK τ) (hu : UT τ) (x1 x2 x3 : Int32) : Ok (f_X6_replace τ x1 x2 x3) (KQ k) := by
  unfold f_X6_replace
  refine ok_bind (ok_X6_isNoPlace _) fun z hz => ok_bind (ok_X6_start hb hw hu _ _ (by decide)) fun z2 hz2 => ?_
  obtain ⟨⟨-, hi⟩, -, b, w, u⟩ := hz2
  refine ok_if (fun c => ?_) fun c => ok_some ⟨b, w, u⟩
  obtain ⟨i0, i1⟩ := hi c
  have p := hz i0
  refine ok_bind (ok_X6_isNoPiece _ _) fun z3 hz3 => ok_bind (ok_X6_refuse b w u _ _ i1 (by decide)) fun z4 hz4 => ?_
  obtain ⟨⟨-, hi4⟩, -, b4, w4, u4⟩ := hz4
  refine ok_if (fun c4 => ?_) fun c4 => ok_some ⟨b4, w4, u4⟩
  refine ok_bind (ok_size1 b4) fun y hy => ok_if (fun c5 => ?_) fun c5 => ok_some ⟨b4, w4, u4⟩
  refine ok_bind (ok_X6_tear b4 w4) fun t ht => ?_
  obtain ⟨bt, wt, ut, -, -, e1⟩ := ht
  have G : Ok (gtr 1) (fun y => 1 = y) := ⟨1, rfl, rfl⟩
  refine ok_bind G fun _ e => ?_
  subst e
  refine ok_bind (ok_X6_code _ _ (hz3 (hi4 c4).1)) fun v hv => ?_
  refine ok_bind (ok_lset (bt.l (i := 1) (by omega)) _ _ p.1 (by rw [e1, ← hy.1]; exact c5) hv) fun x hx => ok_nme fun r hr => ok_some ?_
  obtain ⟨r2, r1, r0⟩ := up_ls hr
  have len : ∀ q, (r.1 q).length = (t.1 q).length := by
    intro q
    by_cases e : q = 1
    · subst e
      rw [r1]; exact hx.2
    · rw [r0 q e]
  exact ⟨by rw [hr]; exact bt.lst hx.1, wt.len r2 (len 0) (len 1), ut.len (r0 2 (by omega)) (len 0) (len 1)⟩
/-! stand, forth, back -/
theorem ok_stand23 (hb : IB k τ) (hw : WK τ) (hu : UT τ) (v1 v2 u1 : Int32) (p : u1 = 0 → (v1 = 0 ∨ v1 = 1) ∧ 0 ≤ v2) : Ok (f_X6_stand_23 τ v1 v2 u1) (KQ k) := by
  unfold f_X6_stand_23
  refine ok_bind (ok_X6_start hb hw hu _ _ (by decide)) fun z hz => ?_
  obtain ⟨⟨-, hi⟩, -, b, w, u⟩ := hz
  refine ok_if (fun c => ?_) fun c => ok_some ⟨b, w, u⟩
  obtain ⟨p1, p2⟩ := p (hi c).1
  refine ok_bind (ok_size1 b) fun y hy => ok_if (fun c2 => ?_) fun c2 => ok_some ⟨b, w, u⟩
  obtain ⟨j, hj, -, hg⟩ := gwk_ok p1
  have G : Ok (gwk v1) (fun y => j = y) := ⟨j, hg, rfl⟩
  refine ok_bind G fun _ e => ?_
  subst e
  refine ok_nme fun t ht => ok_bind G fun _ e => ?_
  subst e
  refine ok_nme fun t2 ht2 => ok_bind G fun _ e => ?_
  subst e
  refine ok_nme fun t3 ht3 => ok_some ?_
  obtain ⟨l1, e1, n1⟩ := up_sc ht
  obtain ⟨l2, e2, n2⟩ := up_sc ht2
  obtain ⟨l3, e3, n3⟩ := up_sc ht3
  have L : t3.1 = z.2.1 := l3.trans (l2.trans l1)
  have O : ∀ q, q ≠ 5 + 3 * j + 0 → q ≠ 5 + 3 * j + 1 → q ≠ 5 + 3 * j + 2 → t3.2 q = z.2.2 q := fun q a b c => (n3 q c).trans ((n2 q b).trans (n1 q a))
  have f0 : t3.2 (5 + 3 * j) = 1 := (n3 _ (by omega)).trans ((n2 _ (by omega)).trans e1)
  have f1 : t3.2 (5 + 3 * j + 1) = v2 := (n3 _ (by omega)).trans e2
  exact ⟨b.eq L (O 4 (by omega) (by omega) (by omega)), w.one hj L O (by rw [f0, f1, e3]; exact ⟨Or.inr (Or.inl rfl), fun _ => ⟨⟨p2, by rw [← hy.1]; exact c2⟩, Or.inl rfl⟩⟩), u.eq L⟩
theorem ok_X6_stand (hb : IB k τ) (hw : WK τ) (hu : UT τ) (x1 x2 : Int32) : Ok (f_X6_stand τ x1 x2) (KQ k) := by
  have m1 : Ok (f_X6_stand_18 τ x1 x2) (KQ k) := ok_stand23 hb hw hu _ _ _ fun e => absurd e (by decide)
  unfold f_X6_stand
  exact ok_bind (ok_X6_isNoWalker _) fun z hz => ok_if (fun c => ok_bind (ok_X6_isIn _ _ _) fun y hy => ok_if (fun _ => m1) fun c2 => ok_stand23 hb hw hu _ _ _ fun _ => ⟨hz c, (hy.2 c2).1⟩) fun _ => m1
end OKW
