/-! the model: states that are changed by hand -/
section OKH
variable {k : Int32} {τ : MS}
def TS (τ : MS) (x : Int32) : Int32 := if x = 0 then SL (τ.1 0) else SL (τ.1 1)
theorem SZ.ts {x1 d : Int32} {r : MS} (p : x1 = 0 ∨ x1 = 1) (h : SZ τ x1 d r) : TS r x1 = TS τ x1 + d := by
  obtain ⟨h0, h1⟩ := h
  rcases p with p | p <;> subst p
  · rw [if_pos rfl] at h0; unfold TS; rw [if_pos rfl, if_pos rfl]; exact h0
  · rw [if_pos rfl] at h1; unfold TS; rw [if_neg (by decide), if_neg (by decide)]; exact h1
theorem IB.ts (h : IB k τ) {x : Int32} : 0 ≤ TS τ x ∧ TS τ x ≤ 20 := by
  have h0 := SL_n (h.l (i := 0) (by omega))
  have h1 := SL_n (h.l (i := 1) (by omega))
  unfold TS
  split
  · exact ⟨h0.1, h0.2.1⟩
  · exact ⟨h1.1, h1.2.1⟩
theorem up_sc {f : MS} {t : MS} {i : Nat} {v : Int32} (ht : t = (f.1, va_up f.2 i v)) : t.1 = f.1 ∧ t.2 i = v ∧ ∀ j, j ≠ i → t.2 j = f.2 j := by
  subst ht
  exact ⟨rfl, up_eq, fun j h => up_ne h⟩
theorem up_ls {f : MS} {t : MS} {i : Nat} {v : List Int32} (ht : t = (va_up f.1 i v, f.2)) : t.2 = f.2 ∧ t.1 i = v ∧ ∀ j, j ≠ i → t.1 j = f.1 j := by
  subst ht
  exact ⟨rfl, up_eq, fun j h => up_ne h⟩
theorem WK.len {r : MS} (h : WK τ) (e2 : r.2 = τ.2) (e0 : (r.1 0).length = (τ.1 0).length) (e1 : (r.1 1).length = (τ.1 1).length) : WK r := by
  have s0 : SL (r.1 0) = SL (τ.1 0) := by unfold SL; rw [e0]
  have s1 : SL (r.1 1) = SL (τ.1 1) := by unfold SL; rw [e1]
  obtain ⟨a, b, c⟩ := h
  refine ⟨?_, ?_, ?_⟩
  · unfold WH; rw [e2, s0]; exact a
  · unfold Wj; rw [e2, s1]; exact b
  · unfold Wj; rw [e2, s1]; exact c
theorem UT.len {r : MS} (h : UT τ) (e2 : r.1 2 = τ.1 2) (e0 : (r.1 0).length = (τ.1 0).length) (e1 : (r.1 1).length = (τ.1 1).length) : UT r := by
  unfold UT
  rw [e2, e0, e1]; exact h
theorem UT.eq {r : MS} (h : UT τ) (e : r.1 = τ.1) : UT r := h.len (by rw [e]) (by rw [e]) (by rw [e])
theorem IB.eq {r : MS} (h : IB k τ) (e : r.1 = τ.1) (e4 : r.2 4 = τ.2 4) : IB k r := ⟨by rw [e]; exact h.1, by rw [e4]; exact h.2⟩
def WJ (s p h n : Int32) : Prop := (s = 0 ∨ s = 1 ∨ s = 2) ∧ (s = 1 → (0 ≤ p ∧ p ≤ n) ∧ (h = -1 ∨ (0 ≤ h ∧ h < n)))
theorem WK.of {r : MS} (h0 : WH r) (h1 : WJ (r.2 5) (r.2 6) (r.2 7) (SL (r.1 1))) (h2 : WJ (r.2 8) (r.2 9) (r.2 10) (SL (r.1 1))) : WK r := ⟨h0, h1, h2⟩
theorem WK.get (h : WK τ) {j : Nat} (hj : j < 2) : WJ (τ.2 (5 + 3 * j)) (τ.2 (5 + 3 * j + 1)) (τ.2 (5 + 3 * j + 2)) (SL (τ.1 1)) := by
  rcases (by omega : j = 0 ∨ j = 1) with e | e <;> subst e
  · exact h.2.1
  · exact h.2.2
theorem WJ.live {s p q n : Int32} (h : WJ s p q n) (a : ¬ s = 0) (b : ¬ s = 2) : s = 1 ∧ (0 ≤ p ∧ p ≤ n) ∧ (q = -1 ∨ (0 ≤ q ∧ q < n)) := by
  have e : s = 1 := (h.1.resolve_left a).resolve_right b
  exact ⟨e, h.2 e⟩
theorem WJ.dead {s p q n : Int32} (h : s = 0 ∨ s = 2) : WJ s p q n := by
  refine ⟨?_, fun e => ?_⟩
  · rcases h with h | h
    · exact Or.inl h
    · exact Or.inr (Or.inr h)
  · exfalso
    rcases h with h | h <;> (rw [h] at e; exact absurd e (by decide))
theorem WK.one {r : MS} {j : Nat} (hj : j < 2) (h : WK τ) (L : r.1 = τ.1) (O : ∀ q, q ≠ 5 + 3 * j + 0 → q ≠ 5 + 3 * j + 1 → q ≠ 5 + 3 * j + 2 → r.2 q = τ.2 q) (W : WJ (r.2 (5 + 3 * j)) (r.2 (5 + 3 * j + 1)) (r.2 (5 + 3 * j + 2)) (SL (τ.1 1))) : WK r := by
  have h0 : WH r := by unfold WH; rw [O 3 (by omega) (by omega) (by omega), L]; exact h.1
  rcases (by omega : j = 0 ∨ j = 1) with e | e <;> subst e
  · refine WK.of h0 (by rw [L]; exact W) ?_
    rw [L, O 8 (by omega) (by omega) (by omega), O 9 (by omega) (by omega) (by omega), O 10 (by omega) (by omega) (by omega)]
    exact h.2.2
  · refine WK.of h0 ?_ (by rw [L]; exact W)
    rw [L, O 5 (by omega) (by omega) (by omega), O 6 (by omega) (by omega) (by omega), O 7 (by omega) (by omega) (by omega)]
    exact h.2.1
theorem WK.noH {r : MS} (h : WK τ) (e3 : r.2 3 = -1 ∨ (0 ≤ r.2 3 ∧ r.2 3 < SL (r.1 0))) (e1 : r.1 1 = τ.1 1) (O : ∀ q, 5 ≤ q → r.2 q = τ.2 q) : WK r := by
  refine WK.of e3 ?_ ?_
  · rw [e1, O 5 (by omega), O 6 (by omega), O 7 (by omega)]; exact h.2.1
  · rw [e1, O 8 (by omega), O 9 (by omega), O 10 (by omega)]; exact h.2.2
theorem gwk_ok {x : Int32} (p : x = 0 ∨ x = 1) : ∃ z, z < 2 ∧ (x = 0 ∧ z = 0 ∨ x = 1 ∧ z = 1) ∧ gwk x = some z := by
  rcases p with p | p <;> subst p
  · exact ⟨0, by omega, Or.inl ⟨rfl, rfl⟩, rfl⟩
  · exact ⟨1, by omega, Or.inr ⟨rfl, rfl⟩, rfl⟩
theorem CH.wkj {t r : MS} {x2 : Int32} {j : Nat} (hx : x2 = 0 ∧ j = 0 ∨ x2 = 1 ∧ j = 1) (h0 : WH t) (W : WJ (t.2 (5 + 3 * j)) (t.2 (5 + 3 * j + 1)) (t.2 (5 + 3 * j + 2)) (SL (t.1 1))) (h : CH t 1 x2 r) : WK r := by
  obtain ⟨h1, -, -, -, h3⟩ := h
  obtain ⟨a, b0, b1, c0, c1⟩ := h3 (by decide)
  have W0 : WH r := by unfold WH; rw [a 3 (by omega) (by omega), h1]; exact h0
  rcases hx with ⟨e, f⟩ | ⟨e, f⟩ <;> subst e f
  · refine WK.of W0 ?_ (WJ.dead (c1 (by decide)))
    rw [b0 rfl, a 6 (by omega) (by omega), a 7 (by omega) (by omega), h1]; exact W
  · refine WK.of W0 (WJ.dead (c0 (by decide))) ?_
    rw [b1 rfl, a 9 (by omega) (by omega), a 10 (by omega) (by omega), h1]; exact W
theorem ok_size0 (hb : IB k τ) : Ok (f_X6_size τ 0) fun r => r = SL (τ.1 0) ∧ 0 ≤ r ∧ r ≤ 20 := ok_mono (ok_X6_size hb 0 (Or.inl rfl)) fun r h => h
theorem ok_size1 (hb : IB k τ) : Ok (f_X6_size τ 1) fun r => r = SL (τ.1 1) ∧ 0 ≤ r ∧ r ≤ 20 := ok_mono (ok_X6_size hb 1 (Or.inr rfl)) fun r h => h
theorem ok_get0 (hb : IB k τ) (x : Int32) (h0 : 0 ≤ x) (h1 : x < SL (τ.1 0)) : Ok (f_X6_get τ 0 x) fun r => 0 ≤ r ∧ r ≤ 999 := ok_X6_get hb 0 x (Or.inl rfl) h0 h1
theorem ok_get1 (hb : IB k τ) (x : Int32) (h0 : 0 ≤ x) (h1 : x < SL (τ.1 1)) : Ok (f_X6_get τ 1 x) fun r => 0 ≤ r ∧ r ≤ 999 := ok_X6_get hb 1 x (Or.inr rfl) h0 h1
/-! train and rotate -/
theorem one_j {j : Int32} (h : 0 ≤ j ∧ j ≤ 8) : 0 ≤ 1 + j ∧ 1 + j ≤ 9 := by grind
def TI (k N : Int32) (t : MS × Int32 × Int32 × Int32 × Int32 × Int32) : Prop := (IB k t.1 ∧ WK t.1 ∧ UT t.1) ∧ (t.2.1 = 0 ∨ t.2.1 = 1) ∧ (1 ≤ t.2.2.1 ∧ t.2.2.1 ≤ 9) ∧ (0 ≤ t.2.2.2.1 ∧ t.2.2.2.1 ≤ 99) ∧ t.2.2.2.2.1 ≤ 12 ∧ (0 ≤ t.2.2.2.2.2 ∧ t.2.2.2.2.2 ≤ t.2.2.2.2.1) ∧ 20 ≤ t.2.2.2.2.2 + N ∧ TS t.1 t.2.1 + (t.2.2.2.2.1 - t.2.2.2.2.2) ≤ 20
theorem st_X6_train (N : Int32) (kk) (t) (hN : 0 ≤ N) (hN2 : N ≤ 63) (ha : TI k N t) (hk : ∀ b, 1 ≤ N → TI k (N - 1) b → Ok (kk b) fun r : Int32 × MS => IB k r.2 ∧ WK r.2 ∧ UT r.2) : Ok (f_X6_train_79 kk t) fun r => IB k r.2 ∧ WK r.2 ∧ UT r.2 := by
  obtain ⟨s, v1, v2, v3, v4, i⟩ := t
  obtain ⟨⟨b, w, u⟩, p, a1, a2, a3, a4, a5, a6⟩ := ha
  dsimp only at b w u p a1 a2 a3 a4 a5 a6
  unfold f_X6_train_79
  dsimp only
  refine ok_if (fun c => ok_bind (ok_X6_size b _ p) fun z hz => ok_some ⟨b, w, u⟩) fun c => ?_
  have hts := b.ts (x := v1)
  have c2 : i < v4 := by clear a5 a6 hts a1 a2 hN hN2; grind
  have j1 := jr9 (x := (v2 - 1) + i) (by clear a5 a6 hts a2 hN hN2; grind)
  have j2 := jr100 (x := v3 + 7 * i) (by clear a5 a6 hts a1 hN hN2; grind)
  refine ok_bind (ok_X6_code _ _ ⟨one_j j1, j2⟩) fun z hz => ?_
  clear j1 j2
  have q : TS s v1 < 20 := by clear hz a1 a2 hN hN2 a5; grind
  refine ok_bind (ok_X6_stepIn b w u _ _ _ p q hz) fun z2 hz2 => ok_nme fun y hy => ?_
  obtain ⟨b2, w2, u2, -, s2⟩ := hz2
  have s2 := s2.ts p
  refine hk _ (by clear s2 hz q a6 a1 a2 hts; grind) ⟨⟨b2, w2, u2⟩, p, a1, a2, a3, ⟨?_, ?_⟩, ?_, ?_⟩ <;> dsimp only
  · clear s2 hz q a6 a1 a2 hts; grind
  · clear s2 hz q a6 a1 a2 hts a5; grind
  · clear s2 hz q a6 a1 a2 hts; grind
  · rw [s2, hy]
    clear hz a1 a2 hN hN2 a5 s2; grind
theorem ok_train41 (hb : IB k τ) (hw : WK τ) (hu : UT τ) (v1 v2 v3 v4 u1 : Int32) (h0 : τ.2 0 = 0) (p : v1 = 0 ∨ v1 = 1) (q : u1 = 0 → (1 ≤ v2 ∧ v2 ≤ 9) ∧ (0 ≤ v3 ∧ v3 ≤ 99) ∧ 1 ≤ v4 ∧ v4 ≤ 12) : Ok (f_X6_train_41 τ v1 v2 v3 v4 u1) fun r => IB k r.2 ∧ WK r.2 ∧ UT r.2 := by
  unfold f_X6_train_41
  refine ok_bind (ok_X6_refuse hb hw hu _ _ h0 (by decide)) fun z hz => ?_
  obtain ⟨⟨-, hi⟩, -, b, w, u⟩ := hz
  refine ok_if (fun c => ?_) fun c => ok_some ⟨b, w, u⟩
  obtain ⟨i0, i1⟩ := hi c
  obtain ⟨q1, q2, q3, q4⟩ := q i0
  refine ok_bind (ok_X6_size b _ p) fun y hy => ?_
  have hy : y = TS z.2 v1 ∧ 0 ≤ y ∧ y ≤ 20 := hy
  have main : ∀ uu : Int32, (uu = 0 → y + v4 ≤ 20) → Ok (f_X6_train_67 z.2 v1 v2 v3 v4 uu) fun r => IB k r.2 ∧ WK r.2 ∧ UT r.2 := by
    intro uu hh
    unfold f_X6_train_67
    refine ok_bind (ok_X6_refuse b w u _ _ i1 (by decide)) fun z2 hz2 => ?_
    obtain ⟨⟨-, hi2⟩, ⟨hl, -⟩, b2, w2, u2⟩ := hz2
    refine ok_if (fun c2 => ?_) fun c2 => ok_some ⟨b2, w2, u2⟩
    have e : TS z2.2 v1 = TS z.2 v1 := by unfold TS; rw [hl]
    refine lpn24 (TI k) (fun N kk t hN hN2 ha hk => st_X6_train N kk t hN hN2 ha hk) ⟨⟨b2, w2, u2⟩, p, q1, q2, q4, ⟨(by dsimp only; decide), Int32.le_trans (by dsimp only; decide) q3⟩, (by dsimp only; decide), ?_⟩
    dsimp only
    have := hh (hi2 c2).1
    rw [e, ← hy.1]
    rw [show v4 - 0 = v4 by grind]; exact this
  exact ok_if (fun c2 => main 0 fun _ => c2) fun c2 => main 1 fun e => absurd e (by decide)
theorem ok_X6_train (hb : IB k τ) (hw : WK τ) (hu : UT τ) (x1 x2 x3 x4 : Int32) : Ok (f_X6_train τ x1 x2 x3 x4) fun r => IB k r.2 ∧ WK r.2 ∧ UT r.2 := by
  unfold f_X6_train
  refine ok_bind (ok_X6_isNoTrack _) fun z hz => ok_bind (ok_X6_start hb hw hu _ _ (by decide)) fun z2 hz2 => ?_
  obtain ⟨⟨-, hi⟩, -, b, w, u⟩ := hz2
  refine ok_if (fun c => ?_) fun c => ok_some ⟨b, w, u⟩
  obtain ⟨i0, i1⟩ := hi c
  have p := hz i0
  have m1 : Ok (f_X6_train_36 z2.2 x1 x2 x3 x4) fun r => IB k r.2 ∧ WK r.2 ∧ UT r.2 := ok_train41 b w u _ _ _ _ _ i1 p fun e => absurd e (by decide)
  refine ok_bind (ok_X6_isNoPiece _ _) fun z3 hz3 => ok_if (fun c3 => ok_if (fun _ => m1) fun c4 => ok_bind (ok_X6_isIn _ _ _) fun z5 hz5 => ok_if (fun _ => m1) fun c5 => ?_) fun _ => m1
  obtain ⟨r1, r2⟩ := hz3 c3
  exact ok_train41 b w u _ _ _ _ _ i1 p fun _ => ⟨⟨by grind, r1.2⟩, r2, hz5.2 c5⟩
def RI6 (k N : Int32) (t : MS × Int32 × Int32 × Int32) : Prop := (IB k t.1 ∧ WK t.1 ∧ UT t.1) ∧ (t.2.1 = 0 ∨ t.2.1 = 1) ∧ (-6 ≤ t.2.2.1 ∧ t.2.2.1 ≤ 6) ∧ 1 ≤ TS t.1 t.2.1 ∧ 0 ≤ t.2.2.2 ∧ t.2.2.2 ≤ 20 ∧ 20 ≤ t.2.2.2 + N
theorem st_rot80 {Q : Int32 × MS → Prop} {kk : (MS × Int32 × Int32 × Int32) → Option (Int32 × MS)} {v1 v2 v3 : Int32} (b : IB k τ) (w : WK τ) (u : UT τ) (p : v1 = 0 ∨ v1 = 1) (q : 1 ≤ TS τ v1) (d d2 : Int32) (hk : ∀ r, IB k r → WK r → UT r → TS r v1 = TS τ v1 → Ok (kk (r, v1, v2, v3 + 1)) Q) : Ok (f_X6_rotate_80 kk τ v1 v2 v3 v1 d2 v1 d) Q := by
  unfold f_X6_rotate_80
  refine ok_bind (ok_X6_stepOut b w u _ _ p q) fun z hz => ?_
  obtain ⟨b1, w1, u1, v, -, s⟩ := hz
  have s := s.ts p
  have hts := b.ts (x := v1)
  refine ok_bind (ok_X6_stepIn b1 w1 u1 _ _ _ p (show TS z.2 v1 < 20 by rw [s]; grind) v) fun z2 hz2 => ?_
  obtain ⟨b2, w2, u2, -, s2⟩ := hz2
  have s2 := s2.ts p
  refine ok_nme fun y hy => ?_
  subst hy
  exact hk _ b2 w2 u2 (by rw [s2, s]; grind)
theorem st_X6_rotate (N : Int32) (kk) (t) (hN : 0 ≤ N) (hN2 : N ≤ 63) (ha : RI6 k N t) (hk : ∀ b, 1 ≤ N → RI6 k (N - 1) b → Ok (kk b) fun r : Int32 × MS => IB k r.2 ∧ WK r.2 ∧ UT r.2) : Ok (f_X6_rotate_50 kk t) fun r => IB k r.2 ∧ WK r.2 ∧ UT r.2 := by
  obtain ⟨s, v1, v2, i⟩ := t
  obtain ⟨⟨b, w, u⟩, p, ⟨a1, a2⟩, a3, a4, a5, a6⟩ := ha
  dsimp only at b w u p a1 a2 a3 a4 a5 a6
  unfold f_X6_rotate_50
  dsimp only
  refine ok_nme fun y hy => ok_if (fun c => ok_bind (ok_X6_get b _ _ p (by decide) (show (0 : Int32) < TS s v1 by clear a6; grind)) fun z hz => ok_some ⟨b, w, u⟩) fun c => ?_
  have hi : i < 6 := by clear a6 a3 a5 hN hN2; grind
  have main : ∀ r, IB k r → WK r → UT r → TS r v1 = TS s v1 → Ok (kk (r, v1, v2, i + 1)) fun r => IB k r.2 ∧ WK r.2 ∧ UT r.2 := by
    intro r b' w' u' e
    refine hk _ (by clear a3 a1 a2 hy c e; grind) ⟨⟨b', w', u'⟩, p, ⟨a1, a2⟩, by dsimp only; rw [e]; exact a3, ?_, ?_, ?_⟩ <;> dsimp only
    · clear a3 a1 a2 hy c e a6 hN hN2; grind
    · clear a3 a1 a2 hy c e a6 hN hN2; grind
    · clear a3 a1 a2 hy c e; grind
  refine ok_if (fun _ => ?_) fun _ => ?_ <;> unfold f_X6_rotate_69 <;> exact ok_if (fun _ => st_rot80 b w u p a3 _ _ main) fun _ => st_rot80 b w u p a3 _ _ main
theorem ok_X6_rotate (hb : IB k τ) (hw : WK τ) (hu : UT τ) (x1 x2 : Int32) : Ok (f_X6_rotate τ x1 x2) fun r => IB k r.2 ∧ WK r.2 ∧ UT r.2 := by
  unfold f_X6_rotate
  refine ok_bind (ok_X6_isNoTrack _) fun z hz => ok_bind (ok_X6_start hb hw hu _ _ (by decide)) fun z2 hz2 => ?_
  obtain ⟨⟨-, hi⟩, -, b, w, u⟩ := hz2
  refine ok_if (fun c => ?_) fun c => ok_some ⟨b, w, u⟩
  obtain ⟨i0, i1⟩ := hi c
  have p := hz i0
  have main : ∀ uu : Int32, (uu = 0 → -6 ≤ x2 ∧ x2 ≤ 6) → Ok (f_X6_rotate_29 z2.2 x1 x2 uu) fun r => IB k r.2 ∧ WK r.2 ∧ UT r.2 := by
    intro uu hh
    unfold f_X6_rotate_29
    refine ok_bind (ok_X6_refuse b w u _ _ i1 (by decide)) fun z3 hz3 => ?_
    obtain ⟨⟨-, hi3⟩, -, b3, w3, u3⟩ := hz3
    refine ok_if (fun c3 => ?_) fun c3 => ok_some ⟨b3, w3, u3⟩
    refine ok_bind (ok_X6_size b3 _ p) fun y hy => ok_if (fun _ => ok_some ⟨b3, w3, u3⟩) fun c4 => ?_
    have hy : y = TS z3.2 x1 ∧ 0 ≤ y ∧ y ≤ 20 := hy
    refine lpn24 (RI6 k) (fun N kk t hN hN2 ha hk => st_X6_rotate N kk t hN hN2 ha hk) ⟨⟨b3, w3, u3⟩, p, hh (hi3 c3).1, ?_, (by dsimp only; decide), (by dsimp only; decide), (by dsimp only; decide)⟩
    dsimp only
    rw [← hy.1]; grind
  exact ok_bind (ok_X6_isIn _ _ _) fun z4 hz4 => ok_if (fun _ => main 1 fun e => absurd e (by decide)) fun c4 => main 0 fun _ => hz4.2 c4
end OKH
