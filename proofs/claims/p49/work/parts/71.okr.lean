/-! the model: its methods come to their ends (written by okgenm.py) -/
section OKM
variable {k : Int32} {τ : MS}
theorem ok_X6_off (hb : IB k τ) (hw : WK τ) (hu : UT τ) (x1 : Int32) (x2 : Int32) (x3 : Int32) (p0 : x1 = 0 ∨ x1 = 1) : Ok (f_X6_off τ x1 x2 x3) (fun r => IB k r.2 ∧ WK r.2 ∧ UT r.2) := by
  unfold f_X6_off
  refine ok_bind (ok_X6_size (k := k) (by (first | assumption | trivial | exact arr_in (by grind) (by grind) (by omega) | exact arr_new (by grind) (by grind) | decide | grind)) _ (by (first | assumption | trivial | exact arr_in (by grind) (by grind) (by omega) | exact arr_new (by grind) (by grind) | decide | grind))) fun z5 hz5 => ?_
  obtain ⟨hz5e, hz5n, hz5m⟩ := hz5
  refine ok_if (fun hc => ?_) (fun hc => ?_)
  · refine ok_some ?_
    refine ⟨?_, ?_, ?_⟩ <;> (try dsimp only) <;> (first | assumption | trivial | exact arr_in (by grind) (by grind) (by omega) | exact arr_new (by grind) (by grind) | decide | grind)
  · refine ok_bind (ok_X6_stepOut (k := k) (by (first | assumption | trivial | exact arr_in (by grind) (by grind) (by omega) | exact arr_new (by grind) (by grind) | decide | grind)) (by (first | assumption | trivial | exact arr_in (by grind) (by grind) (by omega) | exact arr_new (by grind) (by grind) | decide | grind)) (by (first | assumption | trivial | exact arr_in (by grind) (by grind) (by omega) | exact arr_new (by grind) (by grind) | decide | grind)) _ _ (by (first | assumption | trivial | exact arr_in (by grind) (by grind) (by omega) | exact arr_new (by grind) (by grind) | decide | grind)) (by (first | assumption | trivial | exact arr_in (by grind) (by grind) (by omega) | exact arr_new (by grind) (by grind) | decide | grind))) fun z11 hz11 => ?_
    obtain ⟨hz11b, hz11w, hz11u, ⟨hz11v0, hz11v1⟩, hz11e, hz11s0, hz11s1⟩ := hz11
    refine ok_some ?_
    refine ⟨?_, ?_, ?_⟩ <;> (try dsimp only) <;> (first | assumption | trivial | exact arr_in (by grind) (by grind) (by omega) | exact arr_new (by grind) (by grind) | decide | grind)
theorem ok_X6_take (hb : IB k τ) (hw : WK τ) (hu : UT τ) (x1 : Int32) (x2 : Int32) : Ok (f_X6_take τ x1 x2) (fun r => IB k r.2 ∧ WK r.2 ∧ UT r.2) := by
  unfold f_X6_take
  refine ok_bind (ok_X6_isNoTrack _) fun z5 hz5 => ?_
  refine ok_bind (ok_X6_start (k := k) (by (first | assumption | trivial | exact arr_in (by grind) (by grind) (by omega) | exact arr_new (by grind) (by grind) | decide | grind)) (by (first | assumption | trivial | exact arr_in (by grind) (by grind) (by omega) | exact arr_new (by grind) (by grind) | decide | grind)) (by (first | assumption | trivial | exact arr_in (by grind) (by grind) (by omega) | exact arr_new (by grind) (by grind) | decide | grind)) _ _ (by (first | assumption | trivial | exact arr_in (by grind) (by grind) (by omega) | exact arr_new (by grind) (by grind) | decide | grind))) fun z10 hz10 => ?_
  obtain ⟨⟨hz10o, hz10i⟩, ⟨hz10l, hz10s⟩, hz10b, hz10w, hz10u⟩ := hz10
  have hz10l0 := congrFun hz10l 0
  have hz10l1 := congrFun hz10l 1
  refine ok_if (fun hc => ?_) (fun hc => ?_)
  · refine ok_bind (ok_X6_off (k := k) (by (first | assumption | trivial | exact arr_in (by grind) (by grind) (by omega) | exact arr_new (by grind) (by grind) | decide | grind)) (by (first | assumption | trivial | exact arr_in (by grind) (by grind) (by omega) | exact arr_new (by grind) (by grind) | decide | grind)) (by (first | assumption | trivial | exact arr_in (by grind) (by grind) (by omega) | exact arr_new (by grind) (by grind) | decide | grind)) _ _ _ (by (first | assumption | trivial | exact arr_in (by grind) (by grind) (by omega) | exact arr_new (by grind) (by grind) | decide | grind))) fun z16 hz16 => ?_
    obtain ⟨hz16_0, hz16_1, hz16_2⟩ := hz16
    refine ok_some ?_
    refine ⟨?_, ?_, ?_⟩ <;> (try dsimp only) <;> (first | assumption | trivial | exact arr_in (by grind) (by grind) (by omega) | exact arr_new (by grind) (by grind) | decide | grind)
  · refine ok_some ?_
    refine ⟨?_, ?_, ?_⟩ <;> (try dsimp only) <;> (first | assumption | trivial | exact arr_in (by grind) (by grind) (by omega) | exact arr_new (by grind) (by grind) | decide | grind)
theorem ok_X6_poll (hb : IB k τ) (hw : WK τ) (hu : UT τ) (x1 : Int32) (x2 : Int32) : Ok (f_X6_poll τ x1 x2) (fun r => IB k r.2 ∧ WK r.2 ∧ UT r.2) := by
  unfold f_X6_poll
  refine ok_bind (ok_X6_isNoTrack _) fun z5 hz5 => ?_
  refine ok_bind (ok_X6_start (k := k) (by (first | assumption | trivial | exact arr_in (by grind) (by grind) (by omega) | exact arr_new (by grind) (by grind) | decide | grind)) (by (first | assumption | trivial | exact arr_in (by grind) (by grind) (by omega) | exact arr_new (by grind) (by grind) | decide | grind)) (by (first | assumption | trivial | exact arr_in (by grind) (by grind) (by omega) | exact arr_new (by grind) (by grind) | decide | grind)) _ _ (by (first | assumption | trivial | exact arr_in (by grind) (by grind) (by omega) | exact arr_new (by grind) (by grind) | decide | grind))) fun z10 hz10 => ?_
  obtain ⟨⟨hz10o, hz10i⟩, ⟨hz10l, hz10s⟩, hz10b, hz10w, hz10u⟩ := hz10
  have hz10l0 := congrFun hz10l 0
  have hz10l1 := congrFun hz10l 1
  refine ok_if (fun hc => ?_) (fun hc => ?_)
  · refine ok_bind (ok_X6_off (k := k) (by (first | assumption | trivial | exact arr_in (by grind) (by grind) (by omega) | exact arr_new (by grind) (by grind) | decide | grind)) (by (first | assumption | trivial | exact arr_in (by grind) (by grind) (by omega) | exact arr_new (by grind) (by grind) | decide | grind)) (by (first | assumption | trivial | exact arr_in (by grind) (by grind) (by omega) | exact arr_new (by grind) (by grind) | decide | grind)) _ _ _ (by (first | assumption | trivial | exact arr_in (by grind) (by grind) (by omega) | exact arr_new (by grind) (by grind) | decide | grind))) fun z16 hz16 => ?_
    obtain ⟨hz16_0, hz16_1, hz16_2⟩ := hz16
    refine ok_some ?_
    refine ⟨?_, ?_, ?_⟩ <;> (try dsimp only) <;> (first | assumption | trivial | exact arr_in (by grind) (by grind) (by omega) | exact arr_new (by grind) (by grind) | decide | grind)
  · refine ok_some ?_
    refine ⟨?_, ?_, ?_⟩ <;> (try dsimp only) <;> (first | assumption | trivial | exact arr_in (by grind) (by grind) (by omega) | exact arr_new (by grind) (by grind) | decide | grind)
theorem ok_X6_pop (hb : IB k τ) (hw : WK τ) (hu : UT τ) (x1 : Int32) : Ok (f_X6_pop τ x1) (fun r => IB k r.2 ∧ WK r.2 ∧ UT r.2) := by
  unfold f_X6_pop
  refine ok_bind (ok_X6_isNoTrack _) fun z5 hz5 => ?_
  refine ok_bind (ok_X6_start (k := k) (by (first | assumption | trivial | exact arr_in (by grind) (by grind) (by omega) | exact arr_new (by grind) (by grind) | decide | grind)) (by (first | assumption | trivial | exact arr_in (by grind) (by grind) (by omega) | exact arr_new (by grind) (by grind) | decide | grind)) (by (first | assumption | trivial | exact arr_in (by grind) (by grind) (by omega) | exact arr_new (by grind) (by grind) | decide | grind)) _ _ (by (first | assumption | trivial | exact arr_in (by grind) (by grind) (by omega) | exact arr_new (by grind) (by grind) | decide | grind))) fun z10 hz10 => ?_
  obtain ⟨⟨hz10o, hz10i⟩, ⟨hz10l, hz10s⟩, hz10b, hz10w, hz10u⟩ := hz10
  have hz10l0 := congrFun hz10l 0
  have hz10l1 := congrFun hz10l 1
  refine ok_if (fun hc => ?_) (fun hc => ?_)
  · refine ok_bind (ok_X6_off (k := k) (by (first | assumption | trivial | exact arr_in (by grind) (by grind) (by omega) | exact arr_new (by grind) (by grind) | decide | grind)) (by (first | assumption | trivial | exact arr_in (by grind) (by grind) (by omega) | exact arr_new (by grind) (by grind) | decide | grind)) (by (first | assumption | trivial | exact arr_in (by grind) (by grind) (by omega) | exact arr_new (by grind) (by grind) | decide | grind)) _ _ _ (by (first | assumption | trivial | exact arr_in (by grind) (by grind) (by omega) | exact arr_new (by grind) (by grind) | decide | grind))) fun z16 hz16 => ?_
    obtain ⟨hz16_0, hz16_1, hz16_2⟩ := hz16
    refine ok_some ?_
    refine ⟨?_, ?_, ?_⟩ <;> (try dsimp only) <;> (first | assumption | trivial | exact arr_in (by grind) (by grind) (by omega) | exact arr_new (by grind) (by grind) | decide | grind)
  · refine ok_some ?_
    refine ⟨?_, ?_, ?_⟩ <;> (try dsimp only) <;> (first | assumption | trivial | exact arr_in (by grind) (by grind) (by omega) | exact arr_new (by grind) (by grind) | decide | grind)
theorem ok_X6_serve (hb : IB k τ) (hw : WK τ) (hu : UT τ) (x1 : Int32) (x2 : Int32) : Ok (f_X6_serve τ x1 x2) (fun r => IB k r.2 ∧ WK r.2 ∧ UT r.2) := by
  unfold f_X6_serve
  refine ok_bind (ok_X6_isNoTrack _) fun z10 hz10 => ?_
  refine ok_bind (ok_X6_start (k := k) (by (first | assumption | trivial | exact arr_in (by grind) (by grind) (by omega) | exact arr_new (by grind) (by grind) | decide | grind)) (by (first | assumption | trivial | exact arr_in (by grind) (by grind) (by omega) | exact arr_new (by grind) (by grind) | decide | grind)) (by (first | assumption | trivial | exact arr_in (by grind) (by grind) (by omega) | exact arr_new (by grind) (by grind) | decide | grind)) _ _ (by (first | assumption | trivial | exact arr_in (by grind) (by grind) (by omega) | exact arr_new (by grind) (by grind) | decide | grind))) fun z15 hz15 => ?_
  obtain ⟨⟨hz15o, hz15i⟩, ⟨hz15l, hz15s⟩, hz15b, hz15w, hz15u⟩ := hz15
  have hz15l0 := congrFun hz15l 0
  have hz15l1 := congrFun hz15l 1
  refine ok_if (fun hc => ?_) (fun hc => ?_)
  · refine ok_if (fun hc => ?_) (fun hc => ?_)
    · unfold f_X6_serve_29
      try dsimp only
      refine ok_bind (ok_X6_off (k := k) (by (first | assumption | trivial | exact arr_in (by grind) (by grind) (by omega) | exact arr_new (by grind) (by grind) | decide | grind)) (by (first | assumption | trivial | exact arr_in (by grind) (by grind) (by omega) | exact arr_new (by grind) (by grind) | decide | grind)) (by (first | assumption | trivial | exact arr_in (by grind) (by grind) (by omega) | exact arr_new (by grind) (by grind) | decide | grind)) _ _ _ (by (first | assumption | trivial | exact arr_in (by grind) (by grind) (by omega) | exact arr_new (by grind) (by grind) | decide | grind))) fun z5 hz5 => ?_
      obtain ⟨hz5_0, hz5_1, hz5_2⟩ := hz5
      refine ok_some ?_
      refine ⟨?_, ?_, ?_⟩ <;> (try dsimp only) <;> (first | assumption | trivial | exact arr_in (by grind) (by grind) (by omega) | exact arr_new (by grind) (by grind) | decide | grind)
    · unfold f_X6_serve_29
      try dsimp only
      refine ok_bind (ok_X6_off (k := k) (by (first | assumption | trivial | exact arr_in (by grind) (by grind) (by omega) | exact arr_new (by grind) (by grind) | decide | grind)) (by (first | assumption | trivial | exact arr_in (by grind) (by grind) (by omega) | exact arr_new (by grind) (by grind) | decide | grind)) (by (first | assumption | trivial | exact arr_in (by grind) (by grind) (by omega) | exact arr_new (by grind) (by grind) | decide | grind)) _ _ _ (by (first | assumption | trivial | exact arr_in (by grind) (by grind) (by omega) | exact arr_new (by grind) (by grind) | decide | grind))) fun z5 hz5 => ?_
      obtain ⟨hz5_0, hz5_1, hz5_2⟩ := hz5
      refine ok_some ?_
      refine ⟨?_, ?_, ?_⟩ <;> (try dsimp only) <;> (first | assumption | trivial | exact arr_in (by grind) (by grind) (by omega) | exact arr_new (by grind) (by grind) | decide | grind)
  · refine ok_some ?_
    refine ⟨?_, ?_, ?_⟩ <;> (try dsimp only) <;> (first | assumption | trivial | exact arr_in (by grind) (by grind) (by omega) | exact arr_new (by grind) (by grind) | decide | grind)
theorem st_X6_found_6 {x1 : Int32} {x2 : Int32} {x3 : Int32} (hb : IB k τ) (N : Int32) (kk : (Int32 × Int32 × Int32 × Int32 × Int32) → Option Int32) (t : (Int32 × Int32 × Int32 × Int32 × Int32)) (hN : 0 ≤ N) (hN2 : N ≤ 63) (ha : (fun N t => (t.1 = x1) ∧ (t.1 = 0 ∨ t.1 = 1) ∧ (0 ≤ t.2.2.2.2) ∧ (t.2.2.2.2 ≤ 20) ∧ (20 ≤ t.2.2.2.2 + N) ∧ (t.2.2.2.1 = -1 ∨ (0 ≤ t.2.2.2.1 ∧ t.2.2.2.1 < (if t.1 = 0 then SL (τ.1 0) else SL (τ.1 1))))) N t) (hk : ∀ b, 1 ≤ N → (fun N t => (t.1 = x1) ∧ (t.1 = 0 ∨ t.1 = 1) ∧ (0 ≤ t.2.2.2.2) ∧ (t.2.2.2.2 ≤ 20) ∧ (20 ≤ t.2.2.2.2 + N) ∧ (t.2.2.2.1 = -1 ∨ (0 ≤ t.2.2.2.1 ∧ t.2.2.2.1 < (if t.1 = 0 then SL (τ.1 0) else SL (τ.1 1))))) (N - 1) b → Ok (kk b) (fun r => (r = -1 ∨ (0 ≤ r ∧ r < (if x1 = 0 then SL (τ.1 0) else SL (τ.1 1)))))) : Ok (f_X6_found_6 τ kk t) (fun r => (r = -1 ∨ (0 ≤ r ∧ r < (if x1 = 0 then SL (τ.1 0) else SL (τ.1 1))))) := by
  obtain ⟨a1_0, a1_1, a1_2, a1_3, a1_4, a1_5⟩ := ha
  unfold f_X6_found_6
  refine ok_bind (ok_X6_size (k := k) (by (first | assumption | trivial | exact arr_in (by grind) (by grind) (by omega) | exact arr_new (by grind) (by grind) | decide | grind)) _ (by (first | assumption | trivial | exact arr_in (by grind) (by grind) (by omega) | exact arr_new (by grind) (by grind) | decide | grind))) fun z6 hz6 => ?_
  obtain ⟨hz6e, hz6n, hz6m⟩ := hz6
  refine ok_if (fun hc => ?_) (fun hc => ?_)
  · refine ok_some ?_
    (try dsimp only) <;> (first | assumption | trivial | exact arr_in (by grind) (by grind) (by omega) | exact arr_new (by grind) (by grind) | decide | grind)
  · refine ok_bind (ok_X6_get (k := k) (by (first | assumption | trivial | exact arr_in (by grind) (by grind) (by omega) | exact arr_new (by grind) (by grind) | decide | grind)) _ _ (by (first | assumption | trivial | exact arr_in (by grind) (by grind) (by omega) | exact arr_new (by grind) (by grind) | decide | grind)) (by (first | assumption | trivial | exact arr_in (by grind) (by grind) (by omega) | exact arr_new (by grind) (by grind) | decide | grind)) (by (first | assumption | trivial | exact arr_in (by grind) (by grind) (by omega) | exact arr_new (by grind) (by grind) | decide | grind))) fun z12 hz12 => ?_
    obtain ⟨hz12n, hz12m⟩ := hz12
    refine ok_bind (ok_X6_kind _) fun z17 hz17 => ?_
    refine ok_if (fun hc => ?_) (fun hc => ?_)
    · refine ok_if (fun hc => ?_) (fun hc => ?_)
      · refine ok_if (fun hc => ?_) (fun hc => ?_)
        · unfold f_X6_found_40
          try dsimp only
          unfold f_X6_found_44
          try dsimp only
          refine ok_nme fun y1 hy1 => ?_
          refine hk _ (by (first | assumption | trivial | exact arr_in (by grind) (by grind) (by omega) | exact arr_new (by grind) (by grind) | decide | grind)) ?_
          refine ⟨?_, ?_, ?_, ?_, ?_, ?_⟩ <;> (try dsimp only) <;> (first | assumption | trivial | exact arr_in (by grind) (by grind) (by omega) | exact arr_new (by grind) (by grind) | decide | grind)
        · unfold f_X6_found_44
          try dsimp only
          refine ok_nme fun y1 hy1 => ?_
          refine hk _ (by (first | assumption | trivial | exact arr_in (by grind) (by grind) (by omega) | exact arr_new (by grind) (by grind) | decide | grind)) ?_
          refine ⟨?_, ?_, ?_, ?_, ?_, ?_⟩ <;> (try dsimp only) <;> (first | assumption | trivial | exact arr_in (by grind) (by grind) (by omega) | exact arr_new (by grind) (by grind) | decide | grind)
      · unfold f_X6_found_40
        try dsimp only
        unfold f_X6_found_44
        try dsimp only
        refine ok_nme fun y1 hy1 => ?_
        refine hk _ (by (first | assumption | trivial | exact arr_in (by grind) (by grind) (by omega) | exact arr_new (by grind) (by grind) | decide | grind)) ?_
        refine ⟨?_, ?_, ?_, ?_, ?_, ?_⟩ <;> (try dsimp only) <;> (first | assumption | trivial | exact arr_in (by grind) (by grind) (by omega) | exact arr_new (by grind) (by grind) | decide | grind)
    · unfold f_X6_found_44
      try dsimp only
      refine ok_nme fun y1 hy1 => ?_
      refine hk _ (by (first | assumption | trivial | exact arr_in (by grind) (by grind) (by omega) | exact arr_new (by grind) (by grind) | decide | grind)) ?_
      refine ⟨?_, ?_, ?_, ?_, ?_, ?_⟩ <;> (try dsimp only) <;> (first | assumption | trivial | exact arr_in (by grind) (by grind) (by omega) | exact arr_new (by grind) (by grind) | decide | grind)
theorem ok_X6_found (hb : IB k τ) (x1 : Int32) (x2 : Int32) (x3 : Int32) (p0 : x1 = 0 ∨ x1 = 1) : Ok (f_X6_found τ x1 x2 x3) (fun r => (r = -1 ∨ (0 ≤ r ∧ r < (if x1 = 0 then SL (τ.1 0) else SL (τ.1 1))))) := by
  unfold f_X6_found
  refine lpn24 (fun N t => (t.1 = x1) ∧ (t.1 = 0 ∨ t.1 = 1) ∧ (0 ≤ t.2.2.2.2) ∧ (t.2.2.2.2 ≤ 20) ∧ (20 ≤ t.2.2.2.2 + N) ∧ (t.2.2.2.1 = -1 ∨ (0 ≤ t.2.2.2.1 ∧ t.2.2.2.1 < (if t.1 = 0 then SL (τ.1 0) else SL (τ.1 1))))) (fun N kk t hN hN2 ha hk => st_X6_found_6 hb N kk t hN hN2 ha hk) ?_
  refine ⟨?_, ?_, ?_, ?_, ?_, ?_⟩ <;> (try dsimp only) <;> (first | assumption | trivial | exact arr_in (by grind) (by grind) (by omega) | exact arr_new (by grind) (by grind) | decide | grind)
theorem ok_X6_isNoKind (hb : IB k τ) (hw : WK τ) (hu : UT τ) (x1 : Int32) (x2 : Int32) : Ok (f_X6_isNoKind τ x1 x2) (fun r => (r.1 = 0 ∨ r.1 = 1) ∧ (r.1 = 0 → (x1 = 0 ∨ x1 = 1) ∧ r.2.2 0 = 0) ∧ IB k r.2 ∧ WK r.2 ∧ UT r.2) := by
  unfold f_X6_isNoKind
  refine ok_bind (ok_X6_isNoTrack _) fun z11 hz11 => ?_
  refine ok_bind (ok_X6_start (k := k) (by (first | assumption | trivial | exact arr_in (by grind) (by grind) (by omega) | exact arr_new (by grind) (by grind) | decide | grind)) (by (first | assumption | trivial | exact arr_in (by grind) (by grind) (by omega) | exact arr_new (by grind) (by grind) | decide | grind)) (by (first | assumption | trivial | exact arr_in (by grind) (by grind) (by omega) | exact arr_new (by grind) (by grind) | decide | grind)) _ _ (by (first | assumption | trivial | exact arr_in (by grind) (by grind) (by omega) | exact arr_new (by grind) (by grind) | decide | grind))) fun z16 hz16 => ?_
  obtain ⟨⟨hz16o, hz16i⟩, ⟨hz16l, hz16s⟩, hz16b, hz16w, hz16u⟩ := hz16
  have hz16l0 := congrFun hz16l 0
  have hz16l1 := congrFun hz16l 1
  refine ok_if (fun hc => ?_) (fun hc => ?_)
  · refine ok_bind (ok_X6_isIn _ _ _) fun z22 hz22 => ?_
    obtain ⟨hz22o, hz22i⟩ := hz22
    refine ok_if (fun hc => ?_) (fun hc => ?_)
    · unfold f_X6_isNoKind_31
      try dsimp only
      unfold f_X6_isNoKind_36
      try dsimp only
      refine ok_bind (ok_X6_refuse (k := k) (by (first | assumption | trivial | exact arr_in (by grind) (by grind) (by omega) | exact arr_new (by grind) (by grind) | decide | grind)) (by (first | assumption | trivial | exact arr_in (by grind) (by grind) (by omega) | exact arr_new (by grind) (by grind) | decide | grind)) (by (first | assumption | trivial | exact arr_in (by grind) (by grind) (by omega) | exact arr_new (by grind) (by grind) | decide | grind)) _ _ (by (first | assumption | trivial | exact arr_in (by grind) (by grind) (by omega) | exact arr_new (by grind) (by grind) | decide | grind)) (by (first | assumption | trivial | exact arr_in (by grind) (by grind) (by omega) | exact arr_new (by grind) (by grind) | decide | grind))) fun z5 hz5 => ?_
      obtain ⟨⟨hz5o, hz5i⟩, ⟨hz5l, hz5s⟩, hz5b, hz5w, hz5u⟩ := hz5
      have hz5l0 := congrFun hz5l 0
      have hz5l1 := congrFun hz5l 1
      refine ok_if (fun hc => ?_) (fun hc => ?_)
      · refine ok_some ?_
        refine ⟨?_, ?_, ?_, ?_, ?_⟩ <;> (try dsimp only) <;> (first | assumption | trivial | exact arr_in (by grind) (by grind) (by omega) | exact arr_new (by grind) (by grind) | decide | grind)
      · unfold f_X6_isNoKind_43
        try dsimp only
        refine ok_some ?_
        refine ⟨?_, ?_, ?_, ?_, ?_⟩ <;> (try dsimp only) <;> (first | assumption | trivial | exact arr_in (by grind) (by grind) (by omega) | exact arr_new (by grind) (by grind) | decide | grind)
    · refine ok_if (fun hc => ?_) (fun hc => ?_)
      · refine ok_if (fun hc => ?_) (fun hc => ?_)
        · unfold f_X6_isNoKind_31
          try dsimp only
          unfold f_X6_isNoKind_36
          try dsimp only
          refine ok_bind (ok_X6_refuse (k := k) (by (first | assumption | trivial | exact arr_in (by grind) (by grind) (by omega) | exact arr_new (by grind) (by grind) | decide | grind)) (by (first | assumption | trivial | exact arr_in (by grind) (by grind) (by omega) | exact arr_new (by grind) (by grind) | decide | grind)) (by (first | assumption | trivial | exact arr_in (by grind) (by grind) (by omega) | exact arr_new (by grind) (by grind) | decide | grind)) _ _ (by (first | assumption | trivial | exact arr_in (by grind) (by grind) (by omega) | exact arr_new (by grind) (by grind) | decide | grind)) (by (first | assumption | trivial | exact arr_in (by grind) (by grind) (by omega) | exact arr_new (by grind) (by grind) | decide | grind))) fun z5 hz5 => ?_
          obtain ⟨⟨hz5o, hz5i⟩, ⟨hz5l, hz5s⟩, hz5b, hz5w, hz5u⟩ := hz5
          have hz5l0 := congrFun hz5l 0
          have hz5l1 := congrFun hz5l 1
          refine ok_if (fun hc => ?_) (fun hc => ?_)
          · refine ok_some ?_
            refine ⟨?_, ?_, ?_, ?_, ?_⟩ <;> (try dsimp only) <;> (first | assumption | trivial | exact arr_in (by grind) (by grind) (by omega) | exact arr_new (by grind) (by grind) | decide | grind)
          · unfold f_X6_isNoKind_43
            try dsimp only
            refine ok_some ?_
            refine ⟨?_, ?_, ?_, ?_, ?_⟩ <;> (try dsimp only) <;> (first | assumption | trivial | exact arr_in (by grind) (by grind) (by omega) | exact arr_new (by grind) (by grind) | decide | grind)
        · unfold f_X6_isNoKind_35
          try dsimp only
          unfold f_X6_isNoKind_36
          try dsimp only
          refine ok_bind (ok_X6_refuse (k := k) (by (first | assumption | trivial | exact arr_in (by grind) (by grind) (by omega) | exact arr_new (by grind) (by grind) | decide | grind)) (by (first | assumption | trivial | exact arr_in (by grind) (by grind) (by omega) | exact arr_new (by grind) (by grind) | decide | grind)) (by (first | assumption | trivial | exact arr_in (by grind) (by grind) (by omega) | exact arr_new (by grind) (by grind) | decide | grind)) _ _ (by (first | assumption | trivial | exact arr_in (by grind) (by grind) (by omega) | exact arr_new (by grind) (by grind) | decide | grind)) (by (first | assumption | trivial | exact arr_in (by grind) (by grind) (by omega) | exact arr_new (by grind) (by grind) | decide | grind))) fun z5 hz5 => ?_
          obtain ⟨⟨hz5o, hz5i⟩, ⟨hz5l, hz5s⟩, hz5b, hz5w, hz5u⟩ := hz5
          have hz5l0 := congrFun hz5l 0
          have hz5l1 := congrFun hz5l 1
          refine ok_if (fun hc => ?_) (fun hc => ?_)
          · refine ok_some ?_
            refine ⟨?_, ?_, ?_, ?_, ?_⟩ <;> (try dsimp only) <;> (first | assumption | trivial | exact arr_in (by grind) (by grind) (by omega) | exact arr_new (by grind) (by grind) | decide | grind)
          · unfold f_X6_isNoKind_43
            try dsimp only
            refine ok_some ?_
            refine ⟨?_, ?_, ?_, ?_, ?_⟩ <;> (try dsimp only) <;> (first | assumption | trivial | exact arr_in (by grind) (by grind) (by omega) | exact arr_new (by grind) (by grind) | decide | grind)
      · unfold f_X6_isNoKind_35
        try dsimp only
        unfold f_X6_isNoKind_36
        try dsimp only
        refine ok_bind (ok_X6_refuse (k := k) (by (first | assumption | trivial | exact arr_in (by grind) (by grind) (by omega) | exact arr_new (by grind) (by grind) | decide | grind)) (by (first | assumption | trivial | exact arr_in (by grind) (by grind) (by omega) | exact arr_new (by grind) (by grind) | decide | grind)) (by (first | assumption | trivial | exact arr_in (by grind) (by grind) (by omega) | exact arr_new (by grind) (by grind) | decide | grind)) _ _ (by (first | assumption | trivial | exact arr_in (by grind) (by grind) (by omega) | exact arr_new (by grind) (by grind) | decide | grind)) (by (first | assumption | trivial | exact arr_in (by grind) (by grind) (by omega) | exact arr_new (by grind) (by grind) | decide | grind))) fun z5 hz5 => ?_
        obtain ⟨⟨hz5o, hz5i⟩, ⟨hz5l, hz5s⟩, hz5b, hz5w, hz5u⟩ := hz5
        have hz5l0 := congrFun hz5l 0
        have hz5l1 := congrFun hz5l 1
        refine ok_if (fun hc => ?_) (fun hc => ?_)
        · refine ok_some ?_
          refine ⟨?_, ?_, ?_, ?_, ?_⟩ <;> (try dsimp only) <;> (first | assumption | trivial | exact arr_in (by grind) (by grind) (by omega) | exact arr_new (by grind) (by grind) | decide | grind)
        · unfold f_X6_isNoKind_43
          try dsimp only
          refine ok_some ?_
          refine ⟨?_, ?_, ?_, ?_, ?_⟩ <;> (try dsimp only) <;> (first | assumption | trivial | exact arr_in (by grind) (by grind) (by omega) | exact arr_new (by grind) (by grind) | decide | grind)
  · unfold f_X6_isNoKind_43
    try dsimp only
    refine ok_some ?_
    refine ⟨?_, ?_, ?_, ?_, ?_⟩ <;> (try dsimp only) <;> (first | assumption | trivial | exact arr_in (by grind) (by grind) (by omega) | exact arr_new (by grind) (by grind) | decide | grind)
theorem ok_X6_drop (hb : IB k τ) (hw : WK τ) (hu : UT τ) (x1 : Int32) (x2 : Int32) (x3 : Int32) : Ok (f_X6_drop τ x1 x2 x3) (fun r => IB k r.2 ∧ WK r.2 ∧ UT r.2) := by
  unfold f_X6_drop
  refine ok_bind (ok_X6_isNoKind (k := k) (by (first | assumption | trivial | exact arr_in (by grind) (by grind) (by omega) | exact arr_new (by grind) (by grind) | decide | grind)) (by (first | assumption | trivial | exact arr_in (by grind) (by grind) (by omega) | exact arr_new (by grind) (by grind) | decide | grind)) (by (first | assumption | trivial | exact arr_in (by grind) (by grind) (by omega) | exact arr_new (by grind) (by grind) | decide | grind)) _ _) fun z5 hz5 => ?_
  obtain ⟨hz5_0, hz5_1, hz5_2, hz5_3, hz5_4⟩ := hz5
  refine ok_if (fun hc => ?_) (fun hc => ?_)
  · refine ok_bind (ok_X6_found (k := k) (by (first | assumption | trivial | exact arr_in (by grind) (by grind) (by omega) | exact arr_new (by grind) (by grind) | decide | grind)) _ _ _ (by (first | assumption | trivial | exact arr_in (by grind) (by grind) (by omega) | exact arr_new (by grind) (by grind) | decide | grind))) fun z11 hz11 => ?_
    refine ok_if (fun hc => ?_) (fun hc => ?_)
    · refine ok_some ?_
      refine ⟨?_, ?_, ?_⟩ <;> (try dsimp only) <;> (first | assumption | trivial | exact arr_in (by grind) (by grind) (by omega) | exact arr_new (by grind) (by grind) | decide | grind)
    · refine ok_bind (ok_X6_go (k := k) (by (first | assumption | trivial | exact arr_in (by grind) (by grind) (by omega) | exact arr_new (by grind) (by grind) | decide | grind)) (by (first | assumption | trivial | exact arr_in (by grind) (by grind) (by omega) | exact arr_new (by grind) (by grind) | decide | grind)) _ _ (by (first | assumption | trivial | exact arr_in (by grind) (by grind) (by omega) | exact arr_new (by grind) (by grind) | decide | grind)) (by (first | assumption | trivial | exact arr_in (by grind) (by grind) (by omega) | exact arr_new (by grind) (by grind) | decide | grind)) (by (first | assumption | trivial | exact arr_in (by grind) (by grind) (by omega) | exact arr_new (by grind) (by grind) | decide | grind))) fun z17 hz17 => ?_
      obtain ⟨hz17b, hz17w, ⟨hz17v0, hz17v1⟩, hz17e, hz17s0, hz17s1⟩ := hz17
      refine ok_bind (ok_X6_tear (k := k) (by (first | assumption | trivial | exact arr_in (by grind) (by grind) (by omega) | exact arr_new (by grind) (by grind) | decide | grind)) (by (first | assumption | trivial | exact arr_in (by grind) (by grind) (by omega) | exact arr_new (by grind) (by grind) | decide | grind))) fun z22 hz22 => ?_
      obtain ⟨hz22b, hz22w, hz22u, hz22e, hz22l0, hz22l1⟩ := hz22
      refine ok_some ?_
      refine ⟨?_, ?_, ?_⟩ <;> (try dsimp only) <;> (first | assumption | trivial | exact arr_in (by grind) (by grind) (by omega) | exact arr_new (by grind) (by grind) | decide | grind)
  · refine ok_some ?_
    refine ⟨?_, ?_, ?_⟩ <;> (try dsimp only) <;> (first | assumption | trivial | exact arr_in (by grind) (by grind) (by omega) | exact arr_new (by grind) (by grind) | decide | grind)
end OKM
