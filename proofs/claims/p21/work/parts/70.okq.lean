/-! the model: its methods come to their ends (written by okgenm.py) -/
section OKM
variable {k : Int32} {τ : MS}
theorem arr_in {x : Int32} {n : Nat} (h0 : 0 ≤ x) (h1 : x < nI n) (hn : n ≤ 32) : ¬ (x < 0 ∨ n ≤ x.toNatClampNeg) := by
  have h3 := nI_toInt (n := n) (by omega)
  have h4 := Int32.lt_iff_toInt_lt.mp h1
  have h5 : x.toNatClampNeg = x.toInt.toNat := rfl
  have h6 := Int32.le_iff_toInt_le.mp h0
  have h7 : (0 : Int32).toInt = 0 := rfl
  intro e
  cases e with
  | inl e => have := Int32.lt_iff_toInt_lt.mp e; omega
  | inr e => omega
theorem nIz {z : Int32} (h0 : 0 ≤ z) (h1 : z ≤ 32) : nI z.toNatClampNeg = z ∧ z.toNatClampNeg ≤ 32 := by
  have h6 := Int32.le_iff_toInt_le.mp h0
  have h8 := Int32.le_iff_toInt_le.mp h1
  have h7 : (0 : Int32).toInt = 0 := rfl
  have h9 : (32 : Int32).toInt = 32 := rfl
  have h5 : z.toNatClampNeg = z.toInt.toNat := rfl
  refine ⟨?_, by omega⟩
  apply Int32.toInt_inj.mp
  rw [nI_toInt (by omega)]; omega
theorem arr_new {z : Int32} (h0 : 0 ≤ z) (h1 : z ≤ 32) : ¬ (z < 0 ∨ 32 < z.toNatClampNeg) := by
  have h2 := (nIz h0 h1).2
  have h6 := Int32.le_iff_toInt_le.mp h0
  intro e
  cases e with
  | inl e => have := Int32.lt_iff_toInt_lt.mp e; omega
  | inr e => omega
theorem ok_X6_mayNot (hb : IB k τ) (hw : WK τ) (hu : UT τ) (x1 : Int32) (x2 : Int32) (x3 : Int32) (x4 : Int32) (p0 : 0 ≤ x4) (p1 : x4 ≤ 20) : Ok (f_X6_mayNot τ x1 x2 x3 x4) (fun r => (r.1 = 0 ∨ r.1 = 1) ∧ (r.1 = 0 → (x1 = 0 ∨ x1 = 1) ∧ ((0 ≤ x2 ∧ x2 ≤ 9) ∧ 0 ≤ x3 ∧ x3 ≤ 99) ∧ r.2.2 0 = 0 ∧ 0 ≤ (if x1 = 0 then SL (r.2.1 0) else SL (r.2.1 1)) ∧ (if x1 = 0 then SL (r.2.1 0) else SL (r.2.1 1)) ≤ 20 ∧ (if x1 = 0 then SL (r.2.1 0) else SL (r.2.1 1)) + x4 ≤ 20) ∧ IB k r.2 ∧ WK r.2 ∧ UT r.2) := by
  unfold f_X6_mayNot
  refine ok_bind (ok_X6_isNoTrack _) fun z11 hz11 => ?_
  refine ok_bind (ok_X6_start (k := k) (by (first | assumption | trivial | exact arr_in (by grind) (by grind) (by omega) | exact arr_new (by grind) (by grind) | decide | grind)) (by (first | assumption | trivial | exact arr_in (by grind) (by grind) (by omega) | exact arr_new (by grind) (by grind) | decide | grind)) (by (first | assumption | trivial | exact arr_in (by grind) (by grind) (by omega) | exact arr_new (by grind) (by grind) | decide | grind)) _ _ (by (first | assumption | trivial | exact arr_in (by grind) (by grind) (by omega) | exact arr_new (by grind) (by grind) | decide | grind))) fun z16 hz16 => ?_
  obtain ⟨⟨hz16o, hz16i⟩, ⟨hz16l, hz16s⟩, hz16b, hz16w, hz16u⟩ := hz16
  have hz16l0 := congrFun hz16l 0
  have hz16l1 := congrFun hz16l 1
  refine ok_if (fun hc => ?_) (fun hc => ?_)
  · refine ok_bind (ok_X6_isNoPiece _ _) fun z22 hz22 => ?_
    refine ok_bind (ok_X6_refuse (k := k) (by (first | assumption | trivial | exact arr_in (by grind) (by grind) (by omega) | exact arr_new (by grind) (by grind) | decide | grind)) (by (first | assumption | trivial | exact arr_in (by grind) (by grind) (by omega) | exact arr_new (by grind) (by grind) | decide | grind)) (by (first | assumption | trivial | exact arr_in (by grind) (by grind) (by omega) | exact arr_new (by grind) (by grind) | decide | grind)) _ _ (by (first | assumption | trivial | exact arr_in (by grind) (by grind) (by omega) | exact arr_new (by grind) (by grind) | decide | grind)) (by (first | assumption | trivial | exact arr_in (by grind) (by grind) (by omega) | exact arr_new (by grind) (by grind) | decide | grind))) fun z27 hz27 => ?_
    obtain ⟨⟨hz27o, hz27i⟩, ⟨hz27l, hz27s⟩, hz27b, hz27w, hz27u⟩ := hz27
    have hz27l0 := congrFun hz27l 0
    have hz27l1 := congrFun hz27l 1
    refine ok_if (fun hc => ?_) (fun hc => ?_)
    · refine ok_bind (ok_X6_size (k := k) (by (first | assumption | trivial | exact arr_in (by grind) (by grind) (by omega) | exact arr_new (by grind) (by grind) | decide | grind)) _ (by (first | assumption | trivial | exact arr_in (by grind) (by grind) (by omega) | exact arr_new (by grind) (by grind) | decide | grind))) fun z33 hz33 => ?_
      obtain ⟨hz33e, hz33n, hz33m⟩ := hz33
      refine ok_if (fun hc => ?_) (fun hc => ?_)
      · unfold f_X6_mayNot_44
        try dsimp only
        refine ok_bind (ok_X6_refuse (k := k) (by (first | assumption | trivial | exact arr_in (by grind) (by grind) (by omega) | exact arr_new (by grind) (by grind) | decide | grind)) (by (first | assumption | trivial | exact arr_in (by grind) (by grind) (by omega) | exact arr_new (by grind) (by grind) | decide | grind)) (by (first | assumption | trivial | exact arr_in (by grind) (by grind) (by omega) | exact arr_new (by grind) (by grind) | decide | grind)) _ _ (by (first | assumption | trivial | exact arr_in (by grind) (by grind) (by omega) | exact arr_new (by grind) (by grind) | decide | grind)) (by (first | assumption | trivial | exact arr_in (by grind) (by grind) (by omega) | exact arr_new (by grind) (by grind) | decide | grind))) fun z5 hz5 => ?_
        obtain ⟨⟨hz5o, hz5i⟩, ⟨hz5l, hz5s⟩, hz5b, hz5w, hz5u⟩ := hz5
        have hz5l0 := congrFun hz5l 0
        have hz5l1 := congrFun hz5l 1
        refine ok_if (fun hc => ?_) (fun hc => ?_)
        · refine ok_some ?_
          refine ⟨?_, ?_, ?_, ?_, ?_⟩ <;> (try dsimp only) <;> (first | assumption | trivial | exact arr_in (by grind) (by grind) (by omega) | exact arr_new (by grind) (by grind) | decide | grind)
        · unfold f_X6_mayNot_51
          try dsimp only
          refine ok_some ?_
          refine ⟨?_, ?_, ?_, ?_, ?_⟩ <;> (try dsimp only) <;> (first | assumption | trivial | exact arr_in (by grind) (by grind) (by omega) | exact arr_new (by grind) (by grind) | decide | grind)
      · unfold f_X6_mayNot_44
        try dsimp only
        refine ok_bind (ok_X6_refuse (k := k) (by (first | assumption | trivial | exact arr_in (by grind) (by grind) (by omega) | exact arr_new (by grind) (by grind) | decide | grind)) (by (first | assumption | trivial | exact arr_in (by grind) (by grind) (by omega) | exact arr_new (by grind) (by grind) | decide | grind)) (by (first | assumption | trivial | exact arr_in (by grind) (by grind) (by omega) | exact arr_new (by grind) (by grind) | decide | grind)) _ _ (by (first | assumption | trivial | exact arr_in (by grind) (by grind) (by omega) | exact arr_new (by grind) (by grind) | decide | grind)) (by (first | assumption | trivial | exact arr_in (by grind) (by grind) (by omega) | exact arr_new (by grind) (by grind) | decide | grind))) fun z5 hz5 => ?_
        obtain ⟨⟨hz5o, hz5i⟩, ⟨hz5l, hz5s⟩, hz5b, hz5w, hz5u⟩ := hz5
        have hz5l0 := congrFun hz5l 0
        have hz5l1 := congrFun hz5l 1
        refine ok_if (fun hc => ?_) (fun hc => ?_)
        · refine ok_some ?_
          refine ⟨?_, ?_, ?_, ?_, ?_⟩ <;> (try dsimp only) <;> (first | assumption | trivial | exact arr_in (by grind) (by grind) (by omega) | exact arr_new (by grind) (by grind) | decide | grind)
        · unfold f_X6_mayNot_51
          try dsimp only
          refine ok_some ?_
          refine ⟨?_, ?_, ?_, ?_, ?_⟩ <;> (try dsimp only) <;> (first | assumption | trivial | exact arr_in (by grind) (by grind) (by omega) | exact arr_new (by grind) (by grind) | decide | grind)
    · unfold f_X6_mayNot_51
      try dsimp only
      refine ok_some ?_
      refine ⟨?_, ?_, ?_, ?_, ?_⟩ <;> (try dsimp only) <;> (first | assumption | trivial | exact arr_in (by grind) (by grind) (by omega) | exact arr_new (by grind) (by grind) | decide | grind)
  · unfold f_X6_mayNot_51
    try dsimp only
    refine ok_some ?_
    refine ⟨?_, ?_, ?_, ?_, ?_⟩ <;> (try dsimp only) <;> (first | assumption | trivial | exact arr_in (by grind) (by grind) (by omega) | exact arr_new (by grind) (by grind) | decide | grind)
theorem ok_X6_join (hb : IB k τ) (hw : WK τ) (hu : UT τ) (x1 : Int32) (x2 : Int32) (x3 : Int32) (x4 : Int32) : Ok (f_X6_join τ x1 x2 x3 x4) (fun r => IB k r.2 ∧ WK r.2 ∧ UT r.2) := by
  unfold f_X6_join
  refine ok_bind (ok_X6_mayNot (k := k) (by (first | assumption | trivial | exact arr_in (by grind) (by grind) (by omega) | exact arr_new (by grind) (by grind) | decide | grind)) (by (first | assumption | trivial | exact arr_in (by grind) (by grind) (by omega) | exact arr_new (by grind) (by grind) | decide | grind)) (by (first | assumption | trivial | exact arr_in (by grind) (by grind) (by omega) | exact arr_new (by grind) (by grind) | decide | grind)) _ _ _ _ (by (first | assumption | trivial | exact arr_in (by grind) (by grind) (by omega) | exact arr_new (by grind) (by grind) | decide | grind)) (by (first | assumption | trivial | exact arr_in (by grind) (by grind) (by omega) | exact arr_new (by grind) (by grind) | decide | grind))) fun z5 hz5 => ?_
  obtain ⟨hz5_0, hz5_1, hz5_2, hz5_3, hz5_4⟩ := hz5
  refine ok_if (fun hc => ?_) (fun hc => ?_)
  · refine ok_bind (ok_X6_code _ _ (by (first | assumption | trivial | exact arr_in (by grind) (by grind) (by omega) | exact arr_new (by grind) (by grind) | decide | grind))) fun z11 hz11 => ?_
    obtain ⟨hz11n, hz11m⟩ := hz11
    refine ok_bind (ok_X6_isBarred _ _) fun z16 hz16 => ?_
    refine ok_if (fun hc => ?_) (fun hc => ?_)
    · refine ok_bind (ok_X6_code _ _ (by (first | assumption | trivial | exact arr_in (by grind) (by grind) (by omega) | exact arr_new (by grind) (by grind) | decide | grind))) fun z22 hz22 => ?_
      obtain ⟨hz22n, hz22m⟩ := hz22
      refine ok_bind (ok_X6_stepIn (k := k) (by (first | assumption | trivial | exact arr_in (by grind) (by grind) (by omega) | exact arr_new (by grind) (by grind) | decide | grind)) (by (first | assumption | trivial | exact arr_in (by grind) (by grind) (by omega) | exact arr_new (by grind) (by grind) | decide | grind)) (by (first | assumption | trivial | exact arr_in (by grind) (by grind) (by omega) | exact arr_new (by grind) (by grind) | decide | grind)) _ _ _ (by (first | assumption | trivial | exact arr_in (by grind) (by grind) (by omega) | exact arr_new (by grind) (by grind) | decide | grind)) (by (first | assumption | trivial | exact arr_in (by grind) (by grind) (by omega) | exact arr_new (by grind) (by grind) | decide | grind)) (by (first | assumption | trivial | exact arr_in (by grind) (by grind) (by omega) | exact arr_new (by grind) (by grind) | decide | grind))) fun z27 hz27 => ?_
      obtain ⟨hz27b, hz27w, hz27u, hz27e, hz27s0, hz27s1⟩ := hz27
      refine ok_bind (ok_X6_size (k := k) (by (first | assumption | trivial | exact arr_in (by grind) (by grind) (by omega) | exact arr_new (by grind) (by grind) | decide | grind)) _ (by (first | assumption | trivial | exact arr_in (by grind) (by grind) (by omega) | exact arr_new (by grind) (by grind) | decide | grind))) fun z32 hz32 => ?_
      obtain ⟨hz32e, hz32n, hz32m⟩ := hz32
      refine ok_some ?_
      refine ⟨?_, ?_, ?_⟩ <;> (try dsimp only) <;> (first | assumption | trivial | exact arr_in (by grind) (by grind) (by omega) | exact arr_new (by grind) (by grind) | decide | grind)
    · refine ok_some ?_
      refine ⟨?_, ?_, ?_⟩ <;> (try dsimp only) <;> (first | assumption | trivial | exact arr_in (by grind) (by grind) (by omega) | exact arr_new (by grind) (by grind) | decide | grind)
  · refine ok_some ?_
    refine ⟨?_, ?_, ?_⟩ <;> (try dsimp only) <;> (first | assumption | trivial | exact arr_in (by grind) (by grind) (by omega) | exact arr_new (by grind) (by grind) | decide | grind)
theorem ok_X6_offer (hb : IB k τ) (hw : WK τ) (hu : UT τ) (x1 : Int32) (x2 : Int32) (x3 : Int32) (x4 : Int32) : Ok (f_X6_offer τ x1 x2 x3 x4) (fun r => IB k r.2 ∧ WK r.2 ∧ UT r.2) := by
  unfold f_X6_offer
  refine ok_bind (ok_X6_mayNot (k := k) (by (first | assumption | trivial | exact arr_in (by grind) (by grind) (by omega) | exact arr_new (by grind) (by grind) | decide | grind)) (by (first | assumption | trivial | exact arr_in (by grind) (by grind) (by omega) | exact arr_new (by grind) (by grind) | decide | grind)) (by (first | assumption | trivial | exact arr_in (by grind) (by grind) (by omega) | exact arr_new (by grind) (by grind) | decide | grind)) _ _ _ _ (by (first | assumption | trivial | exact arr_in (by grind) (by grind) (by omega) | exact arr_new (by grind) (by grind) | decide | grind)) (by (first | assumption | trivial | exact arr_in (by grind) (by grind) (by omega) | exact arr_new (by grind) (by grind) | decide | grind))) fun z5 hz5 => ?_
  obtain ⟨hz5_0, hz5_1, hz5_2, hz5_3, hz5_4⟩ := hz5
  refine ok_if (fun hc => ?_) (fun hc => ?_)
  · refine ok_bind (ok_X6_code _ _ (by (first | assumption | trivial | exact arr_in (by grind) (by grind) (by omega) | exact arr_new (by grind) (by grind) | decide | grind))) fun z11 hz11 => ?_
    obtain ⟨hz11n, hz11m⟩ := hz11
    refine ok_bind (ok_X6_isBarred _ _) fun z16 hz16 => ?_
    refine ok_if (fun hc => ?_) (fun hc => ?_)
    · refine ok_bind (ok_X6_code _ _ (by (first | assumption | trivial | exact arr_in (by grind) (by grind) (by omega) | exact arr_new (by grind) (by grind) | decide | grind))) fun z22 hz22 => ?_
      obtain ⟨hz22n, hz22m⟩ := hz22
      refine ok_bind (ok_X6_stepIn (k := k) (by (first | assumption | trivial | exact arr_in (by grind) (by grind) (by omega) | exact arr_new (by grind) (by grind) | decide | grind)) (by (first | assumption | trivial | exact arr_in (by grind) (by grind) (by omega) | exact arr_new (by grind) (by grind) | decide | grind)) (by (first | assumption | trivial | exact arr_in (by grind) (by grind) (by omega) | exact arr_new (by grind) (by grind) | decide | grind)) _ _ _ (by (first | assumption | trivial | exact arr_in (by grind) (by grind) (by omega) | exact arr_new (by grind) (by grind) | decide | grind)) (by (first | assumption | trivial | exact arr_in (by grind) (by grind) (by omega) | exact arr_new (by grind) (by grind) | decide | grind)) (by (first | assumption | trivial | exact arr_in (by grind) (by grind) (by omega) | exact arr_new (by grind) (by grind) | decide | grind))) fun z27 hz27 => ?_
      obtain ⟨hz27b, hz27w, hz27u, hz27e, hz27s0, hz27s1⟩ := hz27
      refine ok_some ?_
      refine ⟨?_, ?_, ?_⟩ <;> (try dsimp only) <;> (first | assumption | trivial | exact arr_in (by grind) (by grind) (by omega) | exact arr_new (by grind) (by grind) | decide | grind)
    · refine ok_some ?_
      refine ⟨?_, ?_, ?_⟩ <;> (try dsimp only) <;> (first | assumption | trivial | exact arr_in (by grind) (by grind) (by omega) | exact arr_new (by grind) (by grind) | decide | grind)
  · refine ok_some ?_
    refine ⟨?_, ?_, ?_⟩ <;> (try dsimp only) <;> (first | assumption | trivial | exact arr_in (by grind) (by grind) (by omega) | exact arr_new (by grind) (by grind) | decide | grind)
theorem ok_X6_push (hb : IB k τ) (hw : WK τ) (hu : UT τ) (x1 : Int32) (x2 : Int32) (x3 : Int32) : Ok (f_X6_push τ x1 x2 x3) (fun r => IB k r.2 ∧ WK r.2 ∧ UT r.2) := by
  unfold f_X6_push
  refine ok_bind (ok_X6_mayNot (k := k) (by (first | assumption | trivial | exact arr_in (by grind) (by grind) (by omega) | exact arr_new (by grind) (by grind) | decide | grind)) (by (first | assumption | trivial | exact arr_in (by grind) (by grind) (by omega) | exact arr_new (by grind) (by grind) | decide | grind)) (by (first | assumption | trivial | exact arr_in (by grind) (by grind) (by omega) | exact arr_new (by grind) (by grind) | decide | grind)) _ _ _ _ (by (first | assumption | trivial | exact arr_in (by grind) (by grind) (by omega) | exact arr_new (by grind) (by grind) | decide | grind)) (by (first | assumption | trivial | exact arr_in (by grind) (by grind) (by omega) | exact arr_new (by grind) (by grind) | decide | grind))) fun z15 hz15 => ?_
  obtain ⟨hz15_0, hz15_1, hz15_2, hz15_3, hz15_4⟩ := hz15
  refine ok_if (fun hc => ?_) (fun hc => ?_)
  · refine ok_bind (ok_X6_code _ _ (by (first | assumption | trivial | exact arr_in (by grind) (by grind) (by omega) | exact arr_new (by grind) (by grind) | decide | grind))) fun z21 hz21 => ?_
    obtain ⟨hz21n, hz21m⟩ := hz21
    refine ok_bind (ok_X6_isBarred _ _) fun z26 hz26 => ?_
    refine ok_if (fun hc => ?_) (fun hc => ?_)
    · refine ok_bind (ok_X6_size (k := k) (by (first | assumption | trivial | exact arr_in (by grind) (by grind) (by omega) | exact arr_new (by grind) (by grind) | decide | grind)) _ (by (first | assumption | trivial | exact arr_in (by grind) (by grind) (by omega) | exact arr_new (by grind) (by grind) | decide | grind))) fun z32 hz32 => ?_
      obtain ⟨hz32e, hz32n, hz32m⟩ := hz32
      refine ok_if (fun hc => ?_) (fun hc => ?_)
      · unfold f_X6_push_46
        try dsimp only
        refine ok_bind (ok_X6_code _ _ (by (first | assumption | trivial | exact arr_in (by grind) (by grind) (by omega) | exact arr_new (by grind) (by grind) | decide | grind))) fun z5 hz5 => ?_
        obtain ⟨hz5n, hz5m⟩ := hz5
        refine ok_bind (ok_X6_stepIn (k := k) (by (first | assumption | trivial | exact arr_in (by grind) (by grind) (by omega) | exact arr_new (by grind) (by grind) | decide | grind)) (by (first | assumption | trivial | exact arr_in (by grind) (by grind) (by omega) | exact arr_new (by grind) (by grind) | decide | grind)) (by (first | assumption | trivial | exact arr_in (by grind) (by grind) (by omega) | exact arr_new (by grind) (by grind) | decide | grind)) _ _ _ (by (first | assumption | trivial | exact arr_in (by grind) (by grind) (by omega) | exact arr_new (by grind) (by grind) | decide | grind)) (by (first | assumption | trivial | exact arr_in (by grind) (by grind) (by omega) | exact arr_new (by grind) (by grind) | decide | grind)) (by (first | assumption | trivial | exact arr_in (by grind) (by grind) (by omega) | exact arr_new (by grind) (by grind) | decide | grind))) fun z10 hz10 => ?_
        obtain ⟨hz10b, hz10w, hz10u, hz10e, hz10s0, hz10s1⟩ := hz10
        refine ok_some ?_
        refine ⟨?_, ?_, ?_⟩ <;> (try dsimp only) <;> (first | assumption | trivial | exact arr_in (by grind) (by grind) (by omega) | exact arr_new (by grind) (by grind) | decide | grind)
      · refine ok_bind (ok_X6_get (k := k) (by (first | assumption | trivial | exact arr_in (by grind) (by grind) (by omega) | exact arr_new (by grind) (by grind) | decide | grind)) _ _ (by (first | assumption | trivial | exact arr_in (by grind) (by grind) (by omega) | exact arr_new (by grind) (by grind) | decide | grind)) (by (first | assumption | trivial | exact arr_in (by grind) (by grind) (by omega) | exact arr_new (by grind) (by grind) | decide | grind)) (by (first | assumption | trivial | exact arr_in (by grind) (by grind) (by omega) | exact arr_new (by grind) (by grind) | decide | grind))) fun z38 hz38 => ?_
        obtain ⟨hz38n, hz38m⟩ := hz38
        unfold f_X6_push_46
        try dsimp only
        refine ok_bind (ok_X6_code _ _ (by (first | assumption | trivial | exact arr_in (by grind) (by grind) (by omega) | exact arr_new (by grind) (by grind) | decide | grind))) fun z5 hz5 => ?_
        obtain ⟨hz5n, hz5m⟩ := hz5
        refine ok_bind (ok_X6_stepIn (k := k) (by (first | assumption | trivial | exact arr_in (by grind) (by grind) (by omega) | exact arr_new (by grind) (by grind) | decide | grind)) (by (first | assumption | trivial | exact arr_in (by grind) (by grind) (by omega) | exact arr_new (by grind) (by grind) | decide | grind)) (by (first | assumption | trivial | exact arr_in (by grind) (by grind) (by omega) | exact arr_new (by grind) (by grind) | decide | grind)) _ _ _ (by (first | assumption | trivial | exact arr_in (by grind) (by grind) (by omega) | exact arr_new (by grind) (by grind) | decide | grind)) (by (first | assumption | trivial | exact arr_in (by grind) (by grind) (by omega) | exact arr_new (by grind) (by grind) | decide | grind)) (by (first | assumption | trivial | exact arr_in (by grind) (by grind) (by omega) | exact arr_new (by grind) (by grind) | decide | grind))) fun z10 hz10 => ?_
        obtain ⟨hz10b, hz10w, hz10u, hz10e, hz10s0, hz10s1⟩ := hz10
        refine ok_some ?_
        refine ⟨?_, ?_, ?_⟩ <;> (try dsimp only) <;> (first | assumption | trivial | exact arr_in (by grind) (by grind) (by omega) | exact arr_new (by grind) (by grind) | decide | grind)
    · refine ok_some ?_
      refine ⟨?_, ?_, ?_⟩ <;> (try dsimp only) <;> (first | assumption | trivial | exact arr_in (by grind) (by grind) (by omega) | exact arr_new (by grind) (by grind) | decide | grind)
  · refine ok_some ?_
    refine ⟨?_, ?_, ?_⟩ <;> (try dsimp only) <;> (first | assumption | trivial | exact arr_in (by grind) (by grind) (by omega) | exact arr_new (by grind) (by grind) | decide | grind)
theorem ok_X6_append (hb : IB k τ) (hw : WK τ) (hu : UT τ) (x1 : Int32) (x2 : Int32) (x3 : Int32) : Ok (f_X6_append τ x1 x2 x3) (fun r => IB k r.2 ∧ WK r.2 ∧ UT r.2) := by
  unfold f_X6_append
  refine ok_bind (ok_X6_join (k := k) (by (first | assumption | trivial | exact arr_in (by grind) (by grind) (by omega) | exact arr_new (by grind) (by grind) | decide | grind)) (by (first | assumption | trivial | exact arr_in (by grind) (by grind) (by omega) | exact arr_new (by grind) (by grind) | decide | grind)) (by (first | assumption | trivial | exact arr_in (by grind) (by grind) (by omega) | exact arr_new (by grind) (by grind) | decide | grind)) _ _ _ _) fun z5 hz5 => ?_
  obtain ⟨hz5_0, hz5_1, hz5_2⟩ := hz5
  refine ok_some ?_
  refine ⟨?_, ?_, ?_⟩ <;> (try dsimp only) <;> (first | assumption | trivial | exact arr_in (by grind) (by grind) (by omega) | exact arr_new (by grind) (by grind) | decide | grind)
end OKM
