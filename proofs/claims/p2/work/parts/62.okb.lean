/-! the yard: every method of the class comes to its end (written by okgen.py) -/
section OKC
variable {k : Int32}
theorem ok_X3_train {σ : CS} (hσ : IK k σ) (x1 : Int32) (x2 : Int32) (x3 : Int32) (x4 : Int32) : Ok (f_X3_train σ x1 x2 x3 x4) (XQ [0, 1, 2] (fun r => IK k r.2)) := by
  unfold f_X3_train
  refine ok_obx (ok_X3_needTrack _) (by decide) fun z23 hz23 => ?_
  refine ok_obx (ok_X3_needWithin _ _ _) (by decide) fun z28 hz28 => ?_
  obtain ⟨hz28_0, hz28_1⟩ := hz28
  refine ok_obx (ok_X3_needWithin _ _ _) (by decide) fun z33 hz33 => ?_
  obtain ⟨hz33_0, hz33_1⟩ := hz33
  refine ok_obx (ok_X3_needWithin _ _ _) (by decide) fun z38 hz38 => ?_
  obtain ⟨hz38_0, hz38_1⟩ := hz38
  refine ok_obx (ok_X3_needRoom (k := k) (by (first | assumption | trivial | grind | grind [hiR])) _ _) (by decide) fun z43 hz43 => ?_
  refine lpn64 (fun N t => IK k t.1 ∧ (t.2.1 = 0 ∨ t.2.1 = 1) ∧ 1 ≤ t.2.2.1 ∧ t.2.2.1 ≤ 9 ∧ 0 ≤ t.2.2.2.1 ∧ t.2.2.2.1 ≤ 99 ∧ t.2.2.2.2.1 ≤ 12 ∧ 0 ≤ t.2.2.2.2.2 ∧ t.2.2.2.2.2 ≤ 20 ∧ 20 ≤ t.2.2.2.2.2 + N) (fun N kk1 t hN hN2 ha hk1 => ?_) ?_
  · obtain ⟨a1_0, a1_1, a1_2, a1_3, a1_4, a1_5, a1_6, a1_7, a1_8, a1_9⟩ := ha
    unfold f_X3_train_36
    have j1 := jr9 (x := (t.2.2.1 - 1) + t.2.2.2.2.2) (by (first | assumption | trivial | grind | grind [hiR]))
    have j2 := jr100 (x := t.2.2.2.1 + (7 * t.2.2.2.2.2)) (by (first | assumption | trivial | grind | grind [hiR]))
    refine ok_if (fun hc => ?_) (fun hc => ?_)
    · refine ok_bind (ok_X3_trackOf (k := k) (by (first | assumption | trivial | grind | grind [hiR])) _) fun z2 hz2 => ?_
      refine ok_bind (ok_X0_size (IK.r (k := k) (by (first | assumption | trivial | grind | grind [hiR])) (by (first | assumption | trivial | grind | grind [hiR])))) fun z7 hz7 => ?_
      obtain ⟨hz7_0, hz7_1, hz7_2⟩ := hz7
      refine ok_inr ?_
      (try dsimp only) <;> (first | assumption | trivial | grind | grind [hiR])
    · refine ok_bind (ok_X3_codeOf _ _ (by (first | assumption | trivial | grind | grind [hiR])) (by (first | assumption | trivial | grind | grind [hiR])) (by (first | assumption | trivial | grind | grind [hiR])) (by (first | assumption | trivial | grind | grind [hiR]))) fun z12 hz12 => ?_
      obtain ⟨hz12_0, hz12_1⟩ := hz12
      refine ok_bind (ok_X3_stepOn (k := k) (by (first | assumption | trivial | grind | grind [hiR])) _ _ _ (by (first | assumption | trivial | grind | grind [hiR])) (by (first | assumption | trivial | grind | grind [hiR])) (by (first | assumption | trivial | grind | grind [hiR]))) fun z17 hz17 => ?_
      refine ok_nme fun y22 hy22 => ?_
      refine hk1 _ (by (first | assumption | trivial | grind | grind [hiR])) ?_
      refine ⟨?_, ?_, ?_, ?_, ?_, ?_, ?_, ?_, ?_, ?_⟩ <;> (try dsimp only) <;> (first | assumption | trivial | grind | grind [hiR])
  · refine ⟨?_, ?_, ?_, ?_, ?_, ?_, ?_, ?_, ?_, ?_⟩ <;> (try dsimp only) <;> (first | assumption | trivial | grind | grind [hiR])
theorem ok_X3_stepOff {σ : CS} (hσ : IK k σ) (x1 : Int32) (x2 : Int32) (p0 : x1 = 0 ∨ x1 = 1) : Ok (f_X3_stepOff σ x1 x2) (fun r => 0 ≤ r.1 ∧ r.1 ≤ 999 ∧ IK k r.2) := by
  unfold f_X3_stepOff
  refine ok_bind (ok_X3_trackOf (k := k) (by (first | assumption | trivial | grind | grind [hiR])) _) fun z1 hz1 => ?_
  refine ok_bind (ok_X0_endPlace (IK.r (k := k) (by (first | assumption | trivial | grind | grind [hiR])) (by (first | assumption | trivial | grind | grind [hiR]))) _) fun z6 hz6 => ?_
  refine ok_bind (ok_X0_leave (IK.r (k := k) (by (first | assumption | trivial | grind | grind [hiR])) (by (first | assumption | trivial | grind | grind [hiR]))) _) fun z11 hz11 => ?_
  obtain ⟨hz11_0, hz11_1⟩ := hz11
  refine ok_nm (IK k) (IK.row (by (first | assumption | trivial | grind | grind [hiR])) (by (first | assumption | trivial | grind | grind [hiR]))) fun t16 ht16 => ?_
  refine ok_bind (ok_X3_slipOf _ _ _ _ (by (first | assumption | trivial | grind | grind [hiR])) (by (first | assumption | trivial | grind | grind [hiR])) (by (first | assumption | trivial | grind | grind [hiR])) (by (first | assumption | trivial | grind | grind [hiR]))) fun z17 hz17 => ?_
  obtain ⟨hz17_0, hz17_1⟩ := hz17
  refine ok_bind (ok_X3_laySlip (k := k) (by (first | assumption | trivial | grind | grind [hiR])) _ (by (first | assumption | trivial | grind | grind [hiR])) (by (first | assumption | trivial | grind | grind [hiR]))) fun z22 hz22 => ?_
  refine ok_bind (ok_X3_disturb (k := k) (by (first | assumption | trivial | grind | grind [hiR])) _) fun z27 hz27 => ?_
  refine ok_some ?_
  refine ⟨?_, ?_, ?_⟩ <;> (try dsimp only) <;> (first | assumption | trivial | grind | grind [hiR])
theorem ok_X3_fetchPiece {σ : CS} (hσ : IK k σ) (x1 : Int32) (x2 : Int32) (x3 : Int32) (p0 : x1 = 0 ∨ x1 = 1) : Ok (f_X3_fetchPiece σ x1 x2 x3) (fun r => IK k r.2) := by
  unfold f_X3_fetchPiece
  refine ok_bind (ok_X3_trackOf (k := k) (by (first | assumption | trivial | grind | grind [hiR])) _) fun z1 hz1 => ?_
  refine ok_bind (ok_X0_isEmpty (IK.r (k := k) (by (first | assumption | trivial | grind | grind [hiR])) (by (first | assumption | trivial | grind | grind [hiR])))) fun z6 hz6 => ?_
  refine ok_if (fun hc => ?_) (fun hc => ?_)
  · refine ok_bind (ok_X3_stepOff (k := k) (by (first | assumption | trivial | grind | grind [hiR])) _ _ (by (first | assumption | trivial | grind | grind [hiR]))) fun z12 hz12 => ?_
    obtain ⟨hz12_0, hz12_1, hz12_2⟩ := hz12
    refine ok_some ?_
    (try dsimp only) <;> (first | assumption | trivial | grind | grind [hiR])
  · refine ok_some ?_
    (try dsimp only) <;> (first | assumption | trivial | grind | grind [hiR])
theorem ok_X3_take {σ : CS} (hσ : IK k σ) (x1 : Int32) (x2 : Int32) : Ok (f_X3_take σ x1 x2) (XQ [0] (fun r => IK k r.2)) := by
  unfold f_X3_take
  refine ok_obx (ok_X3_needTrack _) (by decide) fun z1 hz1 => ?_
  refine ok_bind (ok_X3_fetchPiece (k := k) (by (first | assumption | trivial | grind | grind [hiR])) _ _ _ (by (first | assumption | trivial | grind | grind [hiR]))) fun z6 hz6 => ?_
  refine ok_inr ?_
  (try dsimp only) <;> (first | assumption | trivial | grind | grind [hiR])
theorem ok_X3_poll {σ : CS} (hσ : IK k σ) (x1 : Int32) (x2 : Int32) : Ok (f_X3_poll σ x1 x2) (XQ [0] (fun r => IK k r.2)) := by
  unfold f_X3_poll
  refine ok_obx (ok_X3_needTrack _) (by decide) fun z1 hz1 => ?_
  refine ok_bind (ok_X3_fetchPiece (k := k) (by (first | assumption | trivial | grind | grind [hiR])) _ _ _ (by (first | assumption | trivial | grind | grind [hiR]))) fun z6 hz6 => ?_
  refine ok_inr ?_
  (try dsimp only) <;> (first | assumption | trivial | grind | grind [hiR])
theorem ok_X3_pop {σ : CS} (hσ : IK k σ) (x1 : Int32) : Ok (f_X3_pop σ x1) (XQ [0] (fun r => IK k r.2)) := by
  unfold f_X3_pop
  refine ok_obx (ok_X3_needTrack _) (by decide) fun z1 hz1 => ?_
  refine ok_bind (ok_X3_fetchPiece (k := k) (by (first | assumption | trivial | grind | grind [hiR])) _ _ _ (by (first | assumption | trivial | grind | grind [hiR]))) fun z6 hz6 => ?_
  refine ok_inr ?_
  (try dsimp only) <;> (first | assumption | trivial | grind | grind [hiR])
theorem ok_X3_serve {σ : CS} (hσ : IK k σ) (x1 : Int32) (x2 : Int32) : Ok (f_X3_serve σ x1 x2) (XQ [0] (fun r => IK k r.2)) := by
  unfold f_X3_serve
  refine ok_obx (ok_X3_needTrack _) (by decide) fun z6 hz6 => ?_
  refine ok_if (fun hc => ?_) (fun hc => ?_)
  · unfold f_X3_serve_17
    try dsimp only
    refine ok_bind (ok_X3_fetchPiece (k := k) (by (first | assumption | trivial | grind | grind [hiR])) _ _ _ (by (first | assumption | trivial | grind | grind [hiR]))) fun z1 hz1 => ?_
    refine ok_inr ?_
    (try dsimp only) <;> (first | assumption | trivial | grind | grind [hiR])
  · unfold f_X3_serve_17
    try dsimp only
    refine ok_bind (ok_X3_fetchPiece (k := k) (by (first | assumption | trivial | grind | grind [hiR])) _ _ _ (by (first | assumption | trivial | grind | grind [hiR]))) fun z1 hz1 => ?_
    refine ok_inr ?_
    (try dsimp only) <;> (first | assumption | trivial | grind | grind [hiR])
theorem ok_X3_rotate {σ : CS} (hσ : IK k σ) (x1 : Int32) (x2 : Int32) : Ok (f_X3_rotate σ x1 x2) (XQ [0, 1] (fun r => IK k r.2)) := by
  unfold f_X3_rotate
  refine ok_obx (ok_X3_needTrack _) (by decide) fun z31 hz31 => ?_
  refine ok_obx (ok_X3_needWithin _ _ _) (by decide) fun z36 hz36 => ?_
  obtain ⟨hz36_0, hz36_1⟩ := hz36
  refine ok_if (fun hc => ?_) (fun hc => ?_)
  · unfold f_X3_rotate_21
    try dsimp only
    refine ok_bind (ok_X3_trackOf (k := k) (by (first | assumption | trivial | grind | grind [hiR])) _) fun z19 hz19 => ?_
    refine ok_bind (ok_X0_isEmpty (IK.r (k := k) (by (first | assumption | trivial | grind | grind [hiR])) (by (first | assumption | trivial | grind | grind [hiR])))) fun z24 hz24 => ?_
    refine ok_if (fun hc => ?_) (fun hc => ?_)
    · refine ok_nme fun y30 hy30 => ?_
      unfold f_X3_rotate_41
      try dsimp only
      refine lpn64 (fun N t => IK k t.1 ∧ (t.2.1 = 0 ∨ t.2.1 = 1) ∧ t.2.2.2.1 ≤ 6 ∧ 0 ≤ t.2.2.2.2 ∧ t.2.2.2.2 ≤ 20 ∧ 20 ≤ t.2.2.2.2 + N) (fun N kk1 t hN hN2 ha hk1 => ?_) ?_
      · obtain ⟨a1_0, a1_1, a1_2, a1_3, a1_4, a1_5⟩ := ha
        unfold f_X3_rotate_46
        refine ok_if (fun hc => ?_) (fun hc => ?_)
        · refine ok_bind (ok_X3_codeAtEnd (k := k) (by (first | assumption | trivial | grind | grind [hiR])) _ _) fun z8 hz8 => ?_
          obtain ⟨hz8_0, hz8_1⟩ := hz8
          refine ok_inr ?_
          (try dsimp only) <;> (first | assumption | trivial | grind | grind [hiR])
        · refine ok_bind (ok_X3_stepOff (k := k) (by (first | assumption | trivial | grind | grind [hiR])) _ _ (by (first | assumption | trivial | grind | grind [hiR]))) fun z13 hz13 => ?_
          obtain ⟨hz13_0, hz13_1, hz13_2⟩ := hz13
          refine ok_if (fun hc => ?_) (fun hc => ?_)
          · unfold f_X3_rotate_72
            try dsimp only
            refine ok_bind (ok_X3_stepOn (k := k) (by (first | assumption | trivial | grind | grind [hiR])) _ _ _ (by (first | assumption | trivial | grind | grind [hiR])) (by (first | assumption | trivial | grind | grind [hiR])) (by (first | assumption | trivial | grind | grind [hiR]))) fun z1 hz1 => ?_
            refine ok_nme fun y6 hy6 => ?_
            refine hk1 _ (by (first | assumption | trivial | grind | grind [hiR])) ?_
            refine ⟨?_, ?_, ?_, ?_, ?_, ?_⟩ <;> (try dsimp only) <;> (first | assumption | trivial | grind | grind [hiR])
          · unfold f_X3_rotate_72
            try dsimp only
            refine ok_bind (ok_X3_stepOn (k := k) (by (first | assumption | trivial | grind | grind [hiR])) _ _ _ (by (first | assumption | trivial | grind | grind [hiR])) (by (first | assumption | trivial | grind | grind [hiR])) (by (first | assumption | trivial | grind | grind [hiR]))) fun z1 hz1 => ?_
            refine ok_nme fun y6 hy6 => ?_
            refine hk1 _ (by (first | assumption | trivial | grind | grind [hiR])) ?_
            refine ⟨?_, ?_, ?_, ?_, ?_, ?_⟩ <;> (try dsimp only) <;> (first | assumption | trivial | grind | grind [hiR])
      · refine ⟨?_, ?_, ?_, ?_, ?_, ?_⟩ <;> (try dsimp only) <;> (first | assumption | trivial | grind | grind [hiR])
    · unfold f_X3_rotate_41
      try dsimp only
      refine lpn64 (fun N t => IK k t.1 ∧ (t.2.1 = 0 ∨ t.2.1 = 1) ∧ t.2.2.2.1 ≤ 6 ∧ 0 ≤ t.2.2.2.2 ∧ t.2.2.2.2 ≤ 20 ∧ 20 ≤ t.2.2.2.2 + N) (fun N kk1 t hN hN2 ha hk1 => ?_) ?_
      · obtain ⟨a1_0, a1_1, a1_2, a1_3, a1_4, a1_5⟩ := ha
        unfold f_X3_rotate_46
        refine ok_if (fun hc => ?_) (fun hc => ?_)
        · refine ok_bind (ok_X3_codeAtEnd (k := k) (by (first | assumption | trivial | grind | grind [hiR])) _ _) fun z8 hz8 => ?_
          obtain ⟨hz8_0, hz8_1⟩ := hz8
          refine ok_inr ?_
          (try dsimp only) <;> (first | assumption | trivial | grind | grind [hiR])
        · refine ok_bind (ok_X3_stepOff (k := k) (by (first | assumption | trivial | grind | grind [hiR])) _ _ (by (first | assumption | trivial | grind | grind [hiR]))) fun z13 hz13 => ?_
          obtain ⟨hz13_0, hz13_1, hz13_2⟩ := hz13
          refine ok_if (fun hc => ?_) (fun hc => ?_)
          · unfold f_X3_rotate_72
            try dsimp only
            refine ok_bind (ok_X3_stepOn (k := k) (by (first | assumption | trivial | grind | grind [hiR])) _ _ _ (by (first | assumption | trivial | grind | grind [hiR])) (by (first | assumption | trivial | grind | grind [hiR])) (by (first | assumption | trivial | grind | grind [hiR]))) fun z1 hz1 => ?_
            refine ok_nme fun y6 hy6 => ?_
            refine hk1 _ (by (first | assumption | trivial | grind | grind [hiR])) ?_
            refine ⟨?_, ?_, ?_, ?_, ?_, ?_⟩ <;> (try dsimp only) <;> (first | assumption | trivial | grind | grind [hiR])
          · unfold f_X3_rotate_72
            try dsimp only
            refine ok_bind (ok_X3_stepOn (k := k) (by (first | assumption | trivial | grind | grind [hiR])) _ _ _ (by (first | assumption | trivial | grind | grind [hiR])) (by (first | assumption | trivial | grind | grind [hiR])) (by (first | assumption | trivial | grind | grind [hiR]))) fun z1 hz1 => ?_
            refine ok_nme fun y6 hy6 => ?_
            refine hk1 _ (by (first | assumption | trivial | grind | grind [hiR])) ?_
            refine ⟨?_, ?_, ?_, ?_, ?_, ?_⟩ <;> (try dsimp only) <;> (first | assumption | trivial | grind | grind [hiR])
      · refine ⟨?_, ?_, ?_, ?_, ?_, ?_⟩ <;> (try dsimp only) <;> (first | assumption | trivial | grind | grind [hiR])
  · unfold f_X3_rotate_21
    try dsimp only
    refine ok_bind (ok_X3_trackOf (k := k) (by (first | assumption | trivial | grind | grind [hiR])) _) fun z19 hz19 => ?_
    refine ok_bind (ok_X0_isEmpty (IK.r (k := k) (by (first | assumption | trivial | grind | grind [hiR])) (by (first | assumption | trivial | grind | grind [hiR])))) fun z24 hz24 => ?_
    refine ok_if (fun hc => ?_) (fun hc => ?_)
    · refine ok_nme fun y30 hy30 => ?_
      unfold f_X3_rotate_41
      try dsimp only
      refine lpn64 (fun N t => IK k t.1 ∧ (t.2.1 = 0 ∨ t.2.1 = 1) ∧ t.2.2.2.1 ≤ 6 ∧ 0 ≤ t.2.2.2.2 ∧ t.2.2.2.2 ≤ 20 ∧ 20 ≤ t.2.2.2.2 + N) (fun N kk1 t hN hN2 ha hk1 => ?_) ?_
      · obtain ⟨a1_0, a1_1, a1_2, a1_3, a1_4, a1_5⟩ := ha
        unfold f_X3_rotate_46
        refine ok_if (fun hc => ?_) (fun hc => ?_)
        · refine ok_bind (ok_X3_codeAtEnd (k := k) (by (first | assumption | trivial | grind | grind [hiR])) _ _) fun z8 hz8 => ?_
          obtain ⟨hz8_0, hz8_1⟩ := hz8
          refine ok_inr ?_
          (try dsimp only) <;> (first | assumption | trivial | grind | grind [hiR])
        · refine ok_bind (ok_X3_stepOff (k := k) (by (first | assumption | trivial | grind | grind [hiR])) _ _ (by (first | assumption | trivial | grind | grind [hiR]))) fun z13 hz13 => ?_
          obtain ⟨hz13_0, hz13_1, hz13_2⟩ := hz13
          refine ok_if (fun hc => ?_) (fun hc => ?_)
          · unfold f_X3_rotate_72
            try dsimp only
            refine ok_bind (ok_X3_stepOn (k := k) (by (first | assumption | trivial | grind | grind [hiR])) _ _ _ (by (first | assumption | trivial | grind | grind [hiR])) (by (first | assumption | trivial | grind | grind [hiR])) (by (first | assumption | trivial | grind | grind [hiR]))) fun z1 hz1 => ?_
            refine ok_nme fun y6 hy6 => ?_
            refine hk1 _ (by (first | assumption | trivial | grind | grind [hiR])) ?_
            refine ⟨?_, ?_, ?_, ?_, ?_, ?_⟩ <;> (try dsimp only) <;> (first | assumption | trivial | grind | grind [hiR])
          · unfold f_X3_rotate_72
            try dsimp only
            refine ok_bind (ok_X3_stepOn (k := k) (by (first | assumption | trivial | grind | grind [hiR])) _ _ _ (by (first | assumption | trivial | grind | grind [hiR])) (by (first | assumption | trivial | grind | grind [hiR])) (by (first | assumption | trivial | grind | grind [hiR]))) fun z1 hz1 => ?_
            refine ok_nme fun y6 hy6 => ?_
            refine hk1 _ (by (first | assumption | trivial | grind | grind [hiR])) ?_
            refine ⟨?_, ?_, ?_, ?_, ?_, ?_⟩ <;> (try dsimp only) <;> (first | assumption | trivial | grind | grind [hiR])
      · refine ⟨?_, ?_, ?_, ?_, ?_, ?_⟩ <;> (try dsimp only) <;> (first | assumption | trivial | grind | grind [hiR])
    · unfold f_X3_rotate_41
      try dsimp only
      refine lpn64 (fun N t => IK k t.1 ∧ (t.2.1 = 0 ∨ t.2.1 = 1) ∧ t.2.2.2.1 ≤ 6 ∧ 0 ≤ t.2.2.2.2 ∧ t.2.2.2.2 ≤ 20 ∧ 20 ≤ t.2.2.2.2 + N) (fun N kk1 t hN hN2 ha hk1 => ?_) ?_
      · obtain ⟨a1_0, a1_1, a1_2, a1_3, a1_4, a1_5⟩ := ha
        unfold f_X3_rotate_46
        refine ok_if (fun hc => ?_) (fun hc => ?_)
        · refine ok_bind (ok_X3_codeAtEnd (k := k) (by (first | assumption | trivial | grind | grind [hiR])) _ _) fun z8 hz8 => ?_
          obtain ⟨hz8_0, hz8_1⟩ := hz8
          refine ok_inr ?_
          (try dsimp only) <;> (first | assumption | trivial | grind | grind [hiR])
        · refine ok_bind (ok_X3_stepOff (k := k) (by (first | assumption | trivial | grind | grind [hiR])) _ _ (by (first | assumption | trivial | grind | grind [hiR]))) fun z13 hz13 => ?_
          obtain ⟨hz13_0, hz13_1, hz13_2⟩ := hz13
          refine ok_if (fun hc => ?_) (fun hc => ?_)
          · unfold f_X3_rotate_72
            try dsimp only
            refine ok_bind (ok_X3_stepOn (k := k) (by (first | assumption | trivial | grind | grind [hiR])) _ _ _ (by (first | assumption | trivial | grind | grind [hiR])) (by (first | assumption | trivial | grind | grind [hiR])) (by (first | assumption | trivial | grind | grind [hiR]))) fun z1 hz1 => ?_
            refine ok_nme fun y6 hy6 => ?_
            refine hk1 _ (by (first | assumption | trivial | grind | grind [hiR])) ?_
            refine ⟨?_, ?_, ?_, ?_, ?_, ?_⟩ <;> (try dsimp only) <;> (first | assumption | trivial | grind | grind [hiR])
          · unfold f_X3_rotate_72
            try dsimp only
            refine ok_bind (ok_X3_stepOn (k := k) (by (first | assumption | trivial | grind | grind [hiR])) _ _ _ (by (first | assumption | trivial | grind | grind [hiR])) (by (first | assumption | trivial | grind | grind [hiR])) (by (first | assumption | trivial | grind | grind [hiR]))) fun z1 hz1 => ?_
            refine ok_nme fun y6 hy6 => ?_
            refine hk1 _ (by (first | assumption | trivial | grind | grind [hiR])) ?_
            refine ⟨?_, ?_, ?_, ?_, ?_, ?_⟩ <;> (try dsimp only) <;> (first | assumption | trivial | grind | grind [hiR])
      · refine ⟨?_, ?_, ?_, ?_, ?_, ?_⟩ <;> (try dsimp only) <;> (first | assumption | trivial | grind | grind [hiR])
theorem ok_X3_slipTrack (x1 : Int32) : Ok (f_X3_slipTrack x1) (fun r => True) := by
  unfold f_X3_slipTrack
  refine ok_some ?_
  (try dsimp only) <;> (first | assumption | trivial | grind | grind [hiR])
theorem ok_X3_slipIsPut (x1 : Int32) : Ok (f_X3_slipIsPut x1) (fun r => True) := by
  unfold f_X3_slipIsPut
  refine ok_if (fun hc => ?_) (fun hc => ?_)
  · refine ok_some ?_
    (try dsimp only) <;> (first | assumption | trivial | grind | grind [hiR])
  · refine ok_some ?_
    (try dsimp only) <;> (first | assumption | trivial | grind | grind [hiR])
theorem ok_X3_slipIsBack (x1 : Int32) : Ok (f_X3_slipIsBack x1) (fun r => True) := by
  unfold f_X3_slipIsBack
  refine ok_if (fun hc => ?_) (fun hc => ?_)
  · refine ok_some ?_
    (try dsimp only) <;> (first | assumption | trivial | grind | grind [hiR])
  · refine ok_some ?_
    (try dsimp only) <;> (first | assumption | trivial | grind | grind [hiR])
theorem ok_X3_undo {σ : CS} (hσ : IK k σ) : Ok (f_X3_undo σ) (fun r => IK k r.2) := by
  unfold f_X3_undo
  refine ok_bind (ok_X0_isEmpty (IK.r (k := k) (by (first | assumption | trivial | grind | grind [hiR])) (by (first | assumption | trivial | grind | grind [hiR])))) fun z17 hz17 => ?_
  refine ok_if (fun hc => ?_) (fun hc => ?_)
  · refine ok_bind (ok_X0_endPlace (IK.r (k := k) (by (first | assumption | trivial | grind | grind [hiR])) (by (first | assumption | trivial | grind | grind [hiR]))) _) fun z23 hz23 => ?_
    refine ok_bind (ok_X0_leave (IK.r (k := k) (by (first | assumption | trivial | grind | grind [hiR])) (by (first | assumption | trivial | grind | grind [hiR]))) _) fun z28 hz28 => ?_
    obtain ⟨hz28_0, hz28_1⟩ := hz28
    refine ok_nm (IK k) (IK.row (by (first | assumption | trivial | grind | grind [hiR])) (by (first | assumption | trivial | grind | grind [hiR]))) fun t33 ht33 => ?_
    refine ok_bind (ok_X3_slipTrack _) fun z34 hz34 => ?_
    refine ok_bind (ok_X3_trackOf (k := k) (by (first | assumption | trivial | grind | grind [hiR])) _) fun z39 hz39 => ?_
    refine ok_bind (ok_X3_slipIsPut _) fun z44 hz44 => ?_
    refine ok_if (fun hc => ?_) (fun hc => ?_)
    · refine ok_bind (ok_X3_slipIsBack _) fun z50 hz50 => ?_
      refine ok_if (fun hc => ?_) (fun hc => ?_)
      · unfold f_X3_undo_79
        try dsimp only
        refine ok_bind (ok_X3_slipCode _ (by (first | assumption | trivial | grind | grind [hiR]))) fun z6 hz6 => ?_
        obtain ⟨hz6_0, hz6_1⟩ := hz6
        refine ok_bind (ok_X0_enter (IK.r (k := k) (by (first | assumption | trivial | grind | grind [hiR])) (by (first | assumption | trivial | grind | grind [hiR]))) _ _ (by (first | assumption | trivial | grind | grind [hiR]))) fun z11 hz11 => ?_
        refine ok_nm (IK k) (IK.row (by (first | assumption | trivial | grind | grind [hiR])) (by (first | assumption | trivial | grind | grind [hiR]))) fun t16 ht16 => ?_
        unfold f_X3_undo_86
        try dsimp only
        refine ok_bind (ok_X3_disturb (k := k) (by (first | assumption | trivial | grind | grind [hiR])) _) fun z1 hz1 => ?_
        refine ok_some ?_
        (try dsimp only) <;> (first | assumption | trivial | grind | grind [hiR])
      · refine ok_bind (ok_X0_size (IK.r (k := k) (by (first | assumption | trivial | grind | grind [hiR])) (by (first | assumption | trivial | grind | grind [hiR])))) fun z56 hz56 => ?_
        obtain ⟨hz56_0, hz56_1, hz56_2⟩ := hz56
        unfold f_X3_undo_79
        try dsimp only
        refine ok_bind (ok_X3_slipCode _ (by (first | assumption | trivial | grind | grind [hiR]))) fun z6 hz6 => ?_
        obtain ⟨hz6_0, hz6_1⟩ := hz6
        refine ok_bind (ok_X0_enter (IK.r (k := k) (by (first | assumption | trivial | grind | grind [hiR])) (by (first | assumption | trivial | grind | grind [hiR]))) _ _ (by (first | assumption | trivial | grind | grind [hiR]))) fun z11 hz11 => ?_
        refine ok_nm (IK k) (IK.row (by (first | assumption | trivial | grind | grind [hiR])) (by (first | assumption | trivial | grind | grind [hiR]))) fun t16 ht16 => ?_
        unfold f_X3_undo_86
        try dsimp only
        refine ok_bind (ok_X3_disturb (k := k) (by (first | assumption | trivial | grind | grind [hiR])) _) fun z1 hz1 => ?_
        refine ok_some ?_
        (try dsimp only) <;> (first | assumption | trivial | grind | grind [hiR])
    · refine ok_bind (ok_X3_slipIsBack _) fun z61 hz61 => ?_
      refine ok_bind (ok_X0_endPlace (IK.r (k := k) (by (first | assumption | trivial | grind | grind [hiR])) (by (first | assumption | trivial | grind | grind [hiR]))) _) fun z66 hz66 => ?_
      refine ok_bind (ok_X0_leave (IK.r (k := k) (by (first | assumption | trivial | grind | grind [hiR])) (by (first | assumption | trivial | grind | grind [hiR]))) _) fun z71 hz71 => ?_
      obtain ⟨hz71_0, hz71_1⟩ := hz71
      refine ok_nm (IK k) (IK.row (by (first | assumption | trivial | grind | grind [hiR])) (by (first | assumption | trivial | grind | grind [hiR]))) fun t76 ht76 => ?_
      unfold f_X3_undo_86
      try dsimp only
      refine ok_bind (ok_X3_disturb (k := k) (by (first | assumption | trivial | grind | grind [hiR])) _) fun z1 hz1 => ?_
      refine ok_some ?_
      (try dsimp only) <;> (first | assumption | trivial | grind | grind [hiR])
  · refine ok_some ?_
    (try dsimp only) <;> (first | assumption | trivial | grind | grind [hiR])
theorem ok_X3_needKindOf (x1 : Int32) (x2 : Int32) : Ok (f_X3_needKindOf x1 x2) (XQ [1] (fun r => True)) := by
  unfold f_X3_needKindOf
  refine ok_if (fun hc => ?_) (fun hc => ?_)
  · unfold f_X3_needKindOf_10
    try dsimp only
    refine ok_obx (ok_X3_needWithin _ _ _) (by decide) fun z1 hz1 => ?_
    obtain ⟨hz1_0, hz1_1⟩ := hz1
    refine ok_inr ?_
    (try dsimp only) <;> (first | assumption | trivial | grind | grind [hiR])
  · unfold f_X3_needKindOf_10
    try dsimp only
    refine ok_obx (ok_X3_needWithin _ _ _) (by decide) fun z1 hz1 => ?_
    obtain ⟨hz1_0, hz1_1⟩ := hz1
    refine ok_inr ?_
    (try dsimp only) <;> (first | assumption | trivial | grind | grind [hiR])
theorem ok_X3_tearFor {σ : CS} (hσ : IK k σ) (x1 : Int32) : Ok (f_X3_tearFor σ x1) (fun r => IK k r) := by
  unfold f_X3_tearFor
  refine ok_bind (ok_X0_empty (IK.r (k := k) (by (first | assumption | trivial | grind | grind [hiR])) (by (first | assumption | trivial | grind | grind [hiR])))) fun z1 hz1 => ?_
  refine ok_nm (IK k) (IK.row (by (first | assumption | trivial | grind | grind [hiR])) (by (first | assumption | trivial | grind | grind [hiR]))) fun t6 ht6 => ?_
  refine ok_bind (ok_X3_disturb (k := k) (by (first | assumption | trivial | grind | grind [hiR])) _) fun z7 hz7 => ?_
  refine ok_some ?_
  (try dsimp only) <;> (first | assumption | trivial | grind | grind [hiR])
theorem ok_X3_drop {σ : CS} (hσ : IK k σ) (x1 : Int32) (x2 : Int32) (x3 : Int32) : Ok (f_X3_drop σ x1 x2 x3) (XQ [0, 1] (fun r => IK k r.2)) := by
  unfold f_X3_drop
  refine ok_obx (ok_X3_needTrack _) (by decide) fun z1 hz1 => ?_
  refine ok_obx (ok_X3_needKindOf _ _) (by decide) fun z6 hz6 => ?_
  refine ok_bind (ok_X3_trackOf (k := k) (by (first | assumption | trivial | grind | grind [hiR])) _) fun z11 hz11 => ?_
  refine ok_bind (ok_X0_placeOfKind (IK.r (k := k) (by (first | assumption | trivial | grind | grind [hiR])) (by (first | assumption | trivial | grind | grind [hiR]))) _ _) fun z16 hz16 => ?_
  refine ok_if (fun hc => ?_) (fun hc => ?_)
  · refine ok_inr ?_
    (try dsimp only) <;> (first | assumption | trivial | grind | grind [hiR])
  · refine ok_bind (ok_X0_leave (IK.r (k := k) (by (first | assumption | trivial | grind | grind [hiR])) (by (first | assumption | trivial | grind | grind [hiR]))) _) fun z22 hz22 => ?_
    obtain ⟨hz22_0, hz22_1⟩ := hz22
    refine ok_nm (IK k) (IK.row (by (first | assumption | trivial | grind | grind [hiR])) (by (first | assumption | trivial | grind | grind [hiR]))) fun t27 ht27 => ?_
    refine ok_bind (ok_X3_tearFor (k := k) (by (first | assumption | trivial | grind | grind [hiR])) _) fun z28 hz28 => ?_
    refine ok_inr ?_
    (try dsimp only) <;> (first | assumption | trivial | grind | grind [hiR])
theorem ok_X3_tearIfAny {σ : CS} (hσ : IK k σ) (x1 : Int32) (x2 : Int32) : Ok (f_X3_tearIfAny σ x1 x2) (fun r => IK k r) := by
  unfold f_X3_tearIfAny
  refine ok_if (fun hc => ?_) (fun hc => ?_)
  · refine ok_some ?_
    (try dsimp only) <;> (first | assumption | trivial | grind | grind [hiR])
  · refine ok_bind (ok_X3_tearFor (k := k) (by (first | assumption | trivial | grind | grind [hiR])) _) fun z2 hz2 => ?_
    refine ok_some ?_
    (try dsimp only) <;> (first | assumption | trivial | grind | grind [hiR])
theorem ok_X3_dropAll {σ : CS} (hσ : IK k σ) (x1 : Int32) (x2 : Int32) : Ok (f_X3_dropAll σ x1 x2) (XQ [0, 1] (fun r => IK k r.2)) := by
  unfold f_X3_dropAll
  refine ok_obx (ok_X3_needTrack _) (by decide) fun z27 hz27 => ?_
  refine ok_obx (ok_X3_needKindOf _ _) (by decide) fun z32 hz32 => ?_
  refine ok_bind (ok_X3_trackOf (k := k) (by (first | assumption | trivial | grind | grind [hiR])) _) fun z37 hz37 => ?_
  refine ok_bind (ok_X0_size (IK.r (k := k) (by (first | assumption | trivial | grind | grind [hiR])) (by (first | assumption | trivial | grind | grind [hiR])))) fun z42 hz42 => ?_
  obtain ⟨hz42_0, hz42_1, hz42_2⟩ := hz42
  refine lpn64 (fun N t => IK k t.1 ∧ t.2.2.2.1 < 7 ∧ t.2.2.2.2.1 ≤ 20 ∧ 0 ≤ t.2.2.2.2.2.2 ∧ t.2.2.2.2.2.2 ≤ 20 ∧ 20 ≤ t.2.2.2.2.2.2 + N) (fun N kk1 t hN hN2 ha hk1 => ?_) ?_
  · obtain ⟨a1_0, a1_1, a1_2, a1_3, a1_4, a1_5⟩ := ha
    unfold f_X3_dropAll_27
    refine ok_if (fun hc => ?_) (fun hc => ?_)
    · refine ok_bind (ok_X3_tearIfAny (k := k) (by (first | assumption | trivial | grind | grind [hiR])) _ _) fun z3 hz3 => ?_
      refine ok_inr ?_
      (try dsimp only) <;> (first | assumption | trivial | grind | grind [hiR])
    · refine ok_nme fun y8 hy8 => ?_
      refine ok_bind (ok_X0_read (IK.r (k := k) (by (first | assumption | trivial | grind | grind [hiR])) (by (first | assumption | trivial | grind | grind [hiR]))) _) fun z9 hz9 => ?_
      obtain ⟨hz9_0, hz9_1⟩ := hz9
      refine ok_bind (ok_X3_kindOf _) fun z14 hz14 => ?_
      refine ok_if (fun hc => ?_) (fun hc => ?_)
      · refine ok_bind (ok_X0_leave (IK.r (k := k) (by (first | assumption | trivial | grind | grind [hiR])) (by (first | assumption | trivial | grind | grind [hiR]))) _) fun z20 hz20 => ?_
        obtain ⟨hz20_0, hz20_1⟩ := hz20
        refine ok_nm (IK k) (IK.row (by (first | assumption | trivial | grind | grind [hiR])) (by (first | assumption | trivial | grind | grind [hiR]))) fun t25 ht25 => ?_
        refine ok_nme fun y26 hy26 => ?_
        unfold f_X3_dropAll_64
        try dsimp only
        refine ok_nme fun y1 hy1 => ?_
        refine hk1 _ (by (first | assumption | trivial | grind | grind [hiR])) ?_
        refine ⟨?_, ?_, ?_, ?_, ?_, ?_⟩ <;> (try dsimp only) <;> (first | assumption | trivial | grind | grind [hiR])
      · unfold f_X3_dropAll_64
        try dsimp only
        refine ok_nme fun y1 hy1 => ?_
        refine hk1 _ (by (first | assumption | trivial | grind | grind [hiR])) ?_
        refine ⟨?_, ?_, ?_, ?_, ?_, ?_⟩ <;> (try dsimp only) <;> (first | assumption | trivial | grind | grind [hiR])
  · refine ⟨?_, ?_, ?_, ?_, ?_, ?_⟩ <;> (try dsimp only) <;> (first | assumption | trivial | grind | grind [hiR])
theorem ok_X3_loadOf (x1 : Int32) : Ok (f_X3_loadOf x1) (fun r => True) := by
  unfold f_X3_loadOf
  refine ok_some ?_
  (try dsimp only) <;> (first | assumption | trivial | grind | grind [hiR])
theorem ok_X3_shed {σ : CS} (hσ : IK k σ) (x1 : Int32) (x2 : Int32) (x3 : Int32) (x4 : Int32) : Ok (f_X3_shed σ x1 x2 x3 x4) (XQ [0, 1] (fun r => IK k r.2)) := by
  unfold f_X3_shed
  refine ok_obx (ok_X3_needTrack _) (by decide) fun z29 hz29 => ?_
  refine ok_obx (ok_X3_needWithin _ _ _) (by decide) fun z34 hz34 => ?_
  obtain ⟨hz34_0, hz34_1⟩ := hz34
  refine ok_obx (ok_X3_needWithin _ _ _) (by decide) fun z39 hz39 => ?_
  obtain ⟨hz39_0, hz39_1⟩ := hz39
  refine ok_bind (ok_X3_trackOf (k := k) (by (first | assumption | trivial | grind | grind [hiR])) _) fun z44 hz44 => ?_
  refine ok_bind (ok_X0_size (IK.r (k := k) (by (first | assumption | trivial | grind | grind [hiR])) (by (first | assumption | trivial | grind | grind [hiR])))) fun z49 hz49 => ?_
  obtain ⟨hz49_0, hz49_1, hz49_2⟩ := hz49
  refine lpn64 (fun N t => IK k t.1 ∧ t.2.2.2.2.2.1 < 7 ∧ t.2.2.2.2.2.2.1 ≤ 20 ∧ 0 ≤ t.2.2.2.2.2.2.2.2.2 ∧ t.2.2.2.2.2.2.2.2.2 ≤ 20 ∧ 20 ≤ t.2.2.2.2.2.2.2.2.2 + N) (fun N kk1 t hN hN2 ha hk1 => ?_) ?_
  · obtain ⟨a1_0, a1_1, a1_2, a1_3, a1_4, a1_5⟩ := ha
    unfold f_X3_shed_42
    refine ok_if (fun hc => ?_) (fun hc => ?_)
    · unfold f_X3_shed_119
      try dsimp only
      refine ok_bind (ok_X3_tearIfAny (k := k) (by (first | assumption | trivial | grind | grind [hiR])) _ _) fun z1 hz1 => ?_
      refine ok_inr ?_
      (try dsimp only) <;> (first | assumption | trivial | grind | grind [hiR])
    · refine ok_if (fun hc => ?_) (fun hc => ?_)
      · unfold f_X3_shed_119
        try dsimp only
        refine ok_bind (ok_X3_tearIfAny (k := k) (by (first | assumption | trivial | grind | grind [hiR])) _ _) fun z1 hz1 => ?_
        refine ok_inr ?_
        (try dsimp only) <;> (first | assumption | trivial | grind | grind [hiR])
      · refine ok_if (fun hc => ?_) (fun hc => ?_)
        · unfold f_X3_shed_75
          try dsimp only
          refine ok_bind (ok_X0_read (IK.r (k := k) (by (first | assumption | trivial | grind | grind [hiR])) (by (first | assumption | trivial | grind | grind [hiR]))) _) fun z7 hz7 => ?_
          obtain ⟨hz7_0, hz7_1⟩ := hz7
          refine ok_bind (ok_X3_loadOf _) fun z12 hz12 => ?_
          refine ok_if (fun hc => ?_) (fun hc => ?_)
          · unfold f_X3_shed_113
            try dsimp only
            refine ok_nme fun y6 hy6 => ?_
            refine hk1 _ (by (first | assumption | trivial | grind | grind [hiR])) ?_
            refine ⟨?_, ?_, ?_, ?_, ?_, ?_⟩ <;> (try dsimp only) <;> (first | assumption | trivial | grind | grind [hiR])
          · refine ok_bind (ok_X0_leave (IK.r (k := k) (by (first | assumption | trivial | grind | grind [hiR])) (by (first | assumption | trivial | grind | grind [hiR]))) _) fun z18 hz18 => ?_
            obtain ⟨hz18_0, hz18_1⟩ := hz18
            refine ok_nm (IK k) (IK.row (by (first | assumption | trivial | grind | grind [hiR])) (by (first | assumption | trivial | grind | grind [hiR]))) fun t23 ht23 => ?_
            refine ok_nme fun y24 hy24 => ?_
            refine ok_nme fun y25 hy25 => ?_
            unfold f_X3_shed_113
            try dsimp only
            refine ok_nme fun y6 hy6 => ?_
            refine hk1 _ (by (first | assumption | trivial | grind | grind [hiR])) ?_
            refine ⟨?_, ?_, ?_, ?_, ?_, ?_⟩ <;> (try dsimp only) <;> (first | assumption | trivial | grind | grind [hiR])
        · unfold f_X3_shed_75
          try dsimp only
          refine ok_bind (ok_X0_read (IK.r (k := k) (by (first | assumption | trivial | grind | grind [hiR])) (by (first | assumption | trivial | grind | grind [hiR]))) _) fun z7 hz7 => ?_
          obtain ⟨hz7_0, hz7_1⟩ := hz7
          refine ok_bind (ok_X3_loadOf _) fun z12 hz12 => ?_
          refine ok_if (fun hc => ?_) (fun hc => ?_)
          · unfold f_X3_shed_113
            try dsimp only
            refine ok_nme fun y6 hy6 => ?_
            refine hk1 _ (by (first | assumption | trivial | grind | grind [hiR])) ?_
            refine ⟨?_, ?_, ?_, ?_, ?_, ?_⟩ <;> (try dsimp only) <;> (first | assumption | trivial | grind | grind [hiR])
          · refine ok_bind (ok_X0_leave (IK.r (k := k) (by (first | assumption | trivial | grind | grind [hiR])) (by (first | assumption | trivial | grind | grind [hiR]))) _) fun z18 hz18 => ?_
            obtain ⟨hz18_0, hz18_1⟩ := hz18
            refine ok_nm (IK k) (IK.row (by (first | assumption | trivial | grind | grind [hiR])) (by (first | assumption | trivial | grind | grind [hiR]))) fun t23 ht23 => ?_
            refine ok_nme fun y24 hy24 => ?_
            refine ok_nme fun y25 hy25 => ?_
            unfold f_X3_shed_113
            try dsimp only
            refine ok_nme fun y6 hy6 => ?_
            refine hk1 _ (by (first | assumption | trivial | grind | grind [hiR])) ?_
            refine ⟨?_, ?_, ?_, ?_, ?_, ?_⟩ <;> (try dsimp only) <;> (first | assumption | trivial | grind | grind [hiR])
  · refine ⟨?_, ?_, ?_, ?_, ?_, ?_⟩ <;> (try dsimp only) <;> (first | assumption | trivial | grind | grind [hiR])
theorem ok_X3_thin {σ : CS} (hσ : IK k σ) (x1 : Int32) (x2 : Int32) (x3 : Int32) : Ok (f_X3_thin σ x1 x2 x3) (XQ [0, 1] (fun r => IK k r.2)) := by
  unfold f_X3_thin
  refine ok_obx (ok_X3_needTrack _) (by decide) fun z18 hz18 => ?_
  refine ok_obx (ok_X3_needWithin _ _ _) (by decide) fun z23 hz23 => ?_
  obtain ⟨hz23_0, hz23_1⟩ := hz23
  refine ok_bind (ok_X3_trackOf (k := k) (by (first | assumption | trivial | grind | grind [hiR])) _) fun z28 hz28 => ?_
  refine ok_bind (ok_X0_size (IK.r (k := k) (by (first | assumption | trivial | grind | grind [hiR])) (by (first | assumption | trivial | grind | grind [hiR])))) fun z33 hz33 => ?_
  obtain ⟨hz33_0, hz33_1, hz33_2⟩ := hz33
  refine lpn64 (fun N t => IK k t.1 ∧ t.2.2.2.2.1 < 7 ∧ t.2.2.2.2.2.1 ≤ 20 ∧ 0 ≤ t.2.2.2.2.2.2.2.2 ∧ t.2.2.2.2.2.2.2.2 ≤ 20 ∧ 20 ≤ t.2.2.2.2.2.2.2.2 + N) (fun N kk1 t hN hN2 ha hk1 => ?_) ?_
  · obtain ⟨a1_0, a1_1, a1_2, a1_3, a1_4, a1_5⟩ := ha
    unfold f_X3_thin_33
    refine ok_if (fun hc => ?_) (fun hc => ?_)
    · refine ok_bind (ok_X3_tearIfAny (k := k) (by (first | assumption | trivial | grind | grind [hiR])) _ _) fun z10 hz10 => ?_
      refine ok_inr ?_
      (try dsimp only) <;> (first | assumption | trivial | grind | grind [hiR])
    · refine ok_nm (fun _ => True) trivial fun y15 _ => ?_
      refine ok_if (fun hc => ?_) (fun hc => ?_)
      · refine ok_if (fun hc => ?_) (fun hc => ?_)
        · unfold f_X3_thin_69
          try dsimp only
          refine ok_bind (ok_X0_leave (IK.r (k := k) (by (first | assumption | trivial | grind | grind [hiR])) (by (first | assumption | trivial | grind | grind [hiR]))) _) fun z2 hz2 => ?_
          obtain ⟨hz2_0, hz2_1⟩ := hz2
          refine ok_nm (IK k) (IK.row (by (first | assumption | trivial | grind | grind [hiR])) (by (first | assumption | trivial | grind | grind [hiR]))) fun t7 ht7 => ?_
          refine ok_nme fun y8 hy8 => ?_
          unfold f_X3_thin_79
          try dsimp only
          refine ok_nme fun y1 hy1 => ?_
          refine hk1 _ (by (first | assumption | trivial | grind | grind [hiR])) ?_
          refine ⟨?_, ?_, ?_, ?_, ?_, ?_⟩ <;> (try dsimp only) <;> (first | assumption | trivial | grind | grind [hiR])
        · unfold f_X3_thin_69
          try dsimp only
          refine ok_bind (ok_X0_leave (IK.r (k := k) (by (first | assumption | trivial | grind | grind [hiR])) (by (first | assumption | trivial | grind | grind [hiR]))) _) fun z2 hz2 => ?_
          obtain ⟨hz2_0, hz2_1⟩ := hz2
          refine ok_nm (IK k) (IK.row (by (first | assumption | trivial | grind | grind [hiR])) (by (first | assumption | trivial | grind | grind [hiR]))) fun t7 ht7 => ?_
          refine ok_nme fun y8 hy8 => ?_
          unfold f_X3_thin_79
          try dsimp only
          refine ok_nme fun y1 hy1 => ?_
          refine hk1 _ (by (first | assumption | trivial | grind | grind [hiR])) ?_
          refine ⟨?_, ?_, ?_, ?_, ?_, ?_⟩ <;> (try dsimp only) <;> (first | assumption | trivial | grind | grind [hiR])
      · unfold f_X3_thin_79
        try dsimp only
        refine ok_nme fun y1 hy1 => ?_
        refine hk1 _ (by (first | assumption | trivial | grind | grind [hiR])) ?_
        refine ⟨?_, ?_, ?_, ?_, ?_, ?_⟩ <;> (try dsimp only) <;> (first | assumption | trivial | grind | grind [hiR])
  · refine ⟨?_, ?_, ?_, ?_, ?_, ?_⟩ <;> (try dsimp only) <;> (first | assumption | trivial | grind | grind [hiR])
end OKC
