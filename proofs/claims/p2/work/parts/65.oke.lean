/-! the yard: every method of the class comes to its end (written by okgen.py) -/
section OKC
variable {k : Int32}
theorem ok_X3_nested {σ : CS} (hσ : IK k σ) (x1 : Int32) : Ok (f_X3_nested σ x1) (XQ [0] (fun r => IK k r.2)) := by
  unfold f_X3_nested
  refine ok_obx (ok_X3_needTrack _) (by decide) fun z1 hz1 => ?_
  refine ok_bind (ok_X3_mostOpen (k := k) (by (first | assumption | trivial | grind | grind [hiR])) _) fun z6 hz6 => ?_
  refine ok_inr ?_
  (try dsimp only) <;> (first | assumption | trivial | grind | grind [hiR])
theorem ok_X3_heaviest {σ : CS} (hσ : IK k σ) (x1 : Int32) (x2 : Int32) (x3 : Int32) : Ok (f_X3_heaviest σ x1 x2 x3) (XQ [0, 1] (fun r => True)) := by
  unfold f_X3_heaviest
  refine ok_obx (ok_X3_needTrack _) (by decide) fun z14 hz14 => ?_
  refine ok_obx (ok_X3_needPlace _ _) (by decide) fun z19 hz19 => ?_
  obtain ⟨hz19_0, hz19_1⟩ := hz19
  refine ok_obx (ok_X3_needWithin _ _ _) (by decide) fun z24 hz24 => ?_
  obtain ⟨hz24_0, hz24_1⟩ := hz24
  refine ok_bind (ok_X3_trackOf (k := k) (by (first | assumption | trivial | grind | grind [hiR])) _) fun z29 hz29 => ?_
  refine ok_bind (ok_X0_size (IK.r (k := k) (by (first | assumption | trivial | grind | grind [hiR])) (by (first | assumption | trivial | grind | grind [hiR])))) fun z34 hz34 => ?_
  obtain ⟨hz34_0, hz34_1, hz34_2⟩ := hz34
  refine ok_if (fun hc => ?_) (fun hc => ?_)
  · refine lpn64 (fun N t => t.1 ≤ 20 ∧ t.2.2.1 < 7 ∧ 0 ≤ t.2.2.2.2 ∧ t.2.2.2.2 ≤ 20 ∧ 20 ≤ t.2.2.2.2 + N) (fun N kk1 t hN hN2 ha hk1 => ?_) ?_
    · obtain ⟨a1_0, a1_1, a1_2, a1_3, a1_4⟩ := ha
      unfold f_X3_heaviest_43
      refine ok_if (fun hc => ?_) (fun hc => ?_)
      · refine ok_inr ?_
        (try dsimp only) <;> (first | assumption | trivial | grind | grind [hiR])
      · refine ok_bind (ok_X0_read (IK.r (k := k) (by (first | assumption | trivial | grind | grind [hiR])) (by (first | assumption | trivial | grind | grind [hiR]))) _) fun z2 hz2 => ?_
        obtain ⟨hz2_0, hz2_1⟩ := hz2
        refine ok_bind (ok_X3_loadOf _) fun z7 hz7 => ?_
        refine ok_nme fun y12 hy12 => ?_
        refine ok_nme fun y13 hy13 => ?_
        refine hk1 _ (by (first | assumption | trivial | grind | grind [hiR])) ?_
        refine ⟨?_, ?_, ?_, ?_, ?_⟩ <;> (try dsimp only) <;> (first | assumption | trivial | grind | grind [hiR])
    · refine ⟨?_, ?_, ?_, ?_, ?_⟩ <;> (try dsimp only) <;> (first | assumption | trivial | grind | grind [hiR])
  · refine ok_inr ?_
    (try dsimp only) <;> (first | assumption | trivial | grind | grind [hiR])
theorem ok_X3_ahead {σ : CS} (hσ : IK k σ) (x1 : Int32) (x2 : Int32) : Ok (f_X3_ahead σ x1 x2) (XQ [0] (fun r => True)) := by
  unfold f_X3_ahead
  refine ok_obx (ok_X3_needTrack _) (by decide) fun z14 hz14 => ?_
  refine ok_obx (ok_X3_needPlace _ _) (by decide) fun z19 hz19 => ?_
  obtain ⟨hz19_0, hz19_1⟩ := hz19
  refine ok_bind (ok_X3_trackOf (k := k) (by (first | assumption | trivial | grind | grind [hiR])) _) fun z24 hz24 => ?_
  refine ok_bind (ok_X0_size (IK.r (k := k) (by (first | assumption | trivial | grind | grind [hiR])) (by (first | assumption | trivial | grind | grind [hiR])))) fun z29 hz29 => ?_
  obtain ⟨hz29_0, hz29_1, hz29_2⟩ := hz29
  refine ok_if (fun hc => ?_) (fun hc => ?_)
  · refine ok_bind (ok_X0_read (IK.r (k := k) (by (first | assumption | trivial | grind | grind [hiR])) (by (first | assumption | trivial | grind | grind [hiR]))) _) fun z35 hz35 => ?_
    obtain ⟨hz35_0, hz35_1⟩ := hz35
    refine ok_bind (ok_X3_loadOf _) fun z40 hz40 => ?_
    refine ok_nme fun y45 hy45 => ?_
    refine lpn64 (fun N t => t.1 < 7 ∧ -1 ≤ t.2.2 ∧ t.2.2 ≤ 20 ∧ t.2.2 + 1 ≤ N) (fun N kk1 t hN hN2 ha hk1 => ?_) ?_
    · obtain ⟨a1_0, a1_1, a1_2, a1_3⟩ := ha
      unfold f_X3_ahead_42
      refine ok_if (fun hc => ?_) (fun hc => ?_)
      · refine ok_inr ?_
        (try dsimp only) <;> (first | assumption | trivial | grind | grind [hiR])
      · refine ok_bind (ok_X0_read (IK.r (k := k) (by (first | assumption | trivial | grind | grind [hiR])) (by (first | assumption | trivial | grind | grind [hiR]))) _) fun z2 hz2 => ?_
        obtain ⟨hz2_0, hz2_1⟩ := hz2
        refine ok_bind (ok_X3_loadOf _) fun z7 hz7 => ?_
        refine ok_if (fun hc => ?_) (fun hc => ?_)
        · refine ok_nme fun y13 hy13 => ?_
          refine hk1 _ (by (first | assumption | trivial | grind | grind [hiR])) ?_
          refine ⟨?_, ?_, ?_, ?_⟩ <;> (try dsimp only) <;> (first | assumption | trivial | grind | grind [hiR])
        · refine ok_inr ?_
          (try dsimp only) <;> (first | assumption | trivial | grind | grind [hiR])
    · refine ⟨?_, ?_, ?_, ?_⟩ <;> (try dsimp only) <;> (first | assumption | trivial | grind | grind [hiR])
  · refine ok_inr ?_
    (try dsimp only) <;> (first | assumption | trivial | grind | grind [hiR])
theorem ok_X3_wayOfWalk {σ : CS} (hσ : IK k σ) : Ok (f_X3_wayOfWalk σ) (fun r => True) := by
  unfold f_X3_wayOfWalk
  refine ok_if (fun hc => ?_) (fun hc => ?_)
  · refine ok_some ?_
    (try dsimp only) <;> (first | assumption | trivial | grind | grind [hiR])
  · refine ok_if (fun hc => ?_) (fun hc => ?_)
    · refine ok_some ?_
      (try dsimp only) <;> (first | assumption | trivial | grind | grind [hiR])
    · refine ok_some ?_
      (try dsimp only) <;> (first | assumption | trivial | grind | grind [hiR])
theorem ok_X3_factOfYard {σ : CS} (hσ : IK k σ) (x1 : Int32) : Ok (f_X3_factOfYard σ x1) (fun r => True) := by
  unfold f_X3_factOfYard
  refine ok_if (fun hc => ?_) (fun hc => ?_)
  · refine ok_bind (ok_X0_size (IK.r (k := k) (by (first | assumption | trivial | grind | grind [hiR])) (by (first | assumption | trivial | grind | grind [hiR])))) fun z2 hz2 => ?_
    obtain ⟨hz2_0, hz2_1, hz2_2⟩ := hz2
    refine ok_some ?_
    (try dsimp only) <;> (first | assumption | trivial | grind | grind [hiR])
  · refine ok_if (fun hc => ?_) (fun hc => ?_)
    · refine ok_bind (ok_X0_isEmpty (IK.r (k := k) (by (first | assumption | trivial | grind | grind [hiR])) (by (first | assumption | trivial | grind | grind [hiR])))) fun z8 hz8 => ?_
      refine ok_if (fun hc => ?_) (fun hc => ?_)
      · refine ok_bind (ok_X0_read (IK.r (k := k) (by (first | assumption | trivial | grind | grind [hiR])) (by (first | assumption | trivial | grind | grind [hiR]))) _) fun z14 hz14 => ?_
        obtain ⟨hz14_0, hz14_1⟩ := hz14
        refine ok_some ?_
        (try dsimp only) <;> (first | assumption | trivial | grind | grind [hiR])
      · refine ok_some ?_
        (try dsimp only) <;> (first | assumption | trivial | grind | grind [hiR])
    · refine ok_if (fun hc => ?_) (fun hc => ?_)
      · refine ok_bind (ok_X0_isEmpty (IK.r (k := k) (by (first | assumption | trivial | grind | grind [hiR])) (by (first | assumption | trivial | grind | grind [hiR])))) fun z20 hz20 => ?_
        refine ok_if (fun hc => ?_) (fun hc => ?_)
        · refine ok_bind (ok_X0_endPlace (IK.r (k := k) (by (first | assumption | trivial | grind | grind [hiR])) (by (first | assumption | trivial | grind | grind [hiR]))) _) fun z26 hz26 => ?_
          refine ok_bind (ok_X0_read (IK.r (k := k) (by (first | assumption | trivial | grind | grind [hiR])) (by (first | assumption | trivial | grind | grind [hiR]))) _) fun z31 hz31 => ?_
          obtain ⟨hz31_0, hz31_1⟩ := hz31
          refine ok_some ?_
          (try dsimp only) <;> (first | assumption | trivial | grind | grind [hiR])
        · refine ok_some ?_
          (try dsimp only) <;> (first | assumption | trivial | grind | grind [hiR])
      · refine ok_if (fun hc => ?_) (fun hc => ?_)
        · refine ok_bind (ok_X0_size (IK.r (k := k) (by (first | assumption | trivial | grind | grind [hiR])) (by (first | assumption | trivial | grind | grind [hiR])))) fun z37 hz37 => ?_
          obtain ⟨hz37_0, hz37_1, hz37_2⟩ := hz37
          refine ok_some ?_
          (try dsimp only) <;> (first | assumption | trivial | grind | grind [hiR])
        · refine ok_if (fun hc => ?_) (fun hc => ?_)
          · refine ok_bind (ok_X0_isEmpty (IK.r (k := k) (by (first | assumption | trivial | grind | grind [hiR])) (by (first | assumption | trivial | grind | grind [hiR])))) fun z43 hz43 => ?_
            refine ok_if (fun hc => ?_) (fun hc => ?_)
            · refine ok_bind (ok_X0_endPlace (IK.r (k := k) (by (first | assumption | trivial | grind | grind [hiR])) (by (first | assumption | trivial | grind | grind [hiR]))) _) fun z49 hz49 => ?_
              refine ok_bind (ok_X0_read (IK.r (k := k) (by (first | assumption | trivial | grind | grind [hiR])) (by (first | assumption | trivial | grind | grind [hiR]))) _) fun z54 hz54 => ?_
              obtain ⟨hz54_0, hz54_1⟩ := hz54
              refine ok_some ?_
              (try dsimp only) <;> (first | assumption | trivial | grind | grind [hiR])
            · refine ok_some ?_
              (try dsimp only) <;> (first | assumption | trivial | grind | grind [hiR])
          · refine ok_if (fun hc => ?_) (fun hc => ?_)
            · refine ok_bind (ok_X3_wayOfWalk (k := k) (by (first | assumption | trivial | grind | grind [hiR]))) fun z60 hz60 => ?_
              refine ok_some ?_
              (try dsimp only) <;> (first | assumption | trivial | grind | grind [hiR])
            · refine ok_if (fun hc => ?_) (fun hc => ?_)
              · refine ok_bind (ok_X0_size (IK.r (k := k) (by (first | assumption | trivial | grind | grind [hiR])) (by (first | assumption | trivial | grind | grind [hiR])))) fun z66 hz66 => ?_
                obtain ⟨hz66_0, hz66_1, hz66_2⟩ := hz66
                refine ok_bind (ok_X1_hasNext _ _) fun z71 hz71 => ?_
                refine ok_bind (ok_X3_oneIf _) fun z76 hz76 => ?_
                refine ok_some ?_
                (try dsimp only) <;> (first | assumption | trivial | grind | grind [hiR])
              · refine ok_some ?_
                (try dsimp only) <;> (first | assumption | trivial | grind | grind [hiR])
theorem ok_X3_yard {σ : CS} (hσ : IK k σ) (x1 : Int32) : Ok (f_X3_yard σ x1) (XQ [1] (fun r => True)) := by
  unfold f_X3_yard
  refine ok_obx (ok_X3_needWithin _ _ _) (by decide) fun z1 hz1 => ?_
  obtain ⟨hz1_0, hz1_1⟩ := hz1
  refine ok_bind (ok_X3_factOfYard (k := k) (by (first | assumption | trivial | grind | grind [hiR])) _) fun z6 hz6 => ?_
  refine ok_inr ?_
  (try dsimp only) <;> (first | assumption | trivial | grind | grind [hiR])
theorem ok_X3_isRowSound {σ : CS} (hσ : IK k σ) (x1 : Nat) (p0 : x1 < 7) : Ok (f_X3_isRowSound σ x1) (fun r => True) := by
  unfold f_X3_isRowSound
  refine ok_bind (ok_X0_size (IK.r (k := k) (by (first | assumption | trivial | grind | grind [hiR])) (by (first | assumption | trivial | grind | grind [hiR])))) fun z24 hz24 => ?_
  obtain ⟨hz24_0, hz24_1, hz24_2⟩ := hz24
  refine ok_if (fun hc => ?_) (fun hc => ?_)
  · refine ok_some ?_
    (try dsimp only) <;> (first | assumption | trivial | grind | grind [hiR])
  · refine ok_bind (ok_X0_size (IK.r (k := k) (by (first | assumption | trivial | grind | grind [hiR])) (by (first | assumption | trivial | grind | grind [hiR])))) fun z30 hz30 => ?_
    obtain ⟨hz30_0, hz30_1, hz30_2⟩ := hz30
    refine ok_if (fun hc => ?_) (fun hc => ?_)
    · refine lpn64 (fun N t => t.1 < 7 ∧ 0 ≤ t.2 ∧ t.2 ≤ 20 ∧ 20 ≤ t.2 + N) (fun N kk1 t hN hN2 ha hk1 => ?_) ?_
      · obtain ⟨a1_0, a1_1, a1_2, a1_3⟩ := ha
        unfold f_X3_isRowSound_20
        refine ok_bind (ok_X0_size (IK.r (k := k) (by (first | assumption | trivial | grind | grind [hiR])) (by (first | assumption | trivial | grind | grind [hiR])))) fun z1 hz1 => ?_
        obtain ⟨hz1_0, hz1_1, hz1_2⟩ := hz1
        refine ok_if (fun hc => ?_) (fun hc => ?_)
        · refine ok_some ?_
          (try dsimp only) <;> (first | assumption | trivial | grind | grind [hiR])
        · refine ok_bind (ok_X0_readFrom (IK.r (k := k) (by (first | assumption | trivial | grind | grind [hiR])) (by (first | assumption | trivial | grind | grind [hiR]))) _ _) fun z7 hz7 => ?_
          obtain ⟨hz7_0, hz7_1⟩ := hz7
          refine ok_bind (ok_X0_size (IK.r (k := k) (by (first | assumption | trivial | grind | grind [hiR])) (by (first | assumption | trivial | grind | grind [hiR])))) fun z12 hz12 => ?_
          obtain ⟨hz12_0, hz12_1, hz12_2⟩ := hz12
          refine ok_bind (ok_X0_readFrom (IK.r (k := k) (by (first | assumption | trivial | grind | grind [hiR])) (by (first | assumption | trivial | grind | grind [hiR]))) _ _) fun z17 hz17 => ?_
          obtain ⟨hz17_0, hz17_1⟩ := hz17
          refine ok_if (fun hc => ?_) (fun hc => ?_)
          · refine ok_nme fun y23 hy23 => ?_
            refine hk1 _ (by (first | assumption | trivial | grind | grind [hiR])) ?_
            refine ⟨?_, ?_, ?_, ?_⟩ <;> (try dsimp only) <;> (first | assumption | trivial | grind | grind [hiR])
          · refine ok_some ?_
            (try dsimp only) <;> (first | assumption | trivial | grind | grind [hiR])
      · refine ⟨?_, ?_, ?_, ?_⟩ <;> (try dsimp only) <;> (first | assumption | trivial | grind | grind [hiR])
    · refine ok_some ?_
      (try dsimp only) <;> (first | assumption | trivial | grind | grind [hiR])
theorem ok_X3_isLineFound {σ : CS} (hσ : IK k σ) : Ok (f_X3_isLineFound σ) (fun r => True) := by
  unfold f_X3_isLineFound
  refine lpn64 (fun N t => 0 ≤ t ∧ t ≤ 20 ∧ 20 ≤ t + N) (fun N kk1 t hN hN2 ha hk1 => ?_) ?_
  · obtain ⟨a1_0, a1_1, a1_2⟩ := ha
    unfold f_X3_isLineFound_2
    refine ok_bind (ok_X0_size (IK.r (k := k) (by (first | assumption | trivial | grind | grind [hiR])) (by (first | assumption | trivial | grind | grind [hiR])))) fun z1 hz1 => ?_
    obtain ⟨hz1_0, hz1_1, hz1_2⟩ := hz1
    refine ok_if (fun hc => ?_) (fun hc => ?_)
    · refine ok_some ?_
      (try dsimp only) <;> (first | assumption | trivial | grind | grind [hiR])
    · refine ok_bind (ok_X0_read (IK.r (k := k) (by (first | assumption | trivial | grind | grind [hiR])) (by (first | assumption | trivial | grind | grind [hiR]))) _) fun z7 hz7 => ?_
      obtain ⟨hz7_0, hz7_1⟩ := hz7
      refine ok_bind (ok_X3_kindOf _) fun z12 hz12 => ?_
      refine ok_bind (ok_X0_placeOfKind (IK.r (k := k) (by (first | assumption | trivial | grind | grind [hiR])) (by (first | assumption | trivial | grind | grind [hiR]))) _ _) fun z17 hz17 => ?_
      refine ok_if (fun hc => ?_) (fun hc => ?_)
      · refine ok_some ?_
        (try dsimp only) <;> (first | assumption | trivial | grind | grind [hiR])
      · refine ok_bind (ok_X0_placeOfKind (IK.r (k := k) (by (first | assumption | trivial | grind | grind [hiR])) (by (first | assumption | trivial | grind | grind [hiR]))) _ _) fun z23 hz23 => ?_
        refine ok_if (fun hc => ?_) (fun hc => ?_)
        · refine ok_nme fun y29 hy29 => ?_
          refine hk1 _ (by (first | assumption | trivial | grind | grind [hiR])) ?_
          refine ⟨?_, ?_, ?_⟩ <;> (try dsimp only) <;> (first | assumption | trivial | grind | grind [hiR])
        · refine ok_some ?_
          (try dsimp only) <;> (first | assumption | trivial | grind | grind [hiR])
  · refine ⟨?_, ?_, ?_⟩ <;> (try dsimp only) <;> (first | assumption | trivial | grind | grind [hiR])
theorem ok_X3_isWalkerSound {σ : CS} (hσ : IK k σ) (x1 : Nat) : Ok (f_X3_isWalkerSound σ x1) (fun r => True) := by
  unfold f_X3_isWalkerSound
  refine ok_bind (ok_X2_isFresh _) fun z1 hz1 => ?_
  refine ok_if (fun hc => ?_) (fun hc => ?_)
  · unfold f_X3_isWalkerSound_28
    try dsimp only
    refine ok_some ?_
    (try dsimp only) <;> (first | assumption | trivial | grind | grind [hiR])
  · refine ok_if (fun hc => ?_) (fun hc => ?_)
    · refine ok_some ?_
      (try dsimp only) <;> (first | assumption | trivial | grind | grind [hiR])
    · refine ok_bind (ok_X0_size (IK.r (k := k) (by (first | assumption | trivial | grind | grind [hiR])) (by (first | assumption | trivial | grind | grind [hiR])))) fun z8 hz8 => ?_
      obtain ⟨hz8_0, hz8_1, hz8_2⟩ := hz8
      refine ok_if (fun hc => ?_) (fun hc => ?_)
      · refine ok_some ?_
        (try dsimp only) <;> (first | assumption | trivial | grind | grind [hiR])
      · unfold f_X3_isWalkerSound_28
        try dsimp only
        refine ok_some ?_
        (try dsimp only) <;> (first | assumption | trivial | grind | grind [hiR])
theorem ok_X3_isUndoneOn {σ : CS} (hσ : IK k σ) (x1 : Nat) (x2 : Int32) (p0 : x1 < 7) (p1 : x1 ≠ 2) (p2 : x1 ≠ 3) (p3 : 0 ≤ x2) : Ok (f_X3_isUndoneOn σ x1 x2) (fun r => IK k r.2) := by
  unfold f_X3_isUndoneOn
  refine ok_bind (ok_X3_slipIsBack _) fun z12 hz12 => ?_
  refine ok_bind (ok_X3_slipIsPut _) fun z17 hz17 => ?_
  refine ok_if (fun hc => ?_) (fun hc => ?_)
  · refine ok_bind (ok_X0_isFull (IK.r (k := k) (by (first | assumption | trivial | grind | grind [hiR])) (by (first | assumption | trivial | grind | grind [hiR])))) fun z23 hz23 => ?_
    refine ok_if (fun hc => ?_) (fun hc => ?_)
    · refine ok_if (fun hc => ?_) (fun hc => ?_)
      · unfold f_X3_isUndoneOn_63
        try dsimp only
        refine ok_bind (ok_X3_slipCode _ (by (first | assumption | trivial | grind | grind [hiR]))) fun z1 hz1 => ?_
        obtain ⟨hz1_0, hz1_1⟩ := hz1
        refine ok_bind (ok_X0_enter (IK.r (k := k) (by (first | assumption | trivial | grind | grind [hiR])) (by (first | assumption | trivial | grind | grind [hiR]))) _ _ (by (first | assumption | trivial | grind | grind [hiR]))) fun z6 hz6 => ?_
        refine ok_nm (IK k) (IK.row (by (first | assumption | trivial | grind | grind [hiR])) (by (first | assumption | trivial | grind | grind [hiR]))) fun t11 ht11 => ?_
        refine ok_some ?_
        (try dsimp only) <;> (first | assumption | trivial | grind | grind [hiR])
      · refine ok_bind (ok_X0_size (IK.r (k := k) (by (first | assumption | trivial | grind | grind [hiR])) (by (first | assumption | trivial | grind | grind [hiR])))) fun z30 hz30 => ?_
        obtain ⟨hz30_0, hz30_1, hz30_2⟩ := hz30
        unfold f_X3_isUndoneOn_63
        try dsimp only
        refine ok_bind (ok_X3_slipCode _ (by (first | assumption | trivial | grind | grind [hiR]))) fun z1 hz1 => ?_
        obtain ⟨hz1_0, hz1_1⟩ := hz1
        refine ok_bind (ok_X0_enter (IK.r (k := k) (by (first | assumption | trivial | grind | grind [hiR])) (by (first | assumption | trivial | grind | grind [hiR]))) _ _ (by (first | assumption | trivial | grind | grind [hiR]))) fun z6 hz6 => ?_
        refine ok_nm (IK k) (IK.row (by (first | assumption | trivial | grind | grind [hiR])) (by (first | assumption | trivial | grind | grind [hiR]))) fun t11 ht11 => ?_
        refine ok_some ?_
        (try dsimp only) <;> (first | assumption | trivial | grind | grind [hiR])
    · refine ok_some ?_
      (try dsimp only) <;> (first | assumption | trivial | grind | grind [hiR])
  · refine ok_bind (ok_X0_isEmpty (IK.r (k := k) (by (first | assumption | trivial | grind | grind [hiR])) (by (first | assumption | trivial | grind | grind [hiR])))) fun z35 hz35 => ?_
    refine ok_if (fun hc => ?_) (fun hc => ?_)
    · refine ok_bind (ok_X0_endPlace (IK.r (k := k) (by (first | assumption | trivial | grind | grind [hiR])) (by (first | assumption | trivial | grind | grind [hiR]))) _) fun z41 hz41 => ?_
      refine ok_bind (ok_X0_leave (IK.r (k := k) (by (first | assumption | trivial | grind | grind [hiR])) (by (first | assumption | trivial | grind | grind [hiR]))) _) fun z46 hz46 => ?_
      obtain ⟨hz46_0, hz46_1⟩ := hz46
      refine ok_nm (IK k) (IK.row (by (first | assumption | trivial | grind | grind [hiR])) (by (first | assumption | trivial | grind | grind [hiR]))) fun t51 ht51 => ?_
      refine ok_bind (ok_X3_slipCode _ (by (first | assumption | trivial | grind | grind [hiR]))) fun z52 hz52 => ?_
      obtain ⟨hz52_0, hz52_1⟩ := hz52
      refine ok_if (fun hc => ?_) (fun hc => ?_)
      · refine ok_some ?_
        (try dsimp only) <;> (first | assumption | trivial | grind | grind [hiR])
      · refine ok_some ?_
        (try dsimp only) <;> (first | assumption | trivial | grind | grind [hiR])
    · refine ok_some ?_
      (try dsimp only) <;> (first | assumption | trivial | grind | grind [hiR])
theorem ok_X3_isUndoneOnPaper {σ : CS} (hσ : IK k σ) : Ok (f_X3_isUndoneOnPaper σ) (fun r => IK k r.2) := by
  unfold f_X3_isUndoneOnPaper
  refine ok_bind (ok_X0_copyFrom (k := k) (by (first | assumption | trivial | grind | grind [hiR])) _ _ (by (first | assumption | trivial | grind | grind [hiR])) (by (first | assumption | trivial | grind | grind [hiR])) (by (first | assumption | trivial | grind | grind [hiR]))) fun z20 hz20 => ?_
  refine ok_bind (ok_X0_copyFrom (k := k) (by (first | assumption | trivial | grind | grind [hiR])) _ _ (by (first | assumption | trivial | grind | grind [hiR])) (by (first | assumption | trivial | grind | grind [hiR])) (by (first | assumption | trivial | grind | grind [hiR]))) fun z25 hz25 => ?_
  refine ok_bind (ok_X0_size (IK.r (k := k) (by (first | assumption | trivial | grind | grind [hiR])) (by (first | assumption | trivial | grind | grind [hiR])))) fun z30 hz30 => ?_
  obtain ⟨hz30_0, hz30_1, hz30_2⟩ := hz30
  refine ok_nme fun y35 hy35 => ?_
  refine lpn64 (fun N t => IK k t.1 ∧ -1 ≤ t.2 ∧ t.2 ≤ 20 ∧ t.2 + 1 ≤ N) (fun N kk1 t hN hN2 ha hk1 => ?_) ?_
  · obtain ⟨a1_0, a1_1, a1_2, a1_3⟩ := ha
    unfold f_X3_isUndoneOnPaper_32
    refine ok_if (fun hc => ?_) (fun hc => ?_)
    · refine ok_some ?_
      (try dsimp only) <;> (first | assumption | trivial | grind | grind [hiR])
    · refine ok_bind (ok_X0_read (IK.r (k := k) (by (first | assumption | trivial | grind | grind [hiR])) (by (first | assumption | trivial | grind | grind [hiR]))) _) fun z9 hz9 => ?_
      obtain ⟨hz9_0, hz9_1⟩ := hz9
      refine ok_bind (ok_X3_slipTrack _) fun z14 hz14 => ?_
      refine ok_if (fun hc => ?_) (fun hc => ?_)
      · unfold f_X3_isUndoneOnPaper_63
        try dsimp only
        refine ok_bind (ok_X3_isUndoneOn (k := k) (by (first | assumption | trivial | grind | grind [hiR])) _ _ (by (first | assumption | trivial | grind | grind [hiR])) (by (first | assumption | trivial | grind | grind [hiR])) (by (first | assumption | trivial | grind | grind [hiR])) (by (first | assumption | trivial | grind | grind [hiR]))) fun z1 hz1 => ?_
        refine ok_if (fun hc => ?_) (fun hc => ?_)
        · refine ok_some ?_
          (try dsimp only) <;> (first | assumption | trivial | grind | grind [hiR])
        · refine ok_nme fun y7 hy7 => ?_
          refine hk1 _ (by (first | assumption | trivial | grind | grind [hiR])) ?_
          refine ⟨?_, ?_, ?_, ?_⟩ <;> (try dsimp only) <;> (first | assumption | trivial | grind | grind [hiR])
      · unfold f_X3_isUndoneOnPaper_63
        try dsimp only
        refine ok_bind (ok_X3_isUndoneOn (k := k) (by (first | assumption | trivial | grind | grind [hiR])) _ _ (by (first | assumption | trivial | grind | grind [hiR])) (by (first | assumption | trivial | grind | grind [hiR])) (by (first | assumption | trivial | grind | grind [hiR])) (by (first | assumption | trivial | grind | grind [hiR]))) fun z1 hz1 => ?_
        refine ok_if (fun hc => ?_) (fun hc => ?_)
        · refine ok_some ?_
          (try dsimp only) <;> (first | assumption | trivial | grind | grind [hiR])
        · refine ok_nme fun y7 hy7 => ?_
          refine hk1 _ (by (first | assumption | trivial | grind | grind [hiR])) ?_
          refine ⟨?_, ?_, ?_, ?_⟩ <;> (try dsimp only) <;> (first | assumption | trivial | grind | grind [hiR])
  · refine ⟨?_, ?_, ?_, ?_⟩ <;> (try dsimp only) <;> (first | assumption | trivial | grind | grind [hiR])
theorem ok_X3_isSound {σ : CS} (hσ : IK k σ) : Ok (f_X3_isSound σ) (fun r => IK k r.2) := by
  unfold f_X3_isSound
  refine ok_bind (ok_X3_isRowSound (k := k) (by (first | assumption | trivial | grind | grind [hiR])) _ (by (first | assumption | trivial | grind | grind [hiR]))) fun z1 hz1 => ?_
  refine ok_if (fun hc => ?_) (fun hc => ?_)
  · refine ok_some ?_
    (try dsimp only) <;> (first | assumption | trivial | grind | grind [hiR])
  · refine ok_bind (ok_X3_isRowSound (k := k) (by (first | assumption | trivial | grind | grind [hiR])) _ (by (first | assumption | trivial | grind | grind [hiR]))) fun z7 hz7 => ?_
    refine ok_if (fun hc => ?_) (fun hc => ?_)
    · refine ok_some ?_
      (try dsimp only) <;> (first | assumption | trivial | grind | grind [hiR])
    · refine ok_bind (ok_X0_placeOfKind (IK.r (k := k) (by (first | assumption | trivial | grind | grind [hiR])) (by (first | assumption | trivial | grind | grind [hiR]))) _ _) fun z13 hz13 => ?_
      refine ok_if (fun hc => ?_) (fun hc => ?_)
      · refine ok_bind (ok_X3_isLineFound (k := k) (by (first | assumption | trivial | grind | grind [hiR]))) fun z19 hz19 => ?_
        refine ok_if (fun hc => ?_) (fun hc => ?_)
        · refine ok_some ?_
          (try dsimp only) <;> (first | assumption | trivial | grind | grind [hiR])
        · refine ok_bind (ok_X3_isWalkerSound (k := k) (by (first | assumption | trivial | grind | grind [hiR])) _) fun z25 hz25 => ?_
          refine ok_if (fun hc => ?_) (fun hc => ?_)
          · refine ok_some ?_
            (try dsimp only) <;> (first | assumption | trivial | grind | grind [hiR])
          · refine ok_bind (ok_X3_isWalkerSound (k := k) (by (first | assumption | trivial | grind | grind [hiR])) _) fun z31 hz31 => ?_
            refine ok_if (fun hc => ?_) (fun hc => ?_)
            · refine ok_some ?_
              (try dsimp only) <;> (first | assumption | trivial | grind | grind [hiR])
            · refine ok_bind (ok_X0_size (IK.r (k := k) (by (first | assumption | trivial | grind | grind [hiR])) (by (first | assumption | trivial | grind | grind [hiR])))) fun z37 hz37 => ?_
              obtain ⟨hz37_0, hz37_1, hz37_2⟩ := hz37
              refine ok_if (fun hc => ?_) (fun hc => ?_)
              · refine ok_some ?_
                (try dsimp only) <;> (first | assumption | trivial | grind | grind [hiR])
              · refine ok_bind (ok_X0_size (IK.r (k := k) (by (first | assumption | trivial | grind | grind [hiR])) (by (first | assumption | trivial | grind | grind [hiR])))) fun z43 hz43 => ?_
                obtain ⟨hz43_0, hz43_1, hz43_2⟩ := hz43
                refine ok_if (fun hc => ?_) (fun hc => ?_)
                · refine ok_some ?_
                  (try dsimp only) <;> (first | assumption | trivial | grind | grind [hiR])
                · refine ok_bind (ok_X3_isUndoneOnPaper (k := k) (by (first | assumption | trivial | grind | grind [hiR]))) fun z49 hz49 => ?_
                  refine ok_if (fun hc => ?_) (fun hc => ?_)
                  · refine ok_some ?_
                    (try dsimp only) <;> (first | assumption | trivial | grind | grind [hiR])
                  · refine ok_some ?_
                    (try dsimp only) <;> (first | assumption | trivial | grind | grind [hiR])
      · refine ok_some ?_
        (try dsimp only) <;> (first | assumption | trivial | grind | grind [hiR])
theorem ok_X3_with (x1 : Int64) (x2 : Int32) : Ok (f_X3_with x1 x2) (fun r => True) := by
  unfold f_X3_with
  refine ok_some ?_
  (try dsimp only) <;> (first | assumption | trivial | grind | grind [hiR])
theorem ok_X3_writtenLength {σ : CS} (hσ : IK k σ) (x1 : Nat) (p0 : x1 < 7) : Ok (f_X3_writtenLength σ x1) (fun r => True) := by
  unfold f_X3_writtenLength
  refine ok_bind (ok_X0_size (IK.r (k := k) (by (first | assumption | trivial | grind | grind [hiR])) (by (first | assumption | trivial | grind | grind [hiR])))) fun z20 hz20 => ?_
  obtain ⟨hz20_0, hz20_1, hz20_2⟩ := hz20
  refine ok_nme fun y25 hy25 => ?_
  refine lpn64 (fun N t => t.1 < 7 ∧ 0 ≤ t.2.2 ∧ t.2.2 ≤ 20 ∧ 20 ≤ t.2.2 + N) (fun N kk1 t hN hN2 ha hk1 => ?_) ?_
  · obtain ⟨a1_0, a1_1, a1_2, a1_3⟩ := ha
    unfold f_X3_writtenLength_13
    refine ok_bind (ok_X0_size (IK.r (k := k) (by (first | assumption | trivial | grind | grind [hiR])) (by (first | assumption | trivial | grind | grind [hiR])))) fun z3 hz3 => ?_
    obtain ⟨hz3_0, hz3_1, hz3_2⟩ := hz3
    refine ok_if (fun hc => ?_) (fun hc => ?_)
    · refine ok_some ?_
      (try dsimp only) <;> (first | assumption | trivial | grind | grind [hiR])
    · refine ok_bind (ok_X0_read (IK.r (k := k) (by (first | assumption | trivial | grind | grind [hiR])) (by (first | assumption | trivial | grind | grind [hiR]))) _) fun z9 hz9 => ?_
      obtain ⟨hz9_0, hz9_1⟩ := hz9
      refine ok_bind (ok_X3_kindOf _) fun z14 hz14 => ?_
      refine ok_if (fun hc => ?_) (fun hc => ?_)
      · unfold f_X3_writtenLength_38
        try dsimp only
        refine ok_nme fun y1 hy1 => ?_
        refine ok_nme fun y2 hy2 => ?_
        refine hk1 _ (by (first | assumption | trivial | grind | grind [hiR])) ?_
        refine ⟨?_, ?_, ?_, ?_⟩ <;> (try dsimp only) <;> (first | assumption | trivial | grind | grind [hiR])
      · unfold f_X3_writtenLength_38
        try dsimp only
        refine ok_nme fun y1 hy1 => ?_
        refine ok_nme fun y2 hy2 => ?_
        refine hk1 _ (by (first | assumption | trivial | grind | grind [hiR])) ?_
        refine ⟨?_, ?_, ?_, ?_⟩ <;> (try dsimp only) <;> (first | assumption | trivial | grind | grind [hiR])
  · refine ⟨?_, ?_, ?_, ?_⟩ <;> (try dsimp only) <;> (first | assumption | trivial | grind | grind [hiR])
theorem ok_X3_withTrack {σ : CS} (hσ : IK k σ) (x1 : Int64) (x2 : Int32) : Ok (f_X3_withTrack σ x1 x2) (fun r => IK k r.2) := by
  unfold f_X3_withTrack
  refine lpn64 (fun N t => 0 ≤ t.2.2 ∧ t.2.2 ≤ 20 ∧ 20 ≤ t.2.2 + N) (fun N kk1 t hN hN2 ha hk1 => ?_) ?_
  · obtain ⟨a1_0, a1_1, a1_2⟩ := ha
    unfold f_X3_withTrack_6
    refine ok_if (fun hc => ?_) (fun hc => ?_)
    · refine lpn64 (fun N t => 0 ≤ t.2.2 ∧ t.2.2 ≤ 20 ∧ 20 ≤ t.2.2 + N) (fun N kk2 t hN hN2 ha hk2 => ?_) ?_
      · obtain ⟨a2_0, a2_1, a2_2⟩ := ha
        unfold f_X3_withTrack_35
        refine ok_if (fun hc => ?_) (fun hc => ?_)
        · refine ok_bind (ok_X3_trackOf (k := k) (by (first | assumption | trivial | grind | grind [hiR])) _) fun z39 hz39 => ?_
          refine lpn64 (fun N t => t.2.2.1 < 7 ∧ 0 ≤ t.2.2.2 ∧ t.2.2.2 ≤ 20 ∧ 20 ≤ t.2.2.2 + N) (fun N kk3 t hN hN2 ha hk3 => ?_) ?_
          · obtain ⟨a3_0, a3_1, a3_2, a3_3⟩ := ha
            unfold f_X3_withTrack_71
            refine ok_bind (ok_X0_size (IK.r (k := k) (by (first | assumption | trivial | grind | grind [hiR])) (by (first | assumption | trivial | grind | grind [hiR])))) fun z1 hz1 => ?_
            obtain ⟨hz1_0, hz1_1, hz1_2⟩ := hz1
            refine ok_if (fun hc => ?_) (fun hc => ?_)
            · refine ok_bind (ok_X3_writtenLength (k := k) (by (first | assumption | trivial | grind | grind [hiR])) _ (by (first | assumption | trivial | grind | grind [hiR]))) fun z7 hz7 => ?_
              refine ok_bind (ok_X3_with _ _) fun z12 hz12 => ?_
              refine ok_bind (ok_X3_mostOpen (k := k) (by (first | assumption | trivial | grind | grind [hiR])) _) fun z17 hz17 => ?_
              refine ok_bind (ok_X3_with _ _) fun z22 hz22 => ?_
              refine ok_some ?_
              (try dsimp only) <;> (first | assumption | trivial | grind | grind [hiR])
            · refine ok_bind (ok_X0_read (IK.r (k := k) (by (first | assumption | trivial | grind | grind [hiR])) (by (first | assumption | trivial | grind | grind [hiR]))) _) fun z27 hz27 => ?_
              obtain ⟨hz27_0, hz27_1⟩ := hz27
              refine ok_bind (ok_X3_with _ _) fun z32 hz32 => ?_
              refine ok_nme fun y37 hy37 => ?_
              refine hk3 _ (by (first | assumption | trivial | grind | grind [hiR])) ?_
              refine ⟨?_, ?_, ?_, ?_⟩ <;> (try dsimp only) <;> (first | assumption | trivial | grind | grind [hiR])
          · refine ⟨?_, ?_, ?_, ?_⟩ <;> (try dsimp only) <;> (first | assumption | trivial | grind | grind [hiR])
        · refine ok_bind (ok_X3_atEnd (k := k) (by (first | assumption | trivial | grind | grind [hiR])) _ _) fun z44 hz44 => ?_
          refine ok_bind (ok_X3_with _ _) fun z49 hz49 => ?_
          refine ok_nme fun y54 hy54 => ?_
          refine hk2 _ (by (first | assumption | trivial | grind | grind [hiR])) ?_
          refine ⟨?_, ?_, ?_⟩ <;> (try dsimp only) <;> (first | assumption | trivial | grind | grind [hiR])
      · refine ⟨?_, ?_, ?_⟩ <;> (try dsimp only) <;> (first | assumption | trivial | grind | grind [hiR])
    · refine ok_bind (ok_X3_factOfTrack (k := k) (by (first | assumption | trivial | grind | grind [hiR])) _ _) fun z56 hz56 => ?_
      refine ok_bind (ok_X3_with _ _) fun z61 hz61 => ?_
      refine ok_nme fun y66 hy66 => ?_
      refine hk1 _ (by (first | assumption | trivial | grind | grind [hiR])) ?_
      refine ⟨?_, ?_, ?_⟩ <;> (try dsimp only) <;> (first | assumption | trivial | grind | grind [hiR])
  · refine ⟨?_, ?_, ?_⟩ <;> (try dsimp only) <;> (first | assumption | trivial | grind | grind [hiR])
theorem ok_X3_withWalker {σ : CS} (hσ : IK k σ) (x1 : Int64) (x2 : Int32) : Ok (f_X3_withWalker σ x1 x2) (fun r => True) := by
  unfold f_X3_withWalker
  refine ok_bind (ok_X3_ofWalker (k := k) (by (first | assumption | trivial | grind | grind [hiR])) _ _) fun z13 hz13 => ?_
  refine ok_bind (ok_X3_with _ _) fun z18 hz18 => ?_
  refine ok_bind (ok_X3_walkerOf (k := k) (by (first | assumption | trivial | grind | grind [hiR])) _) fun z23 hz23 => ?_
  refine ok_bind (ok_X2_isFresh _) fun z28 hz28 => ?_
  refine ok_if (fun hc => ?_) (fun hc => ?_)
  · unfold f_X3_withWalker_52
    try dsimp only
    refine ok_some ?_
    (try dsimp only) <;> (first | assumption | trivial | grind | grind [hiR])
  · refine lpn64 (fun N t => 0 ≤ t.2.2 ∧ t.2.2 ≤ 20 ∧ 20 ≤ t.2.2 + N) (fun N kk1 t hN hN2 ha hk1 => ?_) ?_
    · obtain ⟨a1_0, a1_1, a1_2⟩ := ha
      unfold f_X3_withWalker_26
      refine ok_if (fun hc => ?_) (fun hc => ?_)
      · unfold f_X3_withWalker_52
        try dsimp only
        refine ok_some ?_
        (try dsimp only) <;> (first | assumption | trivial | grind | grind [hiR])
      · refine ok_bind (ok_X3_ofWalker (k := k) (by (first | assumption | trivial | grind | grind [hiR])) _ _) fun z2 hz2 => ?_
        refine ok_bind (ok_X3_with _ _) fun z7 hz7 => ?_
        refine ok_nme fun y12 hy12 => ?_
        refine hk1 _ (by (first | assumption | trivial | grind | grind [hiR])) ?_
        refine ⟨?_, ?_, ?_⟩ <;> (try dsimp only) <;> (first | assumption | trivial | grind | grind [hiR])
    · refine ⟨?_, ?_, ?_⟩ <;> (try dsimp only) <;> (first | assumption | trivial | grind | grind [hiR])
theorem ok_X3_digest {σ : CS} (hσ : IK k σ) : Ok (f_X3_digest σ) (fun r => IK k r.2) := by
  unfold f_X3_digest
  refine ok_bind (ok_X3_withTrack (k := k) (by (first | assumption | trivial | grind | grind [hiR])) _ _) fun z125 hz125 => ?_
  refine ok_bind (ok_X3_withTrack (k := k) (by (first | assumption | trivial | grind | grind [hiR])) _ _) fun z130 hz130 => ?_
  refine lpn64 (fun N t => IK k t.1 ∧ 0 ≤ t.2.2 ∧ t.2.2 ≤ 20 ∧ 20 ≤ t.2.2 + N) (fun N kk1 t hN hN2 ha hk1 => ?_) ?_
  · obtain ⟨a1_0, a1_1, a1_2, a1_3⟩ := ha
    unfold f_X3_digest_20
    refine ok_if (fun hc => ?_) (fun hc => ?_)
    · refine ok_bind (ok_X3_withWalker (k := k) (by (first | assumption | trivial | grind | grind [hiR])) _ _) fun z94 hz94 => ?_
      refine ok_bind (ok_X3_withWalker (k := k) (by (first | assumption | trivial | grind | grind [hiR])) _ _) fun z99 hz99 => ?_
      refine lpn64 (fun N t => IK k t.1 ∧ 0 ≤ t.2.2 ∧ t.2.2 ≤ 20 ∧ 20 ≤ t.2.2 + N) (fun N kk2 t hN hN2 ha hk2 => ?_) ?_
      · obtain ⟨a2_0, a2_1, a2_2, a2_3⟩ := ha
        unfold f_X3_digest_76
        refine ok_if (fun hc => ?_) (fun hc => ?_)
        · refine ok_bind (ok_X0_size (IK.r (k := k) (by (first | assumption | trivial | grind | grind [hiR])) (by (first | assumption | trivial | grind | grind [hiR])))) fun z76 hz76 => ?_
          obtain ⟨hz76_0, hz76_1, hz76_2⟩ := hz76
          refine ok_nme fun y81 hy81 => ?_
          refine lpn64 (fun N t => IK k t.1 ∧ -1 ≤ t.2.2 ∧ t.2.2 ≤ 20 ∧ t.2.2 + 1 ≤ N) (fun N kk3 t hN hN2 ha hk3 => ?_) ?_
          · obtain ⟨a3_0, a3_1, a3_2, a3_3⟩ := ha
            unfold f_X3_digest_108
            refine ok_if (fun hc => ?_) (fun hc => ?_)
            · refine lpn64 (fun N t => IK k t.1 ∧ 0 ≤ t.2.2 ∧ t.2.2 ≤ 20 ∧ 20 ≤ t.2.2 + N) (fun N kk4 t hN hN2 ha hk4 => ?_) ?_
              · obtain ⟨a4_0, a4_1, a4_2, a4_3⟩ := ha
                unfold f_X3_digest_133
                refine ok_bind (ok_X0_size (IK.r (k := k) (by (first | assumption | trivial | grind | grind [hiR])) (by (first | assumption | trivial | grind | grind [hiR])))) fun z1 hz1 => ?_
                obtain ⟨hz1_0, hz1_1, hz1_2⟩ := hz1
                refine ok_if (fun hc => ?_) (fun hc => ?_)
                · refine ok_bind (ok_X3_compare (k := k) (by (first | assumption | trivial | grind | grind [hiR])) _) fun z7 hz7 => ?_
                  refine ok_bind (ok_X3_oneIf _) fun z12 hz12 => ?_
                  refine ok_bind (ok_X3_with _ _) fun z17 hz17 => ?_
                  refine ok_bind (ok_X3_compare (k := k) (by (first | assumption | trivial | grind | grind [hiR])) _) fun z22 hz22 => ?_
                  refine ok_bind (ok_X3_oneIf _) fun z27 hz27 => ?_
                  refine ok_bind (ok_X3_with _ _) fun z32 hz32 => ?_
                  refine ok_bind (ok_X3_isSound (k := k) (by (first | assumption | trivial | grind | grind [hiR]))) fun z37 hz37 => ?_
                  refine ok_bind (ok_X3_oneIf _) fun z42 hz42 => ?_
                  refine ok_bind (ok_X3_with _ _) fun z47 hz47 => ?_
                  refine ok_some ?_
                  (try dsimp only) <;> (first | assumption | trivial | grind | grind [hiR])
                · refine ok_bind (ok_X0_read (IK.r (k := k) (by (first | assumption | trivial | grind | grind [hiR])) (by (first | assumption | trivial | grind | grind [hiR]))) _) fun z52 hz52 => ?_
                  obtain ⟨hz52_0, hz52_1⟩ := hz52
                  refine ok_bind (ok_X3_with _ _) fun z57 hz57 => ?_
                  refine ok_nme fun y62 hy62 => ?_
                  refine hk4 _ (by (first | assumption | trivial | grind | grind [hiR])) ?_
                  refine ⟨?_, ?_, ?_, ?_⟩ <;> (try dsimp only) <;> (first | assumption | trivial | grind | grind [hiR])
              · refine ⟨?_, ?_, ?_, ?_⟩ <;> (try dsimp only) <;> (first | assumption | trivial | grind | grind [hiR])
            · refine ok_bind (ok_X0_read (IK.r (k := k) (by (first | assumption | trivial | grind | grind [hiR])) (by (first | assumption | trivial | grind | grind [hiR]))) _) fun z64 hz64 => ?_
              obtain ⟨hz64_0, hz64_1⟩ := hz64
              refine ok_bind (ok_X3_with _ _) fun z69 hz69 => ?_
              refine ok_nme fun y74 hy74 => ?_
              refine hk3 _ (by (first | assumption | trivial | grind | grind [hiR])) ?_
              refine ⟨?_, ?_, ?_, ?_⟩ <;> (try dsimp only) <;> (first | assumption | trivial | grind | grind [hiR])
          · refine ⟨?_, ?_, ?_, ?_⟩ <;> (try dsimp only) <;> (first | assumption | trivial | grind | grind [hiR])
        · refine ok_bind (ok_X3_factOfYard (k := k) (by (first | assumption | trivial | grind | grind [hiR])) _) fun z82 hz82 => ?_
          refine ok_bind (ok_X3_with _ _) fun z87 hz87 => ?_
          refine ok_nme fun y92 hy92 => ?_
          refine hk2 _ (by (first | assumption | trivial | grind | grind [hiR])) ?_
          refine ⟨?_, ?_, ?_, ?_⟩ <;> (try dsimp only) <;> (first | assumption | trivial | grind | grind [hiR])
      · refine ⟨?_, ?_, ?_, ?_⟩ <;> (try dsimp only) <;> (first | assumption | trivial | grind | grind [hiR])
    · refine ok_bind (ok_X0_placeOfKind (IK.r (k := k) (by (first | assumption | trivial | grind | grind [hiR])) (by (first | assumption | trivial | grind | grind [hiR]))) _ _) fun z104 hz104 => ?_
      refine ok_bind (ok_X3_with _ _) fun z109 hz109 => ?_
      refine ok_bind (ok_X0_placeOfKind (IK.r (k := k) (by (first | assumption | trivial | grind | grind [hiR])) (by (first | assumption | trivial | grind | grind [hiR]))) _ _) fun z114 hz114 => ?_
      refine ok_bind (ok_X3_with _ _) fun z119 hz119 => ?_
      refine ok_nme fun y124 hy124 => ?_
      refine hk1 _ (by (first | assumption | trivial | grind | grind [hiR])) ?_
      refine ⟨?_, ?_, ?_, ?_⟩ <;> (try dsimp only) <;> (first | assumption | trivial | grind | grind [hiR])
  · refine ⟨?_, ?_, ?_, ?_⟩ <;> (try dsimp only) <;> (first | assumption | trivial | grind | grind [hiR])
end OKC
