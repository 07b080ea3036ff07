/-! the yard: every method of the class comes to its end (written by okgen.py) -/
section OKC
variable {k : Int32}
theorem ok_X3_work {σ : CS} (hσ : IK k σ) (x1 : Int32) : Ok (f_X3_work σ x1) (XQ [1] (fun r => IK k r.2)) := by
  unfold f_X3_work
  refine ok_obx (ok_X3_needWithin _ _ _) (by decide) fun z33 hz33 => ?_
  obtain ⟨hz33_0, hz33_1⟩ := hz33
  refine lpn64 (fun N t => IK k t.1 ∧ t.2.1 ≤ 10 ∧ 0 ≤ t.2.2.2 ∧ t.2.2.2 ≤ 20 ∧ 20 ≤ t.2.2.2 + N) (fun N kk1 t hN hN2 ha hk1 => ?_) ?_
  · obtain ⟨a1_0, a1_1, a1_2, a1_3, a1_4⟩ := ha
    unfold f_X3_work_11
    refine ok_if (fun hc => ?_) (fun hc => ?_)
    · unfold f_X3_work_72
      try dsimp only
      refine ok_inr ?_
      (try dsimp only) <;> (first | assumption | trivial | grind | grind [hiR])
    · refine ok_bind (ok_X0_isEmpty (IK.r (k := k) (by (first | assumption | trivial | grind | grind [hiR])) (by (first | assumption | trivial | grind | grind [hiR])))) fun z3 hz3 => ?_
      refine ok_if (fun hc => ?_) (fun hc => ?_)
      · refine ok_bind (ok_X0_leave (IK.r (k := k) (by (first | assumption | trivial | grind | grind [hiR])) (by (first | assumption | trivial | grind | grind [hiR]))) _) fun z9 hz9 => ?_
        obtain ⟨hz9_0, hz9_1⟩ := hz9
        have hz9_0 : 0 ≤ z9.1 ∧ z9.1 ≤ 7 := hz9_0
        refine ok_nm (IK k) (IK.row (by (first | assumption | trivial | grind | grind [hiR])) (by (first | assumption | trivial | grind | grind [hiR]))) fun t14 ht14 => ?_
        refine ok_bind (ok_X3_canMove (k := k) (by (first | assumption | trivial | grind | grind [hiR])) _ (by (first | assumption | trivial | grind | grind [hiR])) (by (first | assumption | trivial | grind | grind [hiR]))) fun z15 hz15 => ?_
        refine ok_if (fun hc => ?_) (fun hc => ?_)
        · refine ok_bind (ok_X0_enterLast (IK.r (k := k) (by (first | assumption | trivial | grind | grind [hiR])) (by (first | assumption | trivial | grind | grind [hiR]))) _ (by (first | assumption | trivial | grind | grind [hiR]))) fun z21 hz21 => ?_
          refine ok_nm (IK k) (IK.row (by (first | assumption | trivial | grind | grind [hiR])) (by (first | assumption | trivial | grind | grind [hiR]))) fun t26 ht26 => ?_
          unfold f_X3_work_66
          try dsimp only
          refine ok_nme fun y1 hy1 => ?_
          refine hk1 _ (by (first | assumption | trivial | grind | grind [hiR])) ?_
          refine ⟨?_, ?_, ?_, ?_, ?_⟩ <;> (try dsimp only) <;> (first | assumption | trivial | grind | grind [hiR])
        · refine ok_bind (ok_X3_move (k := k) (by (first | assumption | trivial | grind | grind [hiR])) _ (by (first | assumption | trivial | grind | grind [hiR])) (by (first | assumption | trivial | grind | grind [hiR]))) fun z27 hz27 => ?_
          refine ok_nme fun y32 hy32 => ?_
          unfold f_X3_work_66
          try dsimp only
          refine ok_nme fun y1 hy1 => ?_
          refine hk1 _ (by (first | assumption | trivial | grind | grind [hiR])) ?_
          refine ⟨?_, ?_, ?_, ?_, ?_⟩ <;> (try dsimp only) <;> (first | assumption | trivial | grind | grind [hiR])
      · unfold f_X3_work_72
        try dsimp only
        refine ok_inr ?_
        (try dsimp only) <;> (first | assumption | trivial | grind | grind [hiR])
  · refine ⟨?_, ?_, ?_, ?_, ?_⟩ <;> (try dsimp only) <;> (first | assumption | trivial | grind | grind [hiR])
theorem ok_X3_cancel {σ : CS} (hσ : IK k σ) (x1 : Int32) (x2 : Int32) : Ok (f_X3_cancel σ x1 x2) (XQ [1] (fun r => IK k r.2)) := by
  unfold f_X3_cancel
  refine ok_obx (ok_X3_needWithin _ _ _) (by decide) fun z1 hz1 => ?_
  obtain ⟨hz1_0, hz1_1⟩ := hz1
  refine ok_bind (ok_X0_placeOf (IK.r (k := k) (by (first | assumption | trivial | grind | grind [hiR])) (by (first | assumption | trivial | grind | grind [hiR]))) _ _) fun z6 hz6 => ?_
  refine ok_if (fun hc => ?_) (fun hc => ?_)
  · refine ok_inr ?_
    (try dsimp only) <;> (first | assumption | trivial | grind | grind [hiR])
  · refine ok_bind (ok_X0_leave (IK.r (k := k) (by (first | assumption | trivial | grind | grind [hiR])) (by (first | assumption | trivial | grind | grind [hiR]))) _) fun z12 hz12 => ?_
    obtain ⟨hz12_0, hz12_1⟩ := hz12
    refine ok_nm (IK k) (IK.row (by (first | assumption | trivial | grind | grind [hiR])) (by (first | assumption | trivial | grind | grind [hiR]))) fun t17 ht17 => ?_
    refine ok_inr ?_
    (try dsimp only) <;> (first | assumption | trivial | grind | grind [hiR])
theorem ok_X3_atEnd {σ : CS} (hσ : IK k σ) (x1 : Int32) (x2 : Int32) : Ok (f_X3_atEnd σ x1 x2) (fun r => True) := by
  unfold f_X3_atEnd
  refine ok_bind (ok_X3_trackOf (k := k) (by (first | assumption | trivial | grind | grind [hiR])) _) fun z6 hz6 => ?_
  refine ok_bind (ok_X0_isEmpty (IK.r (k := k) (by (first | assumption | trivial | grind | grind [hiR])) (by (first | assumption | trivial | grind | grind [hiR])))) fun z11 hz11 => ?_
  refine ok_if (fun hc => ?_) (fun hc => ?_)
  · refine ok_if (fun hc => ?_) (fun hc => ?_)
    · unfold f_X3_atEnd_44
      try dsimp only
      unfold f_X3_atEnd_49
      try dsimp only
      refine ok_bind (ok_X3_codeAtEnd (k := k) (by (first | assumption | trivial | grind | grind [hiR])) _ _) fun z1 hz1 => ?_
      obtain ⟨hz1_0, hz1_1⟩ := hz1
      refine ok_some ?_
      (try dsimp only) <;> (first | assumption | trivial | grind | grind [hiR])
    · refine ok_if (fun hc => ?_) (fun hc => ?_)
      · unfold f_X3_atEnd_44
        try dsimp only
        unfold f_X3_atEnd_49
        try dsimp only
        refine ok_bind (ok_X3_codeAtEnd (k := k) (by (first | assumption | trivial | grind | grind [hiR])) _ _) fun z1 hz1 => ?_
        obtain ⟨hz1_0, hz1_1⟩ := hz1
        refine ok_some ?_
        (try dsimp only) <;> (first | assumption | trivial | grind | grind [hiR])
      · unfold f_X3_atEnd_49
        try dsimp only
        refine ok_bind (ok_X3_codeAtEnd (k := k) (by (first | assumption | trivial | grind | grind [hiR])) _ _) fun z1 hz1 => ?_
        obtain ⟨hz1_0, hz1_1⟩ := hz1
        refine ok_some ?_
        (try dsimp only) <;> (first | assumption | trivial | grind | grind [hiR])
  · refine ok_if (fun hc => ?_) (fun hc => ?_)
    · unfold f_X3_atEnd_25
      try dsimp only
      refine ok_some ?_
      (try dsimp only) <;> (first | assumption | trivial | grind | grind [hiR])
    · refine ok_if (fun hc => ?_) (fun hc => ?_)
      · unfold f_X3_atEnd_25
        try dsimp only
        refine ok_some ?_
        (try dsimp only) <;> (first | assumption | trivial | grind | grind [hiR])
      · refine ok_if (fun hc => ?_) (fun hc => ?_)
        · unfold f_X3_atEnd_25
          try dsimp only
          refine ok_some ?_
          (try dsimp only) <;> (first | assumption | trivial | grind | grind [hiR])
        · refine ok_some ?_
          (try dsimp only) <;> (first | assumption | trivial | grind | grind [hiR])
theorem ok_X3_ask {σ : CS} (hσ : IK k σ) (x1 : Int32) (x2 : Int32) : Ok (f_X3_ask σ x1 x2) (XQ [0, 1] (fun r => True)) := by
  unfold f_X3_ask
  refine ok_obx (ok_X3_needTrack _) (by decide) fun z1 hz1 => ?_
  refine ok_obx (ok_X3_needWithin _ _ _) (by decide) fun z6 hz6 => ?_
  obtain ⟨hz6_0, hz6_1⟩ := hz6
  refine ok_bind (ok_X3_atEnd (k := k) (by (first | assumption | trivial | grind | grind [hiR])) _ _) fun z11 hz11 => ?_
  refine ok_inr ?_
  (try dsimp only) <;> (first | assumption | trivial | grind | grind [hiR])
theorem ok_X3_sumOfLoads {σ : CS} (hσ : IK k σ) (x1 : Nat) (p0 : x1 < 7) : Ok (f_X3_sumOfLoads σ x1) (fun r => True) := by
  unfold f_X3_sumOfLoads
  refine lpn64 (fun N t => t.1 < 7 ∧ 0 ≤ t.2.2 ∧ t.2.2 ≤ 20 ∧ 20 ≤ t.2.2 + N) (fun N kk1 t hN hN2 ha hk1 => ?_) ?_
  · obtain ⟨a1_0, a1_1, a1_2, a1_3⟩ := ha
    unfold f_X3_sumOfLoads_4
    refine ok_bind (ok_X0_size (IK.r (k := k) (by (first | assumption | trivial | grind | grind [hiR])) (by (first | assumption | trivial | grind | grind [hiR])))) fun z1 hz1 => ?_
    obtain ⟨hz1_0, hz1_1, hz1_2⟩ := hz1
    refine ok_if (fun hc => ?_) (fun hc => ?_)
    · refine ok_some ?_
      (try dsimp only) <;> (first | assumption | trivial | grind | grind [hiR])
    · refine ok_bind (ok_X0_read (IK.r (k := k) (by (first | assumption | trivial | grind | grind [hiR])) (by (first | assumption | trivial | grind | grind [hiR]))) _) fun z7 hz7 => ?_
      obtain ⟨hz7_0, hz7_1⟩ := hz7
      refine ok_bind (ok_X3_loadOf _) fun z12 hz12 => ?_
      refine ok_nme fun y17 hy17 => ?_
      refine ok_nme fun y18 hy18 => ?_
      refine hk1 _ (by (first | assumption | trivial | grind | grind [hiR])) ?_
      refine ⟨?_, ?_, ?_, ?_⟩ <;> (try dsimp only) <;> (first | assumption | trivial | grind | grind [hiR])
  · refine ⟨?_, ?_, ?_, ?_⟩ <;> (try dsimp only) <;> (first | assumption | trivial | grind | grind [hiR])
theorem ok_X3_sealOf {σ : CS} (hσ : IK k σ) (x1 : Nat) (p0 : x1 < 7) : Ok (f_X3_sealOf σ x1) (fun r => True) := by
  unfold f_X3_sealOf
  refine lpn64 (fun N t => t.1 < 7 ∧ 0 ≤ t.2.2 ∧ t.2.2 ≤ 20 ∧ 20 ≤ t.2.2 + N) (fun N kk1 t hN hN2 ha hk1 => ?_) ?_
  · obtain ⟨a1_0, a1_1, a1_2, a1_3⟩ := ha
    unfold f_X3_sealOf_4
    refine ok_bind (ok_X0_size (IK.r (k := k) (by (first | assumption | trivial | grind | grind [hiR])) (by (first | assumption | trivial | grind | grind [hiR])))) fun z1 hz1 => ?_
    obtain ⟨hz1_0, hz1_1, hz1_2⟩ := hz1
    refine ok_if (fun hc => ?_) (fun hc => ?_)
    · refine ok_some ?_
      (try dsimp only) <;> (first | assumption | trivial | grind | grind [hiR])
    · refine ok_bind (ok_X0_read (IK.r (k := k) (by (first | assumption | trivial | grind | grind [hiR])) (by (first | assumption | trivial | grind | grind [hiR]))) _) fun z7 hz7 => ?_
      obtain ⟨hz7_0, hz7_1⟩ := hz7
      refine ok_bind (ok_X3_kindOf _) fun z12 hz12 => ?_
      refine ok_nme fun y17 hy17 => ?_
      refine ok_nme fun y18 hy18 => ?_
      refine hk1 _ (by (first | assumption | trivial | grind | grind [hiR])) ?_
      refine ⟨?_, ?_, ?_, ?_⟩ <;> (try dsimp only) <;> (first | assumption | trivial | grind | grind [hiR])
  · refine ⟨?_, ?_, ?_, ?_⟩ <;> (try dsimp only) <;> (first | assumption | trivial | grind | grind [hiR])
theorem ok_X3_factOfTrack {σ : CS} (hσ : IK k σ) (x1 : Int32) (x2 : Int32) : Ok (f_X3_factOfTrack σ x1 x2) (fun r => True) := by
  unfold f_X3_factOfTrack
  refine ok_bind (ok_X3_trackOf (k := k) (by (first | assumption | trivial | grind | grind [hiR])) _) fun z1 hz1 => ?_
  refine ok_if (fun hc => ?_) (fun hc => ?_)
  · refine ok_bind (ok_X0_size (IK.r (k := k) (by (first | assumption | trivial | grind | grind [hiR])) (by (first | assumption | trivial | grind | grind [hiR])))) fun z7 hz7 => ?_
    obtain ⟨hz7_0, hz7_1, hz7_2⟩ := hz7
    refine ok_some ?_
    (try dsimp only) <;> (first | assumption | trivial | grind | grind [hiR])
  · refine ok_if (fun hc => ?_) (fun hc => ?_)
    · refine ok_bind (ok_X0_isEmpty (IK.r (k := k) (by (first | assumption | trivial | grind | grind [hiR])) (by (first | assumption | trivial | grind | grind [hiR])))) fun z13 hz13 => ?_
      refine ok_bind (ok_X3_oneIf _) fun z18 hz18 => ?_
      refine ok_some ?_
      (try dsimp only) <;> (first | assumption | trivial | grind | grind [hiR])
    · refine ok_if (fun hc => ?_) (fun hc => ?_)
      · refine ok_bind (ok_X3_sumOfLoads (k := k) (by (first | assumption | trivial | grind | grind [hiR])) _ (by (first | assumption | trivial | grind | grind [hiR]))) fun z24 hz24 => ?_
        refine ok_some ?_
        (try dsimp only) <;> (first | assumption | trivial | grind | grind [hiR])
      · refine ok_bind (ok_X3_sealOf (k := k) (by (first | assumption | trivial | grind | grind [hiR])) _ (by (first | assumption | trivial | grind | grind [hiR]))) fun z29 hz29 => ?_
        refine ok_some ?_
        (try dsimp only) <;> (first | assumption | trivial | grind | grind [hiR])
theorem ok_X3_ofTrack {σ : CS} (hσ : IK k σ) (x1 : Int32) (x2 : Int32) : Ok (f_X3_ofTrack σ x1 x2) (XQ [0, 1] (fun r => True)) := by
  unfold f_X3_ofTrack
  refine ok_obx (ok_X3_needTrack _) (by decide) fun z1 hz1 => ?_
  refine ok_obx (ok_X3_needWithin _ _ _) (by decide) fun z6 hz6 => ?_
  obtain ⟨hz6_0, hz6_1⟩ := hz6
  refine ok_bind (ok_X3_factOfTrack (k := k) (by (first | assumption | trivial | grind | grind [hiR])) _ _) fun z11 hz11 => ?_
  refine ok_inr ?_
  (try dsimp only) <;> (first | assumption | trivial | grind | grind [hiR])
theorem ok_X3_has {σ : CS} (hσ : IK k σ) (x1 : Int32) (x2 : Int32) : Ok (f_X3_has σ x1 x2) (XQ [0, 1] (fun r => True)) := by
  unfold f_X3_has
  refine ok_obx (ok_X3_needTrack _) (by decide) fun z1 hz1 => ?_
  refine ok_obx (ok_X3_needKindOf _ _) (by decide) fun z6 hz6 => ?_
  refine ok_bind (ok_X3_trackOf (k := k) (by (first | assumption | trivial | grind | grind [hiR])) _) fun z11 hz11 => ?_
  refine ok_bind (ok_X0_placeOfKind (IK.r (k := k) (by (first | assumption | trivial | grind | grind [hiR])) (by (first | assumption | trivial | grind | grind [hiR]))) _ _) fun z16 hz16 => ?_
  refine ok_if (fun hc => ?_) (fun hc => ?_)
  · refine ok_inr ?_
    (try dsimp only) <;> (first | assumption | trivial | grind | grind [hiR])
  · refine ok_inr ?_
    (try dsimp only) <;> (first | assumption | trivial | grind | grind [hiR])
theorem ok_X3_isSameAllAlong {σ : CS} (hσ : IK k σ) : Ok (f_X3_isSameAllAlong σ) (fun r => (r = 0 ∨ r = 1)) := by
  unfold f_X3_isSameAllAlong
  refine ok_bind (ok_X0_size (IK.r (k := k) (by (first | assumption | trivial | grind | grind [hiR])) (by (first | assumption | trivial | grind | grind [hiR])))) fun z29 hz29 => ?_
  obtain ⟨hz29_0, hz29_1, hz29_2⟩ := hz29
  refine ok_bind (ok_X0_size (IK.r (k := k) (by (first | assumption | trivial | grind | grind [hiR])) (by (first | assumption | trivial | grind | grind [hiR])))) fun z34 hz34 => ?_
  obtain ⟨hz34_0, hz34_1, hz34_2⟩ := hz34
  refine ok_if (fun hc => ?_) (fun hc => ?_)
  · refine lpn64 (fun N t => 0 ≤ t ∧ t ≤ 20 ∧ 20 ≤ t + N) (fun N kk1 t hN hN2 ha hk1 => ?_) ?_
    · obtain ⟨a1_0, a1_1, a1_2⟩ := ha
      unfold f_X3_isSameAllAlong_21
      refine ok_bind (ok_X0_size (IK.r (k := k) (by (first | assumption | trivial | grind | grind [hiR])) (by (first | assumption | trivial | grind | grind [hiR])))) fun z1 hz1 => ?_
      obtain ⟨hz1_0, hz1_1, hz1_2⟩ := hz1
      refine ok_if (fun hc => ?_) (fun hc => ?_)
      · refine ok_some ?_
        (try dsimp only) <;> (first | assumption | trivial | grind | grind [hiR])
      · refine ok_bind (ok_X0_read (IK.r (k := k) (by (first | assumption | trivial | grind | grind [hiR])) (by (first | assumption | trivial | grind | grind [hiR]))) _) fun z7 hz7 => ?_
        obtain ⟨hz7_0, hz7_1⟩ := hz7
        refine ok_bind (ok_X3_kindOf _) fun z12 hz12 => ?_
        refine ok_bind (ok_X0_read (IK.r (k := k) (by (first | assumption | trivial | grind | grind [hiR])) (by (first | assumption | trivial | grind | grind [hiR]))) _) fun z17 hz17 => ?_
        obtain ⟨hz17_0, hz17_1⟩ := hz17
        refine ok_bind (ok_X3_kindOf _) fun z22 hz22 => ?_
        refine ok_if (fun hc => ?_) (fun hc => ?_)
        · refine ok_nme fun y28 hy28 => ?_
          refine hk1 _ (by (first | assumption | trivial | grind | grind [hiR])) ?_
          refine ⟨?_, ?_, ?_⟩ <;> (try dsimp only) <;> (first | assumption | trivial | grind | grind [hiR])
        · refine ok_some ?_
          (try dsimp only) <;> (first | assumption | trivial | grind | grind [hiR])
    · refine ⟨?_, ?_, ?_⟩ <;> (try dsimp only) <;> (first | assumption | trivial | grind | grind [hiR])
  · refine ok_some ?_
    (try dsimp only) <;> (first | assumption | trivial | grind | grind [hiR])
theorem ok_X3_isSidingAmongLine {σ : CS} (hσ : IK k σ) : Ok (f_X3_isSidingAmongLine σ) (fun r => (r = 0 ∨ r = 1)) := by
  unfold f_X3_isSidingAmongLine
  refine lpn64 (fun N t => 0 ≤ t ∧ t ≤ 20 ∧ 20 ≤ t + N) (fun N kk1 t hN hN2 ha hk1 => ?_) ?_
  · obtain ⟨a1_0, a1_1, a1_2⟩ := ha
    unfold f_X3_isSidingAmongLine_2
    refine ok_bind (ok_X0_size (IK.r (k := k) (by (first | assumption | trivial | grind | grind [hiR])) (by (first | assumption | trivial | grind | grind [hiR])))) fun z1 hz1 => ?_
    obtain ⟨hz1_0, hz1_1, hz1_2⟩ := hz1
    refine ok_if (fun hc => ?_) (fun hc => ?_)
    · refine ok_some ?_
      (try dsimp only) <;> (first | assumption | trivial | grind | grind [hiR])
    · refine ok_bind (ok_X0_read (IK.r (k := k) (by (first | assumption | trivial | grind | grind [hiR])) (by (first | assumption | trivial | grind | grind [hiR]))) _) fun z7 hz7 => ?_
      obtain ⟨hz7_0, hz7_1⟩ := hz7
      refine ok_bind (ok_X3_isLikeOneOf (k := k) (by (first | assumption | trivial | grind | grind [hiR])) _ _ (by (first | assumption | trivial | grind | grind [hiR]))) fun z12 hz12 => ?_
      refine ok_if (fun hc => ?_) (fun hc => ?_)
      · refine ok_some ?_
        (try dsimp only) <;> (first | assumption | trivial | grind | grind [hiR])
      · refine ok_nme fun y18 hy18 => ?_
        refine hk1 _ (by (first | assumption | trivial | grind | grind [hiR])) ?_
        refine ⟨?_, ?_, ?_⟩ <;> (try dsimp only) <;> (first | assumption | trivial | grind | grind [hiR])
  · refine ⟨?_, ?_, ?_⟩ <;> (try dsimp only) <;> (first | assumption | trivial | grind | grind [hiR])
theorem ok_X3_compare {σ : CS} (hσ : IK k σ) (x1 : Int32) : Ok (f_X3_compare σ x1) (fun r => (r = 0 ∨ r = 1)) := by
  unfold f_X3_compare
  refine ok_if (fun hc => ?_) (fun hc => ?_)
  · refine ok_bind (ok_X3_isSidingAmongLine (k := k) (by (first | assumption | trivial | grind | grind [hiR]))) fun z2 hz2 => ?_
    refine ok_yes (by (first | assumption | trivial | grind | grind [hiR])) ?_
    refine ok_some ?_
    (try dsimp only) <;> (first | assumption | trivial | grind | grind [hiR])
  · refine ok_bind (ok_X3_isSameAllAlong (k := k) (by (first | assumption | trivial | grind | grind [hiR]))) fun z7 hz7 => ?_
    refine ok_yes (by (first | assumption | trivial | grind | grind [hiR])) ?_
    refine ok_some ?_
    (try dsimp only) <;> (first | assumption | trivial | grind | grind [hiR])
theorem ok_X3_closedBy {σ : CS} (hσ : IK k σ) (x1 : Int32) : Ok (f_X3_closedBy σ x1) (fun r => IK k r.2) := by
  unfold f_X3_closedBy
  refine ok_bind (ok_X0_endPlace (IK.r (k := k) (by (first | assumption | trivial | grind | grind [hiR])) (by (first | assumption | trivial | grind | grind [hiR]))) _) fun z1 hz1 => ?_
  refine ok_bind (ok_X0_leave (IK.r (k := k) (by (first | assumption | trivial | grind | grind [hiR])) (by (first | assumption | trivial | grind | grind [hiR]))) _) fun z6 hz6 => ?_
  obtain ⟨hz6_0, hz6_1⟩ := hz6
  refine ok_nm (IK k) (IK.row (by (first | assumption | trivial | grind | grind [hiR])) (by (first | assumption | trivial | grind | grind [hiR]))) fun t11 ht11 => ?_
  refine ok_if (fun hc => ?_) (fun hc => ?_)
  · refine ok_some ?_
    (try dsimp only) <;> (first | assumption | trivial | grind | grind [hiR])
  · refine ok_some ?_
    (try dsimp only) <;> (first | assumption | trivial | grind | grind [hiR])
theorem ok_X3_mostOpen {σ : CS} (hσ : IK k σ) (x1 : Int32) : Ok (f_X3_mostOpen σ x1) (fun r => IK k r.2) := by
  unfold f_X3_mostOpen
  refine ok_bind (ok_X3_trackOf (k := k) (by (first | assumption | trivial | grind | grind [hiR])) _) fun z46 hz46 => ?_
  refine ok_bind (ok_X0_empty (IK.r (k := k) (by (first | assumption | trivial | grind | grind [hiR])) (by (first | assumption | trivial | grind | grind [hiR])))) fun z51 hz51 => ?_
  refine ok_nm (IK k) (IK.row (by (first | assumption | trivial | grind | grind [hiR])) (by (first | assumption | trivial | grind | grind [hiR]))) fun t56 ht56 => ?_
  refine lpn64 (fun N t => IK k t.1 ∧ t.2.1 < 2 ∧ 0 ≤ t.2.2.2 ∧ t.2.2.2 ≤ 20 ∧ 20 ≤ t.2.2.2 + N) (fun N kk1 t hN hN2 ha hk1 => ?_) ?_
  · obtain ⟨a1_0, a1_1, a1_2, a1_3, a1_4⟩ := ha
    unfold f_X3_mostOpen_18
    refine ok_bind (ok_X0_size (IK.r (k := k) (by (first | assumption | trivial | grind | grind [hiR])) (by (first | assumption | trivial | grind | grind [hiR])))) fun z10 hz10 => ?_
    obtain ⟨hz10_0, hz10_1, hz10_2⟩ := hz10
    refine ok_if (fun hc => ?_) (fun hc => ?_)
    · refine ok_bind (ok_X0_isEmpty (IK.r (k := k) (by (first | assumption | trivial | grind | grind [hiR])) (by (first | assumption | trivial | grind | grind [hiR])))) fun z16 hz16 => ?_
      refine ok_if (fun hc => ?_) (fun hc => ?_)
      · refine ok_some ?_
        (try dsimp only) <;> (first | assumption | trivial | grind | grind [hiR])
      · refine ok_some ?_
        (try dsimp only) <;> (first | assumption | trivial | grind | grind [hiR])
    · refine ok_bind (ok_X0_read (IK.r (k := k) (by (first | assumption | trivial | grind | grind [hiR])) (by (first | assumption | trivial | grind | grind [hiR]))) _) fun z22 hz22 => ?_
      obtain ⟨hz22_0, hz22_1⟩ := hz22
      refine ok_bind (ok_X3_kindOf _) fun z27 hz27 => ?_
      have hz27 := hz27 hz22_0 (by rw [hiR_01 a1_1] at hz22_1; exact hz22_1)
      have hz27b : 0 ≤ z27 ∧ z27 ≤ hiR 6 := ⟨hz27.1, Int32.le_trans hz27.2 (by decide)⟩
      clear hz22_0 hz22_1
      refine ok_if (fun hc => ?_) (fun hc => ?_)
      · refine ok_if (fun hc => ?_) (fun hc => ?_)
        · unfold f_X3_mostOpen_77
          try dsimp only
          refine ok_if (fun hc => ?_) (fun hc => ?_)
          · refine ok_if (fun hc => ?_) (fun hc => ?_)
            · unfold f_X3_mostOpen_100
              try dsimp only
              refine ok_nme fun y1 hy1 => ?_
              refine hk1 _ (by (first | assumption | trivial | grind | grind [hiR])) ?_
              refine ⟨?_, ?_, ?_, ?_, ?_⟩ <;> (try dsimp only) <;> (first | assumption | trivial | grind | grind [hiR])
            · refine ok_bind (ok_X3_closedBy (k := k) (by (first | assumption | trivial | grind | grind [hiR])) _) fun z4 hz4 => ?_
              refine ok_if (fun hc => ?_) (fun hc => ?_)
              · refine ok_some ?_
                (try dsimp only) <;> (first | assumption | trivial | grind | grind [hiR])
              · unfold f_X3_mostOpen_100
                try dsimp only
                refine ok_nme fun y1 hy1 => ?_
                refine hk1 _ (by (first | assumption | trivial | grind | grind [hiR])) ?_
                refine ⟨?_, ?_, ?_, ?_, ?_⟩ <;> (try dsimp only) <;> (first | assumption | trivial | grind | grind [hiR])
          · unfold f_X3_mostOpen_100
            try dsimp only
            refine ok_nme fun y1 hy1 => ?_
            refine hk1 _ (by (first | assumption | trivial | grind | grind [hiR])) ?_
            refine ⟨?_, ?_, ?_, ?_, ?_⟩ <;> (try dsimp only) <;> (first | assumption | trivial | grind | grind [hiR])
        · refine ok_bind (ok_X0_enterLast (IK.r (k := k) (by (first | assumption | trivial | grind | grind [hiR])) (by (first | assumption | trivial | grind | grind [hiR]))) _ (by (first | assumption | trivial | grind | grind [hiR]))) fun z34 hz34 => ?_
          refine ok_nm (IK k) (IK.row (by (first | assumption | trivial | grind | grind [hiR])) (by (first | assumption | trivial | grind | grind [hiR]))) fun t39 ht39 => ?_
          refine ok_bind (ok_X0_size (IK.r (k := k) (by (first | assumption | trivial | grind | grind [hiR])) (by (first | assumption | trivial | grind | grind [hiR])))) fun z40 hz40 => ?_
          obtain ⟨hz40_0, hz40_1, hz40_2⟩ := hz40
          refine ok_nme fun y45 hy45 => ?_
          unfold f_X3_mostOpen_100
          try dsimp only
          refine ok_nme fun y1 hy1 => ?_
          refine hk1 _ (by (first | assumption | trivial | grind | grind [hiR])) ?_
          refine ⟨?_, ?_, ?_, ?_, ?_⟩ <;> (try dsimp only) <;> (first | assumption | trivial | grind | grind [hiR])
      · unfold f_X3_mostOpen_77
        try dsimp only
        refine ok_if (fun hc => ?_) (fun hc => ?_)
        · refine ok_if (fun hc => ?_) (fun hc => ?_)
          · unfold f_X3_mostOpen_100
            try dsimp only
            refine ok_nme fun y1 hy1 => ?_
            refine hk1 _ (by (first | assumption | trivial | grind | grind [hiR])) ?_
            refine ⟨?_, ?_, ?_, ?_, ?_⟩ <;> (try dsimp only) <;> (first | assumption | trivial | grind | grind [hiR])
          · refine ok_bind (ok_X3_closedBy (k := k) (by (first | assumption | trivial | grind | grind [hiR])) _) fun z4 hz4 => ?_
            refine ok_if (fun hc => ?_) (fun hc => ?_)
            · refine ok_some ?_
              (try dsimp only) <;> (first | assumption | trivial | grind | grind [hiR])
            · unfold f_X3_mostOpen_100
              try dsimp only
              refine ok_nme fun y1 hy1 => ?_
              refine hk1 _ (by (first | assumption | trivial | grind | grind [hiR])) ?_
              refine ⟨?_, ?_, ?_, ?_, ?_⟩ <;> (try dsimp only) <;> (first | assumption | trivial | grind | grind [hiR])
        · unfold f_X3_mostOpen_100
          try dsimp only
          refine ok_nme fun y1 hy1 => ?_
          refine hk1 _ (by (first | assumption | trivial | grind | grind [hiR])) ?_
          refine ⟨?_, ?_, ?_, ?_, ?_⟩ <;> (try dsimp only) <;> (first | assumption | trivial | grind | grind [hiR])
  · refine ⟨?_, ?_, ?_, ?_, ?_⟩ <;> (try dsimp only) <;> (first | assumption | trivial | grind | grind [hiR])
end OKC
