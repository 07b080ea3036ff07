/-! the yard: every method of the class comes to its end (written by okgen.py) -/
section OKC
variable {k : Int32}
theorem ok_X3_turn {σ : CS} (hσ : IK k σ) (x1 : Int32) : Ok (f_X3_turn σ x1) (XQ [0] (fun r => IK k r.2)) := by
  unfold f_X3_turn
  refine ok_obx (ok_X3_needTrack _) (by decide) fun z41 hz41 => ?_
  refine ok_bind (ok_X3_trackOf (k := k) (by (first | assumption | trivial | grind | grind [hiR])) _) fun z46 hz46 => ?_
  refine ok_bind (ok_X0_size (IK.r (k := k) (by (first | assumption | trivial | grind | grind [hiR])) (by (first | assumption | trivial | grind | grind [hiR])))) fun z51 hz51 => ?_
  obtain ⟨hz51_0, hz51_1, hz51_2⟩ := hz51
  refine ok_nme fun y56 hy56 => ?_
  refine lpn64 (fun N t => IK k t.1 ∧ t.2.2.1 < 7 ∧ 0 ≤ t.2.2.2.1 ∧ t.2.2.2.1 ≤ 20 ∧ 20 ≤ t.2.2.2.1 + N ∧ t.2.2.2.2 ≤ 19 ∧ -1 ≤ t.2.2.2.2) (fun N kk1 t hN hN2 ha hk1 => ?_) ?_
  · obtain ⟨a1_0, a1_1, a1_2, a1_3, a1_4, a1_5, a1_6⟩ := ha
    unfold f_X3_turn_20
    refine ok_if (fun hc => ?_) (fun hc => ?_)
    · refine ok_bind (ok_X0_size (IK.r (k := k) (by (first | assumption | trivial | grind | grind [hiR])) (by (first | assumption | trivial | grind | grind [hiR])))) fun z2 hz2 => ?_
      obtain ⟨hz2_0, hz2_1, hz2_2⟩ := hz2
      refine ok_bind (ok_X3_tearIfAny (k := k) (by (first | assumption | trivial | grind | grind [hiR])) _ _) fun z7 hz7 => ?_
      refine ok_bind (ok_X3_codeAtEnd (k := k) (by (first | assumption | trivial | grind | grind [hiR])) _ _) fun z12 hz12 => ?_
      obtain ⟨hz12_0, hz12_1⟩ := hz12
      refine ok_inr ?_
      (try dsimp only) <;> (first | assumption | trivial | grind | grind [hiR])
    · refine ok_bind (ok_X0_read (IK.r (k := k) (by (first | assumption | trivial | grind | grind [hiR])) (by (first | assumption | trivial | grind | grind [hiR]))) _) fun z17 hz17 => ?_
      obtain ⟨hz17_0, hz17_1⟩ := hz17
      refine ok_bind (ok_X0_read (IK.r (k := k) (by (first | assumption | trivial | grind | grind [hiR])) (by (first | assumption | trivial | grind | grind [hiR]))) _) fun z22 hz22 => ?_
      obtain ⟨hz22_0, hz22_1⟩ := hz22
      refine ok_bind (ok_X0_overwrite (IK.r (k := k) (by (first | assumption | trivial | grind | grind [hiR])) (by (first | assumption | trivial | grind | grind [hiR]))) _ _ (by (first | assumption | trivial | grind | grind [hiR]))) fun z27 hz27 => ?_
      obtain ⟨hz27_0, hz27_1⟩ := hz27
      refine ok_nm (IK k) (IK.row (by (first | assumption | trivial | grind | grind [hiR])) (by (first | assumption | trivial | grind | grind [hiR]))) fun t32 ht32 => ?_
      refine ok_bind (ok_X0_overwrite (IK.r (k := k) (by (first | assumption | trivial | grind | grind [hiR])) (by (first | assumption | trivial | grind | grind [hiR]))) _ _ (by (first | assumption | trivial | grind | grind [hiR]))) fun z33 hz33 => ?_
      obtain ⟨hz33_0, hz33_1⟩ := hz33
      refine ok_nm (IK k) (IK.row (by (first | assumption | trivial | grind | grind [hiR])) (by (first | assumption | trivial | grind | grind [hiR]))) fun t38 ht38 => ?_
      refine ok_nme fun y39 hy39 => ?_
      refine ok_nme fun y40 hy40 => ?_
      refine hk1 _ (by (first | assumption | trivial | grind | grind [hiR])) ?_
      refine ⟨?_, ?_, ?_, ?_, ?_, ?_, ?_⟩ <;> (try dsimp only) <;> (first | assumption | trivial | grind | grind [hiR])
  · refine ⟨?_, ?_, ?_, ?_, ?_, ?_, ?_⟩ <;> (try dsimp only) <;> (first | assumption | trivial | grind | grind [hiR])
theorem ok_X3_clear {σ : CS} (hσ : IK k σ) (x1 : Int32) : Ok (f_X3_clear σ x1) (XQ [0] (fun r => IK k r.2)) := by
  unfold f_X3_clear
  refine ok_obx (ok_X3_needTrack _) (by decide) fun z1 hz1 => ?_
  refine ok_bind (ok_X3_trackOf (k := k) (by (first | assumption | trivial | grind | grind [hiR])) _) fun z6 hz6 => ?_
  refine ok_bind (ok_X0_size (IK.r (k := k) (by (first | assumption | trivial | grind | grind [hiR])) (by (first | assumption | trivial | grind | grind [hiR])))) fun z11 hz11 => ?_
  obtain ⟨hz11_0, hz11_1, hz11_2⟩ := hz11
  refine ok_bind (ok_X0_empty (IK.r (k := k) (by (first | assumption | trivial | grind | grind [hiR])) (by (first | assumption | trivial | grind | grind [hiR])))) fun z16 hz16 => ?_
  refine ok_nm (IK k) (IK.row (by (first | assumption | trivial | grind | grind [hiR])) (by (first | assumption | trivial | grind | grind [hiR]))) fun t21 ht21 => ?_
  refine ok_bind (ok_X3_tearIfAny (k := k) (by (first | assumption | trivial | grind | grind [hiR])) _ _) fun z22 hz22 => ?_
  refine ok_inr ?_
  (try dsimp only) <;> (first | assumption | trivial | grind | grind [hiR])
theorem ok_X3_isLikeOneOf {σ : CS} (hσ : IK k σ) (x1 : Nat) (x2 : Int32) (p0 : x1 < 7) : Ok (f_X3_isLikeOneOf σ x1 x2) (fun r => True) := by
  unfold f_X3_isLikeOneOf
  refine ok_bind (ok_X3_kindOf _) fun z1 hz1 => ?_
  refine ok_bind (ok_X0_placeOfKind (IK.r (k := k) (by (first | assumption | trivial | grind | grind [hiR])) (by (first | assumption | trivial | grind | grind [hiR]))) _ _) fun z6 hz6 => ?_
  refine ok_if (fun hc => ?_) (fun hc => ?_)
  · refine ok_some ?_
    (try dsimp only) <;> (first | assumption | trivial | grind | grind [hiR])
  · refine ok_some ?_
    (try dsimp only) <;> (first | assumption | trivial | grind | grind [hiR])
theorem ok_X3_purge {σ : CS} (hσ : IK k σ) (x1 : Int32) : Ok (f_X3_purge σ x1) (fun r => IK k r.2) := by
  unfold f_X3_purge
  refine ok_bind (ok_X0_size (IK.r (k := k) (by (first | assumption | trivial | grind | grind [hiR])) (by (first | assumption | trivial | grind | grind [hiR])))) fun z27 hz27 => ?_
  obtain ⟨hz27_0, hz27_1, hz27_2⟩ := hz27
  refine lpn64 (fun N t => IK k t.1 ∧ t.2.2.1 ≤ 20 ∧ 0 ≤ t.2.2.2.2 ∧ t.2.2.2.2 ≤ 20 ∧ 20 ≤ t.2.2.2.2 + N) (fun N kk1 t hN hN2 ha hk1 => ?_) ?_
  · obtain ⟨a1_0, a1_1, a1_2, a1_3, a1_4⟩ := ha
    unfold f_X3_purge_13
    refine ok_if (fun hc => ?_) (fun hc => ?_)
    · refine ok_bind (ok_X3_tearIfAny (k := k) (by (first | assumption | trivial | grind | grind [hiR])) _ _) fun z3 hz3 => ?_
      refine ok_some ?_
      (try dsimp only) <;> (first | assumption | trivial | grind | grind [hiR])
    · refine ok_nme fun y8 hy8 => ?_
      refine ok_bind (ok_X0_read (IK.r (k := k) (by (first | assumption | trivial | grind | grind [hiR])) (by (first | assumption | trivial | grind | grind [hiR]))) _) fun z9 hz9 => ?_
      obtain ⟨hz9_0, hz9_1⟩ := hz9
      refine ok_bind (ok_X3_isLikeOneOf (k := k) (by (first | assumption | trivial | grind | grind [hiR])) _ _ (by (first | assumption | trivial | grind | grind [hiR]))) fun z14 hz14 => ?_
      refine ok_if (fun hc => ?_) (fun hc => ?_)
      · unfold f_X3_purge_58
        try dsimp only
        refine ok_nme fun y1 hy1 => ?_
        refine hk1 _ (by (first | assumption | trivial | grind | grind [hiR])) ?_
        refine ⟨?_, ?_, ?_, ?_, ?_⟩ <;> (try dsimp only) <;> (first | assumption | trivial | grind | grind [hiR])
      · refine ok_bind (ok_X0_leave (IK.r (k := k) (by (first | assumption | trivial | grind | grind [hiR])) (by (first | assumption | trivial | grind | grind [hiR]))) _) fun z20 hz20 => ?_
        obtain ⟨hz20_0, hz20_1⟩ := hz20
        refine ok_nm (IK k) (IK.row (by (first | assumption | trivial | grind | grind [hiR])) (by (first | assumption | trivial | grind | grind [hiR]))) fun t25 ht25 => ?_
        refine ok_nme fun y26 hy26 => ?_
        unfold f_X3_purge_58
        try dsimp only
        refine ok_nme fun y1 hy1 => ?_
        refine hk1 _ (by (first | assumption | trivial | grind | grind [hiR])) ?_
        refine ⟨?_, ?_, ?_, ?_, ?_⟩ <;> (try dsimp only) <;> (first | assumption | trivial | grind | grind [hiR])
  · refine ⟨?_, ?_, ?_, ?_, ?_⟩ <;> (try dsimp only) <;> (first | assumption | trivial | grind | grind [hiR])
theorem ok_X3_walk {σ : CS} (hσ : IK k σ) (x1 : Int32) (p0 : x1 = 0 ∨ x1 = 1) : Ok (f_X3_walk σ x1) (fun r => IK k r.2) := by
  unfold f_X3_walk
  refine ok_bind (ok_X0_size (IK.r (k := k) (by (first | assumption | trivial | grind | grind [hiR])) (by (first | assumption | trivial | grind | grind [hiR])))) fun z1 hz1 => ?_
  obtain ⟨hz1_0, hz1_1, hz1_2⟩ := hz1
  refine ok_bind (ok_X1_begin _ _ _ (by (first | assumption | trivial | grind | grind [hiR]))) fun z6 hz6 => ?_
  refine ok_nm (IK k) (IK.sc (by (first | assumption | trivial | grind | grind [hiR])) (by first | decide | omega)) fun t11 ht11 => ?_
  refine ok_bind (ok_X0_size (IK.r (k := k) (by (first | assumption | trivial | grind | grind [hiR])) (by (first | assumption | trivial | grind | grind [hiR])))) fun z12 hz12 => ?_
  obtain ⟨hz12_0, hz12_1, hz12_2⟩ := hz12
  refine ok_some ?_
  (try dsimp only) <;> (first | assumption | trivial | grind | grind [hiR])
theorem ok_X3_needWalk {σ : CS} (hσ : IK k σ) : Ok (f_X3_needWalk σ) (XQ [2] (fun r => True)) := by
  unfold f_X3_needWalk
  refine ok_if (fun hc => ?_) (fun hc => ?_)
  · exact ok_inl (by decide)
  · refine ok_inr ?_
    (try dsimp only) <;> (first | assumption | trivial | grind | grind [hiR])
theorem ok_X3_step {σ : CS} (hσ : IK k σ) : Ok (f_X3_step σ) (XQ [2] (fun r => IK k r.2)) := by
  unfold f_X3_step
  refine ok_obx (ok_X3_needWalk (k := k) (by (first | assumption | trivial | grind | grind [hiR]))) (by decide) fun z1 hz1 => ?_
  refine ok_bind (ok_X0_size (IK.r (k := k) (by (first | assumption | trivial | grind | grind [hiR])) (by (first | assumption | trivial | grind | grind [hiR])))) fun z6 hz6 => ?_
  obtain ⟨hz6_0, hz6_1, hz6_2⟩ := hz6
  refine ok_bind (ok_X1_hasNext _ _) fun z11 hz11 => ?_
  refine ok_if (fun hc => ?_) (fun hc => ?_)
  · refine ok_inr ?_
    (try dsimp only) <;> (first | assumption | trivial | grind | grind [hiR])
  · refine ok_bind (ok_X1_goOn _) fun z17 hz17 => ?_
    refine ok_nm (IK k) (IK.sc (by (first | assumption | trivial | grind | grind [hiR])) (by first | decide | omega)) fun t22 ht22 => ?_
    refine ok_bind (ok_X0_read (IK.r (k := k) (by (first | assumption | trivial | grind | grind [hiR])) (by (first | assumption | trivial | grind | grind [hiR]))) _) fun z23 hz23 => ?_
    obtain ⟨hz23_0, hz23_1⟩ := hz23
    refine ok_inr ?_
    (try dsimp only) <;> (first | assumption | trivial | grind | grind [hiR])
theorem ok_X3_pluck {σ : CS} (hσ : IK k σ) : Ok (f_X3_pluck σ) (XQ [2] (fun r => IK k r.2)) := by
  unfold f_X3_pluck
  refine ok_obx (ok_X3_needWalk (k := k) (by (first | assumption | trivial | grind | grind [hiR]))) (by decide) fun z1 hz1 => ?_
  refine ok_if (fun hc => ?_) (fun hc => ?_)
  · refine ok_inr ?_
    (try dsimp only) <;> (first | assumption | trivial | grind | grind [hiR])
  · refine ok_bind (ok_X0_leave (IK.r (k := k) (by (first | assumption | trivial | grind | grind [hiR])) (by (first | assumption | trivial | grind | grind [hiR]))) _) fun z7 hz7 => ?_
    obtain ⟨hz7_0, hz7_1⟩ := hz7
    refine ok_nm (IK k) (IK.row (by (first | assumption | trivial | grind | grind [hiR])) (by (first | assumption | trivial | grind | grind [hiR]))) fun t12 ht12 => ?_
    refine ok_bind (ok_X1_letGo _) fun z13 hz13 => ?_
    refine ok_nm (IK k) (IK.sc (by (first | assumption | trivial | grind | grind [hiR])) (by first | decide | omega)) fun t18 ht18 => ?_
    refine ok_bind (ok_X0_empty (IK.r (k := k) (by (first | assumption | trivial | grind | grind [hiR])) (by (first | assumption | trivial | grind | grind [hiR])))) fun z19 hz19 => ?_
    refine ok_nm (IK k) (IK.row (by (first | assumption | trivial | grind | grind [hiR])) (by (first | assumption | trivial | grind | grind [hiR]))) fun t24 ht24 => ?_
    refine ok_bind (ok_X0_size (IK.r (k := k) (by (first | assumption | trivial | grind | grind [hiR])) (by (first | assumption | trivial | grind | grind [hiR])))) fun z25 hz25 => ?_
    obtain ⟨hz25_0, hz25_1, hz25_2⟩ := hz25
    refine ok_inr ?_
    (try dsimp only) <;> (first | assumption | trivial | grind | grind [hiR])
theorem ok_X3_needPlace (x1 : Int32) (x2 : Int32) : Ok (f_X3_needPlace x1 x2) (XQ [0] (fun r => 0 ≤ x1 ∧ x1 ≤ x2)) := by
  unfold f_X3_needPlace
  refine ok_if (fun hc => ?_) (fun hc => ?_)
  · exact ok_inl (by decide)
  · refine ok_if (fun hc => ?_) (fun hc => ?_)
    · refine ok_inr ?_
      refine ⟨?_, ?_⟩ <;> (try dsimp only) <;> (first | assumption | trivial | grind | grind [hiR])
    · exact ok_inl (by decide)
theorem ok_X3_insert {σ : CS} (hσ : IK k σ) (x1 : Int32) (x2 : Int32) (x3 : Int32) : Ok (f_X3_insert σ x1 x2 x3) (XQ [0, 1, 2] (fun r => IK k r.2)) := by
  unfold f_X3_insert
  refine ok_obx (ok_X3_needPlace _ _) (by decide) fun z1 hz1 => ?_
  obtain ⟨hz1_0, hz1_1⟩ := hz1
  refine ok_obx (ok_X3_needPiece _ _) (by decide) fun z6 hz6 => ?_
  obtain ⟨hz6_0, hz6_1, hz6_2, hz6_3⟩ := hz6
  refine ok_obx (ok_X3_needRoom (k := k) (by (first | assumption | trivial | grind | grind [hiR])) _ _) (by decide) fun z11 hz11 => ?_
  refine ok_bind (ok_X0_size (IK.r (k := k) (by (first | assumption | trivial | grind | grind [hiR])) (by (first | assumption | trivial | grind | grind [hiR])))) fun z16 hz16 => ?_
  obtain ⟨hz16_0, hz16_1, hz16_2⟩ := hz16
  refine ok_if (fun hc => ?_) (fun hc => ?_)
  · refine ok_bind (ok_X3_codeOf _ _ (by (first | assumption | trivial | grind | grind [hiR])) (by (first | assumption | trivial | grind | grind [hiR])) (by (first | assumption | trivial | grind | grind [hiR])) (by (first | assumption | trivial | grind | grind [hiR]))) fun z22 hz22 => ?_
    obtain ⟨hz22_0, hz22_1⟩ := hz22
    refine ok_bind (ok_X0_enter (IK.r (k := k) (by (first | assumption | trivial | grind | grind [hiR])) (by (first | assumption | trivial | grind | grind [hiR]))) _ _ (by (first | assumption | trivial | grind | grind [hiR]))) fun z27 hz27 => ?_
    refine ok_nm (IK k) (IK.row (by (first | assumption | trivial | grind | grind [hiR])) (by (first | assumption | trivial | grind | grind [hiR]))) fun t32 ht32 => ?_
    refine ok_bind (ok_X3_tearFor (k := k) (by (first | assumption | trivial | grind | grind [hiR])) _) fun z33 hz33 => ?_
    refine ok_bind (ok_X0_size (IK.r (k := k) (by (first | assumption | trivial | grind | grind [hiR])) (by (first | assumption | trivial | grind | grind [hiR])))) fun z38 hz38 => ?_
    obtain ⟨hz38_0, hz38_1, hz38_2⟩ := hz38
    refine ok_inr ?_
    (try dsimp only) <;> (first | assumption | trivial | grind | grind [hiR])
  · refine ok_inr ?_
    (try dsimp only) <;> (first | assumption | trivial | grind | grind [hiR])
theorem ok_X3_cut {σ : CS} (hσ : IK k σ) (x1 : Int32) : Ok (f_X3_cut σ x1) (XQ [0] (fun r => IK k r.2)) := by
  unfold f_X3_cut
  refine ok_obx (ok_X3_needPlace _ _) (by decide) fun z1 hz1 => ?_
  obtain ⟨hz1_0, hz1_1⟩ := hz1
  refine ok_bind (ok_X0_size (IK.r (k := k) (by (first | assumption | trivial | grind | grind [hiR])) (by (first | assumption | trivial | grind | grind [hiR])))) fun z6 hz6 => ?_
  obtain ⟨hz6_0, hz6_1, hz6_2⟩ := hz6
  refine ok_if (fun hc => ?_) (fun hc => ?_)
  · refine ok_bind (ok_X0_leave (IK.r (k := k) (by (first | assumption | trivial | grind | grind [hiR])) (by (first | assumption | trivial | grind | grind [hiR]))) _) fun z12 hz12 => ?_
    obtain ⟨hz12_0, hz12_1⟩ := hz12
    refine ok_nm (IK k) (IK.row (by (first | assumption | trivial | grind | grind [hiR])) (by (first | assumption | trivial | grind | grind [hiR]))) fun t17 ht17 => ?_
    refine ok_bind (ok_X3_tearFor (k := k) (by (first | assumption | trivial | grind | grind [hiR])) _) fun z18 hz18 => ?_
    refine ok_inr ?_
    (try dsimp only) <;> (first | assumption | trivial | grind | grind [hiR])
  · refine ok_inr ?_
    (try dsimp only) <;> (first | assumption | trivial | grind | grind [hiR])
theorem ok_X3_layAnew {σ : CS} (hσ : IK k σ) (x1 : Int32) (x2 : Int32) (p0 : 0 ≤ x2) (p1 : x2 ≤ 999) : Ok (f_X3_layAnew σ x1 x2) (fun r => IK k r) := by
  unfold f_X3_layAnew
  refine ok_bind (ok_X0_overwrite (IK.r (k := k) (by (first | assumption | trivial | grind | grind [hiR])) (by (first | assumption | trivial | grind | grind [hiR]))) _ _ (by (first | assumption | trivial | grind | grind [hiR]))) fun z1 hz1 => ?_
  obtain ⟨hz1_0, hz1_1⟩ := hz1
  refine ok_nm (IK k) (IK.row (by (first | assumption | trivial | grind | grind [hiR])) (by (first | assumption | trivial | grind | grind [hiR]))) fun t6 ht6 => ?_
  refine ok_bind (ok_X0_empty (IK.r (k := k) (by (first | assumption | trivial | grind | grind [hiR])) (by (first | assumption | trivial | grind | grind [hiR])))) fun z7 hz7 => ?_
  refine ok_nm (IK k) (IK.row (by (first | assumption | trivial | grind | grind [hiR])) (by (first | assumption | trivial | grind | grind [hiR]))) fun t12 ht12 => ?_
  refine ok_some ?_
  (try dsimp only) <;> (first | assumption | trivial | grind | grind [hiR])
theorem ok_X3_replace {σ : CS} (hσ : IK k σ) (x1 : Int32) (x2 : Int32) (x3 : Int32) : Ok (f_X3_replace σ x1 x2 x3) (XQ [0, 1] (fun r => IK k r.2)) := by
  unfold f_X3_replace
  refine ok_obx (ok_X3_needPlace _ _) (by decide) fun z1 hz1 => ?_
  obtain ⟨hz1_0, hz1_1⟩ := hz1
  refine ok_obx (ok_X3_needPiece _ _) (by decide) fun z6 hz6 => ?_
  obtain ⟨hz6_0, hz6_1, hz6_2, hz6_3⟩ := hz6
  refine ok_bind (ok_X0_size (IK.r (k := k) (by (first | assumption | trivial | grind | grind [hiR])) (by (first | assumption | trivial | grind | grind [hiR])))) fun z11 hz11 => ?_
  obtain ⟨hz11_0, hz11_1, hz11_2⟩ := hz11
  refine ok_if (fun hc => ?_) (fun hc => ?_)
  · refine ok_bind (ok_X0_read (IK.r (k := k) (by (first | assumption | trivial | grind | grind [hiR])) (by (first | assumption | trivial | grind | grind [hiR]))) _) fun z17 hz17 => ?_
    obtain ⟨hz17_0, hz17_1⟩ := hz17
    refine ok_bind (ok_X3_codeOf _ _ (by (first | assumption | trivial | grind | grind [hiR])) (by (first | assumption | trivial | grind | grind [hiR])) (by (first | assumption | trivial | grind | grind [hiR])) (by (first | assumption | trivial | grind | grind [hiR]))) fun z22 hz22 => ?_
    obtain ⟨hz22_0, hz22_1⟩ := hz22
    refine ok_bind (ok_X3_layAnew (k := k) (by (first | assumption | trivial | grind | grind [hiR])) _ _ (by (first | assumption | trivial | grind | grind [hiR])) (by (first | assumption | trivial | grind | grind [hiR]))) fun z27 hz27 => ?_
    refine ok_inr ?_
    (try dsimp only) <;> (first | assumption | trivial | grind | grind [hiR])
  · refine ok_inr ?_
    (try dsimp only) <;> (first | assumption | trivial | grind | grind [hiR])
theorem ok_X3_at {σ : CS} (hσ : IK k σ) (x1 : Int32) : Ok (f_X3_at σ x1) (XQ [0] (fun r => True)) := by
  unfold f_X3_at
  refine ok_obx (ok_X3_needPlace _ _) (by decide) fun z1 hz1 => ?_
  obtain ⟨hz1_0, hz1_1⟩ := hz1
  refine ok_bind (ok_X0_size (IK.r (k := k) (by (first | assumption | trivial | grind | grind [hiR])) (by (first | assumption | trivial | grind | grind [hiR])))) fun z6 hz6 => ?_
  obtain ⟨hz6_0, hz6_1, hz6_2⟩ := hz6
  refine ok_if (fun hc => ?_) (fun hc => ?_)
  · refine ok_inr ?_
    (try dsimp only) <;> (first | assumption | trivial | grind | grind [hiR])
  · refine ok_bind (ok_X0_read (IK.r (k := k) (by (first | assumption | trivial | grind | grind [hiR])) (by (first | assumption | trivial | grind | grind [hiR]))) _) fun z12 hz12 => ?_
    obtain ⟨hz12_0, hz12_1⟩ := hz12
    refine ok_inr ?_
    (try dsimp only) <;> (first | assumption | trivial | grind | grind [hiR])
theorem ok_X3_find {σ : CS} (hσ : IK k σ) (x1 : Int32) (x2 : Int32) : Ok (f_X3_find σ x1 x2) (XQ [1] (fun r => True)) := by
  unfold f_X3_find
  refine ok_obx (ok_X3_needWithin _ _ _) (by decide) fun z1 hz1 => ?_
  obtain ⟨hz1_0, hz1_1⟩ := hz1
  refine ok_bind (ok_X0_placeOfKind (IK.r (k := k) (by (first | assumption | trivial | grind | grind [hiR])) (by (first | assumption | trivial | grind | grind [hiR]))) _ _) fun z6 hz6 => ?_
  refine ok_inr ?_
  (try dsimp only) <;> (first | assumption | trivial | grind | grind [hiR])
theorem ok_X3_splice {σ : CS} (hσ : IK k σ) (x1 : Int32) : Ok (f_X3_splice σ x1) (XQ [0, 2] (fun r => IK k r.2)) := by
  unfold f_X3_splice
  refine ok_obx (ok_X3_needPlace _ _) (by decide) fun z30 hz30 => ?_
  obtain ⟨hz30_0, hz30_1⟩ := hz30
  refine ok_bind (ok_X0_size (IK.r (k := k) (by (first | assumption | trivial | grind | grind [hiR])) (by (first | assumption | trivial | grind | grind [hiR])))) fun z35 hz35 => ?_
  obtain ⟨hz35_0, hz35_1, hz35_2⟩ := hz35
  refine ok_obx (ok_X3_needRoom (k := k) (by (first | assumption | trivial | grind | grind [hiR])) _ _) (by decide) fun z40 hz40 => ?_
  refine ok_if (fun hc => ?_) (fun hc => ?_)
  · refine ok_inr ?_
    (try dsimp only) <;> (first | assumption | trivial | grind | grind [hiR])
  · refine ok_bind (ok_X0_size (IK.r (k := k) (by (first | assumption | trivial | grind | grind [hiR])) (by (first | assumption | trivial | grind | grind [hiR])))) fun z46 hz46 => ?_
    obtain ⟨hz46_0, hz46_1, hz46_2⟩ := hz46
    refine ok_if (fun hc => ?_) (fun hc => ?_)
    · refine lpn64 (fun N t => IK k t.1 ∧ t.2.2.1 ≤ 20 ∧ 0 ≤ t.2.2.2 ∧ t.2.2.2 ≤ 20 ∧ 20 ≤ t.2.2.2 + N) (fun N kk1 t hN hN2 ha hk1 => ?_) ?_
      · obtain ⟨a1_0, a1_1, a1_2, a1_3, a1_4⟩ := ha
        unfold f_X3_splice_42
        refine ok_if (fun hc => ?_) (fun hc => ?_)
        · refine ok_bind (ok_X0_empty (IK.r (k := k) (by (first | assumption | trivial | grind | grind [hiR])) (by (first | assumption | trivial | grind | grind [hiR])))) fun z2 hz2 => ?_
          refine ok_nm (IK k) (IK.row (by (first | assumption | trivial | grind | grind [hiR])) (by (first | assumption | trivial | grind | grind [hiR]))) fun t7 ht7 => ?_
          refine ok_bind (ok_X3_tearFor (k := k) (by (first | assumption | trivial | grind | grind [hiR])) _) fun z8 hz8 => ?_
          refine ok_bind (ok_X3_disturb (k := k) (by (first | assumption | trivial | grind | grind [hiR])) _) fun z13 hz13 => ?_
          refine ok_inr ?_
          (try dsimp only) <;> (first | assumption | trivial | grind | grind [hiR])
        · refine ok_bind (ok_X0_read (IK.r (k := k) (by (first | assumption | trivial | grind | grind [hiR])) (by (first | assumption | trivial | grind | grind [hiR]))) _) fun z18 hz18 => ?_
          obtain ⟨hz18_0, hz18_1⟩ := hz18
          refine ok_bind (ok_X0_enter (IK.r (k := k) (by (first | assumption | trivial | grind | grind [hiR])) (by (first | assumption | trivial | grind | grind [hiR]))) _ _ (by (first | assumption | trivial | grind | grind [hiR]))) fun z23 hz23 => ?_
          refine ok_nm (IK k) (IK.row (by (first | assumption | trivial | grind | grind [hiR])) (by (first | assumption | trivial | grind | grind [hiR]))) fun t28 ht28 => ?_
          refine ok_nme fun y29 hy29 => ?_
          refine hk1 _ (by (first | assumption | trivial | grind | grind [hiR])) ?_
          refine ⟨?_, ?_, ?_, ?_, ?_⟩ <;> (try dsimp only) <;> (first | assumption | trivial | grind | grind [hiR])
      · refine ⟨?_, ?_, ?_, ?_, ?_⟩ <;> (try dsimp only) <;> (first | assumption | trivial | grind | grind [hiR])
    · refine ok_inr ?_
      (try dsimp only) <;> (first | assumption | trivial | grind | grind [hiR])
theorem ok_X3_shunt {σ : CS} (hσ : IK k σ) (x1 : Int32) (x2 : Int32) : Ok (f_X3_shunt σ x1 x2) (XQ [0, 1, 2] (fun r => IK k r.2)) := by
  unfold f_X3_shunt
  refine ok_obx (ok_X3_needPlace _ _) (by decide) fun z33 hz33 => ?_
  obtain ⟨hz33_0, hz33_1⟩ := hz33
  refine ok_obx (ok_X3_needWithin _ _ _) (by decide) fun z38 hz38 => ?_
  obtain ⟨hz38_0, hz38_1⟩ := hz38
  refine ok_obx (ok_X3_needRoom (k := k) (by (first | assumption | trivial | grind | grind [hiR])) _ _) (by decide) fun z43 hz43 => ?_
  refine ok_bind (ok_X0_size (IK.r (k := k) (by (first | assumption | trivial | grind | grind [hiR])) (by (first | assumption | trivial | grind | grind [hiR])))) fun z48 hz48 => ?_
  obtain ⟨hz48_0, hz48_1, hz48_2⟩ := hz48
  refine ok_if (fun hc => ?_) (fun hc => ?_)
  · refine ok_bind (ok_X0_size (IK.r (k := k) (by (first | assumption | trivial | grind | grind [hiR])) (by (first | assumption | trivial | grind | grind [hiR])))) fun z54 hz54 => ?_
    obtain ⟨hz54_0, hz54_1, hz54_2⟩ := hz54
    refine ok_nme fun y59 hy59 => ?_
    refine lpn64 (fun N t => IK k t.1 ∧ t.2.2.1 ≤ 20 ∧ 0 ≤ t.2.2.2.2 ∧ t.2.2.2.2 ≤ 20 ∧ 20 ≤ t.2.2.2.2 + N) (fun N kk1 t hN hN2 ha hk1 => ?_) ?_
    · obtain ⟨a1_0, a1_1, a1_2, a1_3, a1_4⟩ := ha
      unfold f_X3_shunt_53
      refine ok_if (fun hc => ?_) (fun hc => ?_)
      · refine ok_bind (ok_X3_tearFor (k := k) (by (first | assumption | trivial | grind | grind [hiR])) _) fun z3 hz3 => ?_
        refine ok_if (fun hc => ?_) (fun hc => ?_)
        · unfold f_X3_shunt_110
          try dsimp only
          refine ok_inr ?_
          (try dsimp only) <;> (first | assumption | trivial | grind | grind [hiR])
        · refine ok_bind (ok_X3_disturb (k := k) (by (first | assumption | trivial | grind | grind [hiR])) _) fun z9 hz9 => ?_
          unfold f_X3_shunt_110
          try dsimp only
          refine ok_inr ?_
          (try dsimp only) <;> (first | assumption | trivial | grind | grind [hiR])
      · refine ok_bind (ok_X0_leave (IK.r (k := k) (by (first | assumption | trivial | grind | grind [hiR])) (by (first | assumption | trivial | grind | grind [hiR]))) _) fun z14 hz14 => ?_
        obtain ⟨hz14_0, hz14_1⟩ := hz14
        refine ok_nm (IK k) (IK.row (by (first | assumption | trivial | grind | grind [hiR])) (by (first | assumption | trivial | grind | grind [hiR]))) fun t19 ht19 => ?_
        refine ok_bind (ok_X3_kindOf _) fun z20 hz20 => ?_
        refine ok_if (fun hc => ?_) (fun hc => ?_)
        · unfold f_X3_shunt_89
          try dsimp only
          refine ok_nme fun y1 hy1 => ?_
          refine hk1 _ (by (first | assumption | trivial | grind | grind [hiR])) ?_
          refine ⟨?_, ?_, ?_, ?_, ?_⟩ <;> (try dsimp only) <;> (first | assumption | trivial | grind | grind [hiR])
        · refine ok_bind (ok_X0_enterLast (IK.r (k := k) (by (first | assumption | trivial | grind | grind [hiR])) (by (first | assumption | trivial | grind | grind [hiR]))) _ (by (first | assumption | trivial | grind | grind [hiR]))) fun z26 hz26 => ?_
          refine ok_nm (IK k) (IK.row (by (first | assumption | trivial | grind | grind [hiR])) (by (first | assumption | trivial | grind | grind [hiR]))) fun t31 ht31 => ?_
          refine ok_nme fun y32 hy32 => ?_
          unfold f_X3_shunt_89
          try dsimp only
          refine ok_nme fun y1 hy1 => ?_
          refine hk1 _ (by (first | assumption | trivial | grind | grind [hiR])) ?_
          refine ⟨?_, ?_, ?_, ?_, ?_⟩ <;> (try dsimp only) <;> (first | assumption | trivial | grind | grind [hiR])
    · refine ⟨?_, ?_, ?_, ?_, ?_⟩ <;> (try dsimp only) <;> (first | assumption | trivial | grind | grind [hiR])
  · refine ok_inr ?_
    (try dsimp only) <;> (first | assumption | trivial | grind | grind [hiR])
theorem ok_X3_needWalker (x1 : Int32) : Ok (f_X3_needWalker x1) (XQ [0] (fun r => (x1 = 0 ∨ x1 = 1))) := by
  unfold f_X3_needWalker
  refine ok_if (fun hc => ?_) (fun hc => ?_)
  · refine ok_inr ?_
    (try dsimp only) <;> (first | assumption | trivial | grind | grind [hiR])
  · refine ok_if (fun hc => ?_) (fun hc => ?_)
    · refine ok_inr ?_
      (try dsimp only) <;> (first | assumption | trivial | grind | grind [hiR])
    · exact ok_inl (by decide)
theorem ok_X3_walkerOf {σ : CS} (hσ : IK k σ) (x1 : Int32) : Ok (f_X3_walkerOf σ x1) (fun r => r < 2) := by
  unfold f_X3_walkerOf
  refine ok_if (fun hc => ?_) (fun hc => ?_)
  · unfold f_X3_walkerOf_15
    try dsimp only
    refine ok_some ?_
    (try dsimp only) <;> (first | assumption | trivial | grind | grind [hiR])
  · unfold f_X3_walkerOf_15
    try dsimp only
    refine ok_some ?_
    (try dsimp only) <;> (first | assumption | trivial | grind | grind [hiR])
theorem ok_X3_stand {σ : CS} (hσ : IK k σ) (x1 : Int32) (x2 : Int32) : Ok (f_X3_stand σ x1 x2) (XQ [0] (fun r => IK k r.2)) := by
  unfold f_X3_stand
  refine ok_obx (ok_X3_needWalker _) (by decide) fun z1 hz1 => ?_
  refine ok_obx (ok_X3_needPlace _ _) (by decide) fun z6 hz6 => ?_
  obtain ⟨hz6_0, hz6_1⟩ := hz6
  refine ok_bind (ok_X0_size (IK.r (k := k) (by (first | assumption | trivial | grind | grind [hiR])) (by (first | assumption | trivial | grind | grind [hiR])))) fun z11 hz11 => ?_
  obtain ⟨hz11_0, hz11_1, hz11_2⟩ := hz11
  refine ok_if (fun hc => ?_) (fun hc => ?_)
  · refine ok_bind (ok_X3_walkerOf (k := k) (by (first | assumption | trivial | grind | grind [hiR])) _) fun z17 hz17 => ?_
    refine ok_bind (ok_X2_standAt _ _) fun z22 hz22 => ?_
    refine ok_nm (IK k) (IK.sc (by (first | assumption | trivial | grind | grind [hiR])) (by first | decide | omega)) fun t27 ht27 => ?_
    refine ok_inr ?_
    (try dsimp only) <;> (first | assumption | trivial | grind | grind [hiR])
  · refine ok_inr ?_
    (try dsimp only) <;> (first | assumption | trivial | grind | grind [hiR])
theorem ok_X3_needSomewhere {σ : CS} (hσ : IK k σ) (x1 : Int32) : Ok (f_X3_needSomewhere σ x1) (XQ [2] (fun r => True)) := by
  unfold f_X3_needSomewhere
  refine ok_bind (ok_X3_walkerOf (k := k) (by (first | assumption | trivial | grind | grind [hiR])) _) fun z1 hz1 => ?_
  refine ok_if (fun hc => ?_) (fun hc => ?_)
  · exact ok_inl (by decide)
  · refine ok_inr ?_
    (try dsimp only) <;> (first | assumption | trivial | grind | grind [hiR])
theorem ok_X3_forth {σ : CS} (hσ : IK k σ) (x1 : Int32) : Ok (f_X3_forth σ x1) (XQ [0, 2] (fun r => IK k r.2)) := by
  unfold f_X3_forth
  refine ok_obx (ok_X3_needWalker _) (by decide) fun z1 hz1 => ?_
  refine ok_obx (ok_X3_needSomewhere (k := k) (by (first | assumption | trivial | grind | grind [hiR])) _) (by decide) fun z6 hz6 => ?_
  refine ok_bind (ok_X3_walkerOf (k := k) (by (first | assumption | trivial | grind | grind [hiR])) _) fun z11 hz11 => ?_
  refine ok_bind (ok_X2_isFresh _) fun z16 hz16 => ?_
  refine ok_if (fun hc => ?_) (fun hc => ?_)
  · unfold f_X3_forth_36
    try dsimp only
    refine ok_inr ?_
    (try dsimp only) <;> (first | assumption | trivial | grind | grind [hiR])
  · refine ok_bind (ok_X0_size (IK.r (k := k) (by (first | assumption | trivial | grind | grind [hiR])) (by (first | assumption | trivial | grind | grind [hiR])))) fun z22 hz22 => ?_
    obtain ⟨hz22_0, hz22_1, hz22_2⟩ := hz22
    refine ok_if (fun hc => ?_) (fun hc => ?_)
    · refine ok_bind (ok_X2_goForth _) fun z28 hz28 => ?_
      refine ok_nm (IK k) (IK.sc (by (first | assumption | trivial | grind | grind [hiR])) (by first | decide | omega)) fun t33 ht33 => ?_
      refine ok_bind (ok_X0_read (IK.r (k := k) (by (first | assumption | trivial | grind | grind [hiR])) (by (first | assumption | trivial | grind | grind [hiR]))) _) fun z34 hz34 => ?_
      obtain ⟨hz34_0, hz34_1⟩ := hz34
      refine ok_inr ?_
      (try dsimp only) <;> (first | assumption | trivial | grind | grind [hiR])
    · unfold f_X3_forth_36
      try dsimp only
      refine ok_inr ?_
      (try dsimp only) <;> (first | assumption | trivial | grind | grind [hiR])
theorem ok_X3_back {σ : CS} (hσ : IK k σ) (x1 : Int32) : Ok (f_X3_back σ x1) (XQ [0, 2] (fun r => IK k r.2)) := by
  unfold f_X3_back
  refine ok_obx (ok_X3_needWalker _) (by decide) fun z1 hz1 => ?_
  refine ok_obx (ok_X3_needSomewhere (k := k) (by (first | assumption | trivial | grind | grind [hiR])) _) (by decide) fun z6 hz6 => ?_
  refine ok_bind (ok_X3_walkerOf (k := k) (by (first | assumption | trivial | grind | grind [hiR])) _) fun z11 hz11 => ?_
  refine ok_bind (ok_X2_isFresh _) fun z16 hz16 => ?_
  refine ok_if (fun hc => ?_) (fun hc => ?_)
  · unfold f_X3_back_29
    try dsimp only
    refine ok_inr ?_
    (try dsimp only) <;> (first | assumption | trivial | grind | grind [hiR])
  · refine ok_if (fun hc => ?_) (fun hc => ?_)
    · refine ok_bind (ok_X2_goBack _) fun z23 hz23 => ?_
      refine ok_nm (IK k) (IK.sc (by (first | assumption | trivial | grind | grind [hiR])) (by first | decide | omega)) fun t28 ht28 => ?_
      refine ok_bind (ok_X0_read (IK.r (k := k) (by (first | assumption | trivial | grind | grind [hiR])) (by (first | assumption | trivial | grind | grind [hiR]))) _) fun z29 hz29 => ?_
      obtain ⟨hz29_0, hz29_1⟩ := hz29
      refine ok_inr ?_
      (try dsimp only) <;> (first | assumption | trivial | grind | grind [hiR])
    · unfold f_X3_back_29
      try dsimp only
      refine ok_inr ?_
      (try dsimp only) <;> (first | assumption | trivial | grind | grind [hiR])
theorem ok_X3_tearForWalker {σ : CS} (hσ : IK k σ) (x1 : Int32) : Ok (f_X3_tearForWalker σ x1) (fun r => IK k r) := by
  unfold f_X3_tearForWalker
  refine ok_bind (ok_X0_empty (IK.r (k := k) (by (first | assumption | trivial | grind | grind [hiR])) (by (first | assumption | trivial | grind | grind [hiR])))) fun z1 hz1 => ?_
  refine ok_nm (IK k) (IK.row (by (first | assumption | trivial | grind | grind [hiR])) (by (first | assumption | trivial | grind | grind [hiR]))) fun t6 ht6 => ?_
  refine ok_bind (ok_X3_walkerOf (k := k) (by (first | assumption | trivial | grind | grind [hiR])) _) fun z7 hz7 => ?_
  refine ok_bind (ok_X2_growStale _) fun z12 hz12 => ?_
  refine ok_nm (IK k) (IK.sc (by (first | assumption | trivial | grind | grind [hiR])) (by first | decide | omega)) fun t17 ht17 => ?_
  refine ok_some ?_
  (try dsimp only) <;> (first | assumption | trivial | grind | grind [hiR])
theorem ok_X3_takeHeld {σ : CS} (hσ : IK k σ) (x1 : Int32) : Ok (f_X3_takeHeld σ x1) (XQ [0, 2] (fun r => IK k r.2)) := by
  unfold f_X3_takeHeld
  refine ok_obx (ok_X3_needWalker _) (by decide) fun z1 hz1 => ?_
  refine ok_obx (ok_X3_needSomewhere (k := k) (by (first | assumption | trivial | grind | grind [hiR])) _) (by decide) fun z6 hz6 => ?_
  refine ok_bind (ok_X3_walkerOf (k := k) (by (first | assumption | trivial | grind | grind [hiR])) _) fun z11 hz11 => ?_
  refine ok_bind (ok_X2_holds _) fun z16 hz16 => ?_
  refine ok_if (fun hc => ?_) (fun hc => ?_)
  · refine ok_inr ?_
    (try dsimp only) <;> (first | assumption | trivial | grind | grind [hiR])
  · refine ok_bind (ok_X0_leave (IK.r (k := k) (by (first | assumption | trivial | grind | grind [hiR])) (by (first | assumption | trivial | grind | grind [hiR]))) _) fun z22 hz22 => ?_
    obtain ⟨hz22_0, hz22_1⟩ := hz22
    refine ok_nm (IK k) (IK.row (by (first | assumption | trivial | grind | grind [hiR])) (by (first | assumption | trivial | grind | grind [hiR]))) fun t27 ht27 => ?_
    refine ok_bind (ok_X2_loseHeld _) fun z28 hz28 => ?_
    refine ok_nm (IK k) (IK.sc (by (first | assumption | trivial | grind | grind [hiR])) (by first | decide | omega)) fun t33 ht33 => ?_
    refine ok_bind (ok_X3_tearForWalker (k := k) (by (first | assumption | trivial | grind | grind [hiR])) _) fun z34 hz34 => ?_
    refine ok_inr ?_
    (try dsimp only) <;> (first | assumption | trivial | grind | grind [hiR])
theorem ok_X3_setHeld {σ : CS} (hσ : IK k σ) (x1 : Int32) (x2 : Int32) (x3 : Int32) : Ok (f_X3_setHeld σ x1 x2 x3) (XQ [0, 1, 2] (fun r => IK k r.2)) := by
  unfold f_X3_setHeld
  refine ok_obx (ok_X3_needWalker _) (by decide) fun z1 hz1 => ?_
  refine ok_obx (ok_X3_needPiece _ _) (by decide) fun z6 hz6 => ?_
  obtain ⟨hz6_0, hz6_1, hz6_2, hz6_3⟩ := hz6
  refine ok_obx (ok_X3_needSomewhere (k := k) (by (first | assumption | trivial | grind | grind [hiR])) _) (by decide) fun z11 hz11 => ?_
  refine ok_bind (ok_X3_walkerOf (k := k) (by (first | assumption | trivial | grind | grind [hiR])) _) fun z16 hz16 => ?_
  refine ok_bind (ok_X2_holds _) fun z21 hz21 => ?_
  refine ok_if (fun hc => ?_) (fun hc => ?_)
  · refine ok_inr ?_
    (try dsimp only) <;> (first | assumption | trivial | grind | grind [hiR])
  · refine ok_bind (ok_X3_codeOf _ _ (by (first | assumption | trivial | grind | grind [hiR])) (by (first | assumption | trivial | grind | grind [hiR])) (by (first | assumption | trivial | grind | grind [hiR])) (by (first | assumption | trivial | grind | grind [hiR]))) fun z27 hz27 => ?_
    obtain ⟨hz27_0, hz27_1⟩ := hz27
    refine ok_bind (ok_X3_layAnew (k := k) (by (first | assumption | trivial | grind | grind [hiR])) _ _ (by (first | assumption | trivial | grind | grind [hiR])) (by (first | assumption | trivial | grind | grind [hiR]))) fun z32 hz32 => ?_
    refine ok_inr ?_
    (try dsimp only) <;> (first | assumption | trivial | grind | grind [hiR])
theorem ok_X3_put {σ : CS} (hσ : IK k σ) (x1 : Int32) (x2 : Int32) (x3 : Int32) : Ok (f_X3_put σ x1 x2 x3) (XQ [0, 1, 2] (fun r => IK k r.2)) := by
  unfold f_X3_put
  refine ok_obx (ok_X3_needWalker _) (by decide) fun z1 hz1 => ?_
  refine ok_obx (ok_X3_needPiece _ _) (by decide) fun z6 hz6 => ?_
  obtain ⟨hz6_0, hz6_1, hz6_2, hz6_3⟩ := hz6
  refine ok_obx (ok_X3_needSomewhere (k := k) (by (first | assumption | trivial | grind | grind [hiR])) _) (by decide) fun z11 hz11 => ?_
  refine ok_obx (ok_X3_needRoom (k := k) (by (first | assumption | trivial | grind | grind [hiR])) _ _) (by decide) fun z16 hz16 => ?_
  refine ok_bind (ok_X3_walkerOf (k := k) (by (first | assumption | trivial | grind | grind [hiR])) _) fun z21 hz21 => ?_
  refine ok_bind (ok_X2_isFresh _) fun z26 hz26 => ?_
  refine ok_if (fun hc => ?_) (fun hc => ?_)
  · refine ok_inr ?_
    (try dsimp only) <;> (first | assumption | trivial | grind | grind [hiR])
  · refine ok_bind (ok_X3_codeOf _ _ (by (first | assumption | trivial | grind | grind [hiR])) (by (first | assumption | trivial | grind | grind [hiR])) (by (first | assumption | trivial | grind | grind [hiR])) (by (first | assumption | trivial | grind | grind [hiR]))) fun z32 hz32 => ?_
    obtain ⟨hz32_0, hz32_1⟩ := hz32
    refine ok_bind (ok_X0_enter (IK.r (k := k) (by (first | assumption | trivial | grind | grind [hiR])) (by (first | assumption | trivial | grind | grind [hiR]))) _ _ (by (first | assumption | trivial | grind | grind [hiR]))) fun z37 hz37 => ?_
    refine ok_nm (IK k) (IK.row (by (first | assumption | trivial | grind | grind [hiR])) (by (first | assumption | trivial | grind | grind [hiR]))) fun t42 ht42 => ?_
    refine ok_bind (ok_X2_passNew _) fun z43 hz43 => ?_
    refine ok_nm (IK k) (IK.sc (by (first | assumption | trivial | grind | grind [hiR])) (by first | decide | omega)) fun t48 ht48 => ?_
    refine ok_bind (ok_X3_tearForWalker (k := k) (by (first | assumption | trivial | grind | grind [hiR])) _) fun z49 hz49 => ?_
    refine ok_inr ?_
    (try dsimp only) <;> (first | assumption | trivial | grind | grind [hiR])
theorem ok_X3_oneIf (x1 : Int32) : Ok (f_X3_oneIf x1) (fun r => True) := by
  unfold f_X3_oneIf
  refine ok_if (fun hc => ?_) (fun hc => ?_)
  · refine ok_some ?_
    (try dsimp only) <;> (first | assumption | trivial | grind | grind [hiR])
  · refine ok_some ?_
    (try dsimp only) <;> (first | assumption | trivial | grind | grind [hiR])
theorem ok_X3_ofWalker {σ : CS} (hσ : IK k σ) (x1 : Int32) (x2 : Int32) : Ok (f_X3_ofWalker σ x1 x2) (fun r => True) := by
  unfold f_X3_ofWalker
  refine ok_bind (ok_X3_walkerOf (k := k) (by (first | assumption | trivial | grind | grind [hiR])) _) fun z11 hz11 => ?_
  refine ok_if (fun hc => ?_) (fun hc => ?_)
  · refine ok_some ?_
    (try dsimp only) <;> (first | assumption | trivial | grind | grind [hiR])
  · refine ok_if (fun hc => ?_) (fun hc => ?_)
    · refine ok_some ?_
      (try dsimp only) <;> (first | assumption | trivial | grind | grind [hiR])
    · refine ok_if (fun hc => ?_) (fun hc => ?_)
      · refine ok_some ?_
        (try dsimp only) <;> (first | assumption | trivial | grind | grind [hiR])
      · refine ok_if (fun hc => ?_) (fun hc => ?_)
        · refine ok_bind (ok_X0_size (IK.r (k := k) (by (first | assumption | trivial | grind | grind [hiR])) (by (first | assumption | trivial | grind | grind [hiR])))) fun z20 hz20 => ?_
          obtain ⟨hz20_0, hz20_1, hz20_2⟩ := hz20
          refine ok_if (fun hc => ?_) (fun hc => ?_)
          · unfold f_X3_ofWalker_72
            try dsimp only
            refine ok_bind (ok_X3_oneIf _) fun z1 hz1 => ?_
            refine ok_some ?_
            (try dsimp only) <;> (first | assumption | trivial | grind | grind [hiR])
          · unfold f_X3_ofWalker_72
            try dsimp only
            refine ok_bind (ok_X3_oneIf _) fun z1 hz1 => ?_
            refine ok_some ?_
            (try dsimp only) <;> (first | assumption | trivial | grind | grind [hiR])
        · refine ok_if (fun hc => ?_) (fun hc => ?_)
          · unfold f_X3_ofWalker_88
            try dsimp only
            refine ok_bind (ok_X3_oneIf _) fun z6 hz6 => ?_
            refine ok_some ?_
            (try dsimp only) <;> (first | assumption | trivial | grind | grind [hiR])
          · unfold f_X3_ofWalker_88
            try dsimp only
            refine ok_bind (ok_X3_oneIf _) fun z6 hz6 => ?_
            refine ok_some ?_
            (try dsimp only) <;> (first | assumption | trivial | grind | grind [hiR])
theorem ok_X3_where {σ : CS} (hσ : IK k σ) (x1 : Int32) (x2 : Int32) : Ok (f_X3_where σ x1 x2) (XQ [0, 1, 2] (fun r => True)) := by
  unfold f_X3_where
  refine ok_obx (ok_X3_needWalker _) (by decide) fun z6 hz6 => ?_
  refine ok_obx (ok_X3_needWithin _ _ _) (by decide) fun z11 hz11 => ?_
  obtain ⟨hz11_0, hz11_1⟩ := hz11
  refine ok_if (fun hc => ?_) (fun hc => ?_)
  · unfold f_X3_where_35
    try dsimp only
    refine ok_bind (ok_X3_ofWalker (k := k) (by (first | assumption | trivial | grind | grind [hiR])) _ _) fun z1 hz1 => ?_
    refine ok_inr ?_
    (try dsimp only) <;> (first | assumption | trivial | grind | grind [hiR])
  · refine ok_bind (ok_X3_walkerOf (k := k) (by (first | assumption | trivial | grind | grind [hiR])) _) fun z17 hz17 => ?_
    refine ok_bind (ok_X2_isFresh _) fun z22 hz22 => ?_
    refine ok_if (fun hc => ?_) (fun hc => ?_)
    · exact ok_inl (by decide)
    · unfold f_X3_where_35
      try dsimp only
      refine ok_bind (ok_X3_ofWalker (k := k) (by (first | assumption | trivial | grind | grind [hiR])) _ _) fun z1 hz1 => ?_
      refine ok_inr ?_
      (try dsimp only) <;> (first | assumption | trivial | grind | grind [hiR])
theorem ok_X3_order {σ : CS} (hσ : IK k σ) (x1 : Int32) : Ok (f_X3_order σ x1) (XQ [1, 2] (fun r => IK k r.2)) := by
  unfold f_X3_order
  refine ok_obx (ok_X3_needWithin _ _ _) (by decide) fun z1 hz1 => ?_
  obtain ⟨hz1_0, hz1_1⟩ := hz1
  refine ok_bind (ok_X0_isFull (IK.r (k := k) (by (first | assumption | trivial | grind | grind [hiR])) (by (first | assumption | trivial | grind | grind [hiR])))) fun z6 hz6 => ?_
  refine ok_if (fun hc => ?_) (fun hc => ?_)
  · refine ok_bind (ok_X0_enterLast (IK.r (k := k) (by (first | assumption | trivial | grind | grind [hiR])) (by (first | assumption | trivial | grind | grind [hiR]))) _ (by (first | assumption | trivial | grind | grind [hiR]))) fun z12 hz12 => ?_
    refine ok_nm (IK k) (IK.row (by (first | assumption | trivial | grind | grind [hiR])) (by (first | assumption | trivial | grind | grind [hiR]))) fun t17 ht17 => ?_
    refine ok_bind (ok_X0_size (IK.r (k := k) (by (first | assumption | trivial | grind | grind [hiR])) (by (first | assumption | trivial | grind | grind [hiR])))) fun z18 hz18 => ?_
    obtain ⟨hz18_0, hz18_1, hz18_2⟩ := hz18
    refine ok_inr ?_
    (try dsimp only) <;> (first | assumption | trivial | grind | grind [hiR])
  · exact ok_inl (by decide)
theorem ok_X3_orderIsFromBack (x1 : Int32) : Ok (f_X3_orderIsFromBack x1) (fun r => True) := by
  unfold f_X3_orderIsFromBack
  refine ok_if (fun hc => ?_) (fun hc => ?_)
  · refine ok_some ?_
    (try dsimp only) <;> (first | assumption | trivial | grind | grind [hiR])
  · refine ok_some ?_
    (try dsimp only) <;> (first | assumption | trivial | grind | grind [hiR])
theorem ok_X3_canMove {σ : CS} (hσ : IK k σ) (x1 : Int32) (p0 : 0 ≤ x1) (p1 : x1 ≤ 7) : Ok (f_X3_canMove σ x1) (fun r => True) := by
  unfold f_X3_canMove
  refine ok_bind (ok_X3_orderTrack _ (by (first | assumption | trivial | grind | grind [hiR])) (by (first | assumption | trivial | grind | grind [hiR]))) fun z1 hz1 => ?_
  refine ok_nme fun y6 hy6 => ?_
  refine ok_bind (ok_X3_trackOf (k := k) (by (first | assumption | trivial | grind | grind [hiR])) _) fun z7 hz7 => ?_
  refine ok_bind (ok_X0_isEmpty (IK.r (k := k) (by (first | assumption | trivial | grind | grind [hiR])) (by (first | assumption | trivial | grind | grind [hiR])))) fun z12 hz12 => ?_
  refine ok_if (fun hc => ?_) (fun hc => ?_)
  · refine ok_bind (ok_X3_trackOf (k := k) (by (first | assumption | trivial | grind | grind [hiR])) _) fun z18 hz18 => ?_
    refine ok_bind (ok_X0_isFull (IK.r (k := k) (by (first | assumption | trivial | grind | grind [hiR])) (by (first | assumption | trivial | grind | grind [hiR])))) fun z23 hz23 => ?_
    refine ok_if (fun hc => ?_) (fun hc => ?_)
    · refine ok_if (fun hc => ?_) (fun hc => ?_)
      · unfold f_X3_canMove_53
        try dsimp only
        refine ok_some ?_
        (try dsimp only) <;> (first | assumption | trivial | grind | grind [hiR])
      · refine ok_bind (ok_X3_orderIsFromBack _) fun z30 hz30 => ?_
        refine ok_bind (ok_X3_codeAtEnd (k := k) (by (first | assumption | trivial | grind | grind [hiR])) _ _) fun z35 hz35 => ?_
        obtain ⟨hz35_0, hz35_1⟩ := hz35
        refine ok_bind (ok_X3_kindOf _) fun z40 hz40 => ?_
        refine ok_if (fun hc => ?_) (fun hc => ?_)
        · refine ok_some ?_
          (try dsimp only) <;> (first | assumption | trivial | grind | grind [hiR])
        · unfold f_X3_canMove_53
          try dsimp only
          refine ok_some ?_
          (try dsimp only) <;> (first | assumption | trivial | grind | grind [hiR])
    · refine ok_some ?_
      (try dsimp only) <;> (first | assumption | trivial | grind | grind [hiR])
  · refine ok_some ?_
    (try dsimp only) <;> (first | assumption | trivial | grind | grind [hiR])
theorem ok_X3_orderIsToBack (x1 : Int32) : Ok (f_X3_orderIsToBack x1) (fun r => True) := by
  unfold f_X3_orderIsToBack
  refine ok_if (fun hc => ?_) (fun hc => ?_)
  · refine ok_some ?_
    (try dsimp only) <;> (first | assumption | trivial | grind | grind [hiR])
  · refine ok_some ?_
    (try dsimp only) <;> (first | assumption | trivial | grind | grind [hiR])
theorem ok_X3_move {σ : CS} (hσ : IK k σ) (x1 : Int32) (p0 : 0 ≤ x1) (p1 : x1 ≤ 7) : Ok (f_X3_move σ x1) (fun r => IK k r) := by
  unfold f_X3_move
  refine ok_bind (ok_X3_orderTrack _ (by (first | assumption | trivial | grind | grind [hiR])) (by (first | assumption | trivial | grind | grind [hiR]))) fun z1 hz1 => ?_
  refine ok_bind (ok_X3_orderIsFromBack _) fun z6 hz6 => ?_
  refine ok_bind (ok_X3_stepOff (k := k) (by (first | assumption | trivial | grind | grind [hiR])) _ _ (by (first | assumption | trivial | grind | grind [hiR]))) fun z11 hz11 => ?_
  obtain ⟨hz11_0, hz11_1, hz11_2⟩ := hz11
  refine ok_bind (ok_X3_orderIsToBack _) fun z16 hz16 => ?_
  refine ok_bind (ok_X3_stepOn (k := k) (by (first | assumption | trivial | grind | grind [hiR])) _ _ _ (by (first | assumption | trivial | grind | grind [hiR])) (by (first | assumption | trivial | grind | grind [hiR])) (by (first | assumption | trivial | grind | grind [hiR]))) fun z21 hz21 => ?_
  refine ok_some ?_
  (try dsimp only) <;> (first | assumption | trivial | grind | grind [hiR])
end OKC
