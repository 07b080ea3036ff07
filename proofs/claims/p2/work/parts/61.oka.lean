/-! the yard: every method of the class comes to its end (written by okgen.py) -/
section OKC
variable {k : Int32}
theorem IK.kn {σ : CS} (h : IK k σ) : IK (k + 1) (σ.1, va_up σ.2 0 ((σ.2 0) + 1)) := ⟨h.1, by show va_up σ.2 0 (σ.2 0 + 1) 0 = k + 1; rw [up_eq, h.2]⟩
theorem hiR_01 {i : Nat} (h : i < 2) : hiR i = 999 := by unfold hiR; rw [if_neg (by omega), if_neg (by omega)]
theorem ok_X3_slipCode (x1 : Int32) (p0 : 0 ≤ x1) : Ok (f_X3_slipCode x1) (fun r => 0 ≤ r ∧ r ≤ 999) := ok_some (jr1000 p0)
theorem ok_X3_orderTrack (x1 : Int32) (p0 : 0 ≤ x1) (p1 : x1 ≤ 7) : Ok (f_X3_orderTrack x1) (fun r => r = 0 ∨ r = 1) := ok_some (by have h := dv4 p0 p1; (first | assumption | trivial | grind | grind [hiR]))
theorem ok_X3_knock {σ : CS} (h : IK k σ) : Ok (f_X3_knock σ) (fun r => r.1 = k + 1 ∧ IK (k + 1) r.2) := by
  refine ok_nm (IK (k + 1)) (IK.kn h) fun t ht => ok_some ⟨ht.2, ht⟩
theorem ok_X0_copyFrom {σ : CS} (hσ : IK k σ) (x1 : Nat) (x2 : Nat) (p0 : x1 < 7) (p1 : x2 < 7) (p2 : hiR x2 ≤ hiR x1) : Ok (f_X0_copyFrom σ x1 x2) (fun r => IK k r) := by
  unfold f_X0_copyFrom
  refine ok_bind (ok_X0_empty (IK.r (k := k) (by (first | assumption | trivial | grind | grind [hiR])) (by (first | assumption | trivial | grind | grind [hiR])))) fun z19 hz19 => ?_
  refine ok_nm (IK k) (IK.row (by (first | assumption | trivial | grind | grind [hiR])) (by (first | assumption | trivial | grind | grind [hiR]))) fun t24 ht24 => ?_
  refine lpn64 (fun N t => IK k t.1 ∧ t.2.1 < 7 ∧ t.2.2.1 < 7 ∧ hiR t.2.2.1 ≤ hiR t.2.1 ∧ 0 ≤ t.2.2.2 ∧ t.2.2.2 ≤ 20 ∧ 20 ≤ t.2.2.2 + N) (fun N kk1 t hN hN2 ha hk1 => ?_) ?_
  · obtain ⟨a1_0, a1_1, a1_2, a1_3, a1_4, a1_5, a1_6⟩ := ha
    unfold f_X0_copyFrom_6
    refine ok_bind (ok_X0_size (IK.r (k := k) (by (first | assumption | trivial | grind | grind [hiR])) (by (first | assumption | trivial | grind | grind [hiR])))) fun z1 hz1 => ?_
    obtain ⟨hz1_0, hz1_1, hz1_2⟩ := hz1
    refine ok_if (fun hc => ?_) (fun hc => ?_)
    · refine ok_some ?_
      (try dsimp only) <;> (first | assumption | trivial | grind | grind [hiR])
    · refine ok_bind (ok_X0_read (IK.r (k := k) (by (first | assumption | trivial | grind | grind [hiR])) (by (first | assumption | trivial | grind | grind [hiR]))) _) fun z7 hz7 => ?_
      obtain ⟨hz7_0, hz7_1⟩ := hz7
      refine ok_bind (ok_X0_enterLast (IK.r (k := k) (by (first | assumption | trivial | grind | grind [hiR])) (by (first | assumption | trivial | grind | grind [hiR]))) _ (by (first | assumption | trivial | grind | grind [hiR]))) fun z12 hz12 => ?_
      refine ok_nm (IK k) (IK.row (by (first | assumption | trivial | grind | grind [hiR])) (by (first | assumption | trivial | grind | grind [hiR]))) fun t17 ht17 => ?_
      refine ok_nme fun y18 hy18 => ?_
      refine hk1 _ (by (first | assumption | trivial | grind | grind [hiR])) ?_
      refine ⟨?_, ?_, ?_, ?_, ?_, ?_, ?_⟩ <;> (try dsimp only) <;> (first | assumption | trivial | grind | grind [hiR])
  · refine ⟨?_, ?_, ?_, ?_, ?_, ?_, ?_⟩ <;> (try dsimp only) <;> (first | assumption | trivial | grind | grind [hiR])
theorem ok_X1_begin (ω : (Nat → Int32)) (x1 : Int32) (x2 : Int32) (p0 : x1 = 0 ∨ x1 = 1) : Ok (f_X1_begin ω x1 x2) (fun r => True) := by
  unfold f_X1_begin
  refine ok_nme fun t12 ht12 => ?_
  refine ok_yes (by (first | assumption | trivial | grind | grind [hiR])) ?_
  refine ok_nme fun t16 ht16 => ?_
  refine ok_if (fun hc => ?_) (fun hc => ?_)
  · unfold f_X1_begin_22
    try dsimp only
    refine ok_nme fun t4 ht4 => ?_
    refine ok_nme fun t8 ht8 => ?_
    refine ok_some ?_
    (try dsimp only) <;> (first | assumption | trivial | grind | grind [hiR])
  · unfold f_X1_begin_22
    try dsimp only
    refine ok_nme fun t4 ht4 => ?_
    refine ok_nme fun t8 ht8 => ?_
    refine ok_some ?_
    (try dsimp only) <;> (first | assumption | trivial | grind | grind [hiR])
theorem ok_X1_end (ω : (Nat → Int32)) : Ok (f_X1_end ω) (fun r => True) := by
  unfold f_X1_end
  refine ok_nme fun t4 ht4 => ?_
  refine ok_nme fun t8 ht8 => ?_
  refine ok_some ?_
  (try dsimp only) <;> (first | assumption | trivial | grind | grind [hiR])
theorem ok_X1_hasNext (ω : (Nat → Int32)) (x1 : Int32) : Ok (f_X1_hasNext ω x1) (fun r => True) := by
  unfold f_X1_hasNext
  refine ok_if (fun hc => ?_) (fun hc => ?_)
  · refine ok_some ?_
    (try dsimp only) <;> (first | assumption | trivial | grind | grind [hiR])
  · refine ok_if (fun hc => ?_) (fun hc => ?_)
    · refine ok_some ?_
      (try dsimp only) <;> (first | assumption | trivial | grind | grind [hiR])
    · refine ok_if (fun hc => ?_) (fun hc => ?_)
      · refine ok_some ?_
        (try dsimp only) <;> (first | assumption | trivial | grind | grind [hiR])
      · refine ok_some ?_
        (try dsimp only) <;> (first | assumption | trivial | grind | grind [hiR])
theorem ok_X1_goOn (ω : (Nat → Int32)) : Ok (f_X1_goOn ω) (fun r => True) := by
  unfold f_X1_goOn
  refine ok_nme fun t8 ht8 => ?_
  refine ok_if (fun hc => ?_) (fun hc => ?_)
  · unfold f_X1_goOn_25
    try dsimp only
    refine ok_nme fun t4 ht4 => ?_
    refine ok_some ?_
    (try dsimp only) <;> (first | assumption | trivial | grind | grind [hiR])
  · unfold f_X1_goOn_25
    try dsimp only
    refine ok_nme fun t4 ht4 => ?_
    refine ok_some ?_
    (try dsimp only) <;> (first | assumption | trivial | grind | grind [hiR])
theorem ok_X1_letGo (ω : (Nat → Int32)) : Ok (f_X1_letGo ω) (fun r => True) := by
  unfold f_X1_letGo
  refine ok_if (fun hc => ?_) (fun hc => ?_)
  · refine ok_nme fun t9 ht9 => ?_
    unfold f_X1_letGo_15
    try dsimp only
    refine ok_nme fun t4 ht4 => ?_
    refine ok_some ?_
    (try dsimp only) <;> (first | assumption | trivial | grind | grind [hiR])
  · unfold f_X1_letGo_15
    try dsimp only
    refine ok_nme fun t4 ht4 => ?_
    refine ok_some ?_
    (try dsimp only) <;> (first | assumption | trivial | grind | grind [hiR])
theorem ok_X2_standAt (ω : (Nat → Int32)) (x1 : Int32) : Ok (f_X2_standAt ω x1) (fun r => True) := by
  unfold f_X2_standAt
  refine ok_nme fun t4 ht4 => ?_
  refine ok_nme fun t8 ht8 => ?_
  refine ok_nme fun t12 ht12 => ?_
  refine ok_some ?_
  (try dsimp only) <;> (first | assumption | trivial | grind | grind [hiR])
theorem ok_X2_growStale (ω : (Nat → Int32)) : Ok (f_X2_growStale ω) (fun r => True) := by
  unfold f_X2_growStale
  refine ok_if (fun hc => ?_) (fun hc => ?_)
  · refine ok_some ?_
    (try dsimp only) <;> (first | assumption | trivial | grind | grind [hiR])
  · refine ok_nme fun t5 ht5 => ?_
    refine ok_some ?_
    (try dsimp only) <;> (first | assumption | trivial | grind | grind [hiR])
theorem ok_X2_isFresh (ω : (Nat → Int32)) : Ok (f_X2_isFresh ω) (fun r => True) := by
  unfold f_X2_isFresh
  refine ok_if (fun hc => ?_) (fun hc => ?_)
  · refine ok_some ?_
    (try dsimp only) <;> (first | assumption | trivial | grind | grind [hiR])
  · refine ok_some ?_
    (try dsimp only) <;> (first | assumption | trivial | grind | grind [hiR])
theorem ok_X2_holds (ω : (Nat → Int32)) : Ok (f_X2_holds ω) (fun r => True) := by
  unfold f_X2_holds
  refine ok_bind (ok_X2_isFresh _) fun z1 hz1 => ?_
  refine ok_if (fun hc => ?_) (fun hc => ?_)
  · refine ok_some ?_
    (try dsimp only) <;> (first | assumption | trivial | grind | grind [hiR])
  · refine ok_if (fun hc => ?_) (fun hc => ?_)
    · refine ok_some ?_
      (try dsimp only) <;> (first | assumption | trivial | grind | grind [hiR])
    · refine ok_some ?_
      (try dsimp only) <;> (first | assumption | trivial | grind | grind [hiR])
theorem ok_X2_goForth (ω : (Nat → Int32)) : Ok (f_X2_goForth ω) (fun r => True) := by
  unfold f_X2_goForth
  refine ok_nme fun t4 ht4 => ?_
  refine ok_nme fun t8 ht8 => ?_
  refine ok_some ?_
  (try dsimp only) <;> (first | assumption | trivial | grind | grind [hiR])
theorem ok_X2_goBack (ω : (Nat → Int32)) : Ok (f_X2_goBack ω) (fun r => True) := by
  unfold f_X2_goBack
  refine ok_nme fun t4 ht4 => ?_
  refine ok_nme fun t8 ht8 => ?_
  refine ok_some ?_
  (try dsimp only) <;> (first | assumption | trivial | grind | grind [hiR])
theorem ok_X2_loseHeld (ω : (Nat → Int32)) : Ok (f_X2_loseHeld ω) (fun r => True) := by
  unfold f_X2_loseHeld
  refine ok_if (fun hc => ?_) (fun hc => ?_)
  · unfold f_X2_loseHeld_21
    try dsimp only
    refine ok_nme fun t4 ht4 => ?_
    refine ok_some ?_
    (try dsimp only) <;> (first | assumption | trivial | grind | grind [hiR])
  · refine ok_nme fun t9 ht9 => ?_
    unfold f_X2_loseHeld_21
    try dsimp only
    refine ok_nme fun t4 ht4 => ?_
    refine ok_some ?_
    (try dsimp only) <;> (first | assumption | trivial | grind | grind [hiR])
theorem ok_X2_passNew (ω : (Nat → Int32)) : Ok (f_X2_passNew ω) (fun r => True) := by
  unfold f_X2_passNew
  refine ok_nme fun t4 ht4 => ?_
  refine ok_nme fun t8 ht8 => ?_
  refine ok_some ?_
  (try dsimp only) <;> (first | assumption | trivial | grind | grind [hiR])
theorem ok_X3_needTrack (x1 : Int32) : Ok (f_X3_needTrack x1) (XQ [0] (fun r => (x1 = 0 ∨ x1 = 1))) := by
  unfold f_X3_needTrack
  refine ok_if (fun hc => ?_) (fun hc => ?_)
  · refine ok_inr ?_
    (try dsimp only) <;> (first | assumption | trivial | grind | grind [hiR])
  · refine ok_if (fun hc => ?_) (fun hc => ?_)
    · refine ok_inr ?_
      (try dsimp only) <;> (first | assumption | trivial | grind | grind [hiR])
    · exact ok_inl (by decide)
theorem ok_X3_needWithin (x1 : Int32) (x2 : Int32) (x3 : Int32) : Ok (f_X3_needWithin x1 x2 x3) (XQ [1] (fun r => x2 ≤ x1 ∧ x1 ≤ x3)) := by
  unfold f_X3_needWithin
  refine ok_if (fun hc => ?_) (fun hc => ?_)
  · exact ok_inl (by decide)
  · refine ok_if (fun hc => ?_) (fun hc => ?_)
    · refine ok_inr ?_
      refine ⟨?_, ?_⟩ <;> (try dsimp only) <;> (first | assumption | trivial | grind | grind [hiR])
    · exact ok_inl (by decide)
theorem ok_X3_needPiece (x1 : Int32) (x2 : Int32) : Ok (f_X3_needPiece x1 x2) (XQ [1] (fun r => 0 ≤ x1 ∧ x1 ≤ 9 ∧ 0 ≤ x2 ∧ x2 ≤ 99)) := by
  unfold f_X3_needPiece
  refine ok_obx (ok_X3_needWithin _ _ _) (by decide) fun z1 hz1 => ?_
  obtain ⟨hz1_0, hz1_1⟩ := hz1
  refine ok_obx (ok_X3_needWithin _ _ _) (by decide) fun z6 hz6 => ?_
  obtain ⟨hz6_0, hz6_1⟩ := hz6
  refine ok_inr ?_
  refine ⟨?_, ?_, ?_, ?_⟩ <;> (try dsimp only) <;> (first | assumption | trivial | grind | grind [hiR])
theorem ok_X3_trackOf {σ : CS} (hσ : IK k σ) (x1 : Int32) : Ok (f_X3_trackOf σ x1) (fun r => r < 2) := by
  unfold f_X3_trackOf
  refine ok_if (fun hc => ?_) (fun hc => ?_)
  · unfold f_X3_trackOf_15
    try dsimp only
    refine ok_some ?_
    (try dsimp only) <;> (first | assumption | trivial | grind | grind [hiR])
  · unfold f_X3_trackOf_15
    try dsimp only
    refine ok_some ?_
    (try dsimp only) <;> (first | assumption | trivial | grind | grind [hiR])
theorem ok_X3_needRoom {σ : CS} (hσ : IK k σ) (x1 : Int32) (x2 : Int32) : Ok (f_X3_needRoom σ x1 x2) (XQ [2] (fun r => True)) := by
  unfold f_X3_needRoom
  refine ok_bind (ok_X3_trackOf (k := k) (by (first | assumption | trivial | grind | grind [hiR])) _) fun z1 hz1 => ?_
  refine ok_bind (ok_X0_size (IK.r (k := k) (by (first | assumption | trivial | grind | grind [hiR])) (by (first | assumption | trivial | grind | grind [hiR])))) fun z6 hz6 => ?_
  obtain ⟨hz6_0, hz6_1, hz6_2⟩ := hz6
  refine ok_if (fun hc => ?_) (fun hc => ?_)
  · refine ok_inr ?_
    (try dsimp only) <;> (first | assumption | trivial | grind | grind [hiR])
  · exact ok_inl (by decide)
theorem ok_X3_codeOf (x1 : Int32) (x2 : Int32) (p0 : 0 ≤ x1) (p1 : x1 ≤ 9) (p2 : 0 ≤ x2) (p3 : x2 ≤ 99) : Ok (f_X3_codeOf x1 x2) (fun r => 0 ≤ r ∧ r ≤ 999) := by
  unfold f_X3_codeOf
  refine ok_if (fun hc => ?_) (fun hc => ?_)
  · refine ok_some ?_
    refine ⟨?_, ?_⟩ <;> (try dsimp only) <;> (first | assumption | trivial | grind | grind [hiR])
  · refine ok_some ?_
    refine ⟨?_, ?_⟩ <;> (try dsimp only) <;> (first | assumption | trivial | grind | grind [hiR])
theorem ok_X3_slipOf (x1 : Int32) (x2 : Int32) (x3 : Int32) (x4 : Int32) (p0 : x1 = 0 ∨ x1 = 1) (p1 : x3 = 0 ∨ x3 = 1) (p2 : 0 ≤ x4) (p3 : x4 ≤ 999) : Ok (f_X3_slipOf x1 x2 x3 x4) (fun r => 0 ≤ r ∧ r ≤ 7999) := by
  unfold f_X3_slipOf
  refine ok_if (fun hc => ?_) (fun hc => ?_)
  · unfold f_X3_slipOf_15
    try dsimp only
    refine ok_if (fun hc => ?_) (fun hc => ?_)
    · unfold f_X3_slipOf_25
      try dsimp only
      refine ok_some ?_
      refine ⟨?_, ?_⟩ <;> (try dsimp only) <;> (first | assumption | trivial | grind | grind [hiR])
    · unfold f_X3_slipOf_25
      try dsimp only
      refine ok_some ?_
      refine ⟨?_, ?_⟩ <;> (try dsimp only) <;> (first | assumption | trivial | grind | grind [hiR])
  · unfold f_X3_slipOf_15
    try dsimp only
    refine ok_if (fun hc => ?_) (fun hc => ?_)
    · unfold f_X3_slipOf_25
      try dsimp only
      refine ok_some ?_
      refine ⟨?_, ?_⟩ <;> (try dsimp only) <;> (first | assumption | trivial | grind | grind [hiR])
    · unfold f_X3_slipOf_25
      try dsimp only
      refine ok_some ?_
      refine ⟨?_, ?_⟩ <;> (try dsimp only) <;> (first | assumption | trivial | grind | grind [hiR])
theorem ok_X3_laySlip {σ : CS} (hσ : IK k σ) (x1 : Int32) (p0 : 0 ≤ x1) (p1 : x1 ≤ 7999) : Ok (f_X3_laySlip σ x1) (fun r => IK k r) := by
  unfold f_X3_laySlip
  refine ok_bind (ok_X0_isFull (IK.r (k := k) (by (first | assumption | trivial | grind | grind [hiR])) (by (first | assumption | trivial | grind | grind [hiR])))) fun z7 hz7 => ?_
  refine ok_if (fun hc => ?_) (fun hc => ?_)
  · unfold f_X3_laySlip_19
    try dsimp only
    refine ok_bind (ok_X0_enterLast (IK.r (k := k) (by (first | assumption | trivial | grind | grind [hiR])) (by (first | assumption | trivial | grind | grind [hiR]))) _ (by (first | assumption | trivial | grind | grind [hiR]))) fun z1 hz1 => ?_
    refine ok_nm (IK k) (IK.row (by (first | assumption | trivial | grind | grind [hiR])) (by (first | assumption | trivial | grind | grind [hiR]))) fun t6 ht6 => ?_
    refine ok_some ?_
    (try dsimp only) <;> (first | assumption | trivial | grind | grind [hiR])
  · refine ok_bind (ok_X0_leave (IK.r (k := k) (by (first | assumption | trivial | grind | grind [hiR])) (by (first | assumption | trivial | grind | grind [hiR]))) _) fun z13 hz13 => ?_
    obtain ⟨hz13_0, hz13_1⟩ := hz13
    refine ok_nm (IK k) (IK.row (by (first | assumption | trivial | grind | grind [hiR])) (by (first | assumption | trivial | grind | grind [hiR]))) fun t18 ht18 => ?_
    unfold f_X3_laySlip_19
    try dsimp only
    refine ok_bind (ok_X0_enterLast (IK.r (k := k) (by (first | assumption | trivial | grind | grind [hiR])) (by (first | assumption | trivial | grind | grind [hiR]))) _ (by (first | assumption | trivial | grind | grind [hiR]))) fun z1 hz1 => ?_
    refine ok_nm (IK k) (IK.row (by (first | assumption | trivial | grind | grind [hiR])) (by (first | assumption | trivial | grind | grind [hiR]))) fun t6 ht6 => ?_
    refine ok_some ?_
    (try dsimp only) <;> (first | assumption | trivial | grind | grind [hiR])
theorem ok_X3_disturb {σ : CS} (hσ : IK k σ) (x1 : Int32) : Ok (f_X3_disturb σ x1) (fun r => IK k r) := by
  unfold f_X3_disturb
  refine ok_if (fun hc => ?_) (fun hc => ?_)
  · refine ok_bind (ok_X1_end _) fun z14 hz14 => ?_
    refine ok_nm (IK k) (IK.sc (by (first | assumption | trivial | grind | grind [hiR])) (by first | decide | omega)) fun t19 ht19 => ?_
    refine ok_some ?_
    (try dsimp only) <;> (first | assumption | trivial | grind | grind [hiR])
  · refine ok_bind (ok_X2_growStale _) fun z2 hz2 => ?_
    refine ok_nm (IK k) (IK.sc (by (first | assumption | trivial | grind | grind [hiR])) (by first | decide | omega)) fun t7 ht7 => ?_
    refine ok_bind (ok_X2_growStale _) fun z8 hz8 => ?_
    refine ok_nm (IK k) (IK.sc (by (first | assumption | trivial | grind | grind [hiR])) (by first | decide | omega)) fun t13 ht13 => ?_
    refine ok_some ?_
    (try dsimp only) <;> (first | assumption | trivial | grind | grind [hiR])
theorem ok_X3_stepOn {σ : CS} (hσ : IK k σ) (x1 : Int32) (x2 : Int32) (x3 : Int32) (p0 : x1 = 0 ∨ x1 = 1) (p1 : 0 ≤ x3) (p2 : x3 ≤ 999) : Ok (f_X3_stepOn σ x1 x2 x3) (fun r => IK k r) := by
  unfold f_X3_stepOn
  refine ok_bind (ok_X3_trackOf (k := k) (by (first | assumption | trivial | grind | grind [hiR])) _) fun z22 hz22 => ?_
  refine ok_if (fun hc => ?_) (fun hc => ?_)
  · unfold f_X3_stepOn_22
    try dsimp only
    refine ok_bind (ok_X0_enter (IK.r (k := k) (by (first | assumption | trivial | grind | grind [hiR])) (by (first | assumption | trivial | grind | grind [hiR]))) _ _ (by (first | assumption | trivial | grind | grind [hiR]))) fun z1 hz1 => ?_
    refine ok_nm (IK k) (IK.row (by (first | assumption | trivial | grind | grind [hiR])) (by (first | assumption | trivial | grind | grind [hiR]))) fun t6 ht6 => ?_
    refine ok_bind (ok_X3_slipOf _ _ _ _ (by (first | assumption | trivial | grind | grind [hiR])) (by (first | assumption | trivial | grind | grind [hiR])) (by (first | assumption | trivial | grind | grind [hiR])) (by (first | assumption | trivial | grind | grind [hiR]))) fun z7 hz7 => ?_
    obtain ⟨hz7_0, hz7_1⟩ := hz7
    refine ok_bind (ok_X3_laySlip (k := k) (by (first | assumption | trivial | grind | grind [hiR])) _ (by (first | assumption | trivial | grind | grind [hiR])) (by (first | assumption | trivial | grind | grind [hiR]))) fun z12 hz12 => ?_
    refine ok_bind (ok_X3_disturb (k := k) (by (first | assumption | trivial | grind | grind [hiR])) _) fun z17 hz17 => ?_
    refine ok_some ?_
    (try dsimp only) <;> (first | assumption | trivial | grind | grind [hiR])
  · refine ok_bind (ok_X0_size (IK.r (k := k) (by (first | assumption | trivial | grind | grind [hiR])) (by (first | assumption | trivial | grind | grind [hiR])))) fun z28 hz28 => ?_
    obtain ⟨hz28_0, hz28_1, hz28_2⟩ := hz28
    unfold f_X3_stepOn_22
    try dsimp only
    refine ok_bind (ok_X0_enter (IK.r (k := k) (by (first | assumption | trivial | grind | grind [hiR])) (by (first | assumption | trivial | grind | grind [hiR]))) _ _ (by (first | assumption | trivial | grind | grind [hiR]))) fun z1 hz1 => ?_
    refine ok_nm (IK k) (IK.row (by (first | assumption | trivial | grind | grind [hiR])) (by (first | assumption | trivial | grind | grind [hiR]))) fun t6 ht6 => ?_
    refine ok_bind (ok_X3_slipOf _ _ _ _ (by (first | assumption | trivial | grind | grind [hiR])) (by (first | assumption | trivial | grind | grind [hiR])) (by (first | assumption | trivial | grind | grind [hiR])) (by (first | assumption | trivial | grind | grind [hiR]))) fun z7 hz7 => ?_
    obtain ⟨hz7_0, hz7_1⟩ := hz7
    refine ok_bind (ok_X3_laySlip (k := k) (by (first | assumption | trivial | grind | grind [hiR])) _ (by (first | assumption | trivial | grind | grind [hiR])) (by (first | assumption | trivial | grind | grind [hiR]))) fun z12 hz12 => ?_
    refine ok_bind (ok_X3_disturb (k := k) (by (first | assumption | trivial | grind | grind [hiR])) _) fun z17 hz17 => ?_
    refine ok_some ?_
    (try dsimp only) <;> (first | assumption | trivial | grind | grind [hiR])
theorem ok_X3_bringPiece {σ : CS} (hσ : IK k σ) (x1 : Int32) (x2 : Int32) (x3 : Int32) (x4 : Int32) : Ok (f_X3_bringPiece σ x1 x2 x3 x4) (XQ [0, 1, 2] (fun r => (r.1 = 0 ∨ r.1 = 1) ∧ IK k r.2)) := by
  unfold f_X3_bringPiece
  refine ok_obx (ok_X3_needTrack _) (by decide) fun z11 hz11 => ?_
  refine ok_obx (ok_X3_needPiece _ _) (by decide) fun z16 hz16 => ?_
  obtain ⟨hz16_0, hz16_1, hz16_2, hz16_3⟩ := hz16
  refine ok_obx (ok_X3_needRoom (k := k) (by (first | assumption | trivial | grind | grind [hiR])) _ _) (by decide) fun z21 hz21 => ?_
  refine ok_if (fun hc => ?_) (fun hc => ?_)
  · refine ok_if (fun hc => ?_) (fun hc => ?_)
    · refine ok_inr ?_
      refine ⟨?_, ?_⟩ <;> (try dsimp only) <;> (first | assumption | trivial | grind | grind [hiR])
    · unfold f_X3_bringPiece_26
      try dsimp only
      refine ok_bind (ok_X3_codeOf _ _ (by (first | assumption | trivial | grind | grind [hiR])) (by (first | assumption | trivial | grind | grind [hiR])) (by (first | assumption | trivial | grind | grind [hiR])) (by (first | assumption | trivial | grind | grind [hiR]))) fun z1 hz1 => ?_
      obtain ⟨hz1_0, hz1_1⟩ := hz1
      refine ok_bind (ok_X3_stepOn (k := k) (by (first | assumption | trivial | grind | grind [hiR])) _ _ _ (by (first | assumption | trivial | grind | grind [hiR])) (by (first | assumption | trivial | grind | grind [hiR])) (by (first | assumption | trivial | grind | grind [hiR]))) fun z6 hz6 => ?_
      refine ok_inr ?_
      refine ⟨?_, ?_⟩ <;> (try dsimp only) <;> (first | assumption | trivial | grind | grind [hiR])
  · unfold f_X3_bringPiece_26
    try dsimp only
    refine ok_bind (ok_X3_codeOf _ _ (by (first | assumption | trivial | grind | grind [hiR])) (by (first | assumption | trivial | grind | grind [hiR])) (by (first | assumption | trivial | grind | grind [hiR])) (by (first | assumption | trivial | grind | grind [hiR]))) fun z1 hz1 => ?_
    obtain ⟨hz1_0, hz1_1⟩ := hz1
    refine ok_bind (ok_X3_stepOn (k := k) (by (first | assumption | trivial | grind | grind [hiR])) _ _ _ (by (first | assumption | trivial | grind | grind [hiR])) (by (first | assumption | trivial | grind | grind [hiR])) (by (first | assumption | trivial | grind | grind [hiR]))) fun z6 hz6 => ?_
    refine ok_inr ?_
    refine ⟨?_, ?_⟩ <;> (try dsimp only) <;> (first | assumption | trivial | grind | grind [hiR])
theorem ok_X3_join {σ : CS} (hσ : IK k σ) (x1 : Int32) (x2 : Int32) (x3 : Int32) (x4 : Int32) : Ok (f_X3_join σ x1 x2 x3 x4) (XQ [0, 1, 2] (fun r => IK k r.2)) := by
  unfold f_X3_join
  refine ok_obx (ok_X3_bringPiece (k := k) (by (first | assumption | trivial | grind | grind [hiR])) _ _ _ _) (by decide) fun z1 hz1 => ?_
  obtain ⟨hz1_0, hz1_1⟩ := hz1
  refine ok_if (fun hc => ?_) (fun hc => ?_)
  · refine ok_inr ?_
    (try dsimp only) <;> (first | assumption | trivial | grind | grind [hiR])
  · refine ok_bind (ok_X3_trackOf (k := k) (by (first | assumption | trivial | grind | grind [hiR])) _) fun z7 hz7 => ?_
    refine ok_bind (ok_X0_size (IK.r (k := k) (by (first | assumption | trivial | grind | grind [hiR])) (by (first | assumption | trivial | grind | grind [hiR])))) fun z12 hz12 => ?_
    obtain ⟨hz12_0, hz12_1, hz12_2⟩ := hz12
    refine ok_inr ?_
    (try dsimp only) <;> (first | assumption | trivial | grind | grind [hiR])
theorem ok_X3_offer {σ : CS} (hσ : IK k σ) (x1 : Int32) (x2 : Int32) (x3 : Int32) (x4 : Int32) : Ok (f_X3_offer σ x1 x2 x3 x4) (XQ [0, 1, 2] (fun r => IK k r.2)) := by
  unfold f_X3_offer
  refine ok_obx (ok_X3_bringPiece (k := k) (by (first | assumption | trivial | grind | grind [hiR])) _ _ _ _) (by decide) fun z1 hz1 => ?_
  obtain ⟨hz1_0, hz1_1⟩ := hz1
  refine ok_yes (by (first | assumption | trivial | grind | grind [hiR])) ?_
  refine ok_inr ?_
  (try dsimp only) <;> (first | assumption | trivial | grind | grind [hiR])
theorem ok_X3_codeAtEnd {σ : CS} (hσ : IK k σ) (x1 : Int32) (x2 : Int32) : Ok (f_X3_codeAtEnd σ x1 x2) (fun r => 0 ≤ r ∧ r ≤ 999) := by
  unfold f_X3_codeAtEnd
  refine ok_bind (ok_X3_trackOf (k := k) (by (first | assumption | trivial | grind | grind [hiR])) _) fun z1 hz1 => ?_
  refine ok_bind (ok_X0_endPlace (IK.r (k := k) (by (first | assumption | trivial | grind | grind [hiR])) (by (first | assumption | trivial | grind | grind [hiR]))) _) fun z6 hz6 => ?_
  refine ok_bind (ok_X0_read (IK.r (k := k) (by (first | assumption | trivial | grind | grind [hiR])) (by (first | assumption | trivial | grind | grind [hiR]))) _) fun z11 hz11 => ?_
  obtain ⟨hz11_0, hz11_1⟩ := hz11
  refine ok_some ?_
  refine ⟨?_, ?_⟩ <;> (try dsimp only) <;> (first | assumption | trivial | grind | grind [hiR])
theorem ok_X3_push {σ : CS} (hσ : IK k σ) (x1 : Int32) (x2 : Int32) (x3 : Int32) : Ok (f_X3_push σ x1 x2 x3) (XQ [0, 1, 2] (fun r => IK k r.2)) := by
  unfold f_X3_push
  refine ok_obx (ok_X3_needTrack _) (by decide) fun z1 hz1 => ?_
  refine ok_bind (ok_X3_codeAtEnd (k := k) (by (first | assumption | trivial | grind | grind [hiR])) _ _) fun z6 hz6 => ?_
  obtain ⟨hz6_0, hz6_1⟩ := hz6
  refine ok_obx (ok_X3_bringPiece (k := k) (by (first | assumption | trivial | grind | grind [hiR])) _ _ _ _) (by decide) fun z11 hz11 => ?_
  obtain ⟨hz11_0, hz11_1⟩ := hz11
  refine ok_if (fun hc => ?_) (fun hc => ?_)
  · refine ok_inr ?_
    (try dsimp only) <;> (first | assumption | trivial | grind | grind [hiR])
  · refine ok_inr ?_
    (try dsimp only) <;> (first | assumption | trivial | grind | grind [hiR])
theorem ok_X3_append {σ : CS} (hσ : IK k σ) (x1 : Int32) (x2 : Int32) (x3 : Int32) : Ok (f_X3_append σ x1 x2 x3) (XQ [0, 1, 2] (fun r => IK k r.2)) := by
  unfold f_X3_append
  refine ok_obx (ok_X3_bringPiece (k := k) (by (first | assumption | trivial | grind | grind [hiR])) _ _ _ _) (by decide) fun z1 hz1 => ?_
  obtain ⟨hz1_0, hz1_1⟩ := hz1
  refine ok_if (fun hc => ?_) (fun hc => ?_)
  · refine ok_inr ?_
    (try dsimp only) <;> (first | assumption | trivial | grind | grind [hiR])
  · refine ok_bind (ok_X3_trackOf (k := k) (by (first | assumption | trivial | grind | grind [hiR])) _) fun z7 hz7 => ?_
    refine ok_bind (ok_X0_size (IK.r (k := k) (by (first | assumption | trivial | grind | grind [hiR])) (by (first | assumption | trivial | grind | grind [hiR])))) fun z12 hz12 => ?_
    obtain ⟨hz12_0, hz12_1, hz12_2⟩ := hz12
    refine ok_inr ?_
    (try dsimp only) <;> (first | assumption | trivial | grind | grind [hiR])
end OKC
