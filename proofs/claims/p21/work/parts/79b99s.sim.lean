/-! level 3: what isSound and digest leave of the yard -/
section L3Z
variable {σ w : CS} {τ : MS}
def SR (σ w : CS) : Prop := (∀ i, i < 4 → w.1 i = σ.1 i) ∧ w.2 = σ.2
theorem SR.rf : SR σ σ := ⟨fun _ _ => rfl, rfl⟩
theorem SR.row (h : SR σ w) {i : Nat} {ρ : RS} (hi : 4 ≤ i) : SR σ (va_up w.1 i ρ, w.2) := by
  refine ⟨fun j hj => ?_, h.2⟩
  show va_up w.1 i ρ j = _
  rw [up_ne (by omega)]
  exact h.1 j hj
theorem SR.rx (h : SR σ w) (hx : RX σ τ) : RX w τ := hx.same h.1 h.2
theorem sr_copy (h : SR σ w) {x1 x2 : Nat} (hx : 4 ≤ x1) : Al (f_X0_copyFrom w x1 x2) (SR σ) := by
  unfold f_X0_copyFrom
  refine al_bind al_any fun z _ => al_nme fun t ht => al_lpn (fun t => SR σ t.1 ∧ 4 ≤ t.2.1) (fun kk a ha hk => ?_) 64 _ ⟨by rw [ht]; exact h.row hx, hx⟩
  unfold f_X0_copyFrom_6
  refine al_bind al_any fun z _ => al_if (fun _ => al_some ha.1) fun _ => al_bind al_any fun z2 _ => al_bind al_any fun z3 _ => al_nme fun t2 h2 => al_nme fun y _ => hk _ ⟨by rw [h2]; exact ha.1.row ha.2, ha.2⟩
theorem sr_undone (h : SR σ w) {x1 : Nat} (hx : 4 ≤ x1) (x2 : Int32) : Al (f_X3_isUndoneOn w x1 x2) fun r => SR σ r.2 := by
  have m63 : ∀ a b, Al (f_X3_isUndoneOn_63 w a x1 b) fun r => SR σ r.2 := by
    intro a b
    unfold f_X3_isUndoneOn_63
    exact al_bind al_any fun z _ => al_bind al_any fun z2 _ => al_nme fun t ht => al_some (by rw [ht]; exact h.row hx)
  unfold f_X3_isUndoneOn
  refine al_bind al_any fun z _ => al_bind al_any fun z _ => al_if (fun _ => al_bind al_any fun z _ => al_if (fun _ => al_if (fun _ => m63 _ _) fun _ => al_bind al_any fun z _ => m63 _ _) fun _ => al_some h) fun _ => al_bind al_any fun z _ => al_if (fun _ => al_bind al_any fun z _ => al_bind al_any fun z _ => al_nme fun t ht => al_bind al_any fun z _ => al_if (fun _ => al_some ?_) fun _ => al_some ?_) fun _ => al_some h
  · show SR σ t
    rw [ht]; exact h.row hx
  · show SR σ t
    rw [ht]; exact h.row hx
theorem sr_paper (h : SR σ w) : Al (f_X3_isUndoneOnPaper w) fun r => SR σ r.2 := by
  unfold f_X3_isUndoneOnPaper
  refine al_bind (sr_copy h (by omega)) fun z hz => al_bind (sr_copy hz (by omega)) fun z2 hz2 => al_bind al_any fun z3 _ => al_nme fun y _ => al_lpn (fun t => SR σ t.1) (fun kk a ha hk => ?_) 64 _ hz2
  have m63 : ∀ u v n, 4 ≤ n → Al (f_X3_isUndoneOnPaper_63 kk a.1 u v n) fun r => SR σ r.2 := by
    intro u v n hn
    unfold f_X3_isUndoneOnPaper_63
    exact al_bind (sr_undone ha hn _) fun z hz => al_if (fun _ => al_some hz) fun _ => al_nme fun y _ => hk _ hz
  unfold f_X3_isUndoneOnPaper_32
  exact al_if (fun _ => al_some ha) fun _ => al_bind al_any fun z _ => al_bind al_any fun z2 _ => al_if (fun _ => m63 _ _ _ (by omega)) fun _ => m63 _ _ _ (by omega)
theorem sr_sound (h : SR σ w) : Al (f_X3_isSound w) fun r => SR σ r.2 := by
  unfold f_X3_isSound
  exact al_bind al_any fun _ _ => al_if (fun _ => al_some h) fun _ => al_bind al_any fun _ _ => al_if (fun _ => al_some h) fun _ => al_bind al_any fun _ _ => al_if (fun _ => al_bind al_any fun _ _ => al_if (fun _ => al_some h) fun _ => al_bind al_any fun _ _ => al_if (fun _ => al_some h) fun _ => al_bind al_any fun _ _ => al_if (fun _ => al_some h) fun _ => al_bind al_any fun _ _ => al_if (fun _ => al_some h) fun _ => al_bind al_any fun _ _ => al_if (fun _ => al_some h) fun _ => al_bind (sr_paper h) fun z hz => al_if (fun _ => al_some hz) fun _ => al_some hz) fun _ => al_some h
theorem sr_closed (h : SR σ w) (x : Int32) : Al (f_X3_closedBy w x) fun r => SR σ r.2 := by
  unfold f_X3_closedBy
  refine al_bind al_any fun z _ => al_bind al_any fun z2 _ => al_nme fun t ht => al_if (fun _ => al_some ?_) fun _ => al_some ?_
  · show SR σ t
    rw [ht]; exact h.row (by omega)
  · show SR σ t
    rw [ht]; exact h.row (by omega)
theorem sr_most (h : SR σ w) (x : Int32) : Al (f_X3_mostOpen w x) fun r => SR σ r.2 := by
  unfold f_X3_mostOpen
  refine al_bind al_any fun z _ => al_bind al_any fun z2 _ => al_nme fun t ht => al_lpn (fun t => SR σ t.1) (fun kk a ha hk => ?_) 64 _ (by rw [ht]; exact h.row (by omega))
  have m100 : ∀ s u v x, SR σ s → Al (f_X3_mostOpen_100 kk s u v x) fun r => SR σ r.2 := by
    intro s u v x hs
    unfold f_X3_mostOpen_100
    exact al_nme fun y _ => hk _ hs
  have m77 : ∀ u v x y, Al (f_X3_mostOpen_77 kk a.1 u v x y) fun r => SR σ r.2 := by
    intro u v x y
    unfold f_X3_mostOpen_77
    exact al_if (fun _ => al_if (fun _ => m100 _ _ _ _ ha) fun _ => al_bind (sr_closed ha _) fun z hz => al_if (fun _ => al_some hz) fun _ => m100 _ _ _ _ hz) fun _ => m100 _ _ _ _ ha
  unfold f_X3_mostOpen_18
  refine al_bind al_any fun z _ => al_if (fun _ => al_bind al_any fun z _ => al_if (fun _ => al_some ha) fun _ => al_some ha) fun _ => al_bind al_any fun z _ => al_bind al_any fun z _ => al_if (fun _ => al_if (fun _ => m77 _ _ _ _) fun _ => al_bind al_any fun z _ => al_nme fun t2 h2 => al_bind al_any fun z _ => al_nme fun y _ => m100 _ _ _ _ ?_) fun _ => m77 _ _ _ _
  rw [h2]; exact ha.row (by omega)
theorem sr_track (h : SR σ w) (d : Int64) (x : Int32) : Al (f_X3_withTrack w d x) fun r => SR σ r.2 := by
  unfold f_X3_withTrack
  refine al_lpn (fun _ => True) (fun k1 a _ hk1 => ?_) 64 _ trivial
  unfold f_X3_withTrack_6
  refine al_if (fun _ => ?_) fun _ => al_bind al_any fun z _ => al_bind al_any fun z _ => al_nme fun y _ => hk1 _ trivial
  refine al_lpn (fun _ => True) (fun k2 a _ hk2 => ?_) 64 _ trivial
  unfold f_X3_withTrack_35
  refine al_if (fun _ => al_bind al_any fun z _ => ?_) fun _ => al_bind al_any fun z _ => al_bind al_any fun z _ => al_nme fun y _ => hk2 _ trivial
  refine al_lpn (fun _ => True) (fun k3 a _ hk3 => ?_) 64 _ trivial
  unfold f_X3_withTrack_71
  exact al_bind al_any fun z _ => al_if (fun _ => al_bind al_any fun z _ => al_bind al_any fun z _ => al_bind (sr_most h _) fun z hz => al_bind al_any fun z _ => al_some hz) fun _ => al_bind al_any fun z _ => al_bind al_any fun z _ => al_nme fun y _ => hk3 _ trivial
theorem sr_digest : Al (f_X3_digest σ) fun r => SR σ r.2 := by
  unfold f_X3_digest
  refine al_bind (sr_track SR.rf _ _) fun z hz => al_bind (sr_track hz _ _) fun z2 hz2 => al_lpn (fun t => SR σ t.1) (fun k1 a ha hk1 => ?_) 64 _ hz2
  unfold f_X3_digest_20
  refine al_if (fun _ => al_bind al_any fun z _ => al_bind al_any fun z _ => ?_) fun _ => al_bind al_any fun z _ => al_bind al_any fun z _ => al_bind al_any fun z _ => al_bind al_any fun z _ => al_nme fun y _ => hk1 _ ha
  refine al_lpn (fun t => SR σ t.1) (fun k2 a ha hk2 => ?_) 64 _ ha
  unfold f_X3_digest_76
  refine al_if (fun _ => al_bind al_any fun z _ => al_nme fun y _ => ?_) fun _ => al_bind al_any fun z _ => al_bind al_any fun z _ => al_nme fun y _ => hk2 _ ha
  refine al_lpn (fun t => SR σ t.1) (fun k3 a ha hk3 => ?_) 64 _ ha
  unfold f_X3_digest_108
  refine al_if (fun _ => ?_) fun _ => al_bind al_any fun z _ => al_bind al_any fun z _ => al_nme fun y _ => hk3 _ ha
  refine al_lpn (fun t => SR σ t.1) (fun k4 a ha hk4 => ?_) 64 _ ha
  unfold f_X3_digest_133
  exact al_bind al_any fun z _ => al_if (fun _ => al_bind al_any fun z _ => al_bind al_any fun z _ => al_bind al_any fun z _ => al_bind al_any fun z _ => al_bind al_any fun z _ => al_bind al_any fun z _ => al_bind (sr_sound ha) fun z hz => al_bind al_any fun z _ => al_bind al_any fun z _ => al_some hz) fun _ => al_bind al_any fun z _ => al_bind al_any fun z _ => al_nme fun y _ => hk4 _ ha
end L3Z
