/-! level 3: undo, drop; the walk; the line by its places -/
section L3E
variable {σ : CS} {τ : MS}
theorem cl_tearFor {x : Int32} {j : Nat} (hx : x = 0 ∧ j = 0 ∨ x = 1 ∧ j = 1) : Ok (f_X3_tearFor σ x) (DS j (va_up σ.1 2 ((σ.1 2).1, 0), σ.2)) := by
  unfold f_X3_tearFor
  refine ok_ev (v := ((σ.1 2).1, 0)) rfl (ok_nme fun t ht => ?_)
  subst ht
  exact ok_bind (cl_dist hx) fun z hz => ok_some hz
theorem mo_tear : f_X6_tear τ = some (va_up τ.1 2 [], τ.2) := rfl
/-- what is left when a track was changed and all slips torn -/
def TE (τ : MS) (j : Nat) (xs : List Int32) (r : CS) (t : MS) : Prop := RX r t ∧ t.2 0 = τ.2 0 ∧ t.1 j = xs ∧ ∀ q, q ≠ j → q ≠ 2 → t.1 q = τ.1 q
theorem tear_rx {r : CS} {t1 : MS} {j : Nat} {ρ : RS} {xs : List Int32} (h : RX σ τ) (hj : j < 2) (hr : RW j ρ xs) (hv : VC (va_up τ.1 j xs, τ.2)) (h3 : DS j (va_up (va_up σ.1 j ρ) 2 ((va_up σ.1 j ρ 2).1, 0), σ.2) r) (ht : DM j (va_up τ.1 j xs, τ.2) t1) : TE τ j xs r (va_up t1.1 2 [], t1.2) := by
  have y1 : RY (va_up σ.1 j ρ, σ.2) (va_up τ.1 j xs, τ.2) := h.1.up (by omega) hr hv
  have y2 : RY (va_up (va_up σ.1 j ρ) 2 ((va_up σ.1 j ρ 2).1, 0), σ.2) (va_up (va_up τ.1 j xs) 2 [], τ.2) := y1.up (by omega) rw_empty (hv.slips fun w hw => by cases hw)
  have hd : DM j (va_up (va_up τ.1 j xs) 2 [], τ.2) (va_up t1.1 2 [], t1.2) := ⟨by show va_up t1.1 2 [] = _; rw [ht.1], ht.2.1, ht.2.2⟩
  have hw : WR (va_up (va_up σ.1 j ρ) 2 ((va_up σ.1 j ρ 2).1, 0), σ.2) (va_up (va_up τ.1 j xs) 2 [], τ.2) := h.2
  refine ⟨y2.dist hj (fun _ => hw) h3 hd, ?_, ?_, fun q h1 h2 => ?_⟩
  · show t1.2 0 = _
    rcases (by omega : j = 0 ∨ j = 1) with e | e <;> subst e
    · exact ((ht.2.1 rfl).2.2.2) 0 (by omega) (by omega) (by omega)
    · exact ((ht.2.2 rfl).2.2) 0 (by omega) (by omega)
  · show va_up t1.1 2 [] j = xs
    rw [up_ne (by omega), ht.1]
    exact up_eq
  · show va_up t1.1 2 [] q = _
    rw [up_ne h2, ht.1]
    exact up_ne h1
/-! undo -/
theorem s_track {s : Int32} (h : 0 ≤ s ∧ s ≤ 7999) : ∃ j, j < 2 ∧ (s / 4000 = 0 ∧ j = 0 ∨ s / 4000 = 1 ∧ j = 1) := by
  have q := dv4000 h.1 h.2
  obtain ⟨a, ha, e⟩ := nIof (b := 1) (by omega) q.1 q.2
  rcases (by omega : a = 0 ∨ a = 1) with e2 | e2 <;> subst e2
  · exact ⟨0, by omega, Or.inl ⟨e, rfl⟩⟩
  · exact ⟨1, by omega, Or.inr ⟨e, rfl⟩⟩
theorem undo_end {r1 r : CS} {t1 : MS} {j : Nat} {ρ : RS} {xs : List Int32} (h : RX σ τ) (hj : j < 2) (e1 : r1 = (va_up σ.1 j ρ, σ.2)) (hr : RW j ρ xs) (hv : VC (va_up τ.1 j xs, τ.2)) (h3 : DS j r1 r) (ht : DM j (va_up τ.1 j xs, τ.2) t1) : RX r t1 ∧ t1.2 0 = τ.2 0 := by
  subst e1
  have y1 : RY (va_up σ.1 j ρ, σ.2) (va_up τ.1 j xs, τ.2) := h.1.up (by omega) hr hv
  refine ⟨y1.dist hj (fun _ => h.2) h3 ht, ?_⟩
  rcases (by omega : j = 0 ∨ j = 1) with e | e <;> subst e
  · exact ((ht.2.1 rfl).2.2.2) 0 (by omega) (by omega) (by omega)
  · exact ((ht.2.2 rfl).2.2) 0 (by omega) (by omega)
def UQ (r : Int32 × CS) (r2 : Int32 × MS) : Prop := r.1 = r2.1 ∧ RX r.2 r2.2
theorem ag_undo (h : RX σ τ) (hu : UT τ) : Ri (f_X3_undo σ) (f_X6_undo τ) UQ := by
  have hr := h.row (i := 2) (by omega)
  have hl := hr.len
  unfold f_X3_undo f_X6_undo
  refine ri_nR fun s hs => ?_
  have hs : s = thr τ 0 := hs
  subst hs
  refine ri_nR fun y hy => ri_eL (rw_isEmpty hr) ?_
  have hy : y = if (τ.1 2).length = 0 then 1 else 0 := hy
  by_cases c : (τ.1 2).length = 0
  · rw [if_pos c]
    rw [if_pos c] at hy
    subst hy
    exact ri_fL ne10 (ri_fR ne10 (ri_some ⟨rfl, h.thr 0⟩))
  · rw [if_neg c]
    rw [if_neg c] at hy
    subst hy
    have hpos : 0 < (τ.1 2).length := by omega
    have hne : τ.1 2 ≠ [] := fun e => c (by rw [e]; rfl)
    have e1 : nI (τ.1 2).length - 1 = nI ((τ.1 2).length - 1) := nI_prd hpos (by omega)
    have e1 : nI ((thr τ 0).1 2).length - 1 = nI ((τ.1 2).length - 1) := e1
    refine ri_tL rfl (ri_eL (rw_endPlace hr 1) ?_)
    rw [if_neg ne10, nI_prd hpos (by omega)]
    refine ri_okL (rw_leave hr (by omega)) fun z hz => ri_nL fun t3 ht3 => ri_tR rfl ?_
    rw [e1]
    have lthr : ((thr τ 0).1 2).length = (τ.1 2).length := rfl
    refine ri_eR (ldelN (by omega) (by omega)) (ri_nR fun t4 ht4 => ri_nR fun n hn => ri_nR fun x hx => ?_)
    have hn : n = (τ.1 2).getD ((τ.1 2).length - 1) 0 := by
      rw [hn, nI_c (by omega)]; rfl
    have ez : z.1 = n := hz.1.trans hn.symm
    have hmem : n ∈ τ.1 2 := by rw [hn]; exact mem_getD (by omega)
    have hsv := h.1.2.2.2.2.2.1 n hmem
    have hud : UD (n :: (delAt (τ.1 2) ((τ.1 2).length - 1)).reverse) (τ.1 0).length (τ.1 1).length := by
      have := hu
      unfold UT at this
      rw [delAt_last hne, ← hn] at this
      exact this
    -- the states behind the slip
    have h4 : RX t3 t4 := by
      have q := (h.thr 0).up (i := 2) (by omega) hz.2 (((h.thr 0).1.2.2.2).slips fun w hw => h.1.2.2.2.2.2.1 w (mem_del hw))
      rw [ht3, ht4]
      exact q
    have l0 : t4.1 0 = τ.1 0 := by rw [ht4]; exact l_ne (by omega)
    have l1 : t4.1 1 = τ.1 1 := by rw [ht4]; exact l_ne (by omega)
    obtain ⟨j, hj, hx4⟩ := s_track hsv.1
    rw [← hx] at hx4
    have lj : t4.1 j = τ.1 j := by
      rcases (by omega : j = 0 ∨ j = 1) with e | e <;> subst e
      · exact l0
      · exact l1
    clear ht3 ht4 hn hz hmem
    rw [ez]
    have hrj := h4.row (i := j) (by omega)
    have hlj := len20 h4.1 hj
    have hput : jrem (n / 1000) 2 = 1 → 1 ≤ (τ.1 j).length := by
      intro hp
      rcases hx4 with ⟨a, b⟩ | ⟨a, b⟩ <;> subst b
      · exact ((hud.1 (by rw [← hx]; exact a)).1 hp).1
      · exact ((hud.2 (by rw [← hx, a]; decide)).1 hp).1
    have htak : ¬ jrem (n / 1000) 2 = 1 → (τ.1 j).length + 1 ≤ 20 := by
      intro hp
      rcases hx4 with ⟨a, b⟩ | ⟨a, b⟩ <;> subst b
      · exact ((hud.1 (by rw [← hx]; exact a)).2 hp).1
      · exact ((hud.2 (by rw [← hx, a]; decide)).2 hp).1
    have htv : TV j (jrem n 1000) := ⟨hsv.2.1, fun e => by
      rcases hx4 with ⟨a, b⟩ | ⟨a, b⟩
      · exact hsv.2.2 (by rw [← hx]; exact a)
      · omega⟩
    have eb : ∀ (a b : Option (Int32 × CS)), (f_X3_slipIsBack n).bind (fun z50 : Int32 => if z50 = 0 then a else b) = if jrem (n / 2000) 2 = 1 then b else a := by
      intro a b
      unfold f_X3_slipIsBack
      by_cases q : jrem (n / 2000) 2 = 1
      · rw [if_pos q, if_pos q, bsm, if_neg ne10]
      · rw [if_neg q, if_neg q, bsm, if_pos rfl]
    have key : ∀ v0 : Int32, (v0 = if jrem (n / 2000) 2 = 1 then 1 else 0) → Ri ((f_X3_trackOf t3 x).bind fun z39 => (f_X3_slipIsPut n).bind fun z44 => (if z44 = 0 then (f_X3_slipIsBack n).bind fun z50 => (if z50 = 0 then f_X3_undo_79 t3 n x z39 0 else (f_X0_size (cap z39) (t3.1 z39)).bind fun z56 => f_X3_undo_79 t3 n x z39 z56) else (f_X3_slipIsBack n).bind fun z61 => (f_X0_endPlace (cap z39) (t3.1 z39) z61).bind fun z66 => (f_X0_leave (cap z39) (t3.1 z39) z66).bind fun z71 => nm ((va_up t3.1 z39 z71.2, t3.2) : CS) fun t76 => f_X3_undo_86 t76 n x)) (f_X6_undo_63 t4 n x v0) UQ := by
      intro v0 hv0
      unfold f_X6_undo_63
      refine ri_eL (trackOf_ok hx4) (ri_iR (fun hp => ?_) fun hp => ?_)
      · have hp1 := hput hp
        refine ri_eL (v := 1) (by unfold f_X3_slipIsPut; rw [if_pos hp]) (ri_fL ne10 (ri_eL (v := v0) (by unfold f_X3_slipIsBack; rw [hv0]; split <;> rfl) ?_))
        have fin : ∀ i, i < (t4.1 j).length → Ri ((f_X0_leave (cap j) (t3.1 j) (nI i)).bind fun z71 => nm ((va_up t3.1 j z71.2, t3.2) : CS) fun t76 => f_X3_undo_86 t76 n x) (f_X6_undo_92 t4 n x (nI i)) UQ := by
          intro i hi
          unfold f_X6_undo_92 f_X6_undo_122 f_X3_undo_86
          refine ri_okR (mo_go hx4 (gtr_x hx4) hi (by omega)) fun t1 ht1 => ri_okL (rw_leave hrj hi) fun w hw => ri_nL fun r1 e1 => ri_okL (cl_dist hx4) fun r hr3 => ri_some ⟨rfl, ?_⟩
          exact (undo_end h4 hj e1 hw.2 (h4.1.2.2.2.del hj) hr3 ht1.2).1
        by_cases d : v0 = 0
        · refine ri_tR d (ri_eL (rw_endPlace hrj v0) ?_)
          rw [if_pos d, if_neg (by rw [lj]; omega)]
          exact fin 0 (by rw [lj]; omega)
        · refine ri_fR d (ri_eR (sizeN (gtr_x hx4)) (ri_eL (rw_endPlace hrj v0) ?_))
          rw [if_neg d, nI_prd (by rw [lj]; omega) (by omega)]
          exact fin _ (by rw [lj]; omega)
      · have hp1 := htak hp
        refine ri_eL (v := 0) (by unfold f_X3_slipIsPut; rw [if_neg hp]) (ri_tL rfl ?_)
        have fin : ∀ i, i ≤ (t4.1 j).length → Ri (f_X3_undo_79 t3 n x j (nI i)) (f_X6_undo_114 t4 n x (nI i)) UQ := by
          intro i hi
          unfold f_X6_undo_114 f_X6_undo_122 f_X3_undo_79 f_X3_undo_86
          refine ri_okR (mo_come hx4 (gtr_x hx4) hi (by omega)) fun t1 ht1 => ri_eL (v := jrem n 1000) rfl (ri_okL (rw_enter hrj hi (by rw [cap01 hj, lj]; omega)) fun w hw => ri_nL fun r1 e1 => ri_okL (cl_dist hx4) fun r hr3 => ri_some ⟨rfl, ?_⟩)
          exact (undo_end h4 hj e1 hw (h4.1.2.2.2.ins hj htv) hr3 ht1).1
        rw [eb]
        by_cases d : jrem (n / 2000) 2 = 1
        · rw [if_pos d] at hv0 ⊢
          subst hv0
          exact ri_fR ne10 (ri_eR (sizeN (gtr_x hx4)) (ri_eL (rw_size hrj) (fin _ (Nat.le_refl _))))
        · rw [if_neg d] at hv0 ⊢
          subst hv0
          exact ri_tR rfl (fin 0 (Nat.zero_le _))
    refine ri_eL (v := x) (by unfold f_X3_slipTrack; rw [hx]) (ri_iR (fun d => key 1 (by rw [if_pos d])) fun d => key 0 (by rw [if_neg d]))
/-! kinds -/
def KO (x k : Int32) : Prop := (0 ≤ k ∧ k ≤ 9) ∧ ¬ (k = 0 ∧ x = 0)
theorem cl_kind {x k : Int32} (h : KO x k) : f_X3_needKindOf x k = some (.inr ()) := by
  unfold f_X3_needKindOf f_X3_needKindOf_10
  by_cases c : x = 0
  · rw [if_pos c, cl_within ⟨?_, h.1.2⟩]
    · rfl
    · have h1 : ¬ k = 0 := fun e => h.2 ⟨e, c⟩
      have h2 := h.1.1
      clear h
      grind
  · rw [if_neg c, cl_within h.1]; rfl
theorem cl_nokind {x k : Int32} (h : ¬ KO x k) : f_X3_needKindOf x k = some (.inl 1) := by
  unfold f_X3_needKindOf f_X3_needKindOf_10
  by_cases c : x = 0
  · rw [if_pos c, cl_without]
    · rfl
    · rintro ⟨h1, h2⟩
      refine h ⟨⟨Int32.le_trans (by decide) h1, h2⟩, fun q => ?_⟩
      rw [q.1] at h1
      exact absurd h1 (by decide)
  · rw [if_neg c, cl_without]
    · rfl
    · exact fun q => h ⟨q, fun q2 => c q2.2⟩
theorem mo_kind {x k : Int32} (p : x = 0 ∨ x = 1) (h : KO x k) : f_X6_isNoKind τ x k = some (0, thr τ 0) := by
  unfold f_X6_isNoKind f_X6_isNoKind_31 f_X6_isNoKind_35 f_X6_isNoKind_36
  rw [mo_noTrack, bsm, if_pos p, mo_st0 rfl, bsm, if_pos rfl, mo_isIn, bsm, if_pos h.1, if_neg ne10]
  by_cases c : k = 0
  · rw [if_pos c, if_neg (fun q => h.2 ⟨c, q⟩), mo_ref0 thr0 rfl]; rfl
  · rw [if_neg c, mo_ref0 thr0 rfl]; rfl
theorem mo_nokind {x k : Int32} (p : x = 0 ∨ x = 1) (h : ¬ KO x k) : f_X6_isNoKind τ x k = some (1, thr τ 2) := by
  unfold f_X6_isNoKind f_X6_isNoKind_31 f_X6_isNoKind_35 f_X6_isNoKind_36 f_X6_isNoKind_43
  rw [mo_noTrack, bsm, if_pos p, mo_st0 rfl, bsm, if_pos rfl, mo_isIn, bsm]
  by_cases d : 0 ≤ k ∧ k ≤ 9
  · rw [if_pos d, if_neg ne10]
    have q : k = 0 ∧ x = 0 := by
      rcases Classical.em (k = 0 ∧ x = 0) with q | q
      · exact q
      · exact absurd ⟨d, q⟩ h
    rw [if_pos q.1, if_pos q.2, mo_ref1 thr0 ne10 (by decide), thr_thr]; rfl
  · rw [if_neg d, if_pos rfl, mo_ref1 thr0 ne10 (by decide), thr_thr]; rfl
theorem mo_nokind2 {x k : Int32} (p : ¬ (x = 0 ∨ x = 1)) : f_X6_isNoKind τ x k = some (1, thr τ 1) := by
  unfold f_X6_isNoKind f_X6_isNoKind_43
  rw [mo_noTrack, bsm, if_neg p, mo_st1 ne10 (by decide)]; rfl
theorem gd_kind {α : Type} {x k : Int32} {F : Unit → Option (Nat ⊕ α)} {G : Int32 × MS → Option (Int32 × MS)} {Q : Nat ⊕ α → Int32 × MS → Prop} (h0 : ∀ j, j < 2 → (x = 0 ∧ j = 0 ∨ x = 1 ∧ j = 1) → KO x k → Ri (F ()) (G (0, thr τ 0)) Q) (h1 : Ri (some (.inl 0)) (G (1, thr τ 1)) Q) (h2 : Ri (some (.inl 1)) (G (1, thr τ 2)) Q) : Ri (obx (f_X3_needTrack x) fun _ => obx (f_X3_needKindOf x k) F) ((f_X6_isNoKind τ x k).bind G) Q := by
  by_cases p : x = 0 ∨ x = 1
  · obtain ⟨j, hj, hx⟩ := tk_ok p
    refine ri_obr (cl_track p) ?_
    by_cases q : KO x k
    · exact ri_obr (cl_kind q) (ri_eR (mo_kind p q) (h0 j hj hx q))
    · exact ri_obl (cl_nokind q) (ri_eR (mo_nokind p q) h2)
  · exact ri_obl (cl_notrack p) (ri_eR (mo_nokind2 p) h1)
theorem ag_drop (h : RX σ τ) (x1 x2 x3 : Int32) : Ri (f_X3_drop σ x1 x2 x3) (f_X6_drop τ x1 x2 x3) (TQ C2 σ) := by
  unfold f_X3_drop f_X6_drop
  refine gd_kind (fun j hj hx _ => ri_tR rfl ?_) (ri_fR ne10 (tq_l (h.thr 1) thr0)) (ri_fR ne10 (tq_l (h.thr 2) thr0))
  have h0 := h.thr 0
  have hr := h.row (i := j) (by omega)
  have hl := hr.len
  refine ri_eL (trackOf_ok hx) (ri_eL (rw_placeOfKind hr x2 x3) (ri_eR (mo_found (gtr_x hx) (len20 h0.1 hj) x2 x3) (ri_iR (fun c => ri_tL c (tq_r h0 thr0 rfl)) fun c => ri_fL c ?_)))
  have hp := fnG_place (tKind x2) x3 (τ.1 j) 0 (-1) (τ.1 j).length (by omega) (Or.inl rfl)
  obtain ⟨i, hi, e⟩ := hp.resolve_left c
  have e2 : fnG (tKind x2) x3 ((thr τ 0).1 j) 0 (-1) = nI i := e
  rw [e, e2]
  refine ri_okR (mo_go hx (gtr_x hx) hi (Nat.le_trans (len20 h0.1 hj) (by omega))) fun t1 ht1 => ri_eR mo_tear ?_
  refine ri_okL (rw_leave hr hi) fun w hw => ri_nL fun r1 e1 => ?_
  subst e1
  refine ri_okL (cl_tearFor hx) fun r hr3 => ?_
  have te := tear_rx (τ := thr τ 0) h0 hj hw.2 (h0.1.2.2.2.del hj) hr3 ht1.2
  exact tq_r te.1 (te.2.1.trans thr0) rfl
theorem ag_has (h : RX σ τ) (x1 x2 : Int32) : Ri (f_X3_has σ x1 x2) (f_X6_has τ x1 x2) (TN C2 σ) := by
  unfold f_X3_has f_X6_has
  refine gd_kind (fun j hj hx _ => ri_tR rfl ?_) (ri_fR ne10 (tn_l (h.thr 1) thr0)) (ri_fR ne10 (tn_l (h.thr 2) thr0))
  have h0 := h.thr 0
  have hr := h.row (i := j) (by omega)
  refine ri_eL (trackOf_ok hx) (ri_eL (rw_placeOfKind hr x2 0) (ri_eR (mo_found (gtr_x hx) (len20 h0.1 hj) x2 0) (ri_iR (fun c => ri_tL c (tn_r h0 thr0 rfl)) fun c => ri_fL c (tn_r h0 thr0 rfl))))
end L3E
