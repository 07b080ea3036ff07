/-! level 3: walkers of the line -/
section L3H
variable {σ : CS} {τ : MS}
theorem cl_walker {x : Int32} (h : x = 0 ∨ x = 1) : f_X3_needWalker x = some (.inr ()) := by
  rcases h with h | h <;> subst h <;> rfl
theorem cl_nowalker {x : Int32} (h : ¬ (x = 0 ∨ x = 1)) : f_X3_needWalker x = some (.inl 0) := by
  unfold f_X3_needWalker
  rw [if_neg (fun e => h (Or.inl e)), if_neg (fun e => h (Or.inr e))]
theorem mo_noWalker (x : Int32) : f_X6_isNoWalker x = some (if x = 0 ∨ x = 1 then 0 else 1) := by
  unfold f_X6_isNoWalker
  rw [mo_isIn]
  by_cases c : x = 0 ∨ x = 1
  · rw [if_pos (in01.mpr c), if_pos c]; rfl
  · rw [if_neg (mt in01.mp c), if_neg c]; rfl
theorem walkerOf_ok {x : Int32} {j : Nat} (hx : x = 0 ∧ j = 0 ∨ x = 1 ∧ j = 1) : f_X3_walkerOf σ x = some j := by
  rcases hx with ⟨a, b⟩ | ⟨a, b⟩ <;> subst a b <;> rfl
theorem gwk_x {x : Int32} {j : Nat} (hx : x = 0 ∧ j = 0 ∨ x = 1 ∧ j = 1) : gwk x = some j := gtr_x hx
theorem RX.ker (h : RX σ τ) {q : Nat} (h5 : 5 ≤ q) (h10 : q ≤ 10) : σ.2 q = τ.2 q := h.1.2.1 q h5 h10
theorem scK {w : Nat → Int32} {b : Nat} : (σ.1, scUp σ.2 b 3 w).2 b = w 0 ∧ (σ.1, scUp σ.2 b 3 w).2 (b + 1) = w 1 ∧ (σ.1, scUp σ.2 b 3 w).2 (b + 2) = w 2 ∧ ∀ q, q ≠ b → q ≠ b + 1 → q ≠ b + 2 → (σ.1, scUp σ.2 b 3 w).2 q = σ.2 q := by
  refine ⟨?_, ?_, ?_, fun q h0 h1 h2 => ?_⟩
  · show scUp σ.2 b 3 w b = w 0
    rw [scU_i (by omega), Nat.sub_self]
  · show scUp σ.2 b 3 w (b + 1) = w 1
    rw [scU_i (by omega), show b + 1 - b = 1 by omega]
  · show scUp σ.2 b 3 w (b + 2) = w 2
    rw [scU_i (by omega), show b + 2 - b = 2 by omega]
  · show scUp σ.2 b 3 w q = σ.2 q
    exact scU_o (by omega)
/-- one walker anew on both sides -/
theorem ker_rx {r : CS} {t : MS} {j : Nat} (hj : j < 2) (h : RX σ τ) (e1 : r.1 = σ.1) (e2 : ∀ q, q ≠ 5 + 3 * j → q ≠ 5 + 3 * j + 1 → q ≠ 5 + 3 * j + 2 → r.2 q = σ.2 q) (f1 : t.1 = τ.1) (f2 : ∀ q, q ≠ 0 → q ≠ 5 + 3 * j → q ≠ 5 + 3 * j + 1 → q ≠ 5 + 3 * j + 2 → t.2 q = τ.2 q) (g0 : r.2 (5 + 3 * j) = t.2 (5 + 3 * j)) (g1 : r.2 (5 + 3 * j + 1) = t.2 (5 + 3 * j + 1)) (g2 : r.2 (5 + 3 * j + 2) = t.2 (5 + 3 * j + 2)) : RX r t := by
  refine ⟨h.1.cg (fun i _ => by rw [e1]) f1 (fun q h1 h2 => ?_) ?_, ?_⟩
  · by_cases c0 : q = 5 + 3 * j
    · rw [c0]; exact g0
    · by_cases c1 : q = 5 + 3 * j + 1
      · rw [c1]; exact g1
      · by_cases c2 : q = 5 + 3 * j + 2
        · rw [c2]; exact g2
        · rw [e2 q c0 c1 c2, f2 q (by omega) c0 c1 c2]; exact h.1.2.1 q h1 h2
  · rw [e2 0 (by omega) (by omega) (by omega), f2 4 (by omega) (by omega) (by omega) (by omega)]; exact h.1.2.2.1
  · unfold WR
    rw [e2 1 (by omega) (by omega) (by omega), e2 2 (by omega) (by omega) (by omega), e2 3 (by omega) (by omega) (by omega), e2 4 (by omega) (by omega) (by omega), f2 1 (by omega) (by omega) (by omega) (by omega), f2 2 (by omega) (by omega) (by omega) (by omega), f2 3 (by omega) (by omega) (by omega) (by omega)]
    exact h.2
theorem gd_walker {α : Type} {x : Int32} {F : Unit → Option (Nat ⊕ α)} {G : Int32 × MS → Option (Int32 × MS)} {Q : Nat ⊕ α → Int32 × MS → Prop} (h0 : ∀ j, j < 2 → (x = 0 ∧ j = 0 ∨ x = 1 ∧ j = 1) → Ri (F ()) (G (0, thr τ 0)) Q) (h1 : Ri (some (.inl 0)) (G (1, thr τ 1)) Q) : Ri (obx (f_X3_needWalker x) F) ((f_X6_isNoWalker x).bind fun z => (f_X6_start τ z 1).bind G) Q := by
  by_cases p : x = 0 ∨ x = 1
  · obtain ⟨j, hj, hx⟩ := tk_ok p
    refine ri_obr (cl_walker p) (ri_eR (mo_noWalker x) ?_)
    rw [if_pos p]
    exact ri_eR (mo_st0 rfl) (h0 j hj hx)
  · refine ri_obl (cl_nowalker p) (ri_eR (mo_noWalker x) ?_)
    rw [if_neg p]
    exact ri_eR (mo_st1 ne10 (by decide)) h1
theorem gd_nowhere {α : Type} {x : Int32} (h : RX σ τ) {F : Unit → Option (Nat ⊕ α)} {G : Int32 × MS → Option (Int32 × MS)} {Q : Nat ⊕ α → Int32 × MS → Prop} (h0 : ∀ j, j < 2 → (x = 0 ∧ j = 0 ∨ x = 1 ∧ j = 1) → ¬ τ.2 (5 + 3 * j) = 0 → Ri (F ()) (G (0, thr τ 0)) Q) (h1 : Ri (some (.inl 0)) (G (1, thr τ 1)) Q) (h2 : Ri (some (.inl 2)) (G (1, thr τ 2)) Q) : Ri (obx (f_X3_needWalker x) fun _ => obx (f_X3_needSomewhere σ x) F) ((f_X6_isNowhere τ x).bind G) Q := by
  by_cases p : x = 0 ∨ x = 1
  · obtain ⟨j, hj, hx⟩ := tk_ok p
    refine ri_obr (cl_walker p) ?_
    have eh : σ.2 (5 + 3 * j) = τ.2 (5 + 3 * j) := h.ker (by omega) (by omega)
    by_cases c : τ.2 (5 + 3 * j) = 0
    · have e1 : f_X3_needSomewhere σ x = some (.inl 2) := by
        unfold f_X3_needSomewhere
        rw [walkerOf_ok hx, bsm, eh, if_pos c]
      have e2 : f_X6_isNowhere τ x = some (1, thr τ 2) := by
        unfold f_X6_isNowhere f_X6_isNowhere_30 f_X6_isNowhere_37
        rw [mo_noWalker, bsm, if_pos p, mo_st0 rfl, bsm, if_pos rfl, gwk_x hx, bsm]
        rw [if_pos (show (thr τ 0).2 (5 + 3 * j) = 0 by rw [thrn _ (by omega)]; exact c), mo_ref1 thr0 ne10 (by decide), thr_thr]; rfl
      exact ri_obl e1 (ri_eR e2 h2)
    · have e1 : f_X3_needSomewhere σ x = some (.inr ()) := by
        unfold f_X3_needSomewhere
        rw [walkerOf_ok hx, bsm, eh, if_neg c]
      have e2 : f_X6_isNowhere τ x = some (0, thr τ 0) := by
        unfold f_X6_isNowhere f_X6_isNowhere_30
        rw [mo_noWalker, bsm, if_pos p, mo_st0 rfl, bsm, if_pos rfl, gwk_x hx, bsm]
        rw [if_neg (show ¬ (thr τ 0).2 (5 + 3 * j) = 0 by rw [thrn _ (by omega)]; exact c), mo_ref0 thr0 rfl]; rfl
      exact ri_obr e1 (ri_eR e2 (h0 j hj hx c))
  · refine ri_obl (cl_nowalker p) (ri_eR (v := (1, thr τ 1)) ?_ h1)
    unfold f_X6_isNowhere f_X6_isNowhere_37
    rw [mo_noWalker, bsm, if_neg p, mo_st1 ne10 (by decide)]; rfl
theorem fresh_ok {ω : Nat → Int32} : f_X2_isFresh ω = some (if ω 0 = 1 then 1 else 0) := by
  unfold f_X2_isFresh
  split <;> rfl
/-- fresh on the one side, not stale on the other -/
theorem fresh_iff (hw : WK τ) {j : Nat} (hj : j < 2) (h0 : ¬ τ.2 (5 + 3 * j) = 0) : τ.2 (5 + 3 * j) = 1 ↔ ¬ τ.2 (5 + 3 * j) = 2 := by
  have q := (hw.get hj).1
  constructor
  · intro e
    rw [e]; decide
  · intro e
    exact (q.resolve_left h0).resolve_right e
theorem ag_stand (h : RX σ τ) (x1 x2 : Int32) : Ri (f_X3_stand σ x1 x2) (f_X6_stand τ x1 x2) (TQ C1 σ) := by
  have hr := h.row (i := 1) (by omega)
  have h0 := h.thr 0
  unfold f_X3_stand f_X6_stand f_X6_stand_18
  have bad : Ri (some (.inl 0)) (f_X6_stand_23 τ x1 x2 1) (TQ C1 σ) := by
    unfold f_X6_stand_23
    exact ri_eR (mo_st1 ne10 (by decide)) (ri_fR ne10 (tq_l (h.thr 1) thr0))
  refine ri_eR (mo_noWalker x1) ?_
  by_cases p : x1 = 0 ∨ x1 = 1
  · obtain ⟨j, hj, hx⟩ := tk_ok p
    rw [if_pos p]
    refine ri_tR rfl (ri_obr (cl_walker p) (ri_eR (mo_isIn _ _ _) ?_))
    by_cases c : 0 ≤ x2 ∧ x2 ≤ 20
    · rw [if_pos c]
      refine ri_fR ne10 (ri_obr (cl_place c) ?_)
      unfold f_X6_stand_23
      refine ri_eR (mo_st0 rfl) (ri_tR rfl (ri_eR (sizeN (j := 1) rfl) (ri_eL (rw_size hr) (ri_iR (fun d => ri_tL d ?_) fun d => ri_fL d (tq_r h0 thr0 rfl)))))
      refine ri_eR (gwk_x hx) (ri_nR fun t1 e1 => ri_eR (gwk_x hx) (ri_nR fun t2 e2 => ri_eR (gwk_x hx) (ri_nR fun t3 e3 => ?_)))
      obtain ⟨l1, b1, o1⟩ := up_sc e1
      obtain ⟨l2, b2, o2⟩ := up_sc e2
      obtain ⟨l3, b3, o3⟩ := up_sc e3
      refine ri_eL (walkerOf_ok hx) (ri_eL (v := va_up (va_up (va_up (fun k => σ.2 (5 + 3 * j + k)) 0 1) 1 x2) 2 (-1)) rfl (ri_nL fun r er => ?_))
      obtain ⟨a0, a1, a2, a3⟩ := scK (σ := σ) (w := va_up (va_up (va_up (fun k => σ.2 (5 + 3 * j + k)) 0 1) 1 x2) 2 (-1)) (b := 5 + 3 * j)
      rw [← er] at a0 a1 a2 a3
      have hx2 : RX r t3 := by
        refine ker_rx hj h (by rw [er]) a3 (l3.trans (l2.trans l1)) (fun q q0 p0 p1 p2 => ?_) ?_ ?_ ?_
        · rw [o3 q p2, o2 q p1, o1 q p0]
          exact thrn q q0
        · rw [a0, o3 _ (by omega), o2 _ (by omega)]
          exact b1.symm
        · rw [a1, o3 _ (by omega)]
          exact b2.symm
        · rw [a2]
          exact b3.symm
      refine tq_r hx2 ?_ rfl
      rw [o3 0 (by omega), o2 0 (by omega), o1 0 (by omega)]
      exact thr0 (τ := τ) (v := 0)
    · rw [if_neg c]
      exact ri_tR rfl (ri_obl (cl_noplace c) bad)
  · rw [if_neg p]
    exact ri_fR ne10 (ri_obl (cl_nowalker p) bad)
theorem ag_forth (h : RX σ τ) (hw : WK τ) (x1 : Int32) : Ri (f_X3_forth σ x1) (f_X6_forth τ x1) (TQ C02 σ) := by
  have hr := h.row (i := 1) (by omega)
  have hl := hr.len
  have h0 := h.thr 0
  unfold f_X3_forth f_X6_forth f_X3_forth_36 f_X6_forth_37
  refine gd_nowhere h (fun j hj hx hn => ri_tR rfl (ri_eR (gwk_x hx) ?_)) (ri_fR ne10 (tq_l (h.thr 1) thr0)) (ri_fR ne10 (tq_l (h.thr 2) thr0))
  have k0 : σ.2 (5 + 3 * j) = τ.2 (5 + 3 * j) := h.ker (by omega) (by omega)
  have k1 : σ.2 (5 + 3 * j + 1) = τ.2 (5 + 3 * j + 1) := h.ker (by omega) (by omega)
  have t0 : (thr τ 0).2 (5 + 3 * j) = τ.2 (5 + 3 * j) := thrn _ (by omega)
  have t1 : (thr τ 0).2 (5 + 3 * j + 1) = τ.2 (5 + 3 * j + 1) := thrn _ (by omega)
  have fi := fresh_iff hw hj hn
  refine ri_eL (walkerOf_ok hx) (ri_eL fresh_ok (ri_iR (fun d => ?_) fun d => ?_))
  · have d : τ.2 (5 + 3 * j) = 2 := t0.symm.trans d
    have n1 : ¬ (fun k => σ.2 (5 + 3 * j + k)) 0 = 1 := by
      show ¬ σ.2 (5 + 3 * j) = 1
      rw [k0, d]; decide
    rw [if_neg n1]
    exact ri_tL rfl (tq_r h0 thr0 rfl)
  · have d : ¬ τ.2 (5 + 3 * j) = 2 := fun e => d (t0.trans e)
    have s1 := fi.mpr d
    have n1 : (fun k => σ.2 (5 + 3 * j + k)) 0 = 1 := by
      show σ.2 (5 + 3 * j) = 1
      rw [k0, s1]
    rw [if_pos n1]
    obtain ⟨⟨c0, c1⟩, -⟩ := (hw.get hj).2 s1
    obtain ⟨i, hi, ei⟩ := nIof (b := (τ.1 1).length) (by omega) c0 c1
    refine ri_fL ne10 (ri_eR (sizeN (j := 1) rfl) (ri_eL (rw_size hr) (ri_iR (fun g => ?_) fun g => ?_)))
    · have g : nI i = nI (τ.1 1).length := by rw [← ei, ← t1]; exact g
      have g2 := (nI_eqi (by omega) (by omega)).mp g
      refine ri_fL ?_ (tq_r h0 thr0 rfl)
      rw [k1, ei]
      exact mt (nI_lti (by omega) (by omega)).mp (by omega)
    · have g : ¬ nI i = nI (τ.1 1).length := by rw [← ei, ← t1]; exact g
      have g2 : i < (τ.1 1).length := by
        have := mt (nI_eqi (a := i) (b := (τ.1 1).length) (by omega) (by omega)).mpr g
        omega
      refine ri_tL (by rw [k1, ei]; exact (nI_lti (by omega) (by omega)).mpr g2) ?_
      refine ri_nR fun s1 e1 => ri_nR fun s2 e2 => ?_
      obtain ⟨l1, b1, o1⟩ := up_sc e1
      obtain ⟨l2, b2, o2⟩ := up_sc e2
      have w0 : f_X2_goForth (fun k => σ.2 (5 + 3 * j + k)) = some (va_up (va_up (fun k => σ.2 (5 + 3 * j + k)) 2 (σ.2 (5 + 3 * j + 1))) 1 (σ.2 (5 + 3 * j + 1) + 1)) := rfl
      refine ri_eL w0 (ri_nL fun r er => ?_)
      obtain ⟨a0, a1, a2, a3⟩ := scK (σ := σ) (w := va_up (va_up (fun k => σ.2 (5 + 3 * j + k)) 2 (σ.2 (5 + 3 * j + 1))) 1 (σ.2 (5 + 3 * j + 1) + 1)) (b := 5 + 3 * j)
      rw [← er] at a0 a1 a2 a3
      have r2 : r.2 (5 + 3 * j + 2) = nI i := by
        rw [a2]
        exact k1.trans ei
      have m2 : s2.2 (5 + 3 * j + 2) = nI i := by
        rw [o2 _ (by omega), b1]
        exact t1.trans ei
      have hx2 : RX r s2 := by
        refine ker_rx hj h (by rw [er]) a3 (l2.trans l1) (fun q q0 p0 p1 p2 => ?_) ?_ ?_ ?_
        · rw [o2 q p1, o1 q p2]
          exact thrn q q0
        · rw [a0, o2 _ (by omega), o1 _ (by omega)]
          exact k0.trans t0.symm
        · rw [a1, b2, o1 _ (by omega)]
          show σ.2 (5 + 3 * j + 1) + 1 = _
          rw [k1]
          show _ = (thr τ 0).2 (5 + 3 * j + 1) + 1
          rw [t1]
        · rw [r2, m2]
      have hr1 := hx2.row (i := 1) (by omega)
      have lq : (s2.1 1).length = (τ.1 1).length := by rw [l2, l1]; rfl
      rw [r2, m2]
      refine ri_eR (getN (j := 1) rfl (by rw [lq]; exact g2) hr1.len) (ri_eL (rw_read hr1 (by rw [lq]; exact g2)) (tq_r hx2 ?_ rfl))
      rw [o2 0 (by omega), o1 0 (by omega)]
      exact thr0 (τ := τ) (v := 0)
theorem ag_back (h : RX σ τ) (hw : WK τ) (x1 : Int32) : Ri (f_X3_back σ x1) (f_X6_back τ x1) (TQ C02 σ) := by
  have hr := h.row (i := 1) (by omega)
  have hl := hr.len
  have h0 := h.thr 0
  unfold f_X3_back f_X6_back f_X3_back_29 f_X6_back_32
  refine gd_nowhere h (fun j hj hx hn => ri_tR rfl (ri_eR (gwk_x hx) ?_)) (ri_fR ne10 (tq_l (h.thr 1) thr0)) (ri_fR ne10 (tq_l (h.thr 2) thr0))
  have k0 : σ.2 (5 + 3 * j) = τ.2 (5 + 3 * j) := h.ker (by omega) (by omega)
  have k1 : σ.2 (5 + 3 * j + 1) = τ.2 (5 + 3 * j + 1) := h.ker (by omega) (by omega)
  have t0 : (thr τ 0).2 (5 + 3 * j) = τ.2 (5 + 3 * j) := thrn _ (by omega)
  have t1 : (thr τ 0).2 (5 + 3 * j + 1) = τ.2 (5 + 3 * j + 1) := thrn _ (by omega)
  have fi := fresh_iff hw hj hn
  refine ri_eL (walkerOf_ok hx) (ri_eL fresh_ok (ri_iR (fun d => ?_) fun d => ?_))
  · have d : τ.2 (5 + 3 * j) = 2 := t0.symm.trans d
    have n1 : ¬ (fun k => σ.2 (5 + 3 * j + k)) 0 = 1 := by
      show ¬ σ.2 (5 + 3 * j) = 1
      rw [k0, d]; decide
    rw [if_neg n1]
    exact ri_tL rfl (tq_r h0 thr0 rfl)
  · have d : ¬ τ.2 (5 + 3 * j) = 2 := fun e => d (t0.trans e)
    have s1 := fi.mpr d
    have n1 : (fun k => σ.2 (5 + 3 * j + k)) 0 = 1 := by
      show σ.2 (5 + 3 * j) = 1
      rw [k0, s1]
    rw [if_pos n1]
    obtain ⟨⟨c0, c1⟩, -⟩ := (hw.get hj).2 s1
    obtain ⟨i, hi, ei⟩ := nIof (b := (τ.1 1).length) (by omega) c0 c1
    refine ri_fL ne10 (ri_iR (fun g => ?_) fun g => ?_)
    · have g : nI i = 0 := by rw [← ei, ← t1]; exact g
      refine ri_fL ?_ (tq_r h0 thr0 rfl)
      rw [k1, ei, g]
      decide
    · have g : ¬ nI i = 0 := by rw [← ei, ← t1]; exact g
      have g2 : 1 ≤ i := by
        have := mt (nI_eqz (a := i) (by omega)).mpr g
        omega
      have gp : (0 : Int32) < nI i := (nI_lti (a := 0) (by omega) (by omega)).mpr g2
      refine ri_tL (by rw [k1, ei]; exact gp) ?_
      refine ri_nR fun s1 e1 => ri_nR fun s2 e2 => ?_
      obtain ⟨l1, b1, o1⟩ := up_sc e1
      obtain ⟨l2, b2, o2⟩ := up_sc e2
      have w0 : f_X2_goBack (fun k => σ.2 (5 + 3 * j + k)) = some (va_up (va_up (fun k => σ.2 (5 + 3 * j + k)) 1 (σ.2 (5 + 3 * j + 1) - 1)) 2 (σ.2 (5 + 3 * j + 1) - 1)) := rfl
      refine ri_eL w0 (ri_nL fun r er => ?_)
      obtain ⟨a0, a1, a2, a3⟩ := scK (σ := σ) (w := va_up (va_up (fun k => σ.2 (5 + 3 * j + k)) 1 (σ.2 (5 + 3 * j + 1) - 1)) 2 (σ.2 (5 + 3 * j + 1) - 1)) (b := 5 + 3 * j)
      rw [← er] at a0 a1 a2 a3
      have ep : nI i - 1 = nI (i - 1) := nI_prd g2 (by omega)
      have r2 : r.2 (5 + 3 * j + 2) = nI (i - 1) := by
        rw [a2]
        show σ.2 (5 + 3 * j + 1) - 1 = _
        rw [k1, ei, ep]
      have m1 : s1.2 (5 + 3 * j + 1) = nI (i - 1) := by
        rw [b1]
        show (thr τ 0).2 (5 + 3 * j + 1) - 1 = _
        rw [t1, ei, ep]
      have m2 : s2.2 (5 + 3 * j + 2) = nI (i - 1) := by rw [b2, m1]
      have hx2 : RX r s2 := by
        refine ker_rx hj h (by rw [er]) a3 (l2.trans l1) (fun q q0 p0 p1 p2 => ?_) ?_ ?_ ?_
        · rw [o2 q p2, o1 q p1]
          exact thrn q q0
        · rw [a0, o2 _ (by omega), o1 _ (by omega)]
          exact k0.trans t0.symm
        · rw [a1, o2 _ (by omega), m1]
          show σ.2 (5 + 3 * j + 1) - 1 = _
          rw [k1, ei, ep]
        · rw [r2, m2]
      have hr1 := hx2.row (i := 1) (by omega)
      have lq : (s2.1 1).length = (τ.1 1).length := by rw [l2, l1]; rfl
      rw [r2, m2]
      refine ri_eR (getN (j := 1) rfl (by rw [lq]; omega) hr1.len) (ri_eL (rw_read hr1 (by rw [lq]; omega)) (tq_r hx2 ?_ rfl))
      rw [o2 0 (by omega), o1 0 (by omega)]
      exact thr0 (τ := τ) (v := 0)
end L3H
