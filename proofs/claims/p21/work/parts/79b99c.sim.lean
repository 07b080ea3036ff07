/-! level 3: what is asked -/
section L3J
variable {σ : CS} {τ : MS}
theorem z04 : (0 : Int32).toNatClampNeg = 0 ∧ (1 : Int32).toNatClampNeg = 1 ∧ (2 : Int32).toNatClampNeg = 2 ∧ (3 : Int32).toNatClampNeg = 3 ∧ (4 : Int32).toNatClampNeg = 4 := ⟨rfl, rfl, rfl, rfl, rfl⟩
theorem mo_whereNow {x : Int32} {j w : Nat} (hx : x = 0 ∧ j = 0 ∨ x = 1 ∧ j = 1) (hw : w < 5) : f_X6_whereNow τ x (nI w) = some (wval τ j w, τ) := by
  obtain ⟨y0, y1, y2, y3, y4⟩ := z04
  have key : Ok (f_X6_whereNow τ x (nI w)) fun r => r = (wval τ j w, τ) := by
    have fin : ∀ (g : Nat → Int32) (u3 u4 : Int32), g 0 = τ.2 (5 + 3 * j) → g 1 = τ.2 (5 + 3 * j + 1) → g 2 = τ.2 (5 + 3 * j + 1) - 1 → u3 = (if nI (τ.1 1).length ≤ τ.2 (5 + 3 * j + 1) then (0 : Int32) else 1) → u4 = (if τ.2 (5 + 3 * j + 1) ≤ 0 then (0 : Int32) else 1) → ∀ v, v = upd (upd g 3 u3) 4 u4 w → v = wval τ j w := by
      intro g u3 u4 h0 h1 h2 h3 h4 v hv
      subst hv
      unfold wval
      rw [upd_at, upd_at]
      rcases (by omega : w = 0 ∨ w = 1 ∨ w = 2 ∨ w = 3 ∨ w = 4) with e | e | e | e | e <;> subst e
      · exact h0
      · exact h1
      · exact h2
      · exact h3
      · exact h4
    have m70 : ∀ (g : Nat → Int32) (u : Int32), g 0 = τ.2 (5 + 3 * j) → g 1 = τ.2 (5 + 3 * j + 1) → g 2 = τ.2 (5 + 3 * j + 1) - 1 → u = (if τ.2 (5 + 3 * j + 1) ≤ 0 then (0 : Int32) else 1) → ∀ (g0 : Nat → Int32) (u3 : Int32), g = upd g0 3 u3 → g0 0 = g 0 → g0 1 = g 1 → g0 2 = g 2 → u3 = (if nI (τ.1 1).length ≤ τ.2 (5 + 3 * j + 1) then (0 : Int32) else 1) → Ok (f_X6_whereNow_70 τ (nI w) 5 g 4 u) fun r => r = (wval τ j w, τ) := by
      intro g u h0 h1 h2 hu g0 u3 hg e0 e1 e2 h3
      unfold f_X6_whereNow_70
      refine ok_ev (mo_one u) (ok_f (by decide) (ok_nme fun g1 hg1 => ok_f (arr_iN hw (by omega)) (ok_some ?_)))
      rw [y4] at hg1
      have q : (if u = 0 then (0 : Int32) else 1) = u := by
        rw [hu]
        split <;> rfl
      rw [q] at hg1
      rw [nI_c (by omega), fin g0 u3 u (e0.trans h0) (e1.trans h1) (e2.trans h2) h3 hu (g1 w) (by rw [hg1, hg])]
    have m52 : ∀ (g : Nat → Int32) (u : Int32), g 0 = τ.2 (5 + 3 * j) → g 1 = τ.2 (5 + 3 * j + 1) → g 2 = τ.2 (5 + 3 * j + 1) - 1 → u = (if nI (τ.1 1).length ≤ τ.2 (5 + 3 * j + 1) then (0 : Int32) else 1) → Ok (f_X6_whereNow_52 τ (nI w) j 5 g 3 u) fun r => r = (wval τ j w, τ) := by
      intro g u h0 h1 h2 hu
      unfold f_X6_whereNow_52
      refine ok_ev (mo_one u) (ok_f (by decide) (ok_nme fun g1 hg1 => ?_))
      rw [y3] at hg1
      have q : (if u = 0 then (0 : Int32) else 1) = u := by
        rw [hu]
        split <;> rfl
      rw [q] at hg1
      have a0 : g 0 = g1 0 := by rw [hg1]; rfl
      have a1 : g 1 = g1 1 := by rw [hg1]; rfl
      have a2 : g 2 = g1 2 := by rw [hg1]; rfl
      exact ok_if (fun c => m70 g1 0 (a0 ▸ h0) (a1 ▸ h1) (a2 ▸ h2) (by rw [if_pos c]) g u hg1 a0 a1 a2 hu) fun c => m70 g1 1 (a0 ▸ h0) (a1 ▸ h1) (a2 ▸ h2) (by rw [if_neg c]) g u hg1 a0 a1 a2 hu
    unfold f_X6_whereNow
    refine ok_ev (gwk_x hx) (ok_f (by decide) (ok_nme fun n hn => ok_nme fun g hg => ?_))
    have hn : n = 5 := hn
    subst hn
    refine ok_f (by decide) (ok_nme fun g1 hg1 => ok_f (by decide) (ok_nme fun g2 hg2 => ok_f (by decide) (ok_nme fun g3 hg3 => ok_ev (sizeN (j := 1) rfl) ?_)))
    rw [y0] at hg1
    rw [y1] at hg2
    rw [y2] at hg3
    have b0 : g3 0 = τ.2 (5 + 3 * j) := by rw [hg3, hg2, hg1]; rfl
    have b1 : g3 1 = τ.2 (5 + 3 * j + 1) := by rw [hg3, hg2, hg1]; rfl
    have b2 : g3 2 = τ.2 (5 + 3 * j + 1) - 1 := by rw [hg3, hg2, hg1]; rfl
    exact ok_if (fun c => m52 g3 0 b0 b1 b2 (by rw [if_pos c])) fun c => m52 g3 1 b0 b1 b2 (by rw [if_neg c])
  obtain ⟨r, e, hr⟩ := key
  rw [e, hr]
theorem wval_thr {j w : Nat} : wval (thr τ 0) j w = wval τ j w := by
  unfold wval
  rw [thrn _ (by omega), thrn _ (by omega)]
  rfl
theorem ag_where (h : RX σ τ) (hw : WK τ) (x1 x2 : Int32) : Ri (f_X3_where σ x1 x2) (f_X6_where τ x1 x2) (TN C3 σ) := by
  have h0 := h.thr 0
  unfold f_X3_where f_X6_where f_X6_where_64 f_X3_where_35
  refine gd_walker (fun j hj hx => ri_tR rfl (ri_eR (mo_isIn _ _ _) ?_)) (ri_fR ne10 (tn_l (h.thr 1) thr0))
  have k0 : σ.2 (5 + 3 * j) = τ.2 (5 + 3 * j) := h.ker (by omega) (by omega)
  have t0 : (thr τ 0).2 (5 + 3 * j) = τ.2 (5 + 3 * j) := thrn _ (by omega)
  unfold f_X6_where_27 f_X6_where_56 f_X6_where_57 f_X6_where_64
  by_cases c : 0 ≤ x2 ∧ x2 ≤ 4
  · rw [if_pos c]
    obtain ⟨w, hw4, rfl⟩ := nIof (b := 4) (by omega) c.1 c.2
    refine ri_fR ne10 (ri_eR (mo_ref0 thr0 rfl) (ri_tR rfl (ri_obr (cl_within c) ?_)))
    have good : Ri ((f_X3_ofWalker σ x1 (nI w)).bind fun z1 => some (.inr z1)) ((f_X6_refuse (thr τ 0) 0 3).bind fun z5 => if z5.1 = 0 then (f_X6_whereNow z5.2 x1 (nI w)).bind fun z11 => some (z11.1, z11.2) else some (0, z5.2)) (TN C3 σ) :=
      ri_eR (mo_ref0 thr0 rfl) (ri_tR rfl (ri_eR (mo_whereNow hx (by omega)) (ri_eL (cl_ofWalker h hj hx (by omega)) (tn_r h0 thr0 wval_thr.symm))))
    refine ri_iR (fun d => ri_tL d good) fun d => ri_fL d (ri_eR (gwk_x hx) (ri_eL (walkerOf_ok hx) (ri_eL fresh_ok (ri_iR (fun g => ?_) fun g => ?_))))
    · have n1 : (fun k => σ.2 (5 + 3 * j + k)) 0 = 1 := by
        show σ.2 (5 + 3 * j) = 1
        rw [k0, ← t0]; exact g
      rw [if_pos n1]
      exact ri_fL ne10 good
    · have n1 : ¬ (fun k => σ.2 (5 + 3 * j + k)) 0 = 1 := by
        show ¬ σ.2 (5 + 3 * j) = 1
        rw [k0, ← t0]; exact g
      rw [if_neg n1]
      refine ri_tL rfl (ri_eR (mo_ref1 thr0 ne10 (by decide)) (ri_fR ne10 ?_))
      rw [thr_thr]
      exact tn_l (h.thr 3) thr0
  · rw [if_neg c]
    refine ri_tR rfl (ri_eR (mo_ref1 thr0 ne10 (by decide)) (ri_fR ne10 (ri_obl (cl_without c) ?_)))
    rw [thr_thr]
    exact tn_l (h.thr 2) thr0
/-! at an end -/
def aval (xs : List Int32) (w : Nat) : Int32 := if xs.length = 0 then (if w = 0 ∨ w = 1 ∨ w = 4 then -9 else 0) else xs.getD (if w = 1 ∨ w = 3 then xs.length - 1 else 0) 0
theorem nI_ne {a b : Nat} (ha : a < 100) (hb : b < 100) (h : a ≠ b) : ¬ nI a = nI b := fun e => h ((nI_eqi (by omega) (by omega)).mp e)
theorem kn0 {w : Nat} (hw : w < 100) (h : ¬ w = 0) : ¬ nI w = (0 : Int32) := nI_ne (b := 0) hw (by omega) h
theorem kn1 {w : Nat} (hw : w < 100) (h : ¬ w = 1) : ¬ nI w = (1 : Int32) := nI_ne (b := 1) hw (by omega) h
theorem kn2 {w : Nat} (hw : w < 100) (h : ¬ w = 2) : ¬ nI w = (2 : Int32) := nI_ne (b := 2) hw (by omega) h
theorem kn3 {w : Nat} (hw : w < 100) (h : ¬ w = 3) : ¬ nI w = (3 : Int32) := nI_ne (b := 3) hw (by omega) h
theorem kn4 {w : Nat} (hw : w < 100) (h : ¬ w = 4) : ¬ nI w = (4 : Int32) := nI_ne (b := 4) hw (by omega) h
theorem kp0 {w : Nat} (h : w = 0) : nI w = (0 : Int32) := by rw [h]; rfl
theorem kp1 {w : Nat} (h : w = 1) : nI w = (1 : Int32) := by rw [h]; rfl
theorem kp2 {w : Nat} (h : w = 2) : nI w = (2 : Int32) := by rw [h]; rfl
theorem kp3 {w : Nat} (h : w = 3) : nI w = (3 : Int32) := by rw [h]; rfl
theorem kp4 {w : Nat} (h : w = 4) : nI w = (4 : Int32) := by rw [h]; rfl
theorem cl_atEnd (h : RX σ τ) {x : Int32} {j w : Nat} (hj : j < 2) (hx : x = 0 ∧ j = 0 ∨ x = 1 ∧ j = 1) (hw : w < 6) : f_X3_atEnd σ x (nI w) = some (aval (τ.1 j) w) := by
  have hr := h.row (i := j) (by omega)
  unfold f_X3_atEnd f_X3_atEnd_44 f_X3_atEnd_49 f_X3_atEnd_25 aval
  rw [trackOf_ok hx, bsm, rw_isEmpty hr, bsm]
  by_cases c : (τ.1 j).length = 0
  · rw [if_pos c, if_neg ne10, if_pos c]
    by_cases d : w = 0 ∨ w = 1 ∨ w = 4
    · rw [if_pos d]
      by_cases d0 : w = 0
      · rw [if_pos (kp0 d0)]
      · rw [if_neg (kn0 (by omega) d0)]
        by_cases d1 : w = 1
        · rw [if_pos (kp1 d1)]
        · rw [if_neg (kn1 (by omega) d1), if_pos (kp4 (by omega : w = 4))]
    · rw [if_neg d, if_neg (kn0 (by omega) (by omega)), if_neg (kn1 (by omega) (by omega)), if_neg (kn4 (by omega) (by omega))]
  · rw [if_neg c, if_pos rfl, if_neg c]
    by_cases d : w = 1 ∨ w = 3
    · rw [if_pos d]
      have q : f_X3_codeAtEnd σ x 1 = some ((τ.1 j).getD ((τ.1 j).length - 1) 0) := by
        rw [codeAtEnd_ok h hj hx 1, if_neg c, if_neg ne10]
      by_cases d1 : w = 1
      · rw [if_pos (kp1 d1), q]; rfl
      · rw [if_neg (kn1 (by omega) d1), if_pos (kp3 (by omega : w = 3)), q]; rfl
    · rw [if_neg d, if_neg (kn1 (by omega) (by omega)), if_neg (kn3 (by omega) (by omega)), codeAtEnd_ok h hj hx 0, if_neg c, if_pos rfl]; rfl
theorem lt2 {w : Nat} (hw : w < 100) : nI w < (2 : Int32) ↔ w < 2 := nI_lti (b := 2) (by omega) (by omega)
theorem mo_asked {x : Int32} {j w : Nat} (hl : (τ.1 j).length ≤ 20) (hx : x = 0 ∧ j = 0 ∨ x = 1 ∧ j = 1) (hw : w < 6) : f_X6_asked τ x (nI w) = some (aval (τ.1 j) w) := by
  have m15 : ∀ u : Int32, (u = if w = 1 ∨ w = 3 then 1 else 0) → f_X6_asked_15 τ x (nI w) u = some (aval (τ.1 j) w) := by
    intro u hu
    unfold f_X6_asked_15 f_X6_asked_34 f_X6_asked_58 aval
    rw [sizeN (gtr_x hx), bsm]
    by_cases c : (τ.1 j).length = 0
    · rw [if_pos ((nI_eqz (by omega)).mpr c), if_pos c]
      by_cases d : w = 0 ∨ w = 1 ∨ w = 4
      · rw [if_pos d]
        by_cases d2 : w < 2
        · rw [if_pos (lt2 (by omega) |>.mpr d2)]
        · rw [if_neg (mt (lt2 (by omega)).mp d2), if_pos (kp4 (by omega : w = 4))]
      · rw [if_neg d, if_neg (mt (lt2 (w := w) (by omega)).mp (by omega)), if_neg (kn4 (by omega) (by omega))]
    · rw [if_neg (mt (nI_eqz (by omega)).mp c), if_neg c]
      by_cases d : w = 1 ∨ w = 3
      · rw [if_pos d] at hu
        rw [if_pos d, hu, if_neg ne10, bsm, nI_prd (by omega) (by omega), getN (gtr_x hx) (by omega) hl]; rfl
      · rw [if_neg d] at hu
        rw [if_neg d, hu, if_pos rfl]
        have q : f_X6_get τ x 0 = some ((τ.1 j).getD 0 0) := getN (i := 0) (gtr_x hx) (by omega) hl
        rw [q]; rfl
  unfold f_X6_asked f_X6_asked_10
  by_cases d1 : w = 1
  · rw [if_pos (kp1 d1)]
    exact m15 1 (by rw [if_pos (Or.inl d1)])
  · rw [if_neg (kn1 (by omega) d1)]
    by_cases d3 : w = 3
    · rw [if_pos (kp3 d3)]
      exact m15 1 (by rw [if_pos (Or.inr d3)])
    · rw [if_neg (kn3 (by omega) d3)]
      exact m15 0 (by rw [if_neg (by omega)])
theorem ag_ask (h : RX σ τ) (x1 x2 : Int32) : Ri (f_X3_ask σ x1 x2) (f_X6_ask τ x1 x2) (TN C2 σ) := by
  have h0 := h.thr 0
  unfold f_X3_ask f_X6_ask f_X6_ask_34
  refine gd_track (fun j hj hx => ri_tR rfl (ri_eR (mo_isIn _ _ _) ?_)) (ri_fR ne10 (tn_l (h.thr 1) thr0))
  unfold f_X6_ask_27 f_X6_ask_34
  by_cases c : 0 ≤ x2 ∧ x2 ≤ 5
  · rw [if_pos c]
    obtain ⟨w, hw4, rfl⟩ := nIof (b := 5) (by omega) c.1 c.2
    exact ri_fR ne10 (ri_eR (mo_ref0 thr0 rfl) (ri_tR rfl (ri_obr (cl_within c) (ri_eL (cl_atEnd h hj hx (by omega)) (ri_eR (mo_asked (len20 h0.1 hj) hx (by omega)) (tn_r h0 thr0 rfl))))))
  · rw [if_neg c]
    refine ri_tR rfl (ri_eR (mo_ref1 thr0 ne10 (by decide)) (ri_fR ne10 (ri_obl (cl_without c) ?_)))
    rw [thr_thr]
    exact tn_l (h.thr 2) thr0
/-! sums -/
def sumG : List Int32 → Int32 → Int32
  | [], a => a
  | v :: r, a => sumG r (a + jrem v 100)
def sealG : List Int32 → Int32 → Int32
  | [], a => a
  | v :: r, a => sealG r (31 * a + v / 100)
theorem sumG_c {v a : Int32} {r : List Int32} : sumG (v :: r) a = sumG r (a + jrem v 100) := rfl
theorem sealG_c {v a : Int32} {r : List Int32} : sealG (v :: r) a = sealG r (31 * a + v / 100) := rfl
theorem cl_sum (h : RX σ τ) {j : Nat} (hj : j < 4) : f_X3_sumOfLoads σ j = some (sumG (τ.1 j) 0) := by
  have hr := h.row hj
  have hl := hr.len
  have key : Ok (f_X3_sumOfLoads σ j) fun r => r = sumG (τ.1 j) 0 := by
    unfold f_X3_sumOfLoads
    refine up_loop (fun m t => t.1 = j ∧ t.2.2 = nI m ∧ sumG ((τ.1 j).drop m) t.2.1 = sumG (τ.1 j) 0) (τ.1 j).length ?_ (τ.1 j).length 0 _ (by omega) ⟨rfl, rfl, rfl⟩ 64 (by omega)
    rintro kk ⟨v1, v2, v3⟩ m hm ⟨a1, a2, a3⟩ hk
    dsimp only at a1 a2 a3
    subst a1 a2
    unfold f_X3_sumOfLoads_4
    refine ok_ev (rw_size hr) (ok_if (fun c => ok_some ?_) fun c => ?_)
    · have c2 := (nI_lei (by omega) (by omega)).mp c
      rw [List.drop_eq_nil_of_le (by omega)] at a3
      exact a3
    · have c2 : m < (τ.1 v1).length := Nat.lt_of_not_le (mt (nI_lei (by omega) (by omega)).mpr c)
      rw [drop_cons c2, sumG_c] at a3
      exact ok_ev (rw_read hr c2) (ok_ev (v := jrem ((τ.1 v1).getD m 0) 100) rfl (ok_nme fun y hy => ok_nme fun y2 hy2 => hk _ c2 ⟨rfl, by rw [hy2]; exact nI_suc (by omega), by rw [hy]; exact a3⟩))
  obtain ⟨r, e, hr⟩ := key
  rw [e, hr]
theorem cl_seal (h : RX σ τ) {j : Nat} (hj : j < 4) : f_X3_sealOf σ j = some (sealG (τ.1 j) 1) := by
  have hr := h.row hj
  have hl := hr.len
  have key : Ok (f_X3_sealOf σ j) fun r => r = sealG (τ.1 j) 1 := by
    unfold f_X3_sealOf
    refine up_loop (fun m t => t.1 = j ∧ t.2.2 = nI m ∧ sealG ((τ.1 j).drop m) t.2.1 = sealG (τ.1 j) 1) (τ.1 j).length ?_ (τ.1 j).length 0 _ (by omega) ⟨rfl, rfl, rfl⟩ 64 (by omega)
    rintro kk ⟨v1, v2, v3⟩ m hm ⟨a1, a2, a3⟩ hk
    dsimp only at a1 a2 a3
    subst a1 a2
    unfold f_X3_sealOf_4
    refine ok_ev (rw_size hr) (ok_if (fun c => ok_some ?_) fun c => ?_)
    · have c2 := (nI_lei (by omega) (by omega)).mp c
      rw [List.drop_eq_nil_of_le (by omega)] at a3
      exact a3
    · have c2 : m < (τ.1 v1).length := Nat.lt_of_not_le (mt (nI_lei (by omega) (by omega)).mpr c)
      rw [drop_cons c2, sealG_c] at a3
      exact ok_ev (rw_read hr c2) (ok_ev (v := (τ.1 v1).getD m 0 / 100) rfl (ok_nme fun y hy => ok_nme fun y2 hy2 => hk _ c2 ⟨rfl, by rw [hy2]; exact nI_suc (by omega), by rw [hy]; exact a3⟩))
  obtain ⟨r, e, hr⟩ := key
  rw [e, hr]
def tval (xs : List Int32) (w : Nat) : Int32 := if w = 0 then nI xs.length else if w = 1 then (if xs.length = 0 then 1 else 0) else if w = 2 then sumG xs 0 else sealG xs 1
theorem cl_factTrack (h : RX σ τ) {x : Int32} {j w : Nat} (hj : j < 2) (hx : x = 0 ∧ j = 0 ∨ x = 1 ∧ j = 1) (hw : w < 4) : f_X3_factOfTrack σ x (nI w) = some (tval (τ.1 j) w) := by
  have hr := h.row (i := j) (by omega)
  unfold f_X3_factOfTrack tval
  rw [trackOf_ok hx, bsm]
  by_cases d0 : w = 0
  · rw [if_pos (congrArg nI d0), if_pos d0, rw_size hr]; rfl
  · rw [if_neg (nI_ne (b := 0) (by omega) (by omega) d0), if_neg d0]
    by_cases d1 : w = 1
    · rw [if_pos (congrArg nI d1), if_pos d1, rw_isEmpty hr, bsm]
      unfold f_X3_oneIf
      by_cases c : (τ.1 j).length = 0
      · rw [if_pos c]; rfl
      · rw [if_neg c]; rfl
    · rw [if_neg (nI_ne (b := 1) (by omega) (by omega) d1), if_neg d1]
      by_cases d2 : w = 2
      · rw [if_pos (congrArg nI d2), if_pos d2, cl_sum h (by omega)]; rfl
      · rw [if_neg (nI_ne (b := 2) (by omega) (by omega) d2), if_neg d2, cl_seal h (by omega)]; rfl
theorem mo_told {x : Int32} {j w : Nat} (hl : (τ.1 j).length ≤ 20) (hx : x = 0 ∧ j = 0 ∨ x = 1 ∧ j = 1) (hw : w < 4) : f_X6_trackTold τ x (nI w) = some (tval (τ.1 j) w, τ) := by
  obtain ⟨y0, y1, y2, y3, -⟩ := z04
  have hg := gtr_x hx
  have key : Ok (f_X6_trackTold τ x (nI w)) fun r => r = (tval (τ.1 j) w, τ) := by
    unfold f_X6_trackTold
    refine up24 (fun m t => t.1 = x ∧ t.2.1 = nI w ∧ t.2.2.2.2 = nI m ∧ sumG ((τ.1 j).drop m) t.2.2.1 = sumG (τ.1 j) 0 ∧ sealG ((τ.1 j).drop m) t.2.2.2.1 = sealG (τ.1 j) 1) (τ.1 j).length (by omega) ?_ ⟨rfl, rfl, rfl, rfl, rfl⟩
    rintro kk ⟨v1, v2, v3, v4, v5⟩ m hm ⟨a1, a2, a3, a4, a5⟩ hk
    dsimp only at a1 a2 a3 a4 a5
    subst a1 a2 a3
    unfold f_X6_trackTold_8
    dsimp only
    refine ok_ev (sizeN hg) (ok_if (fun c => ?_) fun c => ?_)
    · have c2 := (nI_lei (by omega) (by omega)).mp c
      rw [List.drop_eq_nil_of_le (by omega)] at a4 a5
      have a4 : v3 = sumG (τ.1 j) 0 := a4
      have a5 : v4 = sealG (τ.1 j) 1 := a5
      have m81 : ∀ (g : Nat → Int32) (u : Int32), g 0 = nI (τ.1 j).length → u = (if (τ.1 j).length = 0 then (1 : Int32) else 0) → Ok (f_X6_trackTold_81 τ (nI w) v3 v4 4 g 1 u) fun r => r = (tval (τ.1 j) w, τ) := by
        intro g u h0 hu
        unfold f_X6_trackTold_81
        refine ok_ev (mo_one u) (ok_f (by decide) (ok_nme fun g1 h1 => ok_f (by decide) (ok_nme fun g2 h2 => ok_f (by decide) (ok_nme fun g3 h3 => ok_f (arr_iN hw (by omega)) (ok_some ?_)))))
        rw [y1] at h1
        rw [y2] at h2
        rw [y3] at h3
        rw [nI_c (by omega)]
        have q : g3 w = tval (τ.1 j) w := by
          rw [h3, h2, h1]
          unfold tval
          rw [upd_at, upd_at, upd_at]
          rcases (by omega : w = 0 ∨ w = 1 ∨ w = 2 ∨ w = 3) with e | e | e | e <;> subst e
          · exact h0
          · show (if u = 0 then (0 : Int32) else 1) = (if (τ.1 j).length = 0 then 1 else 0)
            rw [hu]
            split <;> rfl
          · exact a4
          · exact a5
        rw [q]
      refine ok_f (by decide) (ok_nme fun n hn => ok_nme fun g hg0 => ok_ev (sizeN hg) (ok_f (by rw [hn]; decide) (ok_nme fun g1 hg1 => ok_ev (sizeN hg) ?_)))
      have hn : n = 4 := hn
      subst hn
      rw [y0] at hg1
      have b0 : g1 0 = nI (τ.1 j).length := by rw [hg1]; rfl
      refine ok_if (fun d => m81 g1 1 b0 ?_) fun d => m81 g1 0 b0 ?_
      · rw [if_pos ((nI_eqz (by omega)).mp d)]
      · rw [if_neg (mt (nI_eqz (by omega)).mpr d)]
    · have c2 : m < (τ.1 j).length := Nat.lt_of_not_le (mt (nI_lei (by omega) (by omega)).mpr c)
      rw [drop_cons c2, sumG_c] at a4
      rw [drop_cons c2, sealG_c] at a5
      exact ok_ev (getN hg c2 hl) (ok_ev (v := jrem ((τ.1 j).getD m 0) 100) rfl (ok_nme fun u1 hu1 => ok_ev (getN hg c2 hl) (ok_ev (v := (τ.1 j).getD m 0 / 100) rfl (ok_nme fun u2 hu2 => ok_nme fun u3 hu3 => hk _ c2 ⟨rfl, rfl, by rw [hu3]; exact nI_suc (by omega), by rw [hu1]; exact a4, by rw [hu2]; exact a5⟩))))
  obtain ⟨r, e, hr⟩ := key
  rw [e, hr]
theorem ag_ofTrack (h : RX σ τ) (x1 x2 : Int32) : Ri (f_X3_ofTrack σ x1 x2) (f_X6_ofTrack τ x1 x2) (TN C2 σ) := by
  have h0 := h.thr 0
  unfold f_X3_ofTrack f_X6_ofTrack f_X6_ofTrack_34
  refine gd_track (fun j hj hx => ri_tR rfl (ri_eR (mo_isIn _ _ _) ?_)) (ri_fR ne10 (tn_l (h.thr 1) thr0))
  unfold f_X6_ofTrack_27 f_X6_ofTrack_34
  by_cases c : 0 ≤ x2 ∧ x2 ≤ 3
  · rw [if_pos c]
    obtain ⟨w, hw4, rfl⟩ := nIof (b := 3) (by omega) c.1 c.2
    exact ri_fR ne10 (ri_eR (mo_ref0 thr0 rfl) (ri_tR rfl (ri_obr (cl_within c) (ri_eL (cl_factTrack h hj hx (by omega)) (ri_eR (mo_told (len20 h0.1 hj) hx (by omega)) (tn_r h0 thr0 rfl))))))
  · rw [if_neg c]
    refine ri_tR rfl (ri_eR (mo_ref1 thr0 ne10 (by decide)) (ri_fR ne10 (ri_obl (cl_without c) ?_)))
    rw [thr_thr]
    exact tn_l (h.thr 2) thr0
end L3J
