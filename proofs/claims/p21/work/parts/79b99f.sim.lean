/-! level 3: a track turned round -/
section L3M
variable {σ : CS} {τ : MS}
theorem uu {α : Type} {f : Nat → α} {i : Nat} {a b : α} : va_up (va_up f i a) i b = va_up f i b := by
  funext k
  by_cases e : k = i
  · subst e; rw [up_eq, up_eq]
  · rw [up_ne e, up_ne e, up_ne e]
theorem us {α : Type} {f : Nat → α} {i : Nat} : va_up f i (f i) = f := by
  funext k
  by_cases e : k = i
  · subst e; rw [up_eq]
  · rw [up_ne e]
theorem getD_set {xs : List Int32} {a q : Nat} {v : Int32} : (xs.set a v).getD q 0 = if a = q ∧ a < xs.length then v else xs.getD q 0 := by
  rw [List.getD_eq_getElem?_getD, List.getD_eq_getElem?_getD, List.getElem?_set]
  by_cases e : a = q
  · subst e
    by_cases c : a < xs.length
    · rw [if_pos rfl, if_pos c, if_pos ⟨rfl, c⟩]; rfl
    · rw [if_pos rfl, if_neg c, if_neg (fun g => c g.2), List.getElem?_eq_none (by omega)]
  · rw [if_neg e, if_neg (fun g => e g.1)]
theorem list_ext0 {xs ys : List Int32} (h : xs.length = ys.length) (h2 : ∀ q, q < xs.length → xs.getD q 0 = ys.getD q 0) : xs = ys := by
  apply List.ext_getElem h
  intro q h3 h4
  have := h2 q h3
  rw [List.getD_eq_getElem?_getD, List.getD_eq_getElem?_getD, List.getElem?_eq_getElem h3, List.getElem?_eq_getElem h4] at this
  exact this
theorem getD_rev {xs : List Int32} {q : Nat} (h : q < xs.length) : xs.reverse.getD q 0 = xs.getD (xs.length - 1 - q) 0 := by
  rw [List.getD_eq_getElem?_getD, List.getD_eq_getElem?_getD, List.getElem?_reverse h]
theorem del_mid (A : List Int32) (v : Int32) (B : List Int32) : delAt (A ++ v :: B) A.length = A ++ B := by
  induction A with
  | nil => rfl
  | cons a A ih =>
    show a :: delAt (A ++ v :: B) A.length = a :: (A ++ B)
    rw [ih]
theorem get_mid (A : List Int32) (v : Int32) (B : List Int32) : (A ++ v :: B).getD A.length 0 = v := by
  induction A with
  | nil => rfl
  | cons a A ih => exact ih
theorem take_snoc {xs : List Int32} {m : Nat} (h : m < xs.length) : xs.take (m + 1) = xs.take m ++ [xs.getD m 0] := by
  rw [List.take_add_one, List.getD_eq_getElem?_getD, List.getElem?_eq_getElem h]
  rfl
def zs (xs : List Int32) (m : Nat) : List Int32 := (xs.take m).reverse ++ xs.drop m
theorem zs_1 {xs : List Int32} (h : 1 ≤ xs.length) : zs xs 1 = xs := by
  cases xs with
  | nil => exact absurd h (by decide)
  | cons a r => rfl
theorem zs_n {xs : List Int32} : zs xs xs.length = xs.reverse := by
  unfold zs
  rw [List.take_length, List.drop_eq_nil_of_le (Nat.le_refl _), List.append_nil]
theorem zs_len {xs : List Int32} {m : Nat} (h : m ≤ xs.length) : (zs xs m).length = xs.length := by
  unfold zs
  rw [List.length_append, List.length_reverse, List.length_take, List.length_drop]
  omega
theorem zs_s {xs : List Int32} {m : Nat} (h : m < xs.length) : (zs xs m).getD m 0 = xs.getD m 0 ∧ insAt (delAt (zs xs m) m) 0 (xs.getD m 0) = zs xs (m + 1) := by
  have hA : (xs.take m).reverse.length = m := by
    rw [List.length_reverse, List.length_take]; omega
  have g := get_mid (xs.take m).reverse (xs.getD m 0) (xs.drop (m + 1))
  have d := del_mid (xs.take m).reverse (xs.getD m 0) (xs.drop (m + 1))
  rw [hA, ← drop_cons h] at g d
  refine ⟨g, ?_⟩
  show xs.getD m 0 :: delAt (zs xs m) m = _
  have d : delAt (zs xs m) m = (xs.take m).reverse ++ xs.drop (m + 1) := d
  rw [d]
  unfold zs
  rw [take_snoc h, List.reverse_append]
  rfl
theorem codeEnd0 {x : Int32} {j : Nat} {ys : List Int32} (hx : x = 0 ∧ j = 0 ∨ x = 1 ∧ j = 1) (hr : RW j (σ.1 j) ys) (hl : 0 < ys.length) : f_X3_codeAtEnd σ x 0 = some (ys.getD 0 0) := by
  unfold f_X3_codeAtEnd
  have e : f_X0_read (cap j) (σ.1 j) 0 = some (ys.getD 0 0) := rw_read hr (j := 0) hl
  rw [trackOf_ok hx, bsm, rw_endPlace hr 0, bsm, if_pos rfl, if_neg (by omega), e]
  rfl
theorem cl_turn {x : Int32} {j : Nat} {xs : List Int32} (hj : j < 2) (hx : x = 0 ∧ j = 0 ∨ x = 1 ∧ j = 1) (hr : RW j (σ.1 j) xs) (hn : 1 ≤ xs.length) : Ok (lpn f_X3_turn_20 64 (σ, x, j, 0, nI xs.length - 1)) fun r => ∃ s ρ, r = .inr (xs.reverse.getD 0 0, s) ∧ RW j ρ xs.reverse ∧ DS j (va_up (va_up σ.1 j ρ) 2 ((va_up σ.1 j ρ 2).1, 0), σ.2) s := by
  have hl := hr.len
  refine up_loop (fun k t => 2 * k ≤ xs.length ∧ ∃ ρ ys, t = ((va_up σ.1 j ρ, σ.2), x, j, nI k, nI (xs.length - k) - 1) ∧ RW j ρ ys ∧ ys.length = xs.length ∧ ∀ q, q < xs.length → ys.getD q 0 = if q < k ∨ xs.length - k ≤ q then xs.getD (xs.length - 1 - q) 0 else xs.getD q 0) xs.length ?_ xs.length 0 _ (by omega) ⟨by omega, σ.1 j, xs, by rw [us]; rfl, hr, rfl, fun q hq => by rw [if_neg (by omega)]⟩ 64 (by omega)
  rintro kk _ k hk2 ⟨h2k, ρ, ys, rfl, hρ, hy, hv⟩ hk
  unfold f_X3_turn_20
  dsimp only
  rw [nI_prd (by omega) (by omega)]
  have hρ2 : RW j (va_up σ.1 j ρ j) ys := by rw [up_eq]; exact hρ
  refine ok_if (fun c => ?_) fun c => ?_
  · have c2 := (nI_lei (by omega) (by omega)).mp c
    have ey : ys = xs.reverse := by
      refine list_ext0 (by rw [hy, List.length_reverse]) fun q hq => ?_
      rw [hv q (by omega), getD_rev (by omega)]
      by_cases d : q < k ∨ xs.length - k ≤ q
      · rw [if_pos d]
      · rw [if_neg d, show xs.length - 1 - q = q by omega]
    have et : f_X3_tearIfAny (va_up σ.1 j ρ, σ.2) x (nI ys.length) = (f_X3_tearFor (va_up σ.1 j ρ, σ.2) x).bind fun z => some z := by
      unfold f_X3_tearIfAny
      rw [if_neg (show ¬ nI ys.length ≤ (0 : Int32) from mt (nI_lei (a := ys.length) (b := 0) (by omega) (by omega)).mp (by omega))]
    refine ok_ev (rw_size hρ2) ?_
    rw [et]
    refine ok_bind (ok_bind (cl_tearFor hx) fun s hs => ok_some (Q := fun s => DS j (va_up (va_up σ.1 j ρ) 2 ((va_up σ.1 j ρ 2).1, 0), σ.2) s) hs) fun s hs => ?_
    have hs1 : s.1 j = ρ := by
      rw [hs.1]
      show va_up (va_up σ.1 j ρ) 2 _ j = ρ
      rw [up_ne (by omega), up_eq]
    refine ok_ev (codeEnd0 (ys := ys) hx (by rw [hs1]; exact hρ) (by omega)) (ok_some ⟨s, ρ, by rw [ey], by rw [← ey]; exact hρ, hs⟩)
  · have c2 : k < xs.length - k - 1 := Nat.lt_of_not_le (mt (nI_lei (by omega) (by omega)).mpr c)
    refine ok_ev (rw_read hρ2 (by omega)) (ok_ev (rw_read hρ2 (by omega)) (ok_bind (rw_overwrite hρ2 (v := ys.getD (xs.length - k - 1) 0) (by omega)) fun z hz => ok_nme fun t1 e1 => ?_))
    have hz2 : RW j (t1.1 j) (ys.set k (ys.getD (xs.length - k - 1) 0)) := by
      rw [e1]
      show RW j (va_up (va_up σ.1 j ρ) j z j) _
      rw [up_eq]; exact hz
    refine ok_bind (rw_overwrite hz2 (v := ys.getD k 0) (j := xs.length - k - 1) (by rw [List.length_set]; omega)) fun w hw => ok_nme fun t2 e2 => ok_nme fun y1 f1 => ok_nme fun y2 f2 => hk _ (by omega) ⟨by omega, w, _, ?_, hw, ?_, fun q hq => ?_⟩
    · rw [e2, e1, f1, f2, nI_suc (by omega), show xs.length - (k + 1) = xs.length - k - 1 by omega, am1]
      show ((va_up (va_up (va_up σ.1 j ρ) j z) j w, σ.2), x, j, nI (k + 1), _) = _
      rw [uu, uu]
    · rw [List.length_set, List.length_set, hy]
    · rw [getD_set, getD_set, List.length_set]
      by_cases d1 : xs.length - k - 1 = q
      · rw [if_pos ⟨d1, by omega⟩, hv k (by omega), if_neg (by omega), if_pos (by omega), show xs.length - 1 - q = k by omega]
      · rw [if_neg (fun g => d1 g.1)]
        by_cases d2 : k = q
        · rw [if_pos ⟨d2, by omega⟩, hv _ (by omega), if_neg (by omega), if_pos (by omega), show xs.length - 1 - q = xs.length - k - 1 by omega]
        · rw [if_neg (fun g => d2 g.1), hv q hq]
          by_cases d3 : q < k ∨ xs.length - k ≤ q
          · rw [if_pos d3, if_pos (by omega)]
          · rw [if_neg d3, if_neg (by omega)]
theorem mo_turn {x : Int32} {j : Nat} (hl : (τ.1 j).length ≤ 20) (hj : j < 2) (hx : x = 0 ∧ j = 0 ∨ x = 1 ∧ j = 1) (hn : 1 ≤ (τ.1 j).length) : Ok (lpn f_X6_turn_28 24 (τ, x, nI (τ.1 j).length, 1)) fun r => ∃ t1, r = ((τ.1 j).reverse.getD 0 0, (va_up t1.1 2 [], t1.2)) ∧ DM j (va_up τ.1 j (τ.1 j).reverse, τ.2) t1 := by
  have hg := gtr_x hx
  refine up24 (fun m t => t = ((va_up τ.1 j (zs (τ.1 j) (m + 1)), τ.2), x, nI (τ.1 j).length, nI (m + 1))) ((τ.1 j).length - 1) (by omega) ?_ (by rw [zs_1 hn, us]; rfl)
  rintro kk _ m hm rfl hk
  unfold f_X6_turn_28
  dsimp only
  refine ok_if (fun c => ?_) fun c => ?_
  · have c2 := (nI_lei (by omega) (by omega)).mp c
    have e : m + 1 = (τ.1 j).length := by omega
    rw [e, zs_n]
    refine ok_bind (mo_chg hx) fun t1 ht => ok_ev mo_tear ?_
    have hl2 : va_up t1.1 2 [] j = (τ.1 j).reverse := by
      rw [up_ne (by omega), ht.1]
      show va_up τ.1 j _ j = _
      rw [up_eq]
    have eg : f_X6_get (va_up t1.1 2 [], t1.2) x 0 = some ((τ.1 j).reverse.getD 0 0) := by
      have := getN (τ := (va_up t1.1 2 [], t1.2)) (x := x) (j := j) (i := 0) hg (by
        show 0 < (va_up t1.1 2 [] j).length
        rw [hl2, List.length_reverse]; exact hn) (by
        show (va_up t1.1 2 [] j).length ≤ 20
        rw [hl2, List.length_reverse]; exact hl)
      have e2 : (va_up t1.1 2 [], t1.2).1 j = (τ.1 j).reverse := hl2
      rw [e2] at this
      exact this
    exact ok_ev eg (ok_some ⟨t1, rfl, ht⟩)
  · have c2 : m + 1 < (τ.1 j).length := Nat.lt_of_not_le (mt (nI_lei (by omega) (by omega)).mpr c)
    have hz := zs_s c2
    have lz := zs_len (xs := τ.1 j) (m := m + 1) (by omega)
    have ed : ldel (va_up τ.1 j (zs (τ.1 j) (m + 1)) j) (nI (m + 1)) = some (delAt (zs (τ.1 j) (m + 1)) (m + 1)) := by
      rw [up_eq]
      exact ldelN (by omega) (by omega)
    refine ok_ev hg (ok_ev hg (ok_ev ed (ok_nme fun t1 e1 => ?_)))
    have l1 : t1.1 j = delAt (zs (τ.1 j) (m + 1)) (m + 1) := by
      rw [e1]
      show va_up _ j _ j = _
      rw [up_eq]
    have ei : lins (t1.1 j) 0 (((va_up τ.1 j (zs (τ.1 j) (m + 1)) j).getD (nI (m + 1)).toNatClampNeg 0)) = some (zs (τ.1 j) (m + 1 + 1)) := by
      rw [l1, up_eq, nI_c (by omega), hz.1, ← hz.2]
      exact linsN (i := 0) (by omega) (by rw [delAt_len (by omega)]; omega)
    refine ok_ev ei (ok_nme fun t2 e2 => ok_nme fun y hy => hk _ (by omega) ?_)
    rw [e2, e1, hy, nI_suc (by omega)]
    show ((va_up (va_up (va_up τ.1 j _) j _) j _, τ.2), x, _, _) = _
    rw [uu, uu]
theorem ag_turn (h : RX σ τ) (x1 : Int32) : Ri (f_X3_turn σ x1) (f_X6_turn τ x1) (TQ C1 σ) := by
  unfold f_X3_turn f_X6_turn
  refine gd_track (fun j hj hx => ri_tR rfl ?_) (ri_fR ne10 (tq_l (h.thr 1) thr0))
  have h0 := h.thr 0
  have hr := h.row (i := j) (by omega)
  have hl := hr.len
  refine ri_eL (trackOf_ok hx) (ri_eL (rw_size hr) (ri_nL fun y hy => ri_eR (sizeN (gtr_x hx)) ?_))
  subst hy
  by_cases c : (τ.1 j).length = 0
  · refine ri_tR ((nI_eqz (a := (τ.1 j).length) (by omega)).mpr c) ?_
    show Ri (f_X3_turn_20 (lpn f_X3_turn_20 63) (σ, x1, j, 0, nI (τ.1 j).length - 1)) _ _
    unfold f_X3_turn_20
    dsimp only
    have et : f_X3_tearIfAny σ x1 (nI (τ.1 j).length) = some σ := by
      unfold f_X3_tearIfAny
      rw [c, if_pos (by decide)]
    have ec : f_X3_codeAtEnd σ x1 0 = some 0 := by rw [codeAtEnd_ok h hj hx 0, if_pos c]
    exact ri_tL (by rw [c]; decide) (ri_eL (rw_size hr) (ri_eL et (ri_eL ec (tq_r h0 thr0 rfl))))
  · refine ri_fR (mt (nI_eqz (a := (τ.1 j).length) (by omega)).mp c) ?_
    intro r2 e2
    obtain ⟨t1, er, ht⟩ := ok_val (mo_turn (τ := thr τ 0) (len20 h0.1 hj) hj hx (show 1 ≤ (τ.1 j).length by omega)) e2
    refine ok_mono (cl_turn hj hx hr (by omega)) fun r hr2 => ?_
    obtain ⟨s, ρ, es, hρ, hs⟩ := hr2
    have te := tear_rx (τ := thr τ 0) h0 hj hρ (h0.1.2.2.2.track hj fun v hv => h0.1.2.2.2.tv hj (List.mem_reverse.mp hv)) hs ht
    have key := tq_r (C := C1) (σ := σ) (u := (τ.1 j).reverse.getD 0 0) te.1 (te.2.1.trans thr0) rfl r2 (by rw [er]; rfl)
    obtain ⟨w, ew, hw⟩ := key
    rw [es, Option.some.inj ew]
    exact hw
end L3M
