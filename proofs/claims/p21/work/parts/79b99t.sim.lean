/-! level 3: what isSound tells, on the class's side -/
section L4A
variable {σ : CS} {τ : MS}
theorem sl_num {v : Nat} (hv : v < 8000) : jrem (nI v / 1000) 2 = nI (v / 1000 % 2) ∧ jrem (nI v / 2000) 2 = nI (v / 2000 % 2) ∧ jrem (nI v) 1000 = nI (v % 1000) ∧ nI v / 4000 = nI (v / 4000) := by
  refine ⟨?_, ?_, jrN (b := 1000) (by omega) (by omega), nI_div (b := 4000) (by omega) (by omega)⟩
  · rw [show nI v / 1000 = nI (v / 1000) from nI_div (b := 1000) (by omega) (by omega)]
    exact jrN (b := 2) (by omega) (by omega)
  · rw [show nI v / 2000 = nI (v / 2000) from nI_div (b := 2000) (by omega) (by omega)]
    exact jrN (b := 2) (by omega) (by omega)
theorem cl_undoneOn {u0 v : Nat} {xs : List Int32} (hv : v < 8000) (h20 : cap u0 = 20) (hr : RW u0 (σ.1 u0) xs) : Ok (f_X3_isUndoneOn σ u0 (nI v)) fun r => (unT v xs = none ∧ r.1 = 0) ∨ ∃ ys, unT v xs = some ys ∧ r.1 = 1 ∧ RW u0 (r.2.1 u0) ys ∧ (∀ i, i ≠ u0 → r.2.1 i = σ.1 i) := by
  obtain ⟨n1, n2, n3, -⟩ := sl_num hv
  have hl := hr.len
  have eb : f_X3_slipIsBack (nI v) = some (if v / 2000 % 2 = 1 then 1 else 0) := by
    unfold f_X3_slipIsBack
    rw [n2]
    by_cases c : v / 2000 % 2 = 1
    · rw [if_pos (by rw [c]; rfl), if_pos c]
    · rw [if_neg (show ¬ nI (v / 2000 % 2) = (1 : Int32) from mt (nI_eqi (b := 1) (by omega) (by omega)).mp c), if_neg c]
  have ep : f_X3_slipIsPut (nI v) = some (if v / 1000 % 2 = 1 then 1 else 0) := by
    unfold f_X3_slipIsPut
    rw [n1]
    by_cases c : v / 1000 % 2 = 1
    · rw [if_pos (by rw [c]; rfl), if_pos c]
    · rw [if_neg (show ¬ nI (v / 1000 % 2) = (1 : Int32) from mt (nI_eqi (b := 1) (by omega) (by omega)).mp c), if_neg c]
  unfold f_X3_isUndoneOn
  refine ok_ev eb (ok_ev ep ?_)
  by_cases c1 : v / 1000 % 2 = 1
  · rw [if_pos c1]
    refine ok_f ne10 (ok_ev (rw_isEmpty hr) ?_)
    by_cases c0 : xs.length = 0
    · rw [if_pos c0]
      exact ok_f ne10 (ok_some (Or.inl ⟨unT_e c1 c0, rfl⟩))
    · rw [if_neg c0]
      refine ok_t rfl ?_
      have main : ∀ q, q < xs.length → (unT v xs = if xs.getD q 0 = nI (v % 1000) then some (delAt xs q) else none) → f_X0_endPlace (cap u0) (σ.1 u0) (if v / 2000 % 2 = 1 then 1 else 0) = some (nI q) → Ok ((f_X0_endPlace (cap u0) (σ.1 u0) (if v / 2000 % 2 = 1 then 1 else 0)).bind fun z41 => (f_X0_leave (cap u0) (σ.1 u0) z41).bind fun z46 => nm ((va_up σ.1 u0 z46.2, σ.2) : CS) fun t51 => (f_X3_slipCode (nI v)).bind fun z52 => (if z46.1 = z52 then some ((1 : Int32), t51) else some (0, t51))) fun r => (unT v xs = none ∧ r.1 = 0) ∨ ∃ ys, unT v xs = some ys ∧ r.1 = 1 ∧ RW u0 (r.2.1 u0) ys ∧ (∀ i, i ≠ u0 → r.2.1 i = σ.1 i) := by
        intro q hq hu he
        refine ok_ev he (ok_bind (rw_leave hr hq) fun z hz => ok_nme fun t ht => ok_ev (v := nI (v % 1000)) (by unfold f_X3_slipCode; rw [n3]) ?_)
        by_cases ce : xs.getD q 0 = nI (v % 1000)
        · rw [if_pos ce] at hu
          refine ok_t (hz.1.trans ce) (ok_some (Or.inr ⟨_, hu, rfl, ?_, fun i hi => ?_⟩))
          · rw [ht]
            show RW u0 (va_up σ.1 u0 z.2 u0) _
            rw [up_eq]; exact hz.2
          · rw [ht]; exact up_ne hi
        · rw [if_neg ce] at hu
          exact ok_f (fun q => ce (hz.1.symm.trans q)) (ok_some (Or.inl ⟨hu, rfl⟩))
      have hend := rw_endPlace hr (if v / 2000 % 2 = 1 then 1 else 0)
      by_cases c2 : v / 2000 % 2 = 1
      · refine main (xs.length - 1) (by omega) (unT_d1 c1 c0 c2) ?_
        rw [hend, if_pos c2, if_neg ne10, nI_prd (by omega) (by omega)]
      · refine main 0 (by omega) (unT_d0 c1 c0 c2) ?_
        rw [hend, if_neg c2, if_pos rfl, if_neg c0]
        rfl
  · rw [if_neg c1]
    have eF : f_X0_isFull (cap u0) (σ.1 u0) = some (if xs.length < 20 then 0 else 1) := by rw [rw_isFull hr, h20]
    refine ok_t rfl (ok_ev eF ?_)
    have main : ∀ q, q ≤ xs.length → (unT v xs = if xs.length < 20 then some (insAt xs q (nI (v % 1000))) else none) → xs.length < 20 → Ok (f_X3_isUndoneOn_63 σ (nI v) u0 (nI q)) fun r => (unT v xs = none ∧ r.1 = 0) ∨ ∃ ys, unT v xs = some ys ∧ r.1 = 1 ∧ RW u0 (r.2.1 u0) ys ∧ (∀ i, i ≠ u0 → r.2.1 i = σ.1 i) := by
      intro q hq hu h2
      rw [if_pos h2] at hu
      unfold f_X3_isUndoneOn_63
      refine ok_ev (v := nI (v % 1000)) (by unfold f_X3_slipCode; rw [n3]) (ok_bind (rw_enter hr hq (by rw [h20]; exact h2)) fun z hz => ok_nme fun t ht => ok_some (Or.inr ⟨_, hu, rfl, ?_, fun i hi => ?_⟩))
      · rw [ht]
        show RW u0 (va_up σ.1 u0 z u0) _
        rw [up_eq]; exact hz
      · rw [ht]; exact up_ne hi
    by_cases c20 : xs.length < 20
    · rw [if_pos c20]
      refine ok_t rfl ?_
      by_cases c2 : v / 2000 % 2 = 1
      · rw [if_pos c2]
        exact ok_f ne10 (ok_ev (rw_size hr) (main _ (Nat.le_refl _) (unT_a1 c1 c2) c20))
      · rw [if_neg c2]
        exact ok_t rfl (main 0 (Nat.zero_le _) (unT_a0 c1 c2) c20)
    · rw [if_neg c20]
      refine ok_f ne10 (ok_some (Or.inl ⟨?_, rfl⟩))
      by_cases c2 : v / 2000 % 2 = 1
      · rw [unT_a1 c1 c2, if_neg c20]
      · rw [unT_a0 c1 c2, if_neg c20]
theorem cl_copy {x1 x2 : Nat} {xs : List Int32} (hne : x2 ≠ x1) (hc : cap x1 = 20) (hr : RW x2 (σ.1 x2) xs) : Ok (f_X0_copyFrom σ x1 x2) fun r => RW x1 (r.1 x1) xs ∧ ∀ i, i ≠ x1 → r.1 i = σ.1 i := by
  have hl := hr.len
  unfold f_X0_copyFrom
  refine ok_ev (v := ((σ.1 x1).1, 0)) rfl (ok_nme fun t0 h0 => ?_)
  refine up_loop (fun m t => ∃ w : CS, t = (w, x1, x2, nI m) ∧ RW x1 (w.1 x1) (xs.take m) ∧ ∀ i, i ≠ x1 → w.1 i = σ.1 i) xs.length ?_ xs.length 0 _ (by omega) ⟨t0, rfl, ?_, fun i hi => ?_⟩ 64 (by omega)
  · rintro kk _ m hm ⟨w, rfl, hw, ho⟩ hk
    unfold f_X0_copyFrom_6
    dsimp only
    have hr2 : RW x2 (w.1 x2) xs := by rw [ho x2 hne]; exact hr
    refine ok_ev (rw_size hr2) (ok_if (fun c => ?_) fun c => ?_)
    · have c2 := (nI_lei (by omega) (by omega)).mp c
      rw [List.take_of_length_le (by omega)] at hw
      exact ok_some ⟨hw, ho⟩
    · have c2 : m < xs.length := Nat.lt_of_not_le (mt (nI_lei (by omega) (by omega)).mpr c)
      refine ok_ev (rw_read hr2 c2) (ok_bind (rw_enterLast hw (v := xs.getD m 0) (by rw [hc, List.length_take]; omega)) fun z hz => ok_nme fun t ht => ok_nme fun y hy => hk _ c2 ⟨t, by rw [hy, nI_suc (by omega)], ?_, fun i hi => ?_⟩)
      · rw [ht, take_snoc c2]
        show RW x1 (va_up w.1 x1 z x1) _
        rw [up_eq]; exact hz
      · rw [ht]
        show va_up w.1 x1 z i = _
        rw [up_ne hi]; exact ho i hi
  · rw [h0]
    show RW x1 (va_up σ.1 x1 ((σ.1 x1).1, 0) x1) (xs.take 0)
    rw [up_eq]; exact rw_empty
  · rw [h0]
    exact up_ne hi
theorem svN_of {xs : List Int32} {j v : Nat} (hv : v < 8000) (h : xs.getD j 0 = nI v) : svN xs j = v := by
  unfold svN
  rw [h, nI_c (by omega)]
theorem cl_paper (h : RX σ τ) (hs : ∀ j, j < (τ.1 2).length → ∃ v, v < 8000 ∧ (τ.1 2).getD j 0 = nI v) : Ok (f_X3_isUndoneOnPaper σ) fun r => r.1 = ub (unR (svN (τ.1 2)) (τ.1 2).length τ.1) := by
  have hr2 := h.row (i := 2) (by omega)
  have hl := hr2.2.1
  have c2 : cap 2 = 12 := rfl
  have key : ∀ (r f : Nat) (w : CS) (b : Nat → List Int32), r < f → r ≤ (τ.1 2).length → RW 2 (w.1 2) (τ.1 2) → RW 4 (w.1 4) (b 0) → RW 5 (w.1 5) (b 1) → Ok (lpn f_X3_isUndoneOnPaper_32 f (w, nI r - 1)) fun x => x.1 = ub (unR (svN (τ.1 2)) r b) := by
    intro r
    induction r with
    | zero =>
      intro f w b hf _ _ _ _
      obtain ⟨f', rfl⟩ : ∃ f', f = f' + 1 := ⟨f - 1, by omega⟩
      show Ok (f_X3_isUndoneOnPaper_32 (lpn f_X3_isUndoneOnPaper_32 f') (w, nI 0 - 1)) _
      unfold f_X3_isUndoneOnPaper_32
      dsimp only
      exact ok_t (show nI 0 - 1 < (0 : Int32) by decide) (ok_some rfl)
    | succ r ih =>
      intro f w b hf hle w2 w4 w5
      obtain ⟨f', rfl⟩ : ∃ f', f = f' + 1 := ⟨f - 1, by omega⟩
      show Ok (f_X3_isUndoneOnPaper_32 (lpn f_X3_isUndoneOnPaper_32 f') (w, nI (r + 1) - 1)) _
      rw [nI_dec (by omega)]
      unfold f_X3_isUndoneOnPaper_32
      dsimp only
      obtain ⟨v, hv, ev⟩ := hs r (by omega)
      have esv := svN_of hv ev
      have er := rw_read w2 (j := r) (by omega)
      rw [ev] at er
      refine ok_f (nI_nn (by omega)) (ok_ev er (ok_ev (v := nI (v / 4000)) (by unfold f_X3_slipTrack; rw [(sl_num hv).2.2.2]) ?_))
      have go : ∀ (u j : Nat), u = 4 + j → j = v / 4000 → j < 2 → Ok (f_X3_isUndoneOnPaper_63 (lpn f_X3_isUndoneOnPaper_32 f') w (nI r) (nI v) u) fun x => x.1 = ub (unR (svN (τ.1 2)) (r + 1) b) := by
        intro u j hu hj hj2
        have hru : RW u (w.1 u) (b j) := by
          rcases (by omega : j = 0 ∨ j = 1) with e | e <;> subst e <;> subst hu
          · exact w4
          · exact w5
        have hcu : cap u = 20 := by
          rcases (by omega : u = 4 ∨ u = 5) with e | e <;> subst e <;> rfl
        unfold f_X3_isUndoneOnPaper_63
        refine ok_bind (cl_undoneOn hv hcu hru) fun z hz => ?_
        rcases hz with ⟨a1, a2⟩ | ⟨ys, a1, a2, a3, a4⟩
        · refine ok_t a2 (ok_some ?_)
          rw [unR_n esv (by rw [← hj]; exact a1)]
          rfl
        · refine ok_f (by rw [a2]; exact ne10) (ok_nme fun y hy => ?_)
          rw [hy, am1, unR_s esv (by rw [← hj]; exact a1)]
          refine ih f' z.2 _ (by omega) (by omega) (by rw [a4 2 (by omega)]; exact w2) ?_ ?_
          · by_cases e : j = 0
            · rw [← hj, e, up_eq]
              rw [hu, e] at a3
              exact a3
            · rw [← hj, up_ne (by omega), a4 4 (by omega)]; exact w4
          · by_cases e : j = 1
            · rw [← hj, e, up_eq]
              rw [hu, e] at a3
              exact a3
            · rw [← hj, up_ne (by omega), a4 5 (by omega)]; exact w5
      refine ok_if (fun c => ?_) fun c => ?_
      · have c2 := (nI_eqz (a := v / 4000) (by omega)).mp c
        exact go 4 0 rfl c2.symm (by omega)
      · have c2 := mt (nI_eqz (a := v / 4000) (by omega)).mpr c
        exact go 5 1 rfl (by omega) (by omega)
  unfold f_X3_isUndoneOnPaper
  refine ok_bind (cl_copy (x1 := 4) (x2 := 0) (by omega) rfl (h.row (i := 0) (by omega))) fun z1 h1 => ok_bind (cl_copy (σ := z1) (x1 := 5) (x2 := 1) (xs := τ.1 1) (by omega) rfl (by rw [h1.2 1 (by omega)]; exact h.row (by omega))) fun z2 h2 => ?_
  have q2 : RW 2 (z2.1 2) (τ.1 2) := by rw [h2.2 2 (by omega), h1.2 2 (by omega)]; exact hr2
  refine ok_ev (rw_size q2) (ok_nme fun y hy => ?_)
  rw [hy]
  exact key _ 64 z2 τ.1 (by omega) (Nat.le_refl _) q2 (by rw [h2.2 4 (by omega)]; exact h1.1) h2.1
/-! what is looked for -/
theorem fnG_none (t : Int32 → Bool) (last : Int32) : ∀ (xs : List Int32) (m : Nat) (pl : Int32), (∀ v ∈ xs, ¬ t v = true) → fnG t last xs m pl = pl := by
  intro xs
  induction xs with
  | nil => intro m pl _; rfl
  | cons v r ih =>
    intro m pl h
    rw [fnG_cons, if_neg (h v List.mem_cons_self)]
    exact ih _ _ fun w hw => h w (List.mem_cons_of_mem _ hw)
theorem fnG_stay (t : Int32 → Bool) : ∀ (xs : List Int32) (m q : Nat), m + xs.length < 100 → q < 100 → fnG t 0 xs m (nI q) = nI q := by
  intro xs
  induction xs with
  | nil => intro m q _ _; rfl
  | cons v r ih =>
    intro m q hm hq
    rw [List.length_cons] at hm
    rw [fnG_cons, if_pos (show (0 : Int32) = 0 from rfl)]
    have e : (if t v = true then (if nI q = -1 then nI m else nI q) else nI q) = nI q := by
      split
      · rw [if_neg]
        intro e
        have h1 := nI_nn (a := q) (by omega)
        rw [e] at h1
        exact h1 (by decide)
      · rfl
    rw [e]
    exact ih (m + 1) q (by omega) hq
theorem fnG_first (t : Int32 → Bool) : ∀ (xs : List Int32) (m k : Nat), m + xs.length < 100 → k < xs.length → t (xs.getD k 0) = true → ∃ q, q ≤ m + k ∧ fnG t 0 xs m (-1) = nI q := by
  intro xs
  induction xs with
  | nil => intro m k _ hk; exact absurd hk (Nat.not_lt_zero k)
  | cons v r ih =>
    intro m k hm hk ht
    rw [List.length_cons] at hm hk
    rw [fnG_cons, if_pos (show (0 : Int32) = 0 from rfl), if_pos (show (-1 : Int32) = -1 from rfl)]
    by_cases c : t v = true
    · rw [if_pos c]
      exact ⟨m, by omega, fnG_stay t r (m + 1) m (by omega) (by omega)⟩
    · rw [if_neg c]
      cases k with
      | zero => exact absurd ht c
      | succ k =>
        obtain ⟨q, h1, h2⟩ := ih (m + 1) k (by omega) (by omega) ht
        exact ⟨q, by omega, h2⟩
theorem fnG_last (t : Int32 → Bool) : ∀ (xs : List Int32) (m k : Nat) (pl : Int32), m + xs.length < 100 → k < xs.length → t (xs.getD k 0) = true → ∃ q, m + k ≤ q ∧ q < m + xs.length ∧ fnG t 1 xs m pl = nI q := by
  intro xs
  induction xs with
  | nil => intro m k pl _ hk; exact absurd hk (Nat.not_lt_zero k)
  | cons v r ih =>
    intro m k pl hm hk ht
    rw [List.length_cons] at hm hk ⊢
    rw [fnG_cons, if_neg ne10]
    by_cases hex : ∃ j, j < r.length ∧ t (r.getD j 0) = true ∧ k ≤ j + 1
    · obtain ⟨j, j1, j2, j3⟩ := hex
      obtain ⟨q, h1, h2, h3⟩ := ih (m + 1) j (if t v = true then nI m else pl) (by omega) j1 j2
      exact ⟨q, by omega, by omega, h3⟩
    · cases k with
      | zero =>
        have ht : t v = true := ht
        rw [if_pos ht, fnG_none t 1 r (m + 1) (nI m)]
        · exact ⟨m, by omega, by omega, rfl⟩
        · intro w hw hc
          obtain ⟨j, j1, j2⟩ := List.getElem_of_mem hw
          refine hex ⟨j, j1, ?_, by omega⟩
          rw [List.getD_eq_getElem?_getD, List.getElem?_eq_getElem j1]
          show t r[j] = true
          rw [j2]; exact hc
      | succ k => exact absurd ⟨k, by omega, ht, by omega⟩ hex
theorem cl_rowSound {i : Nat} {xs : List Int32} (hr : RW i (σ.1 i) xs) : f_X3_isRowSound σ i = some 1 := by
  have hl := hr.len
  have key : Ok (f_X3_isRowSound σ i) fun r => r = 1 := by
    unfold f_X3_isRowSound
    refine ok_ev (rw_size hr) (ok_f (nI_nn (by omega)) (ok_ev (rw_size hr) (ok_t ((nI_lei (b := 20) (by omega) (by omega)).mpr hl) ?_)))
    refine up_loop (fun m t => t = (i, nI m)) xs.length ?_ xs.length 0 _ (by omega) rfl 64 (by omega)
    rintro kk _ m hm rfl hk
    unfold f_X3_isRowSound_20
    dsimp only
    refine ok_ev (rw_size hr) (ok_if (fun c => ok_some rfl) fun c => ?_)
    have c2 : m < xs.length := Nat.lt_of_not_le (mt (nI_lei (by omega) (by omega)).mpr c)
    have e0 : f_X0_readFrom (cap i) (σ.1 i) 0 (nI m) = some (xs.getD m 0) := by
      unfold f_X0_readFrom f_X0_readFrom_17
      rw [if_pos (show (0 : Int32) = 0 from rfl), rw_read hr c2]; rfl
    have e1 : f_X0_readFrom (cap i) (σ.1 i) 1 (nI xs.length - 1 - nI m) = some (xs.getD m 0) := by
      unfold f_X0_readFrom f_X0_readFrom_17
      rw [if_neg ne10, hr.1, nI_prd (by omega) (by omega), nI_dif (by omega) (by omega), nI_dif (by omega) (by omega), show xs.length - 1 - (xs.length - 1 - m) = m by omega, rw_read hr c2]; rfl
    exact ok_ev e0 (ok_ev (rw_size hr) (ok_ev e1 (ok_t rfl (ok_nme fun y hy => hk _ c2 (by rw [hy, nI_suc (by omega)])))))
  obtain ⟨r, e, hr⟩ := key
  rw [e, hr]
theorem cl_lineFound (h : RX σ τ) : f_X3_isLineFound σ = some 1 := by
  have hr := h.row (i := 1) (by omega)
  have hl := len20 h.1 (j := 1) (by omega)
  have key : Ok (f_X3_isLineFound σ) fun r => r = 1 := by
    unfold f_X3_isLineFound
    refine up_loop (fun m t => t = nI m) (τ.1 1).length ?_ (τ.1 1).length 0 _ (by omega) rfl 64 (by omega)
    rintro kk _ m hm rfl hk
    unfold f_X3_isLineFound_2
    refine ok_ev (rw_size hr) (ok_if (fun c => ok_some rfl) fun c => ?_)
    have c2 : m < (τ.1 1).length := Nat.lt_of_not_le (mt (nI_lei (by omega) (by omega)).mpr c)
    have ht : tKind ((τ.1 1).getD m 0 / 100) ((τ.1 1).getD m 0) = true := decide_eq_true rfl
    obtain ⟨q, q1, q2⟩ := fnG_first (tKind ((τ.1 1).getD m 0 / 100)) (τ.1 1) 0 m (by omega) c2 ht
    obtain ⟨u, u1, u2, u3⟩ := fnG_last (tKind ((τ.1 1).getD m 0 / 100)) (τ.1 1) 0 m (-1) (by omega) c2 ht
    have e0 := rw_placeOfKind hr ((τ.1 1).getD m 0 / 100) 0
    have e1 := rw_placeOfKind hr ((τ.1 1).getD m 0 / 100) 1
    rw [q2] at e0
    rw [u3] at e1
    refine ok_ev (rw_read hr c2) (ok_ev (v := (τ.1 1).getD m 0 / 100) rfl (ok_ev e0 (ok_f (mt (nI_lti (by omega) (by omega)).mp (by omega)) (ok_ev e1 (ok_t ((nI_lei (by omega) (by omega)).mpr (by omega)) (ok_nme fun y hy => hk _ c2 (by rw [hy, nI_suc (by omega)])))))))
  obtain ⟨r, e, hr⟩ := key
  rw [e, hr]
theorem cl_walkerSound (h : RX σ τ) (hw : WK τ) {j : Nat} (hj : j < 2) : f_X3_isWalkerSound σ j = some 1 := by
  have hr := h.row (i := 1) (by omega)
  have hl := len20 h.1 (j := 1) (by omega)
  have e5 : σ.2 (5 + 3 * j) = τ.2 (5 + 3 * j) := h.1.2.1 _ (by omega) (by omega)
  have e6 : σ.2 (5 + 3 * j + 1) = τ.2 (5 + 3 * j + 1) := h.1.2.1 _ (by omega) (by omega)
  have hwj : Wj τ j := by
    rcases (by omega : j = 0 ∨ j = 1) with e | e <;> subst e
    · exact hw.2.1
    · exact hw.2.2
  unfold f_X3_isWalkerSound f_X2_isFresh f_X3_isWalkerSound_28
  show ((if σ.2 (5 + 3 * j + 0) = 1 then some 1 else some 0).bind _) = _
  rw [show 5 + 3 * j + 0 = 5 + 3 * j from rfl, e5]
  by_cases c : τ.2 (5 + 3 * j) = 1
  · obtain ⟨⟨a1, a2⟩, -⟩ := hwj.2 c
    have a2 : τ.2 (5 + 3 * j + 1) ≤ nI (τ.1 1).length := a2
    rw [if_pos c, bsm, if_neg ne10, e6, if_neg (Int32.not_lt.mpr a1), rw_size hr, bsm, if_neg (Int32.not_lt.mpr a2)]
  · rw [if_neg c, bsm, if_pos rfl]
theorem cl_sound (h : RX σ τ) (hw : WK τ) (hs : ∀ j, j < (τ.1 2).length → ∃ v, v < 8000 ∧ (τ.1 2).getD j 0 = nI v) : Ok (f_X3_isSound σ) fun r => r.1 = ub (unR (svN (τ.1 2)) (τ.1 2).length τ.1) := by
  have hr0 := h.row (i := 0) (by omega)
  have hr2 := h.row (i := 2) (by omega)
  have hr3 := h.row (i := 3) (by omega)
  have l2 := hr2.2.1
  have l3 := hr3.2.1
  have c2 : cap 2 = 12 := rfl
  have c3 : cap 3 = 10 := rfl
  have ek : f_X0_placeOfKind (cap 0) (σ.1 0) 0 0 = some (-1) := by
    rw [rw_placeOfKind hr0, fnG_none]
    intro v hv e
    have e := of_decide_eq_true e
    exact (h.1.2.2.2.1 v hv).2 ((vt_kind (h.1.2.2.2.1 v hv).1).mp e)
  unfold f_X3_isSound
  refine ok_ev (cl_rowSound hr0) (ok_f ne10 (ok_ev (cl_rowSound (h.row (i := 1) (by omega))) (ok_f ne10 (ok_ev ek (ok_t rfl (ok_ev (cl_lineFound h) (ok_f ne10 (ok_ev (cl_walkerSound h hw (j := 0) (by omega)) (ok_f ne10 (ok_ev (cl_walkerSound h hw (j := 1) (by omega)) (ok_f ne10 (ok_ev (rw_size hr2) (ok_f (mt (nI_lti (a := 12) (by omega) (by omega)).mp (by omega)) (ok_ev (rw_size hr3) (ok_f (mt (nI_lti (a := 10) (by omega) (by omega)).mp (by omega)) (ok_bind (cl_paper h hs) fun z hz => ?_))))))))))))))))
  refine ok_if (fun c => ok_some (c.symm.trans hz)) fun c => ok_some ?_
  exact ub_1 (by rw [← hz]; exact c)
/-- what the model's isWhole finds -/
theorem who_of (h : RX σ τ) (hw : WK τ) : WHO τ := by
  refine ⟨fun t ht i hi => ?_, fun w hw2 hs => ?_, (h.row (i := 3) (by omega)).2.1⟩
  · rw [mo_barred, if_neg]
    rintro ⟨c1, c2⟩
    have tv := h.1.2.2.2.tv ht (mem_getD hi)
    have t0 := (nI_eqz (a := t) (by omega)).mp c1
    exact tv.2 t0 c2
  · have hwj : Wj τ w := by
      rcases (by omega : w = 0 ∨ w = 1) with e | e <;> subst e
      · exact hw.2.1
      · exact hw.2.2
    obtain ⟨⟨a1, a2⟩, -⟩ := hwj.2 hs
    have a2 : τ.2 (5 + 3 * w + 1) ≤ nI (τ.1 1).length := a2
    rw [mo_isIn, if_pos ⟨a1, a2⟩]
end L4A
