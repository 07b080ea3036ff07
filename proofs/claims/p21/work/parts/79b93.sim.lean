/-! level 3: steps -/
section L3B
variable {σ : CS} {τ : MS}
theorem cap01 {j : Nat} (hj : j < 2) : cap j = 20 := by
  rcases (by omega : j = 0 ∨ j = 1) with e | e <;> subst e <;> rfl
theorem VT.rng {v : Int32} (h : VT v) : 0 ≤ v ∧ v ≤ 999 := by
  rcases h with h | h
  · subst h; exact ⟨by decide, by decide⟩
  · exact ⟨Int32.le_trans (by decide) h.1, h.2⟩
theorem slipM {x b p c : Int32} {j : Nat} (hx : x = 0 ∧ j = 0 ∨ x = 1 ∧ j = 1) : ∃ m, m < 8 ∧ m / 4 = j ∧ slipNo x b p c = nI (1000 * m) + c := by
  unfold slipNo
  have key : ∀ (y u v : Int32) (m : Nat), m < 8 → m / 4 = j → 1000 * (4 * y + u + v) = nI (1000 * m) → ∃ m, m < 8 ∧ m / 4 = j ∧ 1000 * (4 * y + u + v) + c = nI (1000 * m) + c := fun y u v m h1 h2 h3 => ⟨m, h1, h2, by rw [h3]⟩
  rcases hx with ⟨h1, h2⟩ | ⟨h1, h2⟩ <;> subst h1 h2
  · split <;> split
    · exact key 0 0 0 0 (by omega) rfl (by decide)
    · exact key 0 0 1 1 (by omega) rfl (by decide)
    · exact key 0 2 0 2 (by omega) rfl (by decide)
    · exact key 0 2 1 3 (by omega) rfl (by decide)
  · split <;> split
    · exact key 1 0 0 4 (by omega) rfl (by decide)
    · exact key 1 0 1 5 (by omega) rfl (by decide)
    · exact key 1 2 0 6 (by omega) rfl (by decide)
    · exact key 1 2 1 7 (by omega) rfl (by decide)
theorem slip_parts {m : Nat} {c : Int32} (hm : m < 8) (hc : 0 ≤ c ∧ c ≤ 999) : (nI (1000 * m) + c) / 4000 = nI (m / 4) ∧ jrem (nI (1000 * m) + c) 1000 = c ∧ 0 ≤ nI (1000 * m) + c ∧ nI (1000 * m) + c ≤ 7999 := by
  have h0 : 0 ≤ c.toInt := Int32.le_iff_toInt_le.mp hc.1
  have h9 : c.toInt ≤ 999 := Int32.le_iff_toInt_le.mp hc.2
  have e : (nI (1000 * m) + c).toInt = (1000 * m : Nat) + c.toInt := by
    rw [Int32.toInt_add, nI_toInt (by omega)]
    exact Int.bmod_eq_of_le (by omega) (by omega)
  have z0 : (0 : Int32).toInt = 0 := rfl
  have z7 : (7999 : Int32).toInt = 7999 := rfl
  have p0 : 0 ≤ nI (1000 * m) + c := Int32.le_iff_toInt_le.mpr (by omega)
  have d4 := div_b (b := 4000) (by omega) (by omega) p0
  have d1 := div_b (b := 1000) (by omega) (by omega) p0
  have q1 : (nI (1000 * m) + c) / 1000 = nI m := by
    apply Int32.toInt_inj.mp
    rw [nI_toInt (by omega)]
    refine d1.trans ?_
    rw [e]; omega
  refine ⟨?_, ?_, p0, Int32.le_iff_toInt_le.mpr (by omega)⟩
  · apply Int32.toInt_inj.mp
    rw [nI_toInt (by omega)]
    refine d4.trans ?_
    rw [e]; omega
  · unfold jrem
    rw [q1]
    apply Int32.toInt_inj.mp
    have hmul : (nI m * 1000).toInt = (1000 * m : Nat) := by
      rw [Int32.toInt_mul, nI_toInt (by omega)]
      have : (1000 : Int32).toInt = 1000 := rfl
      rw [this, Int.bmod_eq_of_le (by omega) (by omega)]
      omega
    rw [Int32.toInt_sub, e, hmul, Int.bmod_eq_of_le (by omega) (by omega)]
    omega
theorem SV.of {x b p c : Int32} {j : Nat} (hx : x = 0 ∧ j = 0 ∨ x = 1 ∧ j = 1) (hc : TV j c) : SV (slipNo x b p c) := by
  obtain ⟨m, hm, hj, e⟩ := slipM (b := b) (p := p) (c := c) hx
  obtain ⟨a1, a2, a3, a4⟩ := slip_parts hm hc.1.rng
  rw [e]
  refine ⟨⟨a3, a4⟩, by rw [a2]; exact hc.1, fun h => ?_⟩
  rw [a2]
  refine hc.2 ?_
  rw [a1, hj] at h
  rcases hx with ⟨h1, h2⟩ | ⟨h1, h2⟩
  · exact h2
  · rw [h2] at h; exact absurd h (by decide)
theorem mem_slipL {xs : List Int32} {n w : Int32} (h : w ∈ slipL xs n) : w ∈ xs ∨ w = n := by
  unfold slipL at h
  rcases List.mem_append.mp h with q | q
  · left
    split at q
    · exact mem_del q
    · exact q
  · exact Or.inr (List.mem_singleton.mp q)
theorem RY.slip {r : CS} (h : RY σ τ) {ys : List Int32} (h1 : r.2 = σ.2) (h2 : RW 2 (r.1 2) ys) (h3 : ∀ i, i ≠ 2 → r.1 i = σ.1 i) (hv : VC (va_up τ.1 2 ys, τ.2)) : RY r (va_up τ.1 2 ys, τ.2) := by
  refine ⟨fun j hj => ?_, by rw [h1]; exact h.2.1, by rw [h1]; exact h.2.2.1, hv⟩
  by_cases e : j = 2
  · subst e
    show RW 2 (r.1 2) (va_up τ.1 2 ys 2)
    rw [up_eq]; exact h2
  · show RW j (r.1 j) (va_up τ.1 2 ys j)
    rw [up_ne e, h3 j e]; exact h.1 j hj
theorem linsN {xs : List Int32} {i : Nat} {v : Int32} (hi : i ≤ xs.length) (h : xs.length ≤ 21) : lins xs (nI i) v = some (insAt xs i v) := by
  unfold lins
  rw [nI_c (by omega), if_neg]
  rintro (h1 | h1 | h1)
  · omega
  · exact nI_nn (by omega) h1
  · omega
theorem mo_come {x v : Int32} {j i : Nat} (hx : x = 0 ∧ j = 0 ∨ x = 1 ∧ j = 1) (hg : gtr x = some j) (hi : i ≤ (τ.1 j).length) (hl : (τ.1 j).length ≤ 21) : Ok (f_X6_come τ x (nI i) v) (DM j (va_up τ.1 j (insAt (τ.1 j) i v), τ.2)) := by
  unfold f_X6_come
  refine ok_ev hg (ok_ev (linsN hi hl) (ok_nme fun t ht => ?_))
  subst ht
  exact ok_bind (mo_chg hx) fun z hz => ok_some hz
theorem mo_go {x : Int32} {j i : Nat} (hx : x = 0 ∧ j = 0 ∨ x = 1 ∧ j = 1) (hg : gtr x = some j) (hi : i < (τ.1 j).length) (hl : (τ.1 j).length ≤ 21) : Ok (f_X6_go τ x (nI i)) fun r => r.1 = (τ.1 j).getD i 0 ∧ DM j (va_up τ.1 j (delAt (τ.1 j) i), τ.2) r.2 := by
  unfold f_X6_go
  refine ok_ev hg (ok_ev (ldelN hi (by omega)) (ok_nme fun t ht => ok_nme fun y hy => ?_))
  subst ht
  refine ok_bind (mo_chg hx) fun z hz => ok_some ⟨?_, hz⟩
  show y = _
  rw [hy, nI_c (by omega)]
theorem gtr_x {x : Int32} {j : Nat} (hx : x = 0 ∧ j = 0 ∨ x = 1 ∧ j = 1) : gtr x = some j := by
  rcases hx with ⟨a, b⟩ | ⟨a, b⟩ <;> subst a b <;> rfl
theorem len12 (h : RY σ τ) : (τ.1 2).length ≤ 12 := (h.row (i := 2) (by omega)).2.1
theorem len20 (h : RY σ τ) {j : Nat} (hj : j < 2) : (τ.1 j).length ≤ 20 := (h.row (i := j) (by omega)).len
/-- what a step leaves: d more on track j -/
def SP (j : Nat) (τ : MS) (n : Nat) (r : CS) (r2 : MS) : Prop := RX r r2 ∧ r2.2 0 = τ.2 0 ∧ (r2.1 j).length = n ∧ ∀ q, q ≠ j → q ≠ 2 → r2.1 q = τ.1 q
/-- rows and lists changed alike, a slip laid, then what follows of it on both sides -/
theorem step_end {r1 r2 r3 : CS} {t1 t2 : MS} {j n : Nat} {ρ : RS} {xs zs : List Int32} {no : Int32} (h : RX σ τ) (hj : j < 2) (e1 : r1 = (va_up σ.1 j ρ, σ.2)) (hr : RW j ρ xs) (hv : VC (va_up τ.1 j xs, τ.2)) (hn : xs.length = n) (hs : SV no) (h2 : r2.2 = r1.2 ∧ RW 2 (r2.1 2) (slipL zs no) ∧ ∀ i, i ≠ 2 → r2.1 i = r1.1 i) (er : zs = τ.1 2) (h3 : DS j r2 r3) (ht : DM j (va_up τ.1 j xs, τ.2) t1) (et : t2 = (va_up t1.1 2 (slipL (t1.1 2) no), t1.2)) : SP j τ n r3 t2 := by
  subst e1
  have y1 : RY (va_up σ.1 j ρ, σ.2) (va_up τ.1 j xs, τ.2) := h.1.up (by omega) hr hv
  have et1 : t1.1 = va_up τ.1 j xs := ht.1
  have el : t1.1 2 = τ.1 2 := by rw [et1]; exact up_ne (by omega)
  have hvs : VC (va_up (va_up τ.1 j xs) 2 (slipL (τ.1 2) no), τ.2) := hv.slips fun w hw => by
    rcases mem_slipL hw with q | q
    · have := hv.2.2.1 w
      exact this (by show w ∈ va_up τ.1 j xs 2; rw [up_ne (by omega)]; exact q)
    · rw [q]; exact hs
  rw [er] at h2
  have y2 : RY r2 (va_up (va_up τ.1 j xs) 2 (slipL (τ.1 2) no), τ.2) := y1.slip h2.1 h2.2.1 h2.2.2 hvs
  have hd : DM j (va_up (va_up τ.1 j xs) 2 (slipL (τ.1 2) no), τ.2) t2 := by
    rw [et, el]
    exact ⟨by show va_up t1.1 2 _ = _; rw [et1], ht.2.1, ht.2.2⟩
  have hw : WR r2 (va_up (va_up τ.1 j xs) 2 (slipL (τ.1 2) no), τ.2) := by
    unfold WR
    rw [h2.1]; exact h.2
  refine ⟨y2.dist hj (fun _ => hw) h3 hd, ?_, ?_, fun q h1 h2 => ?_⟩
  · rw [et]
    show t1.2 0 = _
    rcases (by omega : j = 0 ∨ j = 1) with e | e <;> subst e
    · exact ((ht.2.1 rfl).2.2.2) 0 (by omega) (by omega) (by omega)
    · exact ((ht.2.2 rfl).2.2) 0 (by omega) (by omega)
  · rw [hd.1]
    show (va_up (va_up τ.1 j xs) 2 _ j).length = n
    rw [up_ne (by omega), up_eq]; exact hn
  · rw [hd.1]
    show va_up (va_up τ.1 j xs) 2 _ q = _
    rw [up_ne h2, up_ne h1]
theorem si_in (h : RX σ τ) {x b c : Int32} {j : Nat} (hj : j < 2) (hx : x = 0 ∧ j = 0 ∨ x = 1 ∧ j = 1) (hl : (τ.1 j).length < 20) (hc : TV j c) : Ri (f_X3_stepOn σ x b c) (f_X6_stepIn τ x b c) (SP j τ ((τ.1 j).length + 1)) := by
  have hg := gtr_x hx
  have hr := h.row (i := j) (by omega)
  have main : ∀ i, i ≤ (τ.1 j).length → Ri (f_X3_stepOn_22 σ x b c j (nI i)) (f_X6_stepIn_15 τ x b c x (nI i)) (SP j τ ((τ.1 j).length + 1)) := by
    intro i hi
    unfold f_X3_stepOn_22 f_X6_stepIn_15
    refine ri_okR (mo_come hx hg hi (by omega)) fun t1 ht1 => ri_eR (mo_slip ?_ x b 1 c) ?_
    · rw [ht1.1]
      show (va_up τ.1 j _ 2).length ≤ 12
      rw [up_ne (by omega)]; exact len12 h.1
    refine ri_okL (rw_enter hr hi (by rw [cap01 hj]; exact hl)) fun ρ hρ => ri_nL fun r1 e1 => ri_eL (cl_slipOf x b 1 c) ?_
    have r12 : r1.1 2 = σ.1 2 := by rw [e1]; show va_up σ.1 j ρ 2 = _; rw [up_ne (by omega)]
    refine ri_okL (cl_laySlip (xs := τ.1 2) (by rw [r12]; exact h.row (by omega)) _) fun r2 h2 => ri_okL (cl_dist hx) fun r3 h3 => ri_some ?_
    exact step_end h hj e1 hρ (h.1.2.2.2.ins hj hc) (insAt_len hi) (SV.of hx hc) h2 rfl h3 ht1 rfl
  unfold f_X3_stepOn f_X6_stepIn
  refine ri_eL (trackOf_ok hx) (ri_iR (fun e => ri_tL e (main 0 (by omega))) fun e => ri_fL e (ri_eL (rw_size hr) (ri_eR (sizeN hg) (main _ (Nat.le_refl _)))))
theorem si_out (h : RX σ τ) {x b : Int32} {j : Nat} (hj : j < 2) (hx : x = 0 ∧ j = 0 ∨ x = 1 ∧ j = 1) (hl : 0 < (τ.1 j).length) : Ri (f_X3_stepOff σ x b) (f_X6_stepOut τ x b) fun r r2 => r.1 = r2.1 ∧ TV j r.1 ∧ SP j τ ((τ.1 j).length - 1) r.2 r2.2 := by
  have hg := gtr_x hx
  have hr := h.row (i := j) (by omega)
  have hl20 := len20 h.1 hj
  have main : ∀ i, i < (τ.1 j).length → f_X0_endPlace (cap j) (σ.1 j) b = some (nI i) → Ri (f_X3_stepOff σ x b) (f_X6_stepOut_17 τ x b x (nI i)) fun r r2 => r.1 = r2.1 ∧ TV j r.1 ∧ SP j τ ((τ.1 j).length - 1) r.2 r2.2 := by
    intro i hi he
    unfold f_X3_stepOff f_X6_stepOut_17
    refine ri_okR (mo_go hx hg hi (by omega)) fun t1 ht1 => ri_eR (mo_slip ?_ x b 0 t1.1) ?_
    · rw [ht1.2.1]
      show (va_up τ.1 j _ 2).length ≤ 12
      rw [up_ne (by omega)]; exact len12 h.1
    refine ri_eL (trackOf_ok hx) (ri_eL he (ri_okL (rw_leave hr hi) fun z hz => ri_nL fun r1 e1 => ri_eL (cl_slipOf x b 0 z.1) ?_))
    have r12 : r1.1 2 = σ.1 2 := by rw [e1]; show va_up σ.1 j z.2 2 = _; rw [up_ne (by omega)]
    have ez : z.1 = t1.1 := hz.1.trans ht1.1.symm
    have hc : TV j z.1 := by rw [hz.1]; exact h.1.2.2.2.tv hj (mem_getD hi)
    refine ri_okL (cl_laySlip (xs := τ.1 2) (by rw [r12]; exact h.row (by omega)) _) fun r2 h2 => ri_okL (cl_dist hx) fun r3 h3 => ri_some ⟨ez, hc, ?_⟩
    exact step_end h hj e1 hz.2 (h.1.2.2.2.del hj) (delAt_len hi) (SV.of hx hc) h2 rfl h3 ht1.2 (by rw [ez])
  unfold f_X6_stepOut
  have he := rw_endPlace hr b
  refine ri_iR (fun e => main 0 hl ?_) fun e => ri_eR (sizeN hg) ?_
  · rw [he, if_pos e, if_neg (by omega)]; rfl
  · rw [nI_prd (by omega) (by omega)]
    refine main _ (by omega) ?_
    rw [he, if_neg e, nI_prd (by omega) (by omega)]
/-! what a call asks for before it does anything -/
def thr (τ : MS) (v : Int32) : MS := (τ.1, va_up τ.2 0 v)
theorem thr0 {v : Int32} : (thr τ v).2 0 = v := by
  show va_up τ.2 0 v 0 = v
  exact up_eq
theorem thr1 {v : Int32} : (thr τ v).1 = τ.1 := rfl
theorem thrn {v : Int32} : ∀ j, j ≠ 0 → (thr τ v).2 j = τ.2 j := fun j h => by
  show va_up τ.2 0 v j = _
  exact up_ne h
theorem RX.thr (h : RX σ τ) (v : Int32) : RX σ (thr τ v) := h.th rfl thrn
theorem mo_ref0 (h0 : τ.2 0 = 0) {x v : Int32} (hx : x = 0) : f_X6_refuse τ x v = some (0, τ) := by
  unfold f_X6_refuse f_X6_refuse_16
  rw [if_pos hx, if_pos (by rw [h0]; decide)]
theorem mo_ref1 (h0 : τ.2 0 = 0) {x v : Int32} (hx : ¬ x = 0) (hv : ¬ v ≤ 0) : f_X6_refuse τ x v = some (1, thr τ v) := by
  unfold f_X6_refuse f_X6_refuse_16
  rw [if_neg hx, if_pos h0]
  show (if va_up τ.2 0 v 0 ≤ 0 then _ else _) = _
  rw [up_eq, if_neg hv]
  rfl
theorem mo_st0 {x v : Int32} (hx : x = 0) : f_X6_start τ x v = some (0, thr τ 0) := by
  unfold f_X6_start
  show (f_X6_refuse (thr τ 0) x v).bind _ = _
  rw [mo_ref0 thr0 hx]
  rfl
theorem thr_thr {u v : Int32} : thr (thr τ u) v = thr τ v := by
  unfold thr
  congr 1
  funext i
  by_cases e : i = 0
  · subst e; rw [up_eq, up_eq]
  · rw [up_ne e, up_ne e]
    show va_up τ.2 0 u i = _
    rw [up_ne e]
theorem mo_st1 {x v : Int32} (hx : ¬ x = 0) (hv : ¬ v ≤ 0) : f_X6_start τ x v = some (1, thr τ v) := by
  unfold f_X6_start
  show (f_X6_refuse (thr τ 0) x v).bind _ = _
  rw [mo_ref1 thr0 hx hv, thr_thr]
  rfl
theorem cl_within {x a b : Int32} (h : a ≤ x ∧ x ≤ b) : f_X3_needWithin x a b = some (.inr ()) := by
  unfold f_X3_needWithin
  rw [if_neg (Int32.not_lt.mpr h.1), if_pos h.2]
theorem cl_without {x a b : Int32} (h : ¬ (a ≤ x ∧ x ≤ b)) : f_X3_needWithin x a b = some (.inl 1) := by
  unfold f_X3_needWithin
  by_cases c : x < a
  · rw [if_pos c]
  · rw [if_neg c, if_neg (fun d => h ⟨Int32.not_lt.mp c, d⟩)]
theorem mo_isIn (x a b : Int32) : f_X6_isIn x a b = some (if a ≤ x ∧ x ≤ b then 1 else 0) := by
  unfold f_X6_isIn
  by_cases c : x < a
  · rw [if_pos c, if_neg (fun h => absurd h.1 (Int32.not_le.mpr c))]
  · rw [if_neg c]
    by_cases d : b < x
    · rw [if_pos d, if_neg (fun h => absurd h.2 (Int32.not_le.mpr d))]
    · rw [if_neg d, if_pos ⟨Int32.not_lt.mp c, Int32.not_lt.mp d⟩]
theorem in01 {x : Int32} : (0 ≤ x ∧ x ≤ 1) ↔ (x = 0 ∨ x = 1) := by
  constructor
  · rintro ⟨h0, h1⟩
    grind
  · rintro (h | h) <;> subst h <;> decide
theorem cl_track {x : Int32} (h : x = 0 ∨ x = 1) : f_X3_needTrack x = some (.inr ()) := by
  rcases h with h | h <;> subst h <;> rfl
theorem cl_notrack {x : Int32} (h : ¬ (x = 0 ∨ x = 1)) : f_X3_needTrack x = some (.inl 0) := by
  unfold f_X3_needTrack
  rw [if_neg (fun e => h (Or.inl e)), if_neg (fun e => h (Or.inr e))]
theorem mo_noTrack (x : Int32) : f_X6_isNoTrack x = some (if x = 0 ∨ x = 1 then 0 else 1) := by
  unfold f_X6_isNoTrack
  rw [mo_isIn]
  by_cases c : x = 0 ∨ x = 1
  · rw [if_pos (in01.mpr c), if_pos c]; rfl
  · rw [if_neg (mt in01.mp c), if_neg c]; rfl
def PC (k l : Int32) : Prop := (0 ≤ k ∧ k ≤ 9) ∧ 0 ≤ l ∧ l ≤ 99
end L3B
