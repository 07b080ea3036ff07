section
/-! level 3: splice, clear -/
section L3N
variable {σ : CS} {τ : MS}
theorem ins_mid (A : List Int32) (v : Int32) (B : List Int32) : insAt (A ++ B) A.length v = A ++ v :: B := by
  induction A with
  | nil => rfl
  | cons a A ih =>
    show a :: insAt (A ++ B) A.length v = a :: (A ++ v :: B)
    rw [ih]
def sl (xs ys : List Int32) (p m : Nat) : List Int32 := (ys.take p ++ xs.take m) ++ ys.drop p
theorem sl_0 {xs ys : List Int32} {p : Nat} : sl xs ys p 0 = ys := by
  unfold sl
  rw [List.take_zero, List.append_nil, List.take_append_drop]
theorem sl_len {xs ys : List Int32} {p m : Nat} (hp : p ≤ ys.length) (hm : m ≤ xs.length) : (sl xs ys p m).length = ys.length + m := by
  unfold sl
  rw [List.length_append, List.length_append, List.length_take, List.length_take, List.length_drop]
  omega
theorem sl_s {xs ys : List Int32} {p m : Nat} (hp : p ≤ ys.length) (hm : m < xs.length) : insAt (sl xs ys p m) (p + m) (xs.getD m 0) = sl xs ys p (m + 1) := by
  have hA : (ys.take p ++ xs.take m).length = p + m := by
    rw [List.length_append, List.length_take, List.length_take]; omega
  have g := ins_mid (ys.take p ++ xs.take m) (xs.getD m 0) (ys.drop p)
  rw [hA] at g
  unfold sl
  rw [g, take_snoc hm]
  simp only [List.append_assoc, List.cons_append, List.nil_append]
theorem sl_mem {xs ys : List Int32} {p m : Nat} {v : Int32} (h : v ∈ sl xs ys p m) : v ∈ xs ∨ v ∈ ys := by
  rcases List.mem_append.mp h with q | q
  · rcases List.mem_append.mp q with q | q
    · exact Or.inr (List.mem_of_mem_take q)
    · exact Or.inl (List.mem_of_mem_take q)
  · exact Or.inr (List.mem_of_mem_drop q)
theorem grw2 (v : Int32) : grw (grw v) = grw v := by
  unfold grw
  by_cases c : v = 0
  · rw [if_pos c, if_pos rfl]
  · rw [if_neg c, if_neg (by decide)]
theorem cl_splice {xs ys : List Int32} {p : Nat} (hr0 : RW 0 (σ.1 0) xs) (hr1 : RW 1 (σ.1 1) ys) (hp : p ≤ ys.length) (hs : ys.length + xs.length ≤ 20) : Ok (lpn f_X3_splice_42 64 (σ, nI p, nI xs.length, 0)) fun r => ∃ s, r = .inr (nI xs.length, s) ∧ RW 0 (s.1 0) [] ∧ RW 1 (s.1 1) (sl xs ys p xs.length) ∧ RW 2 (s.1 2) [] ∧ s.1 3 = σ.1 3 ∧ s.2 1 = 0 ∧ s.2 4 = -1 ∧ s.2 5 = grw (σ.2 5) ∧ s.2 8 = grw (σ.2 8) ∧ ∀ q, q ≠ 1 → q ≠ 4 → q ≠ 5 → q ≠ 8 → s.2 q = σ.2 q := by
  have c1 : cap 1 = 20 := rfl
  refine up_loop (fun m t => ∃ ρ, t = ((va_up σ.1 1 ρ, σ.2), nI p, nI xs.length, nI m) ∧ RW 1 ρ (sl xs ys p m)) xs.length ?_ xs.length 0 _ (by omega) ⟨σ.1 1, by rw [us]; rfl, by rw [sl_0]; exact hr1⟩ 64 (by omega)
  rintro kk _ m hm ⟨ρ, rfl, hρ⟩ hk
  unfold f_X3_splice_42
  dsimp only
  refine ok_if (fun c => ?_) fun c => ?_
  · have c2 := (nI_lei (by omega) (by omega)).mp c
    have e : m = xs.length := by omega
    subst e
    refine ok_ev (v := ((va_up σ.1 1 ρ 0).1, 0)) rfl (ok_nme fun t7 e7 => ok_bind (cl_tearFor (σ := t7) (x := 1) (j := 1) (Or.inr ⟨rfl, rfl⟩)) fun z8 h8 => ok_bind (cl_dist (σ := z8) (x := 0) (j := 0) (Or.inl ⟨rfl, rfl⟩)) fun s h13 => ok_some ⟨s, rfl, ?_⟩)
    have b1 : ∀ i, s.1 i = va_up t7.1 2 ((t7.1 2).1, 0) i := fun i => by rw [h13.1, h8.1]
    have a := h13.2.1 rfl
    have b := h8.2.2 rfl
    have e2 : t7.2 = σ.2 := by rw [e7]
    refine ⟨?_, ?_, ?_, ?_, a.1, a.2.1, ?_, ?_, fun q q1 q2 q3 q4 => ?_⟩
    · rw [b1 0, up_ne (by omega), e7]
      show RW 0 (va_up (va_up σ.1 1 ρ) 0 ((va_up σ.1 1 ρ 0).1, 0) 0) []
      rw [up_eq]; exact rw_empty
    · rw [b1 1, up_ne (by omega), e7]
      show RW 1 (va_up (va_up σ.1 1 ρ) 0 ((va_up σ.1 1 ρ 0).1, 0) 1) _
      rw [up_ne (by omega), up_eq]; exact hρ
    · rw [b1 2, up_eq]; exact rw_empty
    · rw [b1 3, up_ne (by omega), e7]
      show va_up (va_up σ.1 1 ρ) 0 ((va_up σ.1 1 ρ 0).1, 0) 3 = _
      rw [up_ne (by omega), up_ne (by omega)]
    · rw [a.2.2 5 (by omega) (by omega), b.1, ← e2]
    · rw [a.2.2 8 (by omega) (by omega), b.2.1, ← e2]
    · rw [a.2.2 q q1 q2, b.2.2 q q3 q4, ← e2]
  · have c2 : m < xs.length := Nat.lt_of_not_le (mt (nI_lei (by omega) (by omega)).mpr c)
    have r0 : RW 0 (va_up σ.1 1 ρ 0) xs := by rw [up_ne (by omega)]; exact hr0
    have r1 : RW 1 (va_up σ.1 1 ρ 1) (sl xs ys p m) := by rw [up_eq]; exact hρ
    have ll := sl_len (xs := xs) hp (Nat.le_of_lt c2)
    rw [nI_sum (by omega)]
    refine ok_ev (rw_read r0 c2) (ok_bind (rw_enter r1 (v := xs.getD m 0) (by omega) (by omega)) fun z hz => ok_nme fun t1 e1 => ok_nme fun y hy => hk _ c2 ⟨z, ?_, ?_⟩)
    · rw [e1, hy, nI_suc (by omega)]
      show ((va_up (va_up σ.1 1 ρ) 1 z, σ.2), _, _, _) = _
      rw [uu]
    · rw [← sl_s hp c2]; exact hz
theorem mo_splice {xs ys : List Int32} {p : Nat} (hx : τ.1 0 = xs) (hy : τ.1 1 = ys) (hp : p ≤ ys.length) (hs : ys.length + xs.length ≤ 20) (hn : 1 ≤ xs.length) : Ok (lpn f_X6_splice_80 24 (τ, nI p, nI xs.length, 0)) fun r => ∃ t, r = (nI xs.length, t) ∧ t.1 0 = [] ∧ t.1 1 = sl xs ys p xs.length ∧ t.1 2 = [] ∧ t.1 3 = τ.1 3 ∧ t.2 1 = 0 ∧ t.2 2 = 0 ∧ t.2 3 = -1 ∧ t.2 5 = grw (τ.2 5) ∧ t.2 8 = grw (τ.2 8) ∧ ∀ q, q ≠ 1 → q ≠ 2 → q ≠ 3 → q ≠ 5 → q ≠ 8 → t.2 q = τ.2 q := by
  refine up24 (fun m t => ∃ s : MS, t = (s, nI p, nI xs.length, nI m) ∧ s.1 0 = xs.drop m ∧ s.1 1 = sl xs ys p m ∧ s.1 3 = τ.1 3 ∧ (1 ≤ m → s.2 1 = 0 ∧ s.2 2 = 0 ∧ s.2 3 = -1 ∧ s.2 5 = grw (τ.2 5) ∧ s.2 8 = grw (τ.2 8)) ∧ grw (s.2 5) = grw (τ.2 5) ∧ grw (s.2 8) = grw (τ.2 8) ∧ ∀ q, q ≠ 1 → q ≠ 2 → q ≠ 3 → q ≠ 5 → q ≠ 8 → s.2 q = τ.2 q) xs.length (by omega) ?_ ⟨τ, rfl, hx, by rw [sl_0]; exact hy, rfl, fun e => absurd e (by omega), rfl, rfl, fun _ _ _ _ _ _ => rfl⟩
  rintro kk _ m hm ⟨s, rfl, s0, s1, s3, qa, qb, qc, qd⟩ hk
  unfold f_X6_splice_80
  dsimp only
  refine ok_if (fun c => ?_) fun c => ?_
  · have c2 := (nI_lei (by omega) (by omega)).mp c
    have e : m = xs.length := by omega
    subst e
    have a := qa hn
    refine ok_ev mo_tear (ok_some ⟨_, rfl, ?_, ?_, ?_, ?_, a.1, a.2.1, a.2.2.1, a.2.2.2.1, a.2.2.2.2, qd⟩)
    · show va_up s.1 2 [] 0 = []
      rw [up_ne (by omega), s0, List.drop_eq_nil_of_le (by omega)]
    · show va_up s.1 2 [] 1 = _
      rw [up_ne (by omega), s1]
    · show va_up s.1 2 [] 2 = []
      rw [up_eq]
    · show va_up s.1 2 [] 3 = _
      rw [up_ne (by omega), s3]
  · have c2 : m < xs.length := Nat.lt_of_not_le (mt (nI_lei (by omega) (by omega)).mpr c)
    have ll := sl_len (xs := xs) hp (Nat.le_of_lt c2)
    have d0 : s.1 0 = xs.getD m 0 :: xs.drop (m + 1) := by rw [s0, drop_cons c2]
    have l0 : (s.1 0).length = xs.length - m := by rw [s0, List.length_drop]
    refine ok_bind (mo_go (τ := s) (x := 0) (j := 0) (i := 0) (Or.inl ⟨rfl, rfl⟩) rfl (by omega) (by omega)) fun z hz => ?_
    obtain ⟨hz1, hz2⟩ := hz
    have hv : z.1 = xs.getD m 0 := by rw [hz1, d0]; rfl
    have a := hz2.2.1 rfl
    have t0 : z.2.1 0 = xs.drop (m + 1) := by
      rw [hz2.1]
      show va_up s.1 0 (delAt (s.1 0) 0) 0 = _
      rw [up_eq, d0]; rfl
    have t1 : z.2.1 1 = sl xs ys p m := by
      rw [hz2.1]
      show va_up s.1 0 (delAt (s.1 0) 0) 1 = _
      rw [up_ne (by omega), s1]
    have t3 : z.2.1 3 = τ.1 3 := by
      rw [hz2.1]
      show va_up s.1 0 (delAt (s.1 0) 0) 3 = _
      rw [up_ne (by omega), s3]
    rw [nI_sum (by omega)]
    refine ok_bind (mo_come (τ := z.2) (x := 1) (v := z.1) (j := 1) (i := p + m) (Or.inr ⟨rfl, rfl⟩) rfl (by rw [t1]; omega) (by rw [t1]; omega)) fun u hu => ok_nme fun y hy => ?_
    have b := hu.2.2 rfl
    have k5 : u.2 5 = grw (τ.2 5) := by
      rw [b.1]
      show grw (z.2.2 5) = _
      rw [a.2.2.2 5 (by omega) (by omega) (by omega)]; exact qb
    have k8 : u.2 8 = grw (τ.2 8) := by
      rw [b.2.1]
      show grw (z.2.2 8) = _
      rw [a.2.2.2 8 (by omega) (by omega) (by omega)]; exact qc
    refine hk _ c2 ⟨u, by rw [hy, nI_suc (by omega)], ?_, ?_, ?_, fun _ => ⟨?_, ?_, ?_, k5, k8⟩, by rw [k5, grw2], by rw [k8, grw2], fun q q1 q2 q3 q5 q8 => ?_⟩
    · rw [hu.1]
      show va_up z.2.1 1 (insAt (z.2.1 1) (p + m) z.1) 0 = _
      rw [up_ne (by omega), t0]
    · rw [hu.1]
      show va_up z.2.1 1 (insAt (z.2.1 1) (p + m) z.1) 1 = _
      rw [up_eq, t1, hv, sl_s hp c2]
    · rw [hu.1]
      show va_up z.2.1 1 (insAt (z.2.1 1) (p + m) z.1) 3 = _
      rw [up_ne (by omega), t3]
    · rw [b.2.2 1 (by omega) (by omega)]; exact a.1
    · rw [b.2.2 2 (by omega) (by omega)]; exact a.2.1
    · rw [b.2.2 3 (by omega) (by omega)]; exact a.2.2.1
    · rw [b.2.2 q q5 q8]
      show z.2.2 q = _
      rw [a.2.2.2 q q1 q2 q3]; exact qd q q1 q2 q3 q5 q8
theorem ag_splice (h : RX σ τ) (x1 : Int32) : Ri (f_X3_splice σ x1) (f_X6_splice τ x1) (TQ C02 σ) := by
  have h0 := h.thr 0
  have hr0 := h.row (i := 0) (by omega)
  have hr1 := h.row (i := 1) (by omega)
  have hl0 := len20 h.1 (j := 0) (by omega)
  have hl1 := len20 h.1 (j := 1) (by omega)
  unfold f_X3_splice f_X6_splice f_X6_splice_16
  refine ri_eR (mo_isIn _ _ _) ?_
  by_cases c : 0 ≤ x1 ∧ x1 ≤ 20
  · rw [if_pos c]
    refine ri_fR ne10 (ri_eR (mo_st0 rfl) (ri_tR rfl (ri_eR (sizeN (j := 0) rfl) (ri_eR (sizeN (j := 1) rfl) (ri_obr (cl_place c) (ri_eL (rw_size hr0) ?_))))))
    obtain ⟨p, hp, rfl⟩ := nIof (b := 20) (by omega) c.1 c.2
    rcases room_cases h (x := 1) (j := 1) (by omega) (Or.inr ⟨rfl, rfl⟩) (n := (τ.1 0).length) hl0 with ⟨d, e⟩ | ⟨d, e⟩
    · refine ri_tR ((sum_le hl0 hl1).mpr (by omega)) ?_
      unfold f_X6_splice_45
      refine ri_eR (mo_ref0 thr0 rfl) (ri_tR rfl (ri_obr e (ri_eR (sizeN (j := 0) rfl) ?_)))
      by_cases z : (τ.1 0).length = 0
      · exact ri_tR ((nI_eqz (a := (τ.1 0).length) (by omega)).mpr z) (ri_tL ((nI_eqz (a := (τ.1 0).length) (by omega)).mpr z) (tq_r h0 thr0 rfl))
      · refine ri_fR (mt (nI_eqz (a := (τ.1 0).length) (by omega)).mp z) (ri_fL (mt (nI_eqz (a := (τ.1 0).length) (by omega)).mp z) (ri_eR (sizeN (j := 1) rfl) (ri_eL (rw_size hr1) (ri_iR (fun g => ri_tL g ?_) fun g => ri_fL g (tq_r h0 thr0 rfl)))))
        have g2 : p ≤ (τ.1 1).length := (nI_lei (by omega) (by omega)).mp g
        intro r2 e2
        obtain ⟨t, er, t0, t1, t2, t3, w1, w2, w3, w5, w8, wq⟩ := ok_val (mo_splice (τ := thr τ 0) (xs := τ.1 0) (ys := τ.1 1) (p := p) rfl rfl g2 d (by omega)) e2
        refine ok_mono (cl_splice hr0 hr1 g2 d) fun r hr => ?_
        obtain ⟨s, es, s0, s1, s2, s3, v1, v4, v5, v8, vq⟩ := hr
        have thq : ∀ q, q ≠ 0 → (thr τ 0).2 q = τ.2 q := thrn
        have hx : RX s t := by
          refine ⟨⟨fun i hi => ?_, fun q q1 q2 => ?_, ?_, ?_⟩, Or.inl ⟨v1, w1, v4, w3⟩⟩
          · rcases (by omega : i = 0 ∨ i = 1 ∨ i = 2 ∨ i = 3) with e | e | e | e <;> subst e
            · rw [t0]; exact s0
            · rw [t1]; exact s1
            · rw [t2]; exact s2
            · rw [t3, s3]; exact h.row (by omega)
          · by_cases q5 : q = 5
            · subst q5
              rw [v5, w5, thq 5 (by omega), h.1.2.1 5 (by omega) (by omega)]
            · by_cases q8 : q = 8
              · subst q8
                rw [v8, w8, thq 8 (by omega), h.1.2.1 8 (by omega) (by omega)]
              · rw [vq q (by omega) (by omega) q5 q8, wq q (by omega) (by omega) (by omega) q5 q8, thq q (by omega)]
                exact h.1.2.1 q q1 q2
          · rw [vq 0 (by omega) (by omega) (by omega) (by omega), wq 4 (by omega) (by omega) (by omega) (by omega) (by omega), thq 4 (by omega)]
            exact h.1.2.2.1
          · refine ⟨fun v hv => ?_, fun v hv => ?_, fun v hv => ?_, fun v hv => ?_⟩
            · rw [t0] at hv; exact absurd hv List.not_mem_nil
            · rw [t1] at hv
              rcases sl_mem hv with q | q
              · exact (h.1.2.2.2.1 v q).1
              · exact h.1.2.2.2.2.1 v q
            · rw [t2] at hv; exact absurd hv List.not_mem_nil
            · rw [t3] at hv; exact h.1.2.2.2.2.2.2 v hv
        have key := tq_r (C := C02) (σ := σ) (u := nI (τ.1 0).length) hx ((wq 0 (by omega) (by omega) (by omega) (by omega) (by omega)).trans thr0) rfl r2 (by rw [er])
        obtain ⟨w, ew, hw⟩ := key
        rw [es, Option.some.inj ew]
        exact hw
    · refine ri_fR (mt (sum_le hl0 hl1).mp (by omega)) ?_
      unfold f_X6_splice_45
      refine ri_eR (mo_ref1 thr0 ne10 (by decide)) (ri_fR ne10 (ri_obl e ?_))
      rw [thr_thr]
      exact tq_l (h.thr 2) thr0
  · rw [if_neg c]
    exact ri_tR rfl (ri_eR (mo_st1 ne10 (by decide)) (ri_fR ne10 (ri_obl (cl_noplace c) (tq_l (h.thr 1) thr0))))
end L3N
end
section
/-! level 3: what is marked goes -/
section L3O
variable {σ : CS} {τ : MS}
/-- the list without the places that g marks -/
def keepG (g : Nat → Int32) : Nat → List Int32 → List Int32
  | _, [] => []
  | m, v :: r => if g m = 0 then v :: keepG g (m + 1) r else keepG g (m + 1) r
theorem keepG_c {g : Nat → Int32} {m : Nat} {v : Int32} {r : List Int32} : keepG g m (v :: r) = if g m = 0 then v :: keepG g (m + 1) r else keepG g (m + 1) r := rfl
theorem keepG_len (g : Nat → Int32) : ∀ (xs : List Int32) (m : Nat), (keepG g m xs).length ≤ xs.length := by
  intro xs
  induction xs with
  | nil => intro m; exact Nat.le_refl _
  | cons v r ih =>
    intro m
    rw [keepG_c]
    have := ih (m + 1)
    split
    · rw [List.length_cons, List.length_cons]; omega
    · rw [List.length_cons]; omega
theorem keepG_mem (g : Nat → Int32) {w : Int32} : ∀ (xs : List Int32) (m : Nat), w ∈ keepG g m xs → w ∈ xs := by
  intro xs
  induction xs with
  | nil => intro m h; exact h
  | cons v r ih =>
    intro m h
    rw [keepG_c] at h
    split at h
    · rcases List.mem_cons.mp h with q | q
      · rw [q]; exact List.mem_cons_self
      · exact List.mem_cons_of_mem _ (ih _ q)
    · exact List.mem_cons_of_mem _ (ih _ h)
/-- the places from p on are done -/
def LG (g : Nat → Int32) (xs : List Int32) (p : Nat) : List Int32 := xs.take p ++ keepG g p (xs.drop p)
theorem LG_n {g : Nat → Int32} {xs : List Int32} : LG g xs xs.length = xs := by
  unfold LG
  rw [List.take_length, List.drop_eq_nil_of_le (Nat.le_refl _)]
  exact List.append_nil xs
theorem LG_0 {g : Nat → Int32} {xs : List Int32} : LG g xs 0 = keepG g 0 xs := rfl
theorem LG_s {g : Nat → Int32} {xs : List Int32} {p : Nat} (h : p < xs.length) : (g p = 0 → LG g xs p = LG g xs (p + 1)) ∧ (¬ g p = 0 → LG g xs p = delAt (LG g xs (p + 1)) p) ∧ p < (LG g xs (p + 1)).length := by
  have hA : (xs.take p).length = p := by rw [List.length_take]; omega
  have d := del_mid (xs.take p) (xs.getD p 0) (keepG g (p + 1) (xs.drop (p + 1)))
  rw [hA] at d
  have e : LG g xs (p + 1) = xs.take p ++ xs.getD p 0 :: keepG g (p + 1) (xs.drop (p + 1)) := by
    unfold LG
    rw [take_snoc h, List.append_assoc]
    rfl
  refine ⟨fun c => ?_, fun c => ?_, ?_⟩
  · rw [e]
    unfold LG
    rw [drop_cons h, keepG_c, if_pos c]
  · rw [e, d]
    unfold LG
    rw [drop_cons h, keepG_c, if_neg c]
  · rw [e, List.length_append, hA, List.length_cons]; omega
theorem DM.comp {j : Nat} (hj : j < 2) {a b : List Int32} {s t : MS} (h1 : DM j (va_up τ.1 j a, τ.2) s) (h2 : DM j (va_up s.1 j b, s.2) t) : DM j (va_up τ.1 j b, τ.2) t := by
  refine ⟨?_, fun e => ?_, fun e => ?_⟩
  · rw [h2.1]
    show va_up s.1 j b = va_up τ.1 j b
    rw [h1.1]
    show va_up (va_up τ.1 j a) j b = _
    rw [uu]
  · have p := h1.2.1 e
    have q := h2.2.1 e
    exact ⟨q.1, q.2.1, q.2.2.1, fun k k1 k2 k3 => (q.2.2.2 k k1 k2 k3).trans (p.2.2.2 k k1 k2 k3)⟩
  · have p := h1.2.2 e
    have q := h2.2.2 e
    refine ⟨?_, ?_, fun k k1 k2 => (q.2.2 k k1 k2).trans (p.2.2 k k1 k2)⟩
    · rw [q.1]
      show grw (s.2 5) = _
      rw [p.1, grw2]
    · rw [q.2.1]
      show grw (s.2 8) = _
      rw [p.2.1, grw2]
theorem mo_offAll {x : Int32} {j : Nat} {g : Nat → Int32} (hl : (τ.1 j).length ≤ 20) (hj : j < 2) (hx : x = 0 ∧ j = 0 ∨ x = 1 ∧ j = 1) : Ok (f_X6_offAll τ x (τ.1 j).length g) fun r => ((keepG g 0 (τ.1 j)).length = (τ.1 j).length ∧ r = (0, τ)) ∨ ((keepG g 0 (τ.1 j)).length < (τ.1 j).length ∧ ∃ t1, r = (nI ((τ.1 j).length - (keepG g 0 (τ.1 j)).length), (va_up t1.1 2 [], t1.2)) ∧ DM j (va_up τ.1 j (keepG g 0 (τ.1 j)), τ.2) t1) := by
  have hg := gtr_x hx
  unfold f_X6_offAll
  refine ok_nme fun y hy => ?_
  subst hy
  refine up24 (fun m t => ∃ (s : MS) (c : Nat), t = (s, x, (τ.1 j).length, g, nI c, nI ((τ.1 j).length - m) - 1) ∧ s.1 j = LG g (τ.1 j) ((τ.1 j).length - m) ∧ c + (LG g (τ.1 j) ((τ.1 j).length - m)).length = (τ.1 j).length ∧ (c = 0 ∧ s = τ ∨ 1 ≤ c ∧ DM j (va_up τ.1 j (LG g (τ.1 j) ((τ.1 j).length - m)), τ.2) s)) (τ.1 j).length (by omega) ?_ ⟨τ, 0, rfl, by rw [Nat.sub_zero, LG_n], by rw [Nat.sub_zero, LG_n, Nat.zero_add], Or.inl ⟨rfl, rfl⟩⟩
  rintro kk _ m hm ⟨s, c, rfl, hs, hc, hd⟩ hk
  unfold f_X6_offAll_8 f_X6_offAll_31 f_X6_offAll_45
  dsimp only
  by_cases e : (τ.1 j).length - m = 0
  · rw [e, LG_0] at hc hd
    refine ok_t (by rw [e]; decide) ?_
    rcases hd with ⟨c0, es⟩ | ⟨c1, ed⟩
    · subst c0
      subst es
      exact ok_t (by decide) (ok_some (Or.inl ⟨by omega, rfl⟩))
    · refine ok_f (show ¬ nI c ≤ (0 : Int32) from mt (nI_lei (a := c) (b := 0) (by omega) (by omega)).mp (by omega)) (ok_ev mo_tear (ok_some (Or.inr ⟨by omega, s, ?_, ed⟩)))
      rw [show (τ.1 j).length - (keepG g 0 (τ.1 j)).length = c by omega]
  · obtain ⟨p, hp⟩ : ∃ p, (τ.1 j).length - m = p + 1 := ⟨(τ.1 j).length - m - 1, by omega⟩
    have hp2 : (τ.1 j).length - (m + 1) = p := by omega
    obtain ⟨k0, k1, kl⟩ := LG_s (g := g) (xs := τ.1 j) (p := p) (by omega)
    rw [hp] at hs hc hd
    rw [hp, nI_prd (by omega) (by omega)]
    show Ok (if nI p < 0 then _ else _) _
    refine ok_f (nI_nn (by omega)) (ok_f (arr_iN (i := p) (by omega) (by omega)) ?_)
    rw [nI_c (by omega)]
    refine ok_if (fun q => ok_nme fun y hy => hk _ (by omega) ⟨s, c, ?_, ?_, ?_, ?_⟩) fun q => ?_
    · rw [hy, hp2, am1]; rfl
    · rw [hp2, k0 q]; exact hs
    · rw [hp2, k0 q]; exact hc
    · rw [hp2, k0 q]; exact hd
    · have l1 : (LG g (τ.1 j) p).length + 1 = (LG g (τ.1 j) (p + 1)).length := by
        rw [k1 q, delAt_len kl]; omega
      refine ok_bind (mo_go (τ := s) hx hg (i := p) (by rw [hs]; exact kl) (by rw [hs]; omega)) fun z hz => ok_nme fun y1 e1 => ok_nme fun y2 e2 => hk _ (by omega) ⟨z.2, c + 1, ?_, ?_, ?_, Or.inr ⟨by omega, ?_⟩⟩
      · rw [e1, e2, hp2, am1, nI_suc (by omega)]; rfl
      · rw [hp2, hz.2.1]
        show va_up s.1 j (delAt (s.1 j) p) j = _
        rw [up_eq, hs, k1 q]
      · rw [hp2]; omega
      · rw [hp2, k1 q, ← hs]
        rcases hd with ⟨-, es⟩ | ⟨-, ed⟩
        · rw [← es]; exact hz.2
        · exact ed.comp hj hz.2
end L3O
end
section
/-! level 3: a track is left with what is not marked -/
section L3P
variable {σ : CS} {τ : MS}
theorem keepG_full (g : Nat → Int32) : ∀ (xs : List Int32) (m : Nat), (keepG g m xs).length = xs.length → keepG g m xs = xs := by
  intro xs
  induction xs with
  | nil => intro m _; rfl
  | cons v r ih =>
    intro m h
    rw [keepG_c] at h ⊢
    have := keepG_len g r (m + 1)
    by_cases c : g m = 0
    · rw [if_pos c] at h ⊢
      rw [List.length_cons, List.length_cons] at h
      rw [ih (m + 1) (by omega)]
    · rw [if_neg c] at h
      rw [List.length_cons] at h
      omega
theorem keepG_nil (g : Nat → Int32) : ∀ (xs : List Int32) (m : Nat), (∀ i, m ≤ i → i < m + xs.length → ¬ g i = 0) → keepG g m xs = [] := by
  intro xs
  induction xs with
  | nil => intro m _; rfl
  | cons v r ih =>
    intro m h
    rw [List.length_cons] at h
    rw [keepG_c, if_neg (h m (by omega) (by omega))]
    exact ih (m + 1) fun i h1 h2 => h i (by omega) (by omega)
theorem off_end (h : RX σ τ) {x : Int32} {j : Nat} {g : Nat → Int32} {ρ : RS} (hj : j < 2) (hx : x = 0 ∧ j = 0 ∨ x = 1 ∧ j = 1) (hρ : RW j ρ (keepG g 0 (τ.1 j))) : Ri (f_X3_tearIfAny (va_up σ.1 j ρ, σ.2) x (nI ((τ.1 j).length - (keepG g 0 (τ.1 j)).length))) (f_X6_offAll τ x (τ.1 j).length g) (fun s r2 => r2.1 = nI ((τ.1 j).length - (keepG g 0 (τ.1 j)).length) ∧ RX s r2.2 ∧ r2.2.2 0 = τ.2 0) := by
  have hl := len20 h.1 hj
  intro r2 e2
  unfold f_X3_tearIfAny
  rcases ok_val (mo_offAll (g := g) hl hj hx) e2 with ⟨q, er⟩ | ⟨q, t1, er, ht⟩
  · have ek := keepG_full g (τ.1 j) 0 q
    refine ok_t (by rw [q, Nat.sub_self]; decide) (ok_some ?_)
    subst er
    refine ⟨by rw [q, Nat.sub_self]; rfl, ?_, rfl⟩
    rw [ek] at hρ
    have := h.up (i := j) (xs := τ.1 j) (by omega) hρ (by rw [us]; exact h.1.2.2.2)
    rw [us] at this
    exact this
  · refine ok_f (show ¬ nI ((τ.1 j).length - (keepG g 0 (τ.1 j)).length) ≤ (0 : Int32) from mt (nI_lei (a := (τ.1 j).length - (keepG g 0 (τ.1 j)).length) (b := 0) (by omega) (by omega)).mp (by omega)) (ok_bind (cl_tearFor hx) fun s hs => ok_some ?_)
    subst er
    have te := tear_rx h hj hρ (h.1.2.2.2.track hj fun v hv => h.1.2.2.2.tv hj (keepG_mem g _ _ hv)) hs ht
    exact ⟨rfl, te.1, te.2.1⟩
theorem ag_clear (h : RX σ τ) (x1 : Int32) : Ri (f_X3_clear σ x1) (f_X6_clear τ x1) (TQ C1 σ) := by
  unfold f_X3_clear f_X6_clear
  refine gd_track (fun j hj hx => ri_tR rfl ?_) (ri_fR ne10 (tq_l (h.thr 1) thr0))
  have h0 := h.thr 0
  have hr := h.row (i := j) (by omega)
  have hl := len20 h.1 hj
  refine ri_eL (trackOf_ok hx) (ri_eL (rw_size hr) (ri_eL (v := ((σ.1 j).1, 0)) rfl (ri_nL fun s es => ?_)))
  subst es
  refine ri_eR (sizeN (gtr_x hx)) (ri_fR (arr_nN hl) (ri_nR fun n hn => ri_nR fun g hg => ?_))
  have hn : n = (τ.1 j).length := hn.trans (nI_cn hl)
  subst hn
  have key : ∀ (d m : Nat) (g : Nat → Int32) (f : Nat), m + d = (τ.1 j).length → d < f → (∀ i, i < m → ¬ g i = 0) → Ri ((f_X3_tearIfAny (va_up σ.1 j ((σ.1 j).1, 0), σ.2) x1 (nI (τ.1 j).length)).bind fun z22 => some (.inr (nI (τ.1 j).length, z22))) (lpn f_X6_clear_24 f (thr τ 0, x1, (τ.1 j).length, g, nI m)) (TQ C1 σ) := by
    intro d
    induction d with
    | zero =>
      intro m g f hm hf hg
      obtain ⟨f', rfl⟩ : ∃ f', f = f' + 1 := ⟨f - 1, by omega⟩
      show Ri _ (f_X6_clear_24 (lpn f_X6_clear_24 f') (thr τ 0, x1, (τ.1 j).length, g, nI m)) _
      unfold f_X6_clear_24
      dsimp only
      refine ri_tR ((nI_lei (by omega) (by omega)).mpr (by omega)) ?_
      have ek : keepG g 0 ((thr τ 0).1 j) = [] := keepG_nil g _ 0 fun i _ hi => hg i (by
        have hi : i < 0 + (τ.1 j).length := hi
        omega)
      have q := off_end (τ := thr τ 0) (g := g) (ρ := ((σ.1 j).1, 0)) h0 hj hx (by rw [ek]; exact rw_empty)
      rw [ek] at q
      exact ri_call q fun u w hu => tq_r hu.2.1 (hu.2.2.trans thr0) hu.1.symm
    | succ d ih =>
      intro m g f hm hf hg
      obtain ⟨f', rfl⟩ : ∃ f', f = f' + 1 := ⟨f - 1, by omega⟩
      show Ri _ (f_X6_clear_24 (lpn f_X6_clear_24 f') (thr τ 0, x1, (τ.1 j).length, g, nI m)) _
      unfold f_X6_clear_24
      dsimp only
      refine ri_fR (mt (nI_lei (by omega) (by omega)).mp (by omega)) (ri_fR (arr_iN (i := m) (by omega) (by omega)) (ri_nR fun g1 hg1 => ri_nR fun y hy => ?_))
      rw [hy, nI_suc (by omega)]
      refine ih (m + 1) g1 f' (by omega) (by omega) fun i hi => ?_
      rw [hg1, nI_c (by omega), upd_at]
      by_cases c : i = m
      · rw [if_pos c]; decide
      · rw [if_neg c]; exact hg i (by omega)
  exact key (τ.1 j).length 0 g 24 (by omega) (by omega) fun i hi => absurd hi (by omega)
end L3P
end
section
/-! level 3: the class takes off as it goes -/
section L3Q
variable {σ : CS} {τ : MS}
theorem keepG_app (g : Nat → Int32) (b : List Int32) : ∀ (a : List Int32) (m : Nat), keepG g m (a ++ b) = keepG g m a ++ keepG g (m + a.length) b := by
  intro a
  induction a with
  | nil => intro m; rfl
  | cons v r ih =>
    intro m
    rw [List.cons_append, keepG_c, keepG_c, ih (m + 1), List.length_cons, show m + 1 + r.length = m + (r.length + 1) by omega]
    split
    · rfl
    · rfl
theorem keepG_cg {g g' : Nat → Int32} : ∀ (xs : List Int32) (m : Nat), (∀ i, m ≤ i → i < m + xs.length → (g i = 0 ↔ g' i = 0)) → keepG g m xs = keepG g' m xs := by
  intro xs
  induction xs with
  | nil => intro m _; rfl
  | cons v r ih =>
    intro m h
    rw [List.length_cons] at h
    have h0 := h m (by omega) (by omega)
    have e := ih (m + 1) fun i h1 h2 => h i (by omega) (by omega)
    rw [keepG_c, keepG_c, e]
    by_cases c : g m = 0
    · rw [if_pos c, if_pos (h0.mp c)]
    · rw [if_neg c, if_neg (fun q => c (h0.mpr q))]
def KF (g : Nat → Int32) (xs : List Int32) (k : Nat) : List Int32 := keepG g 0 (xs.take k) ++ xs.drop k
theorem KF_0 {g : Nat → Int32} {xs : List Int32} : KF g xs 0 = xs := rfl
theorem KF_n {g : Nat → Int32} {xs : List Int32} : KF g xs xs.length = keepG g 0 xs := by
  unfold KF
  rw [List.take_length, List.drop_eq_nil_of_le (Nat.le_refl _), List.append_nil]
theorem KF_s {g : Nat → Int32} {xs : List Int32} {k : Nat} (h : k < xs.length) : (keepG g 0 (xs.take k)).length ≤ k ∧ (KF g xs k).getD (keepG g 0 (xs.take k)).length 0 = xs.getD k 0 ∧ (keepG g 0 (xs.take k)).length < (KF g xs k).length ∧ (g k = 0 → KF g xs (k + 1) = KF g xs k ∧ (keepG g 0 (xs.take (k + 1))).length = (keepG g 0 (xs.take k)).length + 1) ∧ (¬ g k = 0 → KF g xs (k + 1) = delAt (KF g xs k) (keepG g 0 (xs.take k)).length ∧ (keepG g 0 (xs.take (k + 1))).length = (keepG g 0 (xs.take k)).length) := by
  have hA : (xs.take k).length = k := by rw [List.length_take]; omega
  have hk := keepG_len g (xs.take k) 0
  have e : KF g xs k = keepG g 0 (xs.take k) ++ xs.getD k 0 :: xs.drop (k + 1) := by
    unfold KF
    rw [drop_cons h]
  have e1 : keepG g 0 (xs.take (k + 1)) = keepG g 0 (xs.take k) ++ (if g k = 0 then [xs.getD k 0] else []) := by
    rw [take_snoc h, keepG_app, hA, Nat.zero_add]
    rfl
  refine ⟨by omega, ?_, ?_, fun c => ⟨?_, ?_⟩, fun c => ⟨?_, ?_⟩⟩
  · rw [e]; exact get_mid _ _ _
  · rw [e, List.length_append, List.length_cons]; omega
  · rw [e]
    unfold KF
    rw [e1, if_pos c, List.append_assoc]
    rfl
  · rw [e1, if_pos c, List.length_append]; rfl
  · rw [e, del_mid]
    unfold KF
    rw [e1, if_neg c, List.append_nil]
  · rw [e1, if_neg c, List.append_nil]
theorem cl_dropAll {P : Nat ⊕ (Int32 × CS) → Prop} {x1 x2 : Int32} {j : Nat} {xs : List Int32} {g : Nat → Int32} (hr : RW j (σ.1 j) xs) (hg : ∀ i, i < xs.length → (g i = 0 ↔ ¬ xs.getD i 0 / 100 = x2)) (fin : ∀ ρ, RW j ρ (keepG g 0 xs) → Ok ((f_X3_tearIfAny (va_up σ.1 j ρ, σ.2) x1 (nI (xs.length - (keepG g 0 xs).length))).bind fun z3 => some (.inr (nI (xs.length - (keepG g 0 xs).length), z3))) P) : Ok (lpn f_X3_dropAll_27 64 (σ, x1, x2, j, nI xs.length, 0, 0)) P := by
  have hl := hr.len
  refine up_loop (fun k t => ∃ ρ, t = ((va_up σ.1 j ρ, σ.2), x1, x2, j, nI xs.length, nI (k - (keepG g 0 (xs.take k)).length), nI k) ∧ RW j ρ (KF g xs k)) xs.length ?_ xs.length 0 _ (by omega) ⟨σ.1 j, by rw [us]; rfl, by rw [KF_0]; exact hr⟩ 64 (by omega)
  rintro kk _ k hk2 ⟨ρ, rfl, hρ⟩ hk
  unfold f_X3_dropAll_27 f_X3_dropAll_64 f_X3_kindOf
  dsimp only
  refine ok_if (fun c => ?_) fun c => ?_
  · have c2 := (nI_lei (by omega) (by omega)).mp c
    have e : k = xs.length := by omega
    subst e
    rw [KF_n] at hρ
    rw [List.take_length]
    exact fin ρ hρ
  · have c2 : k < xs.length := Nat.lt_of_not_le (mt (nI_lei (by omega) (by omega)).mpr c)
    obtain ⟨a1, a2, a3, a4, a5⟩ := KF_s (g := g) c2
    have hρ2 : RW j (va_up σ.1 j ρ j) (KF g xs k) := by rw [up_eq]; exact hρ
    refine ok_nme fun y hy => ?_
    have ey : y = nI (keepG g 0 (xs.take k)).length := by
      rw [hy, nI_dif (by omega) (by omega), show k - (k - (keepG g 0 (xs.take k)).length) = (keepG g 0 (xs.take k)).length by omega]
    rw [ey]
    have er := rw_read hρ2 a3
    rw [a2] at er
    refine ok_ev er (ok_ev rfl (ok_if (fun q => ?_) fun q => ?_))
    · obtain ⟨b1, b2⟩ := a5 (fun z => ((hg k c2).mp z) q)
      refine ok_bind (rw_leave hρ2 a3) fun z hz => ok_nme fun t1 e1 => ok_nme fun y2 e2 => ok_nme fun y3 e3 => hk _ c2 ⟨z.2, ?_, ?_⟩
      · rw [e1, e2, e3, nI_suc (by omega), nI_suc (by omega), b2, show k + 1 - (keepG g 0 (xs.take k)).length = k - (keepG g 0 (xs.take k)).length + 1 by omega]
        show ((va_up (va_up σ.1 j ρ) j z.2, σ.2), _) = _
        rw [uu]
      · rw [b1]; exact hz.2
    · obtain ⟨b1, b2⟩ := a4 ((hg k c2).mpr q)
      refine ok_nme fun y3 e3 => hk _ c2 ⟨ρ, ?_, ?_⟩
      · rw [e3, nI_suc (by omega), b2, show k + 1 - ((keepG g 0 (xs.take k)).length + 1) = k - (keepG g 0 (xs.take k)).length by omega]
      · rw [b1]; exact hρ
end L3Q
end
section
/-! level 3: dropAll -/
section L3R
variable {σ : CS} {τ : MS}
theorem ag_dropAll (h : RX σ τ) (x1 x2 : Int32) : Ri (f_X3_dropAll σ x1 x2) (f_X6_dropAll τ x1 x2) (TQ C2 σ) := by
  unfold f_X3_dropAll f_X6_dropAll
  refine gd_kind (fun j hj hx _ => ri_tR rfl ?_) (ri_fR ne10 (tq_l (h.thr 1) thr0)) (ri_fR ne10 (tq_l (h.thr 2) thr0))
  have h0 := h.thr 0
  have hr := h.row (i := j) (by omega)
  have hl := len20 h.1 hj
  refine ri_eL (trackOf_ok hx) (ri_eL (rw_size hr) ?_)
  refine ri_eR (sizeN (gtr_x hx)) (ri_fR (arr_nN hl) (ri_nR fun n hn => ri_nR fun g hg => ?_))
  have hn : n = (τ.1 j).length := hn.trans (nI_cn hl)
  subst hn
  have key : ∀ (d m : Nat) (g : Nat → Int32) (f : Nat), m + d = (τ.1 j).length → d < f → (∀ i, i < m → (g i = 0 ↔ ¬ (τ.1 j).getD i 0 / 100 = x2)) → Ri (lpn f_X3_dropAll_27 64 (σ, x1, x2, j, nI (τ.1 j).length, 0, 0)) (lpn f_X6_dropAll_22 f (thr τ 0, x1, x2, (τ.1 j).length, g, nI m)) (TQ C2 σ) := by
    intro d
    induction d with
    | zero =>
      intro m g f hm hf hg
      obtain ⟨f', rfl⟩ : ∃ f', f = f' + 1 := ⟨f - 1, by omega⟩
      show Ri _ (f_X6_dropAll_22 (lpn f_X6_dropAll_22 f') (thr τ 0, x1, x2, (τ.1 j).length, g, nI m)) _
      unfold f_X6_dropAll_22
      dsimp only
      refine ri_tR ((nI_lei (by omega) (by omega)).mpr (by omega)) ?_
      intro r2 e2
      refine cl_dropAll (g := g) hr (fun i hi => hg i (by omega)) fun ρ hρ => ?_
      have q := off_end (τ := thr τ 0) (g := g) (ρ := ρ) h0 hj hx hρ
      have q2 : Ri ((f_X3_tearIfAny (va_up σ.1 j ρ, σ.2) x1 (nI ((τ.1 j).length - (keepG g 0 (τ.1 j)).length))).bind fun z3 => some (.inr (nI ((τ.1 j).length - (keepG g 0 (τ.1 j)).length), z3))) ((f_X6_offAll (thr τ 0) x1 (τ.1 j).length g).bind fun z6 => some (z6.1, z6.2)) (TQ C2 σ) := ri_call q fun u w hu => tq_r hu.2.1 (hu.2.2.trans thr0) hu.1.symm
      exact q2 r2 e2
    | succ d ih =>
      intro m g f hm hf hg
      obtain ⟨f', rfl⟩ : ∃ f', f = f' + 1 := ⟨f - 1, by omega⟩
      show Ri _ (f_X6_dropAll_22 (lpn f_X6_dropAll_22 f') (thr τ 0, x1, x2, (τ.1 j).length, g, nI m)) _
      unfold f_X6_dropAll_22
      dsimp only
      refine ri_fR (mt (nI_lei (by omega) (by omega)).mp (by omega)) (ri_eR (getN (τ := thr τ 0) (i := m) (gtr_x hx) (show m < (τ.1 j).length by omega) hl) (ri_eR (v := (τ.1 j).getD m 0 / 100) rfl ?_))
      have st : ∀ u : Int32, (vp_nar .boolean u = 0 ↔ ¬ (τ.1 j).getD m 0 / 100 = x2) → Ri (lpn f_X3_dropAll_27 64 (σ, x1, x2, j, nI (τ.1 j).length, 0, 0)) (f_X6_dropAll_51 (lpn f_X6_dropAll_22 f') (thr τ 0) x1 x2 (τ.1 j).length g (nI m) (nI m) u) (TQ C2 σ) := by
        intro u hu
        unfold f_X6_dropAll_51
        refine ri_fR (arr_iN (i := m) (by omega) (by omega)) (ri_nR fun g1 hg1 => ri_nR fun y hy => ?_)
        rw [hy, nI_suc (by omega)]
        refine ih (m + 1) g1 f' (by omega) (by omega) fun i hi => ?_
        rw [hg1, nI_c (by omega), upd_at]
        by_cases c : i = m
        · rw [if_pos c, c]; exact hu
        · rw [if_neg c]; exact hg i (by omega)
      refine ri_iR (fun q => st 1 ⟨fun e => absurd e (by decide), fun e => absurd q e⟩) fun q => st 0 ⟨fun _ => q, fun _ => (by decide)⟩
  exact key (τ.1 j).length 0 g 24 (by omega) (by omega) fun i hi => absurd hi (by omega)
end L3R
end
section
/-! level 3: purge -/
section L3S
variable {σ : CS} {τ : MS}
theorem cl_like {xs : List Int32} (hr : RW 0 (σ.1 0) xs) (v : Int32) : f_X3_isLikeOneOf σ 0 v = some (if fnG (tKind (v / 100)) 0 xs 0 (-1) = -1 then 0 else 1) := by
  unfold f_X3_isLikeOneOf f_X3_kindOf
  rw [bsm, rw_placeOfKind hr, bsm]
  split <;> rfl
theorem cl_purge {P : Int32 × CS → Prop} {x1 : Int32} {xs ys : List Int32} {g : Nat → Int32} (hr : RW 1 (σ.1 1) xs) (hr0 : RW 0 (σ.1 0) ys) (hg : ∀ i, i < xs.length → (g i = 0 ↔ (if fnG (tKind (xs.getD i 0 / 100)) 0 ys 0 (-1) = -1 then (0 : Int32) else 1) = x1)) (fin : ∀ ρ, RW 1 ρ (keepG g 0 xs) → Ok ((f_X3_tearIfAny (va_up σ.1 1 ρ, σ.2) 1 (nI (xs.length - (keepG g 0 xs).length))).bind fun z3 => some (nI (xs.length - (keepG g 0 xs).length), z3)) P) : Ok (lpn f_X3_purge_13 64 (σ, x1, nI xs.length, 0, 0)) P := by
  have hl := hr.len
  refine up_loop (fun k t => ∃ ρ, t = ((va_up σ.1 1 ρ, σ.2), x1, nI xs.length, nI (k - (keepG g 0 (xs.take k)).length), nI k) ∧ RW 1 ρ (KF g xs k)) xs.length ?_ xs.length 0 _ (by omega) ⟨σ.1 1, by rw [us]; rfl, by rw [KF_0]; exact hr⟩ 64 (by omega)
  rintro kk _ k hk2 ⟨ρ, rfl, hρ⟩ hk
  unfold f_X3_purge_13 f_X3_purge_58
  dsimp only
  refine ok_if (fun c => ?_) fun c => ?_
  · have c2 := (nI_lei (by omega) (by omega)).mp c
    have e : k = xs.length := by omega
    subst e
    rw [KF_n] at hρ
    rw [List.take_length]
    exact fin ρ hρ
  · have c2 : k < xs.length := Nat.lt_of_not_le (mt (nI_lei (by omega) (by omega)).mpr c)
    obtain ⟨a1, a2, a3, a4, a5⟩ := KF_s (g := g) c2
    have hρ2 : RW 1 (va_up σ.1 1 ρ 1) (KF g xs k) := by rw [up_eq]; exact hρ
    have hρ0 : RW 0 (va_up σ.1 1 ρ 0) ys := by rw [up_ne (by omega)]; exact hr0
    refine ok_nme fun y hy => ?_
    have ey : y = nI (keepG g 0 (xs.take k)).length := by
      rw [hy, nI_dif (by omega) (by omega), show k - (k - (keepG g 0 (xs.take k)).length) = (keepG g 0 (xs.take k)).length by omega]
    rw [ey]
    have er := rw_read hρ2 a3
    rw [a2] at er
    refine ok_ev er (ok_ev (cl_like (σ := (va_up σ.1 1 ρ, σ.2)) hρ0 _) (ok_if (fun q => ?_) fun q => ?_))
    · obtain ⟨b1, b2⟩ := a4 ((hg k c2).mpr q)
      refine ok_nme fun y3 e3 => hk _ c2 ⟨ρ, ?_, ?_⟩
      · rw [e3, nI_suc (by omega), b2, show k + 1 - ((keepG g 0 (xs.take k)).length + 1) = k - (keepG g 0 (xs.take k)).length by omega]
      · rw [b1]; exact hρ
    · obtain ⟨b1, b2⟩ := a5 (fun z => q ((hg k c2).mp z))
      refine ok_bind (rw_leave hρ2 a3) fun z hz => ok_nme fun t1 e1 => ok_nme fun y2 e2 => ok_nme fun y3 e3 => hk _ c2 ⟨z.2, ?_, ?_⟩
      · rw [e1, e2, e3, nI_suc (by omega), nI_suc (by omega), b2, show k + 1 - (keepG g 0 (xs.take k)).length = k - (keepG g 0 (xs.take k)).length + 1 by omega]
        show ((va_up (va_up σ.1 1 ρ) 1 z.2, σ.2), _) = _
        rw [uu]
      · rw [b1]; exact hz.2
end L3S
end
section
/-! level 3: purge on both sides -/
section L3T
variable {σ : CS} {τ : MS}
theorem ag_purge (h : RX σ τ) {x1 : Int32} (hx1 : x1 = 0 ∨ x1 = 1) : Ri (f_X3_purge σ x1) (f_X6_purge τ x1) UQ := by
  have h0 := h.thr 0
  have hr := h.row (i := 1) (by omega)
  have hr0 := h.row (i := 0) (by omega)
  have hl := len20 h.1 (j := 1) (by omega)
  unfold f_X3_purge f_X6_purge
  refine ri_nR fun t ht => ?_
  have ht : t = thr τ 0 := ht
  subst ht
  refine ri_eL (rw_size hr) (ri_eR (sizeN (j := 1) rfl) (ri_fR (arr_nN hl) (ri_nR fun n hn => ri_nR fun g hg => ?_)))
  have hn : n = (τ.1 1).length := hn.trans (nI_cn hl)
  subst hn
  have key : ∀ (d m : Nat) (g : Nat → Int32) (f : Nat), m + d = (τ.1 1).length → d < f → (∀ i, i < m → (g i = 0 ↔ (if fnG (tKind ((τ.1 1).getD i 0 / 100)) 0 (τ.1 0) 0 (-1) = -1 then (0 : Int32) else 1) = x1)) → Ri (lpn f_X3_purge_13 64 (σ, x1, nI (τ.1 1).length, 0, 0)) (lpn f_X6_purge_15 f (thr τ 0, x1, (τ.1 1).length, g, nI m)) UQ := by
    intro d
    induction d with
    | zero =>
      intro m g f hm hf hg
      obtain ⟨f', rfl⟩ : ∃ f', f = f' + 1 := ⟨f - 1, by omega⟩
      show Ri _ (f_X6_purge_15 (lpn f_X6_purge_15 f') (thr τ 0, x1, (τ.1 1).length, g, nI m)) _
      unfold f_X6_purge_15
      dsimp only
      refine ri_tR ((nI_lei (by omega) (by omega)).mpr (by omega)) ?_
      intro r2 e2
      refine cl_purge (g := g) hr hr0 (fun i hi => hg i (by omega)) fun ρ hρ => ?_
      have q := off_end (τ := thr τ 0) (x := 1) (j := 1) (g := g) (ρ := ρ) h0 (by omega) (Or.inr ⟨rfl, rfl⟩) hρ
      have q2 : Ri ((f_X3_tearIfAny (va_up σ.1 1 ρ, σ.2) 1 (nI ((τ.1 1).length - (keepG g 0 (τ.1 1)).length))).bind fun z3 => some (nI ((τ.1 1).length - (keepG g 0 (τ.1 1)).length), z3)) ((f_X6_offAll (thr τ 0) 1 (τ.1 1).length g).bind fun z6 => some (z6.1, z6.2)) UQ := ri_call q fun u w hu => ri_some ⟨hu.1.symm, hu.2.1⟩
      exact q2 r2 e2
    | succ d ih =>
      intro m g f hm hf hg
      obtain ⟨f', rfl⟩ : ∃ f', f = f' + 1 := ⟨f - 1, by omega⟩
      show Ri _ (f_X6_purge_15 (lpn f_X6_purge_15 f') (thr τ 0, x1, (τ.1 1).length, g, nI m)) _
      unfold f_X6_purge_15
      dsimp only
      refine ri_fR (mt (nI_lei (by omega) (by omega)).mp (by omega)) (ri_eR (getN (τ := thr τ 0) (j := 1) (i := m) rfl (show m < (τ.1 1).length by omega) hl) (ri_eR (v := (τ.1 1).getD m 0 / 100) rfl (ri_eR (mo_found (τ := thr τ 0) (j := 0) rfl (len20 h0.1 (by omega)) _ _) ?_)))
      have st : ∀ u : Int32, (vp_nar .boolean u = 0 ↔ (if fnG (tKind ((τ.1 1).getD m 0 / 100)) 0 (τ.1 0) 0 (-1) = -1 then (0 : Int32) else 1) = x1) → Ri (lpn f_X3_purge_13 64 (σ, x1, nI (τ.1 1).length, 0, 0)) (f_X6_purge_56 (lpn f_X6_purge_15 f') (thr τ 0) x1 (τ.1 1).length g (nI m) (nI m) u) UQ := by
        intro u hu
        unfold f_X6_purge_56
        refine ri_fR (arr_iN (i := m) (by omega) (by omega)) (ri_nR fun g1 hg1 => ri_nR fun y hy => ?_)
        rw [hy, nI_suc (by omega)]
        refine ih (m + 1) g1 f' (by omega) (by omega) fun i hi => ?_
        rw [hg1, nI_c (by omega), upd_at]
        by_cases c : i = m
        · rw [if_pos c, c]; exact hu
        · rw [if_neg c]; exact hg i (by omega)
      unfold f_X6_purge_47
      refine ri_iR (fun q => ?_) fun q => ?_
      · have q : fnG (tKind ((τ.1 1).getD m 0 / 100)) 0 (τ.1 0) 0 (-1) = -1 := q
        rw [if_pos q] at st
        rcases hx1 with e | e <;> subst e
        · exact ri_fR ne10 (st 0 ⟨fun _ => rfl, fun _ => (by decide)⟩)
        · exact ri_tR rfl (st 1 ⟨fun e => absurd e (by decide), fun e => absurd e (by decide)⟩)
      · have q : ¬ fnG (tKind ((τ.1 1).getD m 0 / 100)) 0 (τ.1 0) 0 (-1) = -1 := q
        rw [if_neg q] at st
        rcases hx1 with e | e <;> subst e
        · exact ri_tR rfl (st 1 ⟨fun e => absurd e (by decide), fun e => absurd e (by decide)⟩)
        · exact ri_fR (by decide) (st 0 ⟨fun _ => rfl, fun _ => (by decide)⟩)
  exact key (τ.1 1).length 0 g 24 (by omega) (by omega) fun i hi => absurd hi (by omega)
end L3T
end
section
/-! level 3: places by turns, from the front or from the back -/
section L3U
variable {g g' : Nat → Int32} {P : Nat → Nat} {xs : List Int32} {b : Int32} {k : Nat}
def PP (b : Int32) (n k : Nat) : Nat := if b = 0 then k else n - 1 - k
theorem pp_0 {n : Nat} : PP 0 n k = k := if_pos rfl
theorem pp_1 (hb : ¬ b = 0) {n : Nat} : PP b n k = n - 1 - k := if_neg hb
theorem pp_lt {n : Nat} (h : k < n) : PP b n k < n := by
  unfold PP
  split
  · exact h
  · omega
theorem pp_ne {n i : Nat} (h : k < n) (h2 : i < n) (e : i ≠ k) : PP b n i ≠ PP b n k := by
  unfold PP
  split
  · exact e
  · omega
def cntP (g : Nat → Int32) (P : Nat → Nat) : Nat → Nat
  | 0 => 0
  | k + 1 => if g (P k) = 0 then cntP g P k else cntP g P k + 1
def sumP (g : Nat → Int32) (P : Nat → Nat) (xs : List Int32) : Nat → Int32
  | 0 => 0
  | k + 1 => if g (P k) = 0 then sumP g P xs k else sumP g P xs k + jrem (xs.getD (P k) 0) 100
theorem cntP_s : cntP g P (k + 1) = if g (P k) = 0 then cntP g P k else cntP g P k + 1 := rfl
theorem sumP_s : sumP g P xs (k + 1) = if g (P k) = 0 then sumP g P xs k else sumP g P xs k + jrem (xs.getD (P k) 0) 100 := rfl
theorem cntP_le (g : Nat → Int32) (P : Nat → Nat) : ∀ k, cntP g P k ≤ k := by
  intro k
  induction k with
  | zero => exact Nat.le_refl _
  | succ k ih =>
    rw [cntP_s]
    split <;> omega
theorem cntP_mono : ∀ (d k : Nat), cntP g P k ≤ cntP g P (k + d) := by
  intro d
  induction d with
  | zero => intro k; exact Nat.le_refl _
  | succ d ih =>
    intro k
    have := ih k
    rw [show k + (d + 1) = (k + d) + 1 by omega, cntP_s]
    split <;> omega
theorem cntP_cg : ∀ k, (∀ i, i < k → (g (P i) = 0 ↔ g' (P i) = 0)) → cntP g P k = cntP g' P k := by
  intro k
  induction k with
  | zero => intro _; rfl
  | succ k ih =>
    intro h
    have e := ih fun i hi => h i (by omega)
    have h0 := h k (by omega)
    rw [cntP_s, cntP_s, e]
    by_cases c : g (P k) = 0
    · rw [if_pos c, if_pos (h0.mp c)]
    · rw [if_neg c, if_neg (fun q => c (h0.mpr q))]
theorem sumP_cg : ∀ k, (∀ i, i < k → (g (P i) = 0 ↔ g' (P i) = 0)) → sumP g P xs k = sumP g' P xs k := by
  intro k
  induction k with
  | zero => intro _; rfl
  | succ k ih =>
    intro h
    have e := ih fun i hi => h i (by omega)
    have h0 := h k (by omega)
    rw [sumP_s, sumP_s, e]
    by_cases c : g (P k) = 0
    · rw [if_pos c, if_pos (h0.mp c)]
    · rw [if_neg c, if_neg (fun q => c (h0.mpr q))]
def ZZ (b : Int32) (g : Nat → Int32) (xs : List Int32) (k : Nat) : List Int32 := if b = 0 then KF g xs k else LG g xs (xs.length - k)
theorem zz_f : ZZ 0 g xs k = KF g xs k := if_pos rfl
theorem zz_l (hb : ¬ b = 0) : ZZ b g xs k = LG g xs (xs.length - k) := if_neg hb
theorem zz_0 : ZZ b g xs 0 = xs := by
  unfold ZZ
  split
  · exact KF_0
  · rw [Nat.sub_zero, LG_n]
theorem zz_n : ZZ b g xs xs.length = keepG g 0 xs := by
  unfold ZZ
  split
  · exact KF_n
  · rw [Nat.sub_self, LG_0]
theorem kf_cnt : ∀ k, k ≤ xs.length → (keepG g 0 (xs.take k)).length + cntP g (PP 0 xs.length) k = k := by
  intro k
  induction k with
  | zero => intro _; rw [List.take_zero]; rfl
  | succ k ih =>
    intro h
    obtain ⟨-, -, -, a4, a5⟩ := KF_s (g := g) (xs := xs) (k := k) (by omega)
    have := ih (by omega)
    rw [cntP_s, pp_0]
    by_cases c : g k = 0
    · rw [if_pos c, (a4 c).2]; omega
    · rw [if_neg c, (a5 c).2]; omega
theorem lg_len (hb : ¬ b = 0) : ∀ k, k ≤ xs.length → (LG g xs (xs.length - k)).length + cntP g (PP b xs.length) k = xs.length := by
  intro k
  induction k with
  | zero =>
    intro _
    rw [Nat.sub_zero, LG_n]
    rfl
  | succ k ih =>
    intro h
    obtain ⟨a1, a2, a3⟩ := LG_s (g := g) (xs := xs) (p := xs.length - 1 - k) (by omega)
    rw [show xs.length - 1 - k + 1 = xs.length - k by omega] at a1 a2 a3
    have := ih (by omega)
    rw [cntP_s, pp_1 hb, show xs.length - (k + 1) = xs.length - 1 - k by omega]
    by_cases c : g (xs.length - 1 - k) = 0
    · rw [if_pos c, a1 c]; exact this
    · rw [if_neg c, a2 c, delAt_len a3]; omega
theorem LG_get {p : Nat} (h : p < xs.length) : (LG g xs (p + 1)).getD p 0 = xs.getD p 0 := by
  have hA : (xs.take p).length = p := by rw [List.length_take]; omega
  have e : LG g xs (p + 1) = xs.take p ++ xs.getD p 0 :: keepG g (p + 1) (xs.drop (p + 1)) := by
    unfold LG
    rw [take_snoc h, List.append_assoc]
    rfl
  have d := get_mid (xs.take p) (xs.getD p 0) (keepG g (p + 1) (xs.drop (p + 1)))
  rw [hA] at d
  rw [e]; exact d
theorem zz_len (h : k ≤ xs.length) : (ZZ b g xs k).length + cntP g (PP b xs.length) k = xs.length := by
  by_cases hb : b = 0
  · subst hb
    have := kf_cnt (g := g) (xs := xs) k h
    rw [zz_f]
    unfold KF
    rw [List.length_append, List.length_drop]
    omega
  · rw [zz_l hb]; exact lg_len hb k h
theorem zz_s (h : k < xs.length) : ∃ q, q < (ZZ b g xs k).length ∧ (b = 0 → q + cntP g (PP b xs.length) k = k) ∧ (¬ b = 0 → q = xs.length - 1 - k) ∧ (ZZ b g xs k).getD q 0 = xs.getD (PP b xs.length k) 0 ∧ (g (PP b xs.length k) = 0 → ZZ b g xs (k + 1) = ZZ b g xs k) ∧ (¬ g (PP b xs.length k) = 0 → ZZ b g xs (k + 1) = delAt (ZZ b g xs k) q) := by
  by_cases hb : b = 0
  · subst hb
    obtain ⟨a1, a2, a3, a4, a5⟩ := KF_s (g := g) h
    have kc := kf_cnt (g := g) (xs := xs) k (by omega)
    refine ⟨(keepG g 0 (xs.take k)).length, ?_, fun _ => kc, fun c => absurd rfl c, ?_, fun c => ?_, fun c => ?_⟩
    · rw [zz_f]; exact a3
    · rw [zz_f, pp_0]; exact a2
    · rw [pp_0] at c
      rw [zz_f, zz_f]; exact (a4 c).1
    · rw [pp_0] at c
      rw [zz_f, zz_f]; exact (a5 c).1
  · obtain ⟨a1, a2, a3⟩ := LG_s (g := g) (xs := xs) (p := xs.length - 1 - k) (by omega)
    have a4 := LG_get (g := g) (xs := xs) (p := xs.length - 1 - k) (by omega)
    rw [show xs.length - 1 - k + 1 = xs.length - k by omega] at a1 a2 a3 a4
    refine ⟨xs.length - 1 - k, ?_, fun c => absurd c hb, fun _ => rfl, ?_, fun c => ?_, fun c => ?_⟩
    · rw [zz_l hb]; exact a3
    · rw [zz_l hb, pp_1 hb]; exact a4
    · rw [pp_1 hb] at c
      rw [zz_l hb, zz_l hb, show xs.length - (k + 1) = xs.length - 1 - k by omega]; exact a1 c
    · rw [pp_1 hb] at c
      rw [zz_l hb, zz_l hb, show xs.length - (k + 1) = xs.length - 1 - k by omega]; exact a2 c
theorem zz_stop : ∀ (d k : Nat), k + d = xs.length → (∀ i, k ≤ i → i < xs.length → g (PP b xs.length i) = 0) → ZZ b g xs k = keepG g 0 xs ∧ cntP g (PP b xs.length) k = cntP g (PP b xs.length) xs.length ∧ sumP g (PP b xs.length) xs k = sumP g (PP b xs.length) xs xs.length := by
  intro d
  induction d with
  | zero =>
    intro k hk _
    have e : k = xs.length := by omega
    subst e
    exact ⟨zz_n, rfl, rfl⟩
  | succ d ih =>
    intro k hk h
    have c := h k (by omega) (by omega)
    obtain ⟨q, -, -, -, -, a5, -⟩ := zz_s (b := b) (g := g) (xs := xs) (k := k) (by omega)
    obtain ⟨i1, i2, i3⟩ := ih (k + 1) (by omega) fun i h1 h2 => h i (by omega) h2
    rw [a5 c] at i1
    rw [cntP_s, if_pos c] at i2
    rw [sumP_s, if_pos c] at i3
    exact ⟨i1, i2, i3⟩
end L3U
/-! remainders, by numbers -/
theorem jrem_e {x : Int32} {b : Nat} (hb : 0 < b) (hb2 : b < 2147483648) (h : 0 ≤ x) : (jrem x (nI b)).toInt = x.toInt % (b : Int) := by
  have h0 : 0 ≤ x.toInt := Int32.le_iff_toInt_le.mp h
  have h1 := nI_toInt (n := b) (by omega)
  have h2 := div_b hb hb2 h
  have h3 := x.toInt_lt
  have hd : (x.toInt / (b : Int)) * b ≤ x.toInt := Int.ediv_mul_le _ (by omega)
  have hd0 : 0 ≤ x.toInt / (b : Int) := Int.ediv_nonneg h0 (by omega)
  have hd1 : 0 ≤ (x.toInt / (b : Int)) * b := Int.mul_nonneg hd0 (by omega)
  have hm := Int.emod_def x.toInt (b : Int)
  have hc : (b : Int) * (x.toInt / (b : Int)) = (x.toInt / (b : Int)) * b := Int.mul_comm _ _
  unfold jrem
  rw [Int32.toInt_sub, Int32.toInt_mul, h2, h1, Int.bmod_eq_of_le (n := x.toInt / (b : Int) * b) (by omega) (by omega), Int.bmod_eq_of_le (by omega) (by omega)]
  omega
theorem jremN {a b : Nat} (hb : 0 < b) (hb2 : b < 2147483648) (ha : a < 2147483648) : jrem (nI a) (nI b) = nI (a % b) := by
  apply Int32.toInt_inj.mp
  have hlt : a % b < b := Nat.mod_lt _ hb
  rw [jrem_e hb hb2 (nI_bnd (b := a) (Nat.le_refl _) ha).1, nI_toInt (by omega), nI_toInt (by omega)]
  rfl
end
