/-! level 3: splice, clear -/
section L3N
variable {σ : CS} {τ : MS}
theorem ins_mid (A : List Int32) (v : Int32) (B : List Int32) : insAt (A ++ B) A.length v = A ++ v :: B := by
  induction A with
  | nil => rfl
  | cons a A ih =>
    show a :: insAt (A ++ B) A.length v = a :: (A ++ v :: B)
    rw [ih]
def sl (xs ys : List Int32) (p m : Nat) : List Int32 := (ys.take p ++ xs.take m) ++ ys.drop p
theorem sl_0 {xs ys : List Int32} {p : Nat} : sl xs ys p 0 = ys := by
  unfold sl
  rw [List.take_zero, List.append_nil, List.take_append_drop]
theorem sl_len {xs ys : List Int32} {p m : Nat} (hp : p ≤ ys.length) (hm : m ≤ xs.length) : (sl xs ys p m).length = ys.length + m := by
  unfold sl
  rw [List.length_append, List.length_append, List.length_take, List.length_take, List.length_drop]
  omega
theorem sl_s {xs ys : List Int32} {p m : Nat} (hp : p ≤ ys.length) (hm : m < xs.length) : insAt (sl xs ys p m) (p + m) (xs.getD m 0) = sl xs ys p (m + 1) := by
  have hA : (ys.take p ++ xs.take m).length = p + m := by
    rw [List.length_append, List.length_take, List.length_take]; omega
  have g := ins_mid (ys.take p ++ xs.take m) (xs.getD m 0) (ys.drop p)
  rw [hA] at g
  unfold sl
  rw [g, take_snoc hm]
  simp only [List.append_assoc, List.cons_append, List.nil_append]
theorem sl_mem {xs ys : List Int32} {p m : Nat} {v : Int32} (h : v ∈ sl xs ys p m) : v ∈ xs ∨ v ∈ ys := by
  rcases List.mem_append.mp h with q | q
  · rcases List.mem_append.mp q with q | q
    · exact Or.inr (List.mem_of_mem_take q)
    · exact Or.inl (List.mem_of_mem_take q)
  · exact Or.inr (List.mem_of_mem_drop q)
theorem grw2 (v : Int32) : grw (grw v) = grw v := by
  unfold grw
  by_cases c : v = 0
  · rw [if_pos c, if_pos rfl]
  · rw [if_neg c, if_neg (by decide)]
theorem cl_splice {xs ys : List Int32} {p : Nat} (hr0 : RW 0 (σ.1 0) xs) (hr1 : RW 1 (σ.1 1) ys) (hp : p ≤ ys.length) (hs : ys.length + xs.length ≤ 20) : Ok (lpn f_X3_splice_42 64 (σ, nI p, nI xs.length, 0)) fun r => ∃ s, r = .inr (nI xs.length, s) ∧ RW 0 (s.1 0) [] ∧ RW 1 (s.1 1) (sl xs ys p xs.length) ∧ RW 2 (s.1 2) [] ∧ s.1 3 = σ.1 3 ∧ s.2 1 = 0 ∧ s.2 4 = -1 ∧ s.2 5 = grw (σ.2 5) ∧ s.2 8 = grw (σ.2 8) ∧ ∀ q, q ≠ 1 → q ≠ 4 → q ≠ 5 → q ≠ 8 → s.2 q = σ.2 q := by
  have c1 : cap 1 = 20 := rfl
  refine up_loop (fun m t => ∃ ρ, t = ((va_up σ.1 1 ρ, σ.2), nI p, nI xs.length, nI m) ∧ RW 1 ρ (sl xs ys p m)) xs.length ?_ xs.length 0 _ (by omega) ⟨σ.1 1, by rw [us]; rfl, by rw [sl_0]; exact hr1⟩ 64 (by omega)
  rintro kk _ m hm ⟨ρ, rfl, hρ⟩ hk
  unfold f_X3_splice_42
  dsimp only
  refine ok_if (fun c => ?_) fun c => ?_
  · have c2 := (nI_lei (by omega) (by omega)).mp c
    have e : m = xs.length := by omega
    subst e
    refine ok_ev (v := ((va_up σ.1 1 ρ 0).1, 0)) rfl (ok_nme fun t7 e7 => ok_bind (cl_tearFor (σ := t7) (x := 1) (j := 1) (Or.inr ⟨rfl, rfl⟩)) fun z8 h8 => ok_bind (cl_dist (σ := z8) (x := 0) (j := 0) (Or.inl ⟨rfl, rfl⟩)) fun s h13 => ok_some ⟨s, rfl, ?_⟩)
    have b1 : ∀ i, s.1 i = va_up t7.1 2 ((t7.1 2).1, 0) i := fun i => by rw [h13.1, h8.1]
    have a := h13.2.1 rfl
    have b := h8.2.2 rfl
    have e2 : t7.2 = σ.2 := by rw [e7]
    refine ⟨?_, ?_, ?_, ?_, a.1, a.2.1, ?_, ?_, fun q q1 q2 q3 q4 => ?_⟩
    · rw [b1 0, up_ne (by omega), e7]
      show RW 0 (va_up (va_up σ.1 1 ρ) 0 ((va_up σ.1 1 ρ 0).1, 0) 0) []
      rw [up_eq]; exact rw_empty
    · rw [b1 1, up_ne (by omega), e7]
      show RW 1 (va_up (va_up σ.1 1 ρ) 0 ((va_up σ.1 1 ρ 0).1, 0) 1) _
      rw [up_ne (by omega), up_eq]; exact hρ
    · rw [b1 2, up_eq]; exact rw_empty
    · rw [b1 3, up_ne (by omega), e7]
      show va_up (va_up σ.1 1 ρ) 0 ((va_up σ.1 1 ρ 0).1, 0) 3 = _
      rw [up_ne (by omega), up_ne (by omega)]
    · rw [a.2.2 5 (by omega) (by omega), b.1, ← e2]
    · rw [a.2.2 8 (by omega) (by omega), b.2.1, ← e2]
    · rw [a.2.2 q q1 q2, b.2.2 q q3 q4, ← e2]
  · have c2 : m < xs.length := Nat.lt_of_not_le (mt (nI_lei (by omega) (by omega)).mpr c)
    have r0 : RW 0 (va_up σ.1 1 ρ 0) xs := by rw [up_ne (by omega)]; exact hr0
    have r1 : RW 1 (va_up σ.1 1 ρ 1) (sl xs ys p m) := by rw [up_eq]; exact hρ
    have ll := sl_len (xs := xs) hp (Nat.le_of_lt c2)
    rw [nI_sum (by omega)]
    refine ok_ev (rw_read r0 c2) (ok_bind (rw_enter r1 (v := xs.getD m 0) (by omega) (by omega)) fun z hz => ok_nme fun t1 e1 => ok_nme fun y hy => hk _ c2 ⟨z, ?_, ?_⟩)
    · rw [e1, hy, nI_suc (by omega)]
      show ((va_up (va_up σ.1 1 ρ) 1 z, σ.2), _, _, _) = _
      rw [uu]
    · rw [← sl_s hp c2]; exact hz
theorem mo_splice {xs ys : List Int32} {p : Nat} (hx : τ.1 0 = xs) (hy : τ.1 1 = ys) (hp : p ≤ ys.length) (hs : ys.length + xs.length ≤ 20) (hn : 1 ≤ xs.length) : Ok (lpn f_X6_splice_80 24 (τ, nI p, nI xs.length, 0)) fun r => ∃ t, r = (nI xs.length, t) ∧ t.1 0 = [] ∧ t.1 1 = sl xs ys p xs.length ∧ t.1 2 = [] ∧ t.1 3 = τ.1 3 ∧ t.2 1 = 0 ∧ t.2 2 = 0 ∧ t.2 3 = -1 ∧ t.2 5 = grw (τ.2 5) ∧ t.2 8 = grw (τ.2 8) ∧ ∀ q, q ≠ 1 → q ≠ 2 → q ≠ 3 → q ≠ 5 → q ≠ 8 → t.2 q = τ.2 q := by
  refine up24 (fun m t => ∃ s : MS, t = (s, nI p, nI xs.length, nI m) ∧ s.1 0 = xs.drop m ∧ s.1 1 = sl xs ys p m ∧ s.1 3 = τ.1 3 ∧ (1 ≤ m → s.2 1 = 0 ∧ s.2 2 = 0 ∧ s.2 3 = -1 ∧ s.2 5 = grw (τ.2 5) ∧ s.2 8 = grw (τ.2 8)) ∧ grw (s.2 5) = grw (τ.2 5) ∧ grw (s.2 8) = grw (τ.2 8) ∧ ∀ q, q ≠ 1 → q ≠ 2 → q ≠ 3 → q ≠ 5 → q ≠ 8 → s.2 q = τ.2 q) xs.length (by omega) ?_ ⟨τ, rfl, hx, by rw [sl_0]; exact hy, rfl, fun e => absurd e (by omega), rfl, rfl, fun _ _ _ _ _ _ => rfl⟩
  rintro kk _ m hm ⟨s, rfl, s0, s1, s3, qa, qb, qc, qd⟩ hk
  unfold f_X6_splice_80
  dsimp only
  refine ok_if (fun c => ?_) fun c => ?_
  · have c2 := (nI_lei (by omega) (by omega)).mp c
    have e : m = xs.length := by omega
    subst e
    have a := qa hn
    refine ok_ev mo_tear (ok_some ⟨_, rfl, ?_, ?_, ?_, ?_, a.1, a.2.1, a.2.2.1, a.2.2.2.1, a.2.2.2.2, qd⟩)
    · show va_up s.1 2 [] 0 = []
      rw [up_ne (by omega), s0, List.drop_eq_nil_of_le (by omega)]
    · show va_up s.1 2 [] 1 = _
      rw [up_ne (by omega), s1]
    · show va_up s.1 2 [] 2 = []
      rw [up_eq]
    · show va_up s.1 2 [] 3 = _
      rw [up_ne (by omega), s3]
  · have c2 : m < xs.length := Nat.lt_of_not_le (mt (nI_lei (by omega) (by omega)).mpr c)
    have ll := sl_len (xs := xs) hp (Nat.le_of_lt c2)
    have d0 : s.1 0 = xs.getD m 0 :: xs.drop (m + 1) := by rw [s0, drop_cons c2]
    have l0 : (s.1 0).length = xs.length - m := by rw [s0, List.length_drop]
    refine ok_bind (mo_go (τ := s) (x := 0) (j := 0) (i := 0) (Or.inl ⟨rfl, rfl⟩) rfl (by omega) (by omega)) fun z hz => ?_
    obtain ⟨hz1, hz2⟩ := hz
    have hv : z.1 = xs.getD m 0 := by rw [hz1, d0]; rfl
    have a := hz2.2.1 rfl
    have t0 : z.2.1 0 = xs.drop (m + 1) := by
      rw [hz2.1]
      show va_up s.1 0 (delAt (s.1 0) 0) 0 = _
      rw [up_eq, d0]; rfl
    have t1 : z.2.1 1 = sl xs ys p m := by
      rw [hz2.1]
      show va_up s.1 0 (delAt (s.1 0) 0) 1 = _
      rw [up_ne (by omega), s1]
    have t3 : z.2.1 3 = τ.1 3 := by
      rw [hz2.1]
      show va_up s.1 0 (delAt (s.1 0) 0) 3 = _
      rw [up_ne (by omega), s3]
    rw [nI_sum (by omega)]
    refine ok_bind (mo_come (τ := z.2) (x := 1) (v := z.1) (j := 1) (i := p + m) (Or.inr ⟨rfl, rfl⟩) rfl (by rw [t1]; omega) (by rw [t1]; omega)) fun u hu => ok_nme fun y hy => ?_
    have b := hu.2.2 rfl
    have k5 : u.2 5 = grw (τ.2 5) := by
      rw [b.1]
      show grw (z.2.2 5) = _
      rw [a.2.2.2 5 (by omega) (by omega) (by omega)]; exact qb
    have k8 : u.2 8 = grw (τ.2 8) := by
      rw [b.2.1]
      show grw (z.2.2 8) = _
      rw [a.2.2.2 8 (by omega) (by omega) (by omega)]; exact qc
    refine hk _ c2 ⟨u, by rw [hy, nI_suc (by omega)], ?_, ?_, ?_, fun _ => ⟨?_, ?_, ?_, k5, k8⟩, by rw [k5, grw2], by rw [k8, grw2], fun q q1 q2 q3 q5 q8 => ?_⟩
    · rw [hu.1]
      show va_up z.2.1 1 (insAt (z.2.1 1) (p + m) z.1) 0 = _
      rw [up_ne (by omega), t0]
    · rw [hu.1]
      show va_up z.2.1 1 (insAt (z.2.1 1) (p + m) z.1) 1 = _
      rw [up_eq, t1, hv, sl_s hp c2]
    · rw [hu.1]
      show va_up z.2.1 1 (insAt (z.2.1 1) (p + m) z.1) 3 = _
      rw [up_ne (by omega), t3]
    · rw [b.2.2 1 (by omega) (by omega)]; exact a.1
    · rw [b.2.2 2 (by omega) (by omega)]; exact a.2.1
    · rw [b.2.2 3 (by omega) (by omega)]; exact a.2.2.1
    · rw [b.2.2 q q5 q8]
      show z.2.2 q = _
      rw [a.2.2.2 q q1 q2 q3]; exact qd q q1 q2 q3 q5 q8
theorem ag_splice (h : RX σ τ) (x1 : Int32) : Ri (f_X3_splice σ x1) (f_X6_splice τ x1) (TQ C02 σ) := by
  have h0 := h.thr 0
  have hr0 := h.row (i := 0) (by omega)
  have hr1 := h.row (i := 1) (by omega)
  have hl0 := len20 h.1 (j := 0) (by omega)
  have hl1 := len20 h.1 (j := 1) (by omega)
  unfold f_X3_splice f_X6_splice f_X6_splice_16
  refine ri_eR (mo_isIn _ _ _) ?_
  by_cases c : 0 ≤ x1 ∧ x1 ≤ 20
  · rw [if_pos c]
    refine ri_fR ne10 (ri_eR (mo_st0 rfl) (ri_tR rfl (ri_eR (sizeN (j := 0) rfl) (ri_eR (sizeN (j := 1) rfl) (ri_obr (cl_place c) (ri_eL (rw_size hr0) ?_))))))
    obtain ⟨p, hp, rfl⟩ := nIof (b := 20) (by omega) c.1 c.2
    rcases room_cases h (x := 1) (j := 1) (by omega) (Or.inr ⟨rfl, rfl⟩) (n := (τ.1 0).length) hl0 with ⟨d, e⟩ | ⟨d, e⟩
    · refine ri_tR ((sum_le hl0 hl1).mpr (by omega)) ?_
      unfold f_X6_splice_45
      refine ri_eR (mo_ref0 thr0 rfl) (ri_tR rfl (ri_obr e (ri_eR (sizeN (j := 0) rfl) ?_)))
      by_cases z : (τ.1 0).length = 0
      · exact ri_tR ((nI_eqz (a := (τ.1 0).length) (by omega)).mpr z) (ri_tL ((nI_eqz (a := (τ.1 0).length) (by omega)).mpr z) (tq_r h0 thr0 rfl))
      · refine ri_fR (mt (nI_eqz (a := (τ.1 0).length) (by omega)).mp z) (ri_fL (mt (nI_eqz (a := (τ.1 0).length) (by omega)).mp z) (ri_eR (sizeN (j := 1) rfl) (ri_eL (rw_size hr1) (ri_iR (fun g => ri_tL g ?_) fun g => ri_fL g (tq_r h0 thr0 rfl)))))
        have g2 : p ≤ (τ.1 1).length := (nI_lei (by omega) (by omega)).mp g
        intro r2 e2
        obtain ⟨t, er, t0, t1, t2, t3, w1, w2, w3, w5, w8, wq⟩ := ok_val (mo_splice (τ := thr τ 0) (xs := τ.1 0) (ys := τ.1 1) (p := p) rfl rfl g2 d (by omega)) e2
        refine ok_mono (cl_splice hr0 hr1 g2 d) fun r hr => ?_
        obtain ⟨s, es, s0, s1, s2, s3, v1, v4, v5, v8, vq⟩ := hr
        have thq : ∀ q, q ≠ 0 → (thr τ 0).2 q = τ.2 q := thrn
        have hx : RX s t := by
          refine ⟨⟨fun i hi => ?_, fun q q1 q2 => ?_, ?_, ?_⟩, Or.inl ⟨v1, w1, v4, w3⟩⟩
          · rcases (by omega : i = 0 ∨ i = 1 ∨ i = 2 ∨ i = 3) with e | e | e | e <;> subst e
            · rw [t0]; exact s0
            · rw [t1]; exact s1
            · rw [t2]; exact s2
            · rw [t3, s3]; exact h.row (by omega)
          · by_cases q5 : q = 5
            · subst q5
              rw [v5, w5, thq 5 (by omega), h.1.2.1 5 (by omega) (by omega)]
            · by_cases q8 : q = 8
              · subst q8
                rw [v8, w8, thq 8 (by omega), h.1.2.1 8 (by omega) (by omega)]
              · rw [vq q (by omega) (by omega) q5 q8, wq q (by omega) (by omega) (by omega) q5 q8, thq q (by omega)]
                exact h.1.2.1 q q1 q2
          · rw [vq 0 (by omega) (by omega) (by omega) (by omega), wq 4 (by omega) (by omega) (by omega) (by omega) (by omega), thq 4 (by omega)]
            exact h.1.2.2.1
          · refine ⟨fun v hv => ?_, fun v hv => ?_, fun v hv => ?_, fun v hv => ?_⟩
            · rw [t0] at hv; exact absurd hv List.not_mem_nil
            · rw [t1] at hv
              rcases sl_mem hv with q | q
              · exact (h.1.2.2.2.1 v q).1
              · exact h.1.2.2.2.2.1 v q
            · rw [t2] at hv; exact absurd hv List.not_mem_nil
            · rw [t3] at hv; exact h.1.2.2.2.2.2.2 v hv
        have key := tq_r (C := C02) (σ := σ) (u := nI (τ.1 0).length) hx ((wq 0 (by omega) (by omega) (by omega) (by omega) (by omega)).trans thr0) rfl r2 (by rw [er])
        obtain ⟨w, ew, hw⟩ := key
        rw [es, Option.some.inj ew]
        exact hw
    · refine ri_fR (mt (sum_le hl0 hl1).mp (by omega)) ?_
      unfold f_X6_splice_45
      refine ri_eR (mo_ref1 thr0 ne10 (by decide)) (ri_fR ne10 (ri_obl e ?_))
      rw [thr_thr]
      exact tq_l (h.thr 2) thr0
  · rw [if_neg c]
    exact ri_tR rfl (ri_eR (mo_st1 ne10 (by decide)) (ri_fR ne10 (ri_obl (cl_noplace c) (tq_l (h.thr 1) thr0))))
end L3N
