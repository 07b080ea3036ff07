/-! level 3: what is marked goes -/
section L3O
variable {σ : CS} {τ : MS}
/-- the list without the places that g marks -/
def keepG (g : Nat → Int32) : Nat → List Int32 → List Int32
  | _, [] => []
  | m, v :: r => if g m = 0 then v :: keepG g (m + 1) r else keepG g (m + 1) r
theorem keepG_c {g : Nat → Int32} {m : Nat} {v : Int32} {r : List Int32} : keepG g m (v :: r) = if g m = 0 then v :: keepG g (m + 1) r else keepG g (m + 1) r := rfl
theorem keepG_len (g : Nat → Int32) : ∀ (xs : List Int32) (m : Nat), (keepG g m xs).length ≤ xs.length := by
  intro xs
  induction xs with
  | nil => intro m; exact Nat.le_refl _
  | cons v r ih =>
    intro m
    rw [keepG_c]
    have := ih (m + 1)
    split
    · rw [List.length_cons, List.length_cons]; omega
    · rw [List.length_cons]; omega
theorem keepG_mem (g : Nat → Int32) {w : Int32} : ∀ (xs : List Int32) (m : Nat), w ∈ keepG g m xs → w ∈ xs := by
  intro xs
  induction xs with
  | nil => intro m h; exact h
  | cons v r ih =>
    intro m h
    rw [keepG_c] at h
    split at h
    · rcases List.mem_cons.mp h with q | q
      · rw [q]; exact List.mem_cons_self
      · exact List.mem_cons_of_mem _ (ih _ q)
    · exact List.mem_cons_of_mem _ (ih _ h)
/-- the places from p on are done -/
def LG (g : Nat → Int32) (xs : List Int32) (p : Nat) : List Int32 := xs.take p ++ keepG g p (xs.drop p)
theorem LG_n {g : Nat → Int32} {xs : List Int32} : LG g xs xs.length = xs := by
  unfold LG
  rw [List.take_length, List.drop_eq_nil_of_le (Nat.le_refl _)]
  exact List.append_nil xs
theorem LG_0 {g : Nat → Int32} {xs : List Int32} : LG g xs 0 = keepG g 0 xs := rfl
theorem LG_s {g : Nat → Int32} {xs : List Int32} {p : Nat} (h : p < xs.length) : (g p = 0 → LG g xs p = LG g xs (p + 1)) ∧ (¬ g p = 0 → LG g xs p = delAt (LG g xs (p + 1)) p) ∧ p < (LG g xs (p + 1)).length := by
  have hA : (xs.take p).length = p := by rw [List.length_take]; omega
  have d := del_mid (xs.take p) (xs.getD p 0) (keepG g (p + 1) (xs.drop (p + 1)))
  rw [hA] at d
  have e : LG g xs (p + 1) = xs.take p ++ xs.getD p 0 :: keepG g (p + 1) (xs.drop (p + 1)) := by
    unfold LG
    rw [take_snoc h, List.append_assoc]
    rfl
  refine ⟨fun c => ?_, fun c => ?_, ?_⟩
  · rw [e]
    unfold LG
    rw [drop_cons h, keepG_c, if_pos c]
  · rw [e, d]
    unfold LG
    rw [drop_cons h, keepG_c, if_neg c]
  · rw [e, List.length_append, hA, List.length_cons]; omega
theorem DM.comp {j : Nat} (hj : j < 2) {a b : List Int32} {s t : MS} (h1 : DM j (va_up τ.1 j a, τ.2) s) (h2 : DM j (va_up s.1 j b, s.2) t) : DM j (va_up τ.1 j b, τ.2) t := by
  refine ⟨?_, fun e => ?_, fun e => ?_⟩
  · rw [h2.1]
    show va_up s.1 j b = va_up τ.1 j b
    rw [h1.1]
    show va_up (va_up τ.1 j a) j b = _
    rw [uu]
  · have p := h1.2.1 e
    have q := h2.2.1 e
    exact ⟨q.1, q.2.1, q.2.2.1, fun k k1 k2 k3 => (q.2.2.2 k k1 k2 k3).trans (p.2.2.2 k k1 k2 k3)⟩
  · have p := h1.2.2 e
    have q := h2.2.2 e
    refine ⟨?_, ?_, fun k k1 k2 => (q.2.2 k k1 k2).trans (p.2.2 k k1 k2)⟩
    · rw [q.1]
      show grw (s.2 5) = _
      rw [p.1, grw2]
    · rw [q.2.1]
      show grw (s.2 8) = _
      rw [p.2.1, grw2]
theorem mo_offAll {x : Int32} {j : Nat} {g : Nat → Int32} (hl : (τ.1 j).length ≤ 20) (hj : j < 2) (hx : x = 0 ∧ j = 0 ∨ x = 1 ∧ j = 1) : Ok (f_X6_offAll τ x (τ.1 j).length g) fun r => ((keepG g 0 (τ.1 j)).length = (τ.1 j).length ∧ r = (0, τ)) ∨ ((keepG g 0 (τ.1 j)).length < (τ.1 j).length ∧ ∃ t1, r = (nI ((τ.1 j).length - (keepG g 0 (τ.1 j)).length), (va_up t1.1 2 [], t1.2)) ∧ DM j (va_up τ.1 j (keepG g 0 (τ.1 j)), τ.2) t1) := by
  have hg := gtr_x hx
  unfold f_X6_offAll
  refine ok_nme fun y hy => ?_
  subst hy
  refine up24 (fun m t => ∃ (s : MS) (c : Nat), t = (s, x, (τ.1 j).length, g, nI c, nI ((τ.1 j).length - m) - 1) ∧ s.1 j = LG g (τ.1 j) ((τ.1 j).length - m) ∧ c + (LG g (τ.1 j) ((τ.1 j).length - m)).length = (τ.1 j).length ∧ (c = 0 ∧ s = τ ∨ 1 ≤ c ∧ DM j (va_up τ.1 j (LG g (τ.1 j) ((τ.1 j).length - m)), τ.2) s)) (τ.1 j).length (by omega) ?_ ⟨τ, 0, rfl, by rw [Nat.sub_zero, LG_n], by rw [Nat.sub_zero, LG_n, Nat.zero_add], Or.inl ⟨rfl, rfl⟩⟩
  rintro kk _ m hm ⟨s, c, rfl, hs, hc, hd⟩ hk
  unfold f_X6_offAll_8 f_X6_offAll_31 f_X6_offAll_45
  dsimp only
  by_cases e : (τ.1 j).length - m = 0
  · rw [e, LG_0] at hc hd
    refine ok_t (by rw [e]; decide) ?_
    rcases hd with ⟨c0, es⟩ | ⟨c1, ed⟩
    · subst c0
      subst es
      exact ok_t (by decide) (ok_some (Or.inl ⟨by omega, rfl⟩))
    · refine ok_f (show ¬ nI c ≤ (0 : Int32) from mt (nI_lei (a := c) (b := 0) (by omega) (by omega)).mp (by omega)) (ok_ev mo_tear (ok_some (Or.inr ⟨by omega, s, ?_, ed⟩)))
      rw [show (τ.1 j).length - (keepG g 0 (τ.1 j)).length = c by omega]
  · obtain ⟨p, hp⟩ : ∃ p, (τ.1 j).length - m = p + 1 := ⟨(τ.1 j).length - m - 1, by omega⟩
    have hp2 : (τ.1 j).length - (m + 1) = p := by omega
    obtain ⟨k0, k1, kl⟩ := LG_s (g := g) (xs := τ.1 j) (p := p) (by omega)
    rw [hp] at hs hc hd
    rw [hp, nI_prd (by omega) (by omega)]
    show Ok (if nI p < 0 then _ else _) _
    refine ok_f (nI_nn (by omega)) (ok_f (arr_iN (i := p) (by omega) (by omega)) ?_)
    rw [nI_c (by omega)]
    refine ok_if (fun q => ok_nme fun y hy => hk _ (by omega) ⟨s, c, ?_, ?_, ?_, ?_⟩) fun q => ?_
    · rw [hy, hp2, am1]; rfl
    · rw [hp2, k0 q]; exact hs
    · rw [hp2, k0 q]; exact hc
    · rw [hp2, k0 q]; exact hd
    · have l1 : (LG g (τ.1 j) p).length + 1 = (LG g (τ.1 j) (p + 1)).length := by
        rw [k1 q, delAt_len kl]; omega
      refine ok_bind (mo_go (τ := s) hx hg (i := p) (by rw [hs]; exact kl) (by rw [hs]; omega)) fun z hz => ok_nme fun y1 e1 => ok_nme fun y2 e2 => hk _ (by omega) ⟨z.2, c + 1, ?_, ?_, ?_, Or.inr ⟨by omega, ?_⟩⟩
      · rw [e1, e2, hp2, am1, nI_suc (by omega)]; rfl
      · rw [hp2, hz.2.1]
        show va_up s.1 j (delAt (s.1 j) p) j = _
        rw [up_eq, hs, k1 q]
      · rw [hp2]; omega
      · rw [hp2, k1 q, ← hs]
        rcases hd with ⟨-, es⟩ | ⟨-, ed⟩
        · rw [← es]; exact hz.2
        · exact ed.comp hj hz.2
end L3O
