/-! level 3: pieces put and taken at the ends -/
section L3C
variable {σ : CS} {τ : MS}
theorem bsm {α β : Type} {a : α} {f : α → Option β} : (some a).bind f = f a := rfl
theorem obm {α β : Type} {a : α} {f : α → Option (Nat ⊕ β)} : obx (some (.inr a)) f = f a := rfl
/-- how a call ends on both sides: thrown alike (C: which), or answered alike -/
def TQ (C : Nat → Int32) (σ : CS) (res : Nat ⊕ (Int32 × CS)) (r2 : Int32 × MS) : Prop := (∀ e, res = .inl e → RX σ r2.2 ∧ r2.2.2 0 = C e ∧ ¬ C e = 0) ∧ ∀ z, res = .inr z → RX z.2 r2.2 ∧ r2.2.2 0 = 0 ∧ z.1 = r2.1
def TN (C : Nat → Int32) (σ : CS) (res : Nat ⊕ Int32) (r2 : Int32 × MS) : Prop := (∀ e, res = .inl e → RX σ r2.2 ∧ r2.2.2 0 = C e ∧ ¬ C e = 0) ∧ ∀ z, res = .inr z → RX σ r2.2 ∧ r2.2.2 0 = 0 ∧ z = r2.1
theorem tq_l {C : Nat → Int32} {e : Nat} {v : Int32} {s : MS} (h : RX σ s) (h0 : s.2 0 = C e) (hne : ¬ C e = 0 := by decide) : Ri (some (.inl e)) (some (v, s)) (TQ C σ) := ri_some ⟨fun k hk => by cases hk; exact ⟨h, h0, hne⟩, fun z hz => by cases hz⟩
theorem tq_r {C : Nat → Int32} {r : CS} {u v : Int32} {s : MS} (h : RX r s) (h0 : s.2 0 = 0) (e : u = v) : Ri (some (.inr (u, r))) (some (v, s)) (TQ C σ) := ri_some ⟨fun k hk => (by cases hk), fun z hz => by cases hz; exact ⟨h, h0, e⟩⟩
theorem tn_l {C : Nat → Int32} {e : Nat} {v : Int32} {s : MS} (h : RX σ s) (h0 : s.2 0 = C e) (hne : ¬ C e = 0 := by decide) : Ri (some (.inl e)) (some (v, s)) (TN C σ) := ri_some ⟨fun k hk => by cases hk; exact ⟨h, h0, hne⟩, fun z hz => by cases hz⟩
theorem tn_r {C : Nat → Int32} {u v : Int32} {s : MS} (h : RX σ s) (h0 : s.2 0 = 0) (e : u = v) : Ri (some (.inr u)) (some (v, s)) (TN C σ) := ri_some ⟨fun k hk => (by cases hk), fun z hz => by cases hz; exact ⟨h, h0, e⟩⟩
theorem tk_ok {x : Int32} (p : x = 0 ∨ x = 1) : ∃ j, j < 2 ∧ (x = 0 ∧ j = 0 ∨ x = 1 ∧ j = 1) := by
  rcases p with p | p
  · exact ⟨0, by omega, Or.inl ⟨p, rfl⟩⟩
  · exact ⟨1, by omega, Or.inr ⟨p, rfl⟩⟩
theorem gd_track {α : Type} {x : Int32} {F : Unit → Option (Nat ⊕ α)} {G : Int32 × MS → Option (Int32 × MS)} {Q : Nat ⊕ α → Int32 × MS → Prop} (h0 : ∀ j, j < 2 → (x = 0 ∧ j = 0 ∨ x = 1 ∧ j = 1) → Ri (F ()) (G (0, thr τ 0)) Q) (h1 : Ri (some (.inl 0)) (G (1, thr τ 1)) Q) : Ri (obx (f_X3_needTrack x) F) ((f_X6_isNoTrack x).bind fun z => (f_X6_start τ z 1).bind G) Q := by
  by_cases p : x = 0 ∨ x = 1
  · obtain ⟨j, hj, hx⟩ := tk_ok p
    refine ri_obr (cl_track p) (ri_eR (mo_noTrack x) ?_)
    rw [if_pos p]
    exact ri_eR (mo_st0 rfl) (h0 j hj hx)
  · refine ri_obl (cl_notrack p) (ri_eR (mo_noTrack x) ?_)
    rw [if_neg p]
    exact ri_eR (mo_st1 ne10 (by decide)) h1
/-- a second thing that is asked for -/
theorem gd_ref {α : Type} {c : Prop} {u : Int32} {e : Nat} {v : Int32} {o : Option (Nat ⊕ Unit)} {F : Unit → Option (Nat ⊕ α)} {G : Int32 × MS → Option (Int32 × MS)} {Q : Nat ⊕ α → Int32 × MS → Prop} (ht : τ.2 0 = 0) (hv : ¬ v ≤ 0) (h : c ∧ u = 0 ∧ o = some (.inr ()) ∨ ¬ c ∧ ¬ u = 0 ∧ o = some (.inl e)) (h0 : c → Ri (F ()) (G (0, τ)) Q) (h1 : Ri (some (.inl e)) (G (1, thr τ v)) Q) : Ri (obx o F) ((f_X6_refuse τ u v).bind G) Q := by
  rcases h with ⟨a, b, d⟩ | ⟨a, b, d⟩
  · exact ri_obr d (ri_eR (mo_ref0 ht b) (h0 a))
  · exact ri_obl d (ri_eR (mo_ref1 ht b hv) h1)
theorem cl_piece (k l : Int32) : f_X3_needPiece k l = some (if (0 ≤ k ∧ k ≤ 9) ∧ 0 ≤ l ∧ l ≤ 99 then .inr () else .inl 1) := by
  unfold f_X3_needPiece
  by_cases h1 : 0 ≤ k ∧ k ≤ 9
  · rw [cl_within h1]
    by_cases h2 : 0 ≤ l ∧ l ≤ 99
    · rw [if_pos ⟨h1, h2⟩]
      show obx (f_X3_needWithin l 0 99) _ = _
      rw [cl_within h2]; rfl
    · rw [if_neg (fun h => h2 h.2)]
      show obx (f_X3_needWithin l 0 99) _ = _
      rw [cl_without h2]; rfl
  · rw [if_neg (fun h => h1 h.1), cl_without h1]; rfl
theorem mo_noPiece (k l : Int32) : f_X6_isNoPiece k l = some (if (0 ≤ k ∧ k ≤ 9) ∧ 0 ≤ l ∧ l ≤ 99 then 0 else 1) := by
  unfold f_X6_isNoPiece f_X6_isNoPiece_20
  rw [mo_isIn, mo_isIn]
  by_cases h1 : 0 ≤ k ∧ k ≤ 9
  · rw [if_pos h1]
    by_cases h2 : 0 ≤ l ∧ l ≤ 99
    · rw [if_pos h2, if_pos ⟨h1, h2⟩]; rfl
    · rw [if_neg h2, if_neg (fun h => h2 h.2)]; rfl
  · have e : ¬ ((0 ≤ k ∧ k ≤ 9) ∧ 0 ≤ l ∧ l ≤ 99) := fun h => h1 h.1
    rw [if_neg h1, if_neg e]; rfl
theorem pc_cases (k l : Int32) : PC k l ∧ (if (0 ≤ k ∧ k ≤ 9) ∧ 0 ≤ l ∧ l ≤ 99 then (0 : Int32) else 1) = 0 ∧ f_X3_needPiece k l = some (.inr ()) ∨ ¬ PC k l ∧ ¬ (if (0 ≤ k ∧ k ≤ 9) ∧ 0 ≤ l ∧ l ≤ 99 then (0 : Int32) else 1) = 0 ∧ f_X3_needPiece k l = some (.inl 1) := by
  by_cases h : (0 ≤ k ∧ k ≤ 9) ∧ 0 ≤ l ∧ l ≤ 99
  · exact Or.inl ⟨h, by rw [if_pos h], by rw [cl_piece, if_pos h]⟩
  · exact Or.inr ⟨h, by rw [if_neg h]; decide, by rw [cl_piece, if_neg h]⟩
theorem room_cases (h : RX σ τ) {x : Int32} {j : Nat} (hj : j < 2) (hx : x = 0 ∧ j = 0 ∨ x = 1 ∧ j = 1) {n : Nat} (hn : n ≤ 20) : ((τ.1 j).length + n ≤ 20 ∧ f_X3_needRoom σ x (nI n) = some (.inr ())) ∨ (¬ (τ.1 j).length + n ≤ 20 ∧ f_X3_needRoom σ x (nI n) = some (.inl 2)) := by
  have hr := h.row (i := j) (by omega)
  have hl := hr.len
  have e : f_X3_needRoom σ x (nI n) = some (if nI ((τ.1 j).length + n) ≤ nI 20 then .inr () else .inl 2) := by
    unfold f_X3_needRoom
    rw [trackOf_ok hx, bsm, rw_size hr, bsm, nI_sum (by omega)]
    have e20 : (20 : Int32) = nI 20 := rfl
    rw [e20]
    split <;> rfl
  by_cases c : (τ.1 j).length + n ≤ 20
  · exact Or.inl ⟨c, by rw [e, if_pos ((nI_lei (by omega) (by omega)).mpr c)]⟩
  · exact Or.inr ⟨c, by rw [e, if_neg (mt (nI_lei (by omega) (by omega)).mp c)]⟩
theorem sum_le {a b : Nat} (ha : a ≤ 20) (hb : b ≤ 20) : nI a + nI b ≤ 20 ↔ a + b ≤ 20 := by
  rw [nI_sum (by omega)]
  exact nI_lei (b := 20) (by omega) (by omega)
/-! the code of a piece -/
def cd (k l : Int32) : Int32 := if k = 0 then 0 else 100 * k + l
theorem cl_code (k l : Int32) : f_X3_codeOf k l = some (cd k l) := by
  unfold f_X3_codeOf cd
  split <;> rfl
theorem mo_code (k l : Int32) : f_X6_code k l = some (cd k l) := by
  unfold f_X6_code cd
  split <;> rfl
theorem cdN {a b : Nat} (ha : a ≤ 9) (hb : b ≤ 99) : 100 * nI a + nI b = nI (100 * a + b) := by
  apply Int32.toInt_inj.mp
  have h1 : (100 : Int32).toInt = 100 := rfl
  rw [Int32.toInt_add, Int32.toInt_mul, h1, nI_toInt (by omega), nI_toInt (by omega), nI_toInt (by omega), Int.bmod_eq_of_le (n := 100 * (a : Int)) (by omega) (by omega), Int.bmod_eq_of_le (by omega) (by omega)]
  omega
theorem pcd {k l : Int32} (h : PC k l) : VT (cd k l) ∧ (cd k l = 0 ↔ k = 0) := by
  obtain ⟨⟨a0, a1⟩, b0, b1⟩ := h
  obtain ⟨a, ha, rfl⟩ := nIof (b := 9) (by omega) a0 a1
  obtain ⟨b, hb, rfl⟩ := nIof (b := 99) (by omega) b0 b1
  unfold cd
  by_cases c : nI a = 0
  · rw [if_pos c]
    exact ⟨Or.inl rfl, fun _ => c, fun _ => rfl⟩
  · rw [if_neg c, cdN ha hb]
    have hp : 1 ≤ a := by
      have := mt (nI_eqz (a := a) (by omega)).mpr c
      omega
    refine ⟨Or.inr ⟨(nI_lei (a := 100) (by omega) (by omega)).mpr (by omega), (nI_lei (b := 999) (by omega) (by omega)).mpr (by omega)⟩, fun e => ?_, fun e => absurd e c⟩
    have := (nI_eqz (by omega)).mp e
    omega
theorem mo_barred (x c : Int32) : f_X6_isBarred x c = some (if x = 0 ∧ c = 0 then 1 else 0) := by
  unfold f_X6_isBarred
  by_cases h1 : x = 0
  · rw [if_pos h1]
    by_cases h2 : c = 0
    · rw [if_pos h2, if_pos ⟨h1, h2⟩]
    · rw [if_neg h2, if_neg (fun h => h2 h.2)]
  · rw [if_neg h1, if_neg (fun h => h1 h.1)]
/-- what both sides ask for when a piece is brought -/
theorem bring_cases (h : RX σ τ) (x b k l : Int32) : (f_X3_bringPiece σ x b k l = some (.inl 0) ∧ f_X6_mayNot τ x k l 1 = some (1, thr τ 1)) ∨ (f_X3_bringPiece σ x b k l = some (.inl 1) ∧ f_X6_mayNot τ x k l 1 = some (1, thr τ 2)) ∨ (f_X3_bringPiece σ x b k l = some (.inl 2) ∧ f_X6_mayNot τ x k l 1 = some (1, thr τ 3)) ∨ ∃ j, j < 2 ∧ (x = 0 ∧ j = 0 ∨ x = 1 ∧ j = 1) ∧ PC k l ∧ (τ.1 j).length < 20 ∧ f_X6_mayNot τ x k l 1 = some (0, thr τ 0) ∧ ((x = 0 ∧ cd k l = 0 ∧ f_X3_bringPiece σ x b k l = some (.inr (0, σ))) ∨ (¬ (x = 0 ∧ cd k l = 0) ∧ f_X3_bringPiece σ x b k l = (f_X3_stepOn σ x b (cd k l)).bind fun z => some (.inr (1, z)))) := by
  unfold f_X3_bringPiece f_X6_mayNot
  rw [mo_noTrack]
  by_cases p : x = 0 ∨ x = 1
  · obtain ⟨j, hj, hx⟩ := tk_ok p
    rw [cl_track p, if_pos p]
    have e1 : ((f_X6_start τ 0 1)) = some (0, thr τ 0) := mo_st0 rfl
    rcases pc_cases k l with ⟨a, b1, d⟩ | ⟨a, b1, d⟩
    · rcases room_cases h hj hx (n := 1) (by omega) with ⟨r1, r2⟩ | ⟨r1, r2⟩
      · refine Or.inr (Or.inr (Or.inr ⟨j, hj, hx, a, by omega, ?_, ?_⟩))
        · rw [bsm, e1, bsm, if_pos rfl, mo_noPiece, bsm, b1, mo_ref0 thr0 rfl, bsm, if_pos rfl, sizeN (gtr_x hx), bsm]
          have e1n : (1 : Int32) = nI 1 := rfl
          rw [e1n]
          have hl := len20 h.1 hj
          rw [if_pos ((sum_le (a := ((thr τ 0).1 j).length) (b := 1) (by rw [thr1]; omega) (by omega)).mpr (by rw [thr1]; omega))]
          unfold f_X6_mayNot_44
          rw [mo_ref0 thr0 rfl]
          rfl
        · have e2 : obx (some (Sum.inr ()) : Option (Nat ⊕ Unit)) (fun z11 => obx (f_X3_needPiece k l) fun z16 => obx (f_X3_needRoom σ x 1) fun z21 => if x = 0 then (if k = 0 then some (.inr (0, σ)) else f_X3_bringPiece_26 σ x b k l) else f_X3_bringPiece_26 σ x b k l) = if x = 0 then (if k = 0 then some (.inr (0, σ)) else f_X3_bringPiece_26 σ x b k l) else f_X3_bringPiece_26 σ x b k l := by
            have e1n : (1 : Int32) = nI 1 := rfl
            rw [obm, d, obm, e1n, r2]
            rfl
          have e3 : f_X3_bringPiece_26 σ x b k l = (f_X3_stepOn σ x b (cd k l)).bind fun z => some (.inr (1, z)) := by
            unfold f_X3_bringPiece_26
            rw [cl_code]; rfl
          by_cases c : x = 0 ∧ cd k l = 0
          · left
            refine ⟨c.1, c.2, ?_⟩
            rw [e2, if_pos c.1, if_pos ((pcd a).2.mp c.2)]
          · right
            refine ⟨c, ?_⟩
            rw [e2]
            by_cases c1 : x = 0
            · rw [if_pos c1, if_neg (fun q => c ⟨c1, (pcd a).2.mpr q⟩), e3]
            · rw [if_neg c1, e3]
      · refine Or.inr (Or.inr (Or.inl ⟨?_, ?_⟩))
        · have e1n : (1 : Int32) = nI 1 := rfl
          rw [obm, d, obm, e1n, r2]
          rfl
        · rw [bsm, e1, bsm, if_pos rfl, mo_noPiece, bsm, b1, mo_ref0 thr0 rfl, bsm, if_pos rfl, sizeN (gtr_x hx), bsm]
          have e1n : (1 : Int32) = nI 1 := rfl
          rw [e1n]
          have hl := len20 h.1 hj
          rw [if_neg (mt (sum_le (a := ((thr τ 0).1 j).length) (b := 1) (by rw [thr1]; omega) (by omega)).mp (by rw [thr1]; omega))]
          unfold f_X6_mayNot_44 f_X6_mayNot_51
          rw [← e1n]
          rw [mo_ref1 thr0 ne10 (by decide), thr_thr]
          rfl
    · refine Or.inr (Or.inl ⟨?_, ?_⟩)
      · rw [obm, d]
        rfl
      · rw [bsm, e1, bsm, if_pos rfl, mo_noPiece, bsm, mo_ref1 thr0 b1 (by decide), thr_thr]
        rfl
  · refine Or.inl ⟨?_, ?_⟩
    · rw [cl_notrack p]; rfl
    · rw [if_neg p]
      rw [bsm, mo_st1 ne10 (by decide)]
      rfl
def C3 (k : Nat) : Int32 := if k = 0 then 1 else if k = 1 then 2 else if k = 2 then 3 else 0
def C2 (k : Nat) : Int32 := if k = 0 then 1 else if k = 1 then 2 else 0
def C02 (k : Nat) : Int32 := if k = 0 then 1 else if k = 2 then 2 else 0
def C12 (k : Nat) : Int32 := if k = 1 then 1 else if k = 2 then 2 else 0
def C1 (k : Nat) : Int32 := if k = 0 then 1 else 0
def C11 (k : Nat) : Int32 := if k = 1 then 1 else 0
def C22 (k : Nat) : Int32 := if k = 2 then 1 else 0
theorem SP.rx {j n : Nat} {r : CS} {r2 : MS} (h : SP j τ n r r2) : RX r r2 := h.1
theorem tvcd {x k l : Int32} {j : Nat} (hp : PC k l) (hx : x = 0 ∧ j = 0 ∨ x = 1 ∧ j = 1) (hc : ¬ (x = 0 ∧ cd k l = 0)) : TV j (cd k l) := by
  refine ⟨(pcd hp).1, fun e => ?_⟩
  rcases hx with ⟨a, b⟩ | ⟨a, b⟩
  · exact fun q => hc ⟨a, q⟩
  · omega
theorem ag_join (h : RX σ τ) (x b k l : Int32) : Ri (f_X3_join σ x b k l) (f_X6_join τ x b k l) (TQ C3 σ) := by
  unfold f_X3_join f_X6_join
  rcases bring_cases h x b k l with ⟨e1, e2⟩ | ⟨e1, e2⟩ | ⟨e1, e2⟩ | ⟨j, hj, hx, hp, hl, e2, hb⟩
  · exact ri_obl e1 (ri_eR e2 (ri_fR ne10 (tq_l (h.thr 1) thr0)))
  · exact ri_obl e1 (ri_eR e2 (ri_fR ne10 (tq_l (h.thr 2) thr0)))
  · exact ri_obl e1 (ri_eR e2 (ri_fR ne10 (tq_l (h.thr 3) thr0)))
  · refine ri_eR e2 (ri_tR rfl (ri_eR (mo_code k l) (ri_eR (mo_barred _ _) ?_)))
    rcases hb with ⟨c1, c2, e1⟩ | ⟨c, e1⟩
    · rw [if_pos (show x = 0 ∧ cd k l = 0 from ⟨c1, c2⟩)]
      exact ri_obr e1 (ri_tL rfl (ri_fR ne10 (tq_r (h.thr 0) thr0 rfl)))
    · rw [if_neg c, e1]
      refine ri_tR rfl (ri_eR (mo_code k l) (ri_bR fun r2 e3 => ?_))
      obtain ⟨r, e4, hs⟩ := si_in (h.thr 0) hj hx hl (tvcd hp hx c) r2 e3
      refine ri_obr (v := (1, r)) (by rw [e4]; rfl) (ri_fL ne10 (ri_eL (trackOf_ok hx) (ri_eL (rw_size (hs.rx.row (by omega))) (ri_eR (sizeN (gtr_x hx)) (tq_r hs.rx (hs.2.1.trans thr0) rfl)))))
theorem ag_offer (h : RX σ τ) (x b k l : Int32) : Ri (f_X3_offer σ x b k l) (f_X6_offer τ x b k l) (TQ C3 σ) := by
  unfold f_X3_offer f_X6_offer
  rcases bring_cases h x b k l with ⟨e1, e2⟩ | ⟨e1, e2⟩ | ⟨e1, e2⟩ | ⟨j, hj, hx, hp, hl, e2, hb⟩
  · exact ri_obl e1 (ri_eR e2 (ri_fR ne10 (tq_l (h.thr 1) thr0)))
  · exact ri_obl e1 (ri_eR e2 (ri_fR ne10 (tq_l (h.thr 2) thr0)))
  · exact ri_obl e1 (ri_eR e2 (ri_fR ne10 (tq_l (h.thr 3) thr0)))
  · refine ri_eR e2 (ri_tR rfl (ri_eR (mo_code k l) (ri_eR (mo_barred _ _) ?_)))
    rcases hb with ⟨c1, c2, e1⟩ | ⟨c, e1⟩
    · rw [if_pos (show x = 0 ∧ cd k l = 0 from ⟨c1, c2⟩)]
      exact ri_obr e1 (ri_tL (Or.inl rfl) (ri_fR ne10 (tq_r (h.thr 0) thr0 rfl)))
    · rw [if_neg c, e1]
      refine ri_tR rfl (ri_eR (mo_code k l) (ri_bR fun r2 e3 => ?_))
      obtain ⟨r, e4, hs⟩ := si_in (h.thr 0) hj hx hl (tvcd hp hx c) r2 e3
      exact ri_obr (v := (1, r)) (by rw [e4]; rfl) (ri_tL (Or.inr rfl) (tq_r hs.rx (hs.2.1.trans thr0) rfl))
theorem ag_append (h : RX σ τ) (x k l : Int32) : Ri (f_X3_append σ x k l) (f_X6_append τ x k l) (TQ C3 σ) := by
  have e : f_X3_append σ x k l = f_X3_join σ x 1 k l := rfl
  unfold f_X6_append
  rw [e]
  intro r2 hr
  cases hj : f_X6_join τ x 1 k l with
  | none => rw [hj] at hr; cases hr
  | some y =>
    rw [hj] at hr
    have hr : some (y.1, y.2) = some r2 := hr
    cases hr
    exact ag_join h x 1 k l y hj
theorem codeAtEnd_ok (h : RX σ τ) {x : Int32} {j : Nat} (hj : j < 2) (hx : x = 0 ∧ j = 0 ∨ x = 1 ∧ j = 1) (b : Int32) : f_X3_codeAtEnd σ x b = some (if (τ.1 j).length = 0 then 0 else (τ.1 j).getD (if b = 0 then 0 else (τ.1 j).length - 1) 0) := by
  have hr := h.row (i := j) (by omega)
  have hl := hr.len
  have e : f_X3_codeAtEnd σ x b = (f_X0_endPlace (cap j) (σ.1 j) b).bind fun z6 => (f_X0_read (cap j) (σ.1 j) z6).bind fun z11 => some z11 := by
    unfold f_X3_codeAtEnd
    rw [trackOf_ok hx]; rfl
  rw [e, rw_endPlace hr, bsm]
  by_cases c : (τ.1 j).length = 0
  · have : f_X0_read (cap j) (σ.1 j) (if b = 0 then if (τ.1 j).length = 0 then -1 else 0 else nI (τ.1 j).length - 1) = some 0 := by
      refine rw_read0 hr (Or.inl ?_)
      rw [if_pos c, c]
      split <;> decide
    rw [this, bsm, if_pos c]
  · rw [if_neg c, if_neg c]
    have : f_X0_read (cap j) (σ.1 j) (if b = 0 then 0 else nI (τ.1 j).length - 1) = some ((τ.1 j).getD (if b = 0 then 0 else (τ.1 j).length - 1) 0) := by
      by_cases d : b = 0
      · rw [if_pos d, if_pos d]
        exact rw_read hr (j := 0) (by omega)
      · rw [if_neg d, if_neg d, nI_prd (by omega) (by omega)]
        exact rw_read hr (by omega)
    rw [this]; rfl
theorem ag_push (h : RX σ τ) (x k l : Int32) : Ri (f_X3_push σ x k l) (f_X6_push τ x k l) (TQ C3 σ) := by
  unfold f_X3_push f_X6_push
  rcases bring_cases h x 0 k l with ⟨e1, e2⟩ | ⟨e1, e2⟩ | ⟨e1, e2⟩ | ⟨j, hj, hx, hp, hl, e2, hb⟩
  · refine ri_eR e2 (ri_fR ne10 ?_)
    by_cases p : x = 0 ∨ x = 1
    · obtain ⟨j, hj, hx⟩ := tk_ok p
      exact ri_obr (cl_track p) (ri_eL (codeAtEnd_ok h hj hx 0) (ri_obl e1 (tq_l (h.thr 1) thr0)))
    · exact ri_obl (cl_notrack p) (tq_l (h.thr 1) thr0)
  · refine ri_eR e2 (ri_fR ne10 ?_)
    have p : x = 0 ∨ x = 1 := by
      rcases Classical.em (x = 0 ∨ x = 1) with p | p
      · exact p
      · unfold f_X3_bringPiece at e1
        rw [cl_notrack p] at e1
        cases e1
    obtain ⟨j, hj, hx⟩ := tk_ok p
    exact ri_obr (cl_track p) (ri_eL (codeAtEnd_ok h hj hx 0) (ri_obl e1 (tq_l (h.thr 2) thr0)))
  · refine ri_eR e2 (ri_fR ne10 ?_)
    have p : x = 0 ∨ x = 1 := by
      rcases Classical.em (x = 0 ∨ x = 1) with p | p
      · exact p
      · unfold f_X3_bringPiece at e1
        rw [cl_notrack p] at e1
        cases e1
    obtain ⟨j, hj, hx⟩ := tk_ok p
    exact ri_obr (cl_track p) (ri_eL (codeAtEnd_ok h hj hx 0) (ri_obl e1 (tq_l (h.thr 3) thr0)))
  · have p : x = 0 ∨ x = 1 := by
      rcases hx with q | q
      · exact Or.inl q.1
      · exact Or.inr q.1
    refine ri_obr (cl_track p) (ri_eL (codeAtEnd_ok h hj hx 0) (ri_eR e2 (ri_tR rfl (ri_eR (mo_code k l) (ri_eR (mo_barred _ _) ?_)))))
    rcases hb with ⟨c1, c2, e1⟩ | ⟨c, e1⟩
    · rw [if_pos (show x = 0 ∧ cd k l = 0 from ⟨c1, c2⟩)]
      exact ri_obr e1 (ri_tL rfl (ri_fR ne10 (tq_r (h.thr 0) thr0 rfl)))
    · rw [if_neg c, e1]
      have m46 : ∀ v, v = (if (τ.1 j).length = 0 then 0 else (τ.1 j).getD (if (0 : Int32) = 0 then 0 else (τ.1 j).length - 1) 0) → Ri (obx ((f_X3_stepOn σ x 0 (cd k l)).bind fun z => some (.inr (1, z))) fun z11 : Int32 × CS => if z11.1 = 0 then some (.inr (-9, z11.2)) else some (.inr (if (τ.1 j).length = 0 then 0 else (τ.1 j).getD (if (0 : Int32) = 0 then 0 else (τ.1 j).length - 1) 0, z11.2))) (f_X6_push_46 (thr τ 0) x k l v) (TQ C3 σ) := by
        intro v hv
        unfold f_X6_push_46
        refine ri_eR (mo_code k l) (ri_bR fun r2 e3 => ?_)
        obtain ⟨r, e4, hs⟩ := si_in (h.thr 0) hj hx hl (tvcd hp hx c) r2 e3
        exact ri_obr (v := (1, r)) (by rw [e4]; rfl) (ri_fL ne10 (tq_r hs.rx (hs.2.1.trans thr0) hv.symm))
      have hl20 := len20 h.1 hj
      refine ri_tR rfl (ri_eR (sizeN (gtr_x hx)) (ri_iR (fun d => m46 0 ?_) fun d => ri_eR (getN (i := 0) (gtr_x hx) ?_ (len20 (h.thr 0).1 hj)) (m46 _ ?_)))
      · have d : (τ.1 j).length = 0 := (nI_eqz (by omega)).mp d
        rw [if_pos d]
      · have d : ¬ (τ.1 j).length = 0 := mt (nI_eqz (a := (τ.1 j).length) (by omega)).mpr d
        rw [thr1]; omega
      · have d : ¬ (τ.1 j).length = 0 := mt (nI_eqz (a := (τ.1 j).length) (by omega)).mpr d
        rw [if_neg d, if_pos rfl, thr1]
/-! taken off -/
theorem si_off (h : RX σ τ) {x b e : Int32} {j : Nat} (hj : j < 2) (hx : x = 0 ∧ j = 0 ∨ x = 1 ∧ j = 1) : Ri (f_X3_fetchPiece σ x b e) (f_X6_off τ x b e) fun r r2 => r.1 = r2.1 ∧ RX r.2 r2.2 ∧ r2.2.2 0 = τ.2 0 := by
  have hr := h.row (i := j) (by omega)
  have hl := hr.len
  unfold f_X3_fetchPiece f_X6_off
  refine ri_eL (trackOf_ok hx) (ri_eL (rw_isEmpty hr) (ri_eR (sizeN (gtr_x hx)) ?_))
  by_cases c : (τ.1 j).length = 0
  · rw [if_pos c]
    exact ri_fL ne10 (ri_tR ((nI_eqz (by omega)).mpr c) (ri_some ⟨rfl, h, rfl⟩))
  · rw [if_neg c]
    refine ri_tL rfl (ri_fR (mt (nI_eqz (by omega)).mp c) (ri_call (si_out h hj hx (by omega)) fun z z2 hz => ri_some ?_))
    exact ⟨hz.1, hz.2.2.rx, hz.2.2.2.1⟩
theorem ag_take (h : RX σ τ) (x b : Int32) : Ri (f_X3_take σ x b) (f_X6_take τ x b) (TQ C1 σ) := by
  unfold f_X3_take f_X6_take
  refine gd_track (fun j hj hx => ri_tR rfl (ri_call (si_off (h.thr 0) hj hx) fun z z2 hz => tq_r hz.2.1 (hz.2.2.trans thr0) hz.1)) (ri_fR ne10 (tq_l (h.thr 1) thr0))
theorem ag_poll (h : RX σ τ) (x b : Int32) : Ri (f_X3_poll σ x b) (f_X6_poll τ x b) (TQ C1 σ) := by
  unfold f_X3_poll f_X6_poll
  refine gd_track (fun j hj hx => ri_tR rfl (ri_call (si_off (h.thr 0) hj hx) fun z z2 hz => tq_r hz.2.1 (hz.2.2.trans thr0) hz.1)) (ri_fR ne10 (tq_l (h.thr 1) thr0))
theorem ag_pop (h : RX σ τ) (x : Int32) : Ri (f_X3_pop σ x) (f_X6_pop τ x) (TQ C1 σ) := by
  unfold f_X3_pop f_X6_pop
  refine gd_track (fun j hj hx => ri_tR rfl (ri_call (si_off (h.thr 0) hj hx) fun z z2 hz => tq_r hz.2.1 (hz.2.2.trans thr0) hz.1)) (ri_fR ne10 (tq_l (h.thr 1) thr0))
theorem ag_serve (h : RX σ τ) (x b : Int32) : Ri (f_X3_serve σ x b) (f_X6_serve τ x b) (TQ C1 σ) := by
  unfold f_X3_serve f_X6_serve f_X3_serve_17 f_X6_serve_29
  refine gd_track (fun j hj hx => ri_tR rfl (ri_iR (fun c => ri_tL c ?_) fun c => ri_fL c ?_)) (ri_fR ne10 (tq_l (h.thr 1) thr0))
  · exact ri_call (si_off (h.thr 0) hj hx) fun z z2 hz => tq_r hz.2.1 (hz.2.2.trans thr0) hz.1
  · exact ri_call (si_off (h.thr 0) hj hx) fun z z2 hz => tq_r hz.2.1 (hz.2.2.trans thr0) hz.1
end L3C
