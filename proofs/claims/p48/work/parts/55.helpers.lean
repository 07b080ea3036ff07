section
/-! the law's methods -/
def aftM (σ : CS) : Nat ⊕ (Int32 × CS) → CS
  | .inl _ => σ
  | .inr z => z.2
set_option maxHeartbeats 4000000 in
set_option maxRecDepth 100000 in
theorem c_L_join {l : Launch} {D : va_G} {κ : Nat → ClassId} {ζ : Nat → Nat} {L : List Nat} {F : Nat → va_E} {σ : CS} {A : Nat → Nat} {q : Nat} (hst : l.stackTraces = false) (hI : CI κ A σ L F) (hO : OUT q L F) (x1 x2 x3 x4 : Int32) {res : (Nat ⊕ (Int32 × CS))} (hf : f_X3_join σ x1 x2 x3 x4 = some res) (hk : ∀ k, res = .inl k → k = 0 ∨ k = 1 ∨ k = 2) : MwI l D κ ζ yL_join cL_join 7 (some .int) [(0, 15, 18, 19), (0, 15, 22, 21), (0, 15, 26, 23)] 11 4 24 ([.ref (A 0), .int x1, .int x2, .int x3, .int x4, .ref q] : List Value) L F (LwP κ A q (aftM σ res) L F (fun r w0 _ => (∀ k, res = .inl k → r = (if k = 0 then 1 else if k = 1 then 2 else 3)) ∧ ∀ z, res = .inr z → r = 0 ∧ w0 = .long (Int32.toInt64 z.1))) := by
  refine MwI.of (by decide) (Nat.le_of_ble_eq_true rfl) ?_
  intro p e s m below meth c S hr hlk hxt hN hK hW hST ls hl
  have hl : lv_has ls 7 [(0, .ref (A 0)), (1, .int x1), (2, .int x2), (3, .int x3), (4, .int x4), (5, .ref q)] := hl
  obtain ⟨m_q, w0, w1, e_q⟩ := hO
  refine lv_aload S.1 S.2.1 dL_join_0 (lv_at hl 5 rfl) ?_
  refine lv_aload_n S.1 S.2.1 dL_join_2 rfl (lv_at hl 0 rfl) ?_
  refine lv_iload_n S.1 S.2.1 dL_join_3 rfl (lv_at hl 1 rfl) ?_
  refine lv_iload_n S.1 S.2.1 dL_join_4 rfl (lv_at hl 2 rfl) ?_
  refine lv_iload_n S.1 S.2.1 dL_join_5 rfl (lv_at hl 3 rfl) ?_
  refine lv_iload S.1 S.2.1 dL_join_6 (lv_at hl 4 rfl) ?_
  refine xk_cVI (As := [.int x1, .int x2, .int x3, .int x4]) (rest := [.ref q]) S hK hST hW (c_X3_join hst hI x1 x2 x3 x4 hf) mc_X3_join wd_351 wd_352 wd_353 rfl np_X3_join (hI.mem 0 (by decide)) hI.this rfl rfl hl.1 rfl (Nat.le_of_ble_eq_true rfl) dL_join_8 ⟨Nat.le_of_ble_eq_true rfl, Nat.le_of_ble_eq_true rfl⟩ ⟨Nat.le_of_ble_eq_true rfl, Nat.le_of_ble_eq_true rfl⟩ (fun E ce q9 H1 l1 hE hW h1 h2 h3 => ?_) (fun r L1 F1 H2 l2 hp hW => ?_)
  · obtain ⟨k, hk1, rfl⟩ := hE
    rcases hk k hk1 with rfl | rfl | rfl
    · subst hk1
      refine vx_catch (name := "java/lang/IndexOutOfBoundsException") S.2.2.2.1 [] ⟨0, 15, 18, 19⟩ [⟨0, 15, 22, 21⟩, ⟨0, 15, 26, 23⟩] (by rw [hxt]; rfl) (fun _ h => absurd h List.not_mem_nil) (by decide) (by decide) (S.2.2.2.2 _ wd_348) (va_Nw.use rfl (hST.1.1 _ wn_10)) h1 h2 h3 ?_
      refine lv_astore (lv' := [(6, .ref q9), (0, .ref (A 0)), (1, .int x1), (2, .int x2), (3, .int x3), (4, .int x4), (5, .ref q)]) S.1 S.2.1 dL_join_18 hl (by decide) rfl (fun ls hl => ?_)
      refine lv_iconst (v := 1) S.1 S.2.1 dL_join_20 (by decide) ?_
      exact pk_iret S hr hlk hW ⟨fun x hx => hx, hI, ⟨w0, w1, e_q, ⟨fun k9 hk9 => (by cases hk9; rfl), fun z hz => (by cases hz)⟩⟩, fun x _ _ _ => rfl⟩ (by decide) (by decide) dL_join_21
    · subst hk1
      refine vx_catch (name := "java/lang/IllegalArgumentException") S.2.2.2.1 [⟨0, 15, 18, 19⟩] ⟨0, 15, 22, 21⟩ [⟨0, 15, 26, 23⟩] (by rw [hxt]; rfl) (List.forall_mem_cons.mpr ⟨Or.inr ⟨by decide, _, S.2.2.2.2 _ wd_348, hN 1 0 (by decide) (by decide) (by decide)⟩, fun _ h => absurd h List.not_mem_nil⟩) (by decide) (by decide) (S.2.2.2.2 _ wd_349) (va_Nw.use rfl (hST.1.1 _ wn_17)) h1 h2 h3 ?_
      refine lv_astore (lv' := [(6, .ref q9), (0, .ref (A 0)), (1, .int x1), (2, .int x2), (3, .int x3), (4, .int x4), (5, .ref q)]) S.1 S.2.1 dL_join_22 hl (by decide) rfl (fun ls hl => ?_)
      refine lv_iconst (v := 2) S.1 S.2.1 dL_join_24 (by decide) ?_
      exact pk_iret S hr hlk hW ⟨fun x hx => hx, hI, ⟨w0, w1, e_q, ⟨fun k9 hk9 => (by cases hk9; rfl), fun z hz => (by cases hz)⟩⟩, fun x _ _ _ => rfl⟩ (by decide) (by decide) dL_join_25
    · subst hk1
      refine vx_catch (name := "java/lang/IllegalStateException") S.2.2.2.1 [⟨0, 15, 18, 19⟩, ⟨0, 15, 22, 21⟩] ⟨0, 15, 26, 23⟩ [] (by rw [hxt]; rfl) (List.forall_mem_cons.mpr ⟨Or.inr ⟨by decide, _, S.2.2.2.2 _ wd_348, hN 2 0 (by decide) (by decide) (by decide)⟩, List.forall_mem_cons.mpr ⟨Or.inr ⟨by decide, _, S.2.2.2.2 _ wd_349, hN 2 1 (by decide) (by decide) (by decide)⟩, fun _ h => absurd h List.not_mem_nil⟩⟩) (by decide) (by decide) (S.2.2.2.2 _ wd_350) (va_Nw.use rfl (hST.1.1 _ wn_18)) h1 h2 h3 ?_
      refine lv_astore (lv' := [(6, .ref q9), (0, .ref (A 0)), (1, .int x1), (2, .int x2), (3, .int x3), (4, .int x4), (5, .ref q)]) S.1 S.2.1 dL_join_26 hl (by decide) rfl (fun ls hl => ?_)
      refine lv_iconst (v := 3) S.1 S.2.1 dL_join_28 (by decide) ?_
      exact pk_iret S hr hlk hW ⟨fun x hx => hx, hI, ⟨w0, w1, e_q, ⟨fun k9 hk9 => (by cases hk9; rfl), fun z hz => (by cases hz)⟩⟩, fun x _ _ _ => rfl⟩ (by decide) (by decide) dL_join_29
  obtain ⟨rfl, z, hz, rfl, hI1, hFrA⟩ := hp
  subst hz
  have m_q1 := m_q
  have e_q1 : F1 q = _ := (hFrA q (fun i hi ee => hI.notO e_q i hi ee.symm)).trans e_q
  have hs1 : ∀ x ∈ L, x ∈ L := fun x hx => hx
  have hFr1 : ∀ x ∈ L, (∀ i, i < 18 → x ≠ A i) → F1 x = F x := fun x _ hA => hFrA x hA
  refine lv_i2l (v := Int32.toInt64 z.1) S.1 S.2.1 dL_join_11 rfl ?_
  refine pk_putN (v := .long (Int32.toInt64 z.1)) S hK hW 0 m_q1 e_q1 rfl hinX4 tyX4_ok nmX4 (by decide) (va_Nw.use rfl (hST.1.1 _ wn_8)) rfl rfl rfl rfl (Nat.le_of_ble_eq_true rfl) dL_join_12 (fun H3 l3 hW => ?_)
  refine lv_goto (tgt := 30) S.1 S.2.1 dL_join_15 (by decide) ?_
  refine lv_iconst (v := 0) S.1 S.2.1 dL_join_30 (by decide) ?_
  exact pk_iret S hr hlk hW ⟨hs1, hI1.keepA (fun x h => h) (fun i hi => up_ne (hI1.notO e_q1 i hi)), ⟨.long (Int32.toInt64 z.1), w1, up_eq, ⟨fun k9 hk9 => (by cases hk9), fun z9 hz9 => by cases hz9; exact ⟨rfl, rfl⟩⟩⟩, fun x hx hA hq => (up_ne hq).trans (hFr1 x hx hA)⟩ (by decide) (by decide) dL_join_31
set_option maxHeartbeats 4000000 in
set_option maxRecDepth 100000 in
theorem c_L_offer {l : Launch} {D : va_G} {κ : Nat → ClassId} {ζ : Nat → Nat} {L : List Nat} {F : Nat → va_E} {σ : CS} {A : Nat → Nat} {q : Nat} (hst : l.stackTraces = false) (hI : CI κ A σ L F) (hO : OUT q L F) (x1 x2 x3 x4 : Int32) {res : (Nat ⊕ (Int32 × CS))} (hf : f_X3_offer σ x1 x2 x3 x4 = some res) (hk : ∀ k, res = .inl k → k = 0 ∨ k = 1 ∨ k = 2) : MwI l D κ ζ yL_offer cL_offer 7 (some .int) [(0, 22, 25, 19), (0, 22, 29, 21), (0, 22, 33, 23)] 11 4 24 ([.ref (A 0), .int x1, .int x2, .int x3, .int x4, .ref q] : List Value) L F (LwP κ A q (aftM σ res) L F (fun r w0 _ => (∀ k, res = .inl k → r = (if k = 0 then 1 else if k = 1 then 2 else 3)) ∧ ∀ z, res = .inr z → r = 0 ∧ w0 = .long (if z.1 = 0 then 0 else 1))) := by
  refine MwI.of (by decide) (Nat.le_of_ble_eq_true rfl) ?_
  intro p e s m below meth c S hr hlk hxt hN hK hW hST ls hl
  have hl : lv_has ls 7 [(0, .ref (A 0)), (1, .int x1), (2, .int x2), (3, .int x3), (4, .int x4), (5, .ref q)] := hl
  obtain ⟨m_q, w0, w1, e_q⟩ := hO
  refine lv_aload S.1 S.2.1 dL_offer_0 (lv_at hl 5 rfl) ?_
  refine lv_aload_n S.1 S.2.1 dL_offer_2 rfl (lv_at hl 0 rfl) ?_
  refine lv_iload_n S.1 S.2.1 dL_offer_3 rfl (lv_at hl 1 rfl) ?_
  refine lv_iload_n S.1 S.2.1 dL_offer_4 rfl (lv_at hl 2 rfl) ?_
  refine lv_iload_n S.1 S.2.1 dL_offer_5 rfl (lv_at hl 3 rfl) ?_
  refine lv_iload S.1 S.2.1 dL_offer_6 (lv_at hl 4 rfl) ?_
  refine xk_cVI (As := [.int x1, .int x2, .int x3, .int x4]) (rest := [.ref q]) S hK hST hW (c_X3_offer hst hI x1 x2 x3 x4 hf) mc_X3_offer wd_469 wd_470 wd_471 rfl np_X3_offer (hI.mem 0 (by decide)) hI.this rfl rfl hl.1 rfl (Nat.le_of_ble_eq_true rfl) dL_offer_8 ⟨Nat.le_of_ble_eq_true rfl, Nat.le_of_ble_eq_true rfl⟩ ⟨Nat.le_of_ble_eq_true rfl, Nat.le_of_ble_eq_true rfl⟩ (fun E ce q9 H1 l1 hE hW h1 h2 h3 => ?_) (fun r L1 F1 H2 l2 hp hW => ?_)
  · obtain ⟨k, hk1, rfl⟩ := hE
    rcases hk k hk1 with rfl | rfl | rfl
    · subst hk1
      refine vx_catch (name := "java/lang/IndexOutOfBoundsException") S.2.2.2.1 [] ⟨0, 22, 25, 19⟩ [⟨0, 22, 29, 21⟩, ⟨0, 22, 33, 23⟩] (by rw [hxt]; rfl) (fun _ h => absurd h List.not_mem_nil) (by decide) (by decide) (S.2.2.2.2 _ wd_348) (va_Nw.use rfl (hST.1.1 _ wn_10)) h1 h2 h3 ?_
      refine lv_astore (lv' := [(6, .ref q9), (0, .ref (A 0)), (1, .int x1), (2, .int x2), (3, .int x3), (4, .int x4), (5, .ref q)]) S.1 S.2.1 dL_offer_25 hl (by decide) rfl (fun ls hl => ?_)
      refine lv_iconst (v := 1) S.1 S.2.1 dL_offer_27 (by decide) ?_
      exact pk_iret S hr hlk hW ⟨fun x hx => hx, hI, ⟨w0, w1, e_q, ⟨fun k9 hk9 => (by cases hk9; rfl), fun z hz => (by cases hz)⟩⟩, fun x _ _ _ => rfl⟩ (by decide) (by decide) dL_offer_28
    · subst hk1
      refine vx_catch (name := "java/lang/IllegalArgumentException") S.2.2.2.1 [⟨0, 22, 25, 19⟩] ⟨0, 22, 29, 21⟩ [⟨0, 22, 33, 23⟩] (by rw [hxt]; rfl) (List.forall_mem_cons.mpr ⟨Or.inr ⟨by decide, _, S.2.2.2.2 _ wd_348, hN 1 0 (by decide) (by decide) (by decide)⟩, fun _ h => absurd h List.not_mem_nil⟩) (by decide) (by decide) (S.2.2.2.2 _ wd_349) (va_Nw.use rfl (hST.1.1 _ wn_17)) h1 h2 h3 ?_
      refine lv_astore (lv' := [(6, .ref q9), (0, .ref (A 0)), (1, .int x1), (2, .int x2), (3, .int x3), (4, .int x4), (5, .ref q)]) S.1 S.2.1 dL_offer_29 hl (by decide) rfl (fun ls hl => ?_)
      refine lv_iconst (v := 2) S.1 S.2.1 dL_offer_31 (by decide) ?_
      exact pk_iret S hr hlk hW ⟨fun x hx => hx, hI, ⟨w0, w1, e_q, ⟨fun k9 hk9 => (by cases hk9; rfl), fun z hz => (by cases hz)⟩⟩, fun x _ _ _ => rfl⟩ (by decide) (by decide) dL_offer_32
    · subst hk1
      refine vx_catch (name := "java/lang/IllegalStateException") S.2.2.2.1 [⟨0, 22, 25, 19⟩, ⟨0, 22, 29, 21⟩] ⟨0, 22, 33, 23⟩ [] (by rw [hxt]; rfl) (List.forall_mem_cons.mpr ⟨Or.inr ⟨by decide, _, S.2.2.2.2 _ wd_348, hN 2 0 (by decide) (by decide) (by decide)⟩, List.forall_mem_cons.mpr ⟨Or.inr ⟨by decide, _, S.2.2.2.2 _ wd_349, hN 2 1 (by decide) (by decide) (by decide)⟩, fun _ h => absurd h List.not_mem_nil⟩⟩) (by decide) (by decide) (S.2.2.2.2 _ wd_350) (va_Nw.use rfl (hST.1.1 _ wn_18)) h1 h2 h3 ?_
      refine lv_astore (lv' := [(6, .ref q9), (0, .ref (A 0)), (1, .int x1), (2, .int x2), (3, .int x3), (4, .int x4), (5, .ref q)]) S.1 S.2.1 dL_offer_33 hl (by decide) rfl (fun ls hl => ?_)
      refine lv_iconst (v := 3) S.1 S.2.1 dL_offer_35 (by decide) ?_
      exact pk_iret S hr hlk hW ⟨fun x hx => hx, hI, ⟨w0, w1, e_q, ⟨fun k9 hk9 => (by cases hk9; rfl), fun z hz => (by cases hz)⟩⟩, fun x _ _ _ => rfl⟩ (by decide) (by decide) dL_offer_36
  obtain ⟨rfl, z, hz, rfl, hI1, hFrA⟩ := hp
  subst hz
  have m_q1 := m_q
  have e_q1 : F1 q = _ := (hFrA q (fun i hi ee => hI.notO e_q i hi ee.symm)).trans e_q
  have hs1 : ∀ x ∈ L, x ∈ L := fun x hx => hx
  have hFr1 : ∀ x ∈ L, (∀ i, i < 18 → x ≠ A i) → F1 x = F x := fun x _ hA => hFrA x hA
  refine lv_if_eq (tgt := 18) S.1 S.2.1 dL_offer_11 (by decide) (fun c1 => ?_) (fun c1 => ?_)
  · refine lv_lconst (v := 0) S.1 S.2.1 dL_offer_18 rfl ?_
    refine pk_putN (v := .long 0) S hK hW 0 m_q1 e_q1 rfl hinX4 tyX4_ok nmX4 (by decide) (va_Nw.use rfl (hST.1.1 _ wn_8)) rfl rfl rfl rfl (Nat.le_of_ble_eq_true rfl) dL_offer_19 (fun H3 l3 hW => ?_)
    refine lv_goto (tgt := 37) S.1 S.2.1 dL_offer_22 (by decide) ?_
    refine lv_iconst (v := 0) S.1 S.2.1 dL_offer_37 (by decide) ?_
    exact pk_iret S hr hlk hW ⟨hs1, hI1.keepA (fun x h => h) (fun i hi => up_ne (hI1.notO e_q1 i hi)), ⟨.long 0, w1, up_eq, ⟨fun k9 hk9 => (by cases hk9), fun z9 hz9 => by cases hz9; exact ⟨rfl, by rw [if_pos c1]⟩⟩⟩, fun x hx hA hq => (up_ne hq).trans (hFr1 x hx hA)⟩ (by decide) (by decide) dL_offer_38
  · refine lv_lconst (v := 1) S.1 S.2.1 dL_offer_14 rfl ?_
    refine lv_goto (tgt := 19) S.1 S.2.1 dL_offer_15 (by decide) ?_
    refine pk_putN (v := .long 1) S hK hW 0 m_q1 e_q1 rfl hinX4 tyX4_ok nmX4 (by decide) (va_Nw.use rfl (hST.1.1 _ wn_8)) rfl rfl rfl rfl (Nat.le_of_ble_eq_true rfl) dL_offer_19 (fun H3 l3 hW => ?_)
    refine lv_goto (tgt := 37) S.1 S.2.1 dL_offer_22 (by decide) ?_
    refine lv_iconst (v := 0) S.1 S.2.1 dL_offer_37 (by decide) ?_
    exact pk_iret S hr hlk hW ⟨hs1, hI1.keepA (fun x h => h) (fun i hi => up_ne (hI1.notO e_q1 i hi)), ⟨.long 1, w1, up_eq, ⟨fun k9 hk9 => (by cases hk9), fun z9 hz9 => by cases hz9; exact ⟨rfl, by rw [if_neg c1]⟩⟩⟩, fun x hx hA hq => (up_ne hq).trans (hFr1 x hx hA)⟩ (by decide) (by decide) dL_offer_38
set_option maxHeartbeats 4000000 in
set_option maxRecDepth 100000 in
theorem c_L_push {l : Launch} {D : va_G} {κ : Nat → ClassId} {ζ : Nat → Nat} {L : List Nat} {F : Nat → va_E} {σ : CS} {A : Nat → Nat} {q : Nat} (hst : l.stackTraces = false) (hI : CI κ A σ L F) (hO : OUT q L F) (x1 x2 x3 : Int32) {res : (Nat ⊕ (Int32 × CS))} (hf : f_X3_push σ x1 x2 x3 = some res) (hk : ∀ k, res = .inl k → k = 0 ∨ k = 1 ∨ k = 2) : MwI l D κ ζ yL_push cL_push 6 (some .int) [(0, 13, 16, 19), (0, 13, 20, 21), (0, 13, 24, 23)] 11 5 30 ([.ref (A 0), .int x1, .int x2, .int x3, .ref q] : List Value) L F (LwP κ A q (aftM σ res) L F (fun r w0 _ => (∀ k, res = .inl k → r = (if k = 0 then 1 else if k = 1 then 2 else 3)) ∧ ∀ z, res = .inr z → r = 0 ∧ w0 = .long (Int32.toInt64 z.1))) := by
  refine MwI.of (by decide) (Nat.le_of_ble_eq_true rfl) ?_
  intro p e s m below meth c S hr hlk hxt hN hK hW hST ls hl
  have hl : lv_has ls 6 [(0, .ref (A 0)), (1, .int x1), (2, .int x2), (3, .int x3), (4, .ref q)] := hl
  obtain ⟨m_q, w0, w1, e_q⟩ := hO
  refine lv_aload S.1 S.2.1 dL_push_0 (lv_at hl 4 rfl) ?_
  refine lv_aload_n S.1 S.2.1 dL_push_2 rfl (lv_at hl 0 rfl) ?_
  refine lv_iload_n S.1 S.2.1 dL_push_3 rfl (lv_at hl 1 rfl) ?_
  refine lv_iload_n S.1 S.2.1 dL_push_4 rfl (lv_at hl 2 rfl) ?_
  refine lv_iload_n S.1 S.2.1 dL_push_5 rfl (lv_at hl 3 rfl) ?_
  refine xk_cVI (As := [.int x1, .int x2, .int x3]) (rest := [.ref q]) S hK hST hW (c_X3_push hst hI x1 x2 x3 hf) mc_X3_push wd_475 wd_476 wd_477 rfl np_X3_push (hI.mem 0 (by decide)) hI.this rfl rfl hl.1 rfl (Nat.le_of_ble_eq_true rfl) dL_push_6 ⟨Nat.le_of_ble_eq_true rfl, Nat.le_of_ble_eq_true rfl⟩ ⟨Nat.le_of_ble_eq_true rfl, Nat.le_of_ble_eq_true rfl⟩ (fun E ce q9 H1 l1 hE hW h1 h2 h3 => ?_) (fun r L1 F1 H2 l2 hp hW => ?_)
  · obtain ⟨k, hk1, rfl⟩ := hE
    rcases hk k hk1 with rfl | rfl | rfl
    · subst hk1
      refine vx_catch (name := "java/lang/IndexOutOfBoundsException") S.2.2.2.1 [] ⟨0, 13, 16, 19⟩ [⟨0, 13, 20, 21⟩, ⟨0, 13, 24, 23⟩] (by rw [hxt]; rfl) (fun _ h => absurd h List.not_mem_nil) (by decide) (by decide) (S.2.2.2.2 _ wd_348) (va_Nw.use rfl (hST.1.1 _ wn_10)) h1 h2 h3 ?_
      refine lv_astore (lv' := [(5, .ref q9), (0, .ref (A 0)), (1, .int x1), (2, .int x2), (3, .int x3), (4, .ref q)]) S.1 S.2.1 dL_push_16 hl (by decide) rfl (fun ls hl => ?_)
      refine lv_iconst (v := 1) S.1 S.2.1 dL_push_18 (by decide) ?_
      exact pk_iret S hr hlk hW ⟨fun x hx => hx, hI, ⟨w0, w1, e_q, ⟨fun k9 hk9 => (by cases hk9; rfl), fun z hz => (by cases hz)⟩⟩, fun x _ _ _ => rfl⟩ (by decide) (by decide) dL_push_19
    · subst hk1
      refine vx_catch (name := "java/lang/IllegalArgumentException") S.2.2.2.1 [⟨0, 13, 16, 19⟩] ⟨0, 13, 20, 21⟩ [⟨0, 13, 24, 23⟩] (by rw [hxt]; rfl) (List.forall_mem_cons.mpr ⟨Or.inr ⟨by decide, _, S.2.2.2.2 _ wd_348, hN 1 0 (by decide) (by decide) (by decide)⟩, fun _ h => absurd h List.not_mem_nil⟩) (by decide) (by decide) (S.2.2.2.2 _ wd_349) (va_Nw.use rfl (hST.1.1 _ wn_17)) h1 h2 h3 ?_
      refine lv_astore (lv' := [(5, .ref q9), (0, .ref (A 0)), (1, .int x1), (2, .int x2), (3, .int x3), (4, .ref q)]) S.1 S.2.1 dL_push_20 hl (by decide) rfl (fun ls hl => ?_)
      refine lv_iconst (v := 2) S.1 S.2.1 dL_push_22 (by decide) ?_
      exact pk_iret S hr hlk hW ⟨fun x hx => hx, hI, ⟨w0, w1, e_q, ⟨fun k9 hk9 => (by cases hk9; rfl), fun z hz => (by cases hz)⟩⟩, fun x _ _ _ => rfl⟩ (by decide) (by decide) dL_push_23
    · subst hk1
      refine vx_catch (name := "java/lang/IllegalStateException") S.2.2.2.1 [⟨0, 13, 16, 19⟩, ⟨0, 13, 20, 21⟩] ⟨0, 13, 24, 23⟩ [] (by rw [hxt]; rfl) (List.forall_mem_cons.mpr ⟨Or.inr ⟨by decide, _, S.2.2.2.2 _ wd_348, hN 2 0 (by decide) (by decide) (by decide)⟩, List.forall_mem_cons.mpr ⟨Or.inr ⟨by decide, _, S.2.2.2.2 _ wd_349, hN 2 1 (by decide) (by decide) (by decide)⟩, fun _ h => absurd h List.not_mem_nil⟩⟩) (by decide) (by decide) (S.2.2.2.2 _ wd_350) (va_Nw.use rfl (hST.1.1 _ wn_18)) h1 h2 h3 ?_
      refine lv_astore (lv' := [(5, .ref q9), (0, .ref (A 0)), (1, .int x1), (2, .int x2), (3, .int x3), (4, .ref q)]) S.1 S.2.1 dL_push_24 hl (by decide) rfl (fun ls hl => ?_)
      refine lv_iconst (v := 3) S.1 S.2.1 dL_push_26 (by decide) ?_
      exact pk_iret S hr hlk hW ⟨fun x hx => hx, hI, ⟨w0, w1, e_q, ⟨fun k9 hk9 => (by cases hk9; rfl), fun z hz => (by cases hz)⟩⟩, fun x _ _ _ => rfl⟩ (by decide) (by decide) dL_push_27
  obtain ⟨rfl, z, hz, rfl, hI1, hFrA⟩ := hp
  subst hz
  have m_q1 := m_q
  have e_q1 : F1 q = _ := (hFrA q (fun i hi ee => hI.notO e_q i hi ee.symm)).trans e_q
  have hs1 : ∀ x ∈ L, x ∈ L := fun x hx => hx
  have hFr1 : ∀ x ∈ L, (∀ i, i < 18 → x ≠ A i) → F1 x = F x := fun x _ hA => hFrA x hA
  refine lv_i2l (v := Int32.toInt64 z.1) S.1 S.2.1 dL_push_9 rfl ?_
  refine pk_putN (v := .long (Int32.toInt64 z.1)) S hK hW 0 m_q1 e_q1 rfl hinX4 tyX4_ok nmX4 (by decide) (va_Nw.use rfl (hST.1.1 _ wn_8)) rfl rfl rfl rfl (Nat.le_of_ble_eq_true rfl) dL_push_10 (fun H3 l3 hW => ?_)
  refine lv_goto (tgt := 28) S.1 S.2.1 dL_push_13 (by decide) ?_
  refine lv_iconst (v := 0) S.1 S.2.1 dL_push_28 (by decide) ?_
  exact pk_iret S hr hlk hW ⟨hs1, hI1.keepA (fun x h => h) (fun i hi => up_ne (hI1.notO e_q1 i hi)), ⟨.long (Int32.toInt64 z.1), w1, up_eq, ⟨fun k9 hk9 => (by cases hk9), fun z9 hz9 => by cases hz9; exact ⟨rfl, rfl⟩⟩⟩, fun x hx hA hq => (up_ne hq).trans (hFr1 x hx hA)⟩ (by decide) (by decide) dL_push_29
set_option maxHeartbeats 4000000 in
set_option maxRecDepth 100000 in
theorem c_L_append {l : Launch} {D : va_G} {κ : Nat → ClassId} {ζ : Nat → Nat} {L : List Nat} {F : Nat → va_E} {σ : CS} {A : Nat → Nat} {q : Nat} (hst : l.stackTraces = false) (hI : CI κ A σ L F) (hO : OUT q L F) (x1 x2 x3 : Int32) {res : (Nat ⊕ (Int32 × CS))} (hf : f_X3_append σ x1 x2 x3 = some res) (hk : ∀ k, res = .inl k → k = 0 ∨ k = 1 ∨ k = 2) : MwI l D κ ζ yL_append cL_append 6 (some .int) [(0, 13, 16, 19), (0, 13, 20, 21), (0, 13, 24, 23)] 11 4 24 ([.ref (A 0), .int x1, .int x2, .int x3, .ref q] : List Value) L F (LwP κ A q (aftM σ res) L F (fun r w0 _ => (∀ k, res = .inl k → r = (if k = 0 then 1 else if k = 1 then 2 else 3)) ∧ ∀ z, res = .inr z → r = 0 ∧ w0 = .long (Int32.toInt64 z.1))) := by
  refine MwI.of (by decide) (Nat.le_of_ble_eq_true rfl) ?_
  intro p e s m below meth c S hr hlk hxt hN hK hW hST ls hl
  have hl : lv_has ls 6 [(0, .ref (A 0)), (1, .int x1), (2, .int x2), (3, .int x3), (4, .ref q)] := hl
  obtain ⟨m_q, w0, w1, e_q⟩ := hO
  refine lv_aload S.1 S.2.1 dL_append_0 (lv_at hl 4 rfl) ?_
  refine lv_aload_n S.1 S.2.1 dL_append_2 rfl (lv_at hl 0 rfl) ?_
  refine lv_iload_n S.1 S.2.1 dL_append_3 rfl (lv_at hl 1 rfl) ?_
  refine lv_iload_n S.1 S.2.1 dL_append_4 rfl (lv_at hl 2 rfl) ?_
  refine lv_iload_n S.1 S.2.1 dL_append_5 rfl (lv_at hl 3 rfl) ?_
  refine xk_cVI (As := [.int x1, .int x2, .int x3]) (rest := [.ref q]) S hK hST hW (c_X3_append hst hI x1 x2 x3 hf) mc_X3_append wd_481 wd_482 wd_483 rfl np_X3_append (hI.mem 0 (by decide)) hI.this rfl rfl hl.1 rfl (Nat.le_of_ble_eq_true rfl) dL_append_6 ⟨Nat.le_of_ble_eq_true rfl, Nat.le_of_ble_eq_true rfl⟩ ⟨Nat.le_of_ble_eq_true rfl, Nat.le_of_ble_eq_true rfl⟩ (fun E ce q9 H1 l1 hE hW h1 h2 h3 => ?_) (fun r L1 F1 H2 l2 hp hW => ?_)
  · obtain ⟨k, hk1, rfl⟩ := hE
    rcases hk k hk1 with rfl | rfl | rfl
    · subst hk1
      refine vx_catch (name := "java/lang/IndexOutOfBoundsException") S.2.2.2.1 [] ⟨0, 13, 16, 19⟩ [⟨0, 13, 20, 21⟩, ⟨0, 13, 24, 23⟩] (by rw [hxt]; rfl) (fun _ h => absurd h List.not_mem_nil) (by decide) (by decide) (S.2.2.2.2 _ wd_348) (va_Nw.use rfl (hST.1.1 _ wn_10)) h1 h2 h3 ?_
      refine lv_astore (lv' := [(5, .ref q9), (0, .ref (A 0)), (1, .int x1), (2, .int x2), (3, .int x3), (4, .ref q)]) S.1 S.2.1 dL_append_16 hl (by decide) rfl (fun ls hl => ?_)
      refine lv_iconst (v := 1) S.1 S.2.1 dL_append_18 (by decide) ?_
      exact pk_iret S hr hlk hW ⟨fun x hx => hx, hI, ⟨w0, w1, e_q, ⟨fun k9 hk9 => (by cases hk9; rfl), fun z hz => (by cases hz)⟩⟩, fun x _ _ _ => rfl⟩ (by decide) (by decide) dL_append_19
    · subst hk1
      refine vx_catch (name := "java/lang/IllegalArgumentException") S.2.2.2.1 [⟨0, 13, 16, 19⟩] ⟨0, 13, 20, 21⟩ [⟨0, 13, 24, 23⟩] (by rw [hxt]; rfl) (List.forall_mem_cons.mpr ⟨Or.inr ⟨by decide, _, S.2.2.2.2 _ wd_348, hN 1 0 (by decide) (by decide) (by decide)⟩, fun _ h => absurd h List.not_mem_nil⟩) (by decide) (by decide) (S.2.2.2.2 _ wd_349) (va_Nw.use rfl (hST.1.1 _ wn_17)) h1 h2 h3 ?_
      refine lv_astore (lv' := [(5, .ref q9), (0, .ref (A 0)), (1, .int x1), (2, .int x2), (3, .int x3), (4, .ref q)]) S.1 S.2.1 dL_append_20 hl (by decide) rfl (fun ls hl => ?_)
      refine lv_iconst (v := 2) S.1 S.2.1 dL_append_22 (by decide) ?_
      exact pk_iret S hr hlk hW ⟨fun x hx => hx, hI, ⟨w0, w1, e_q, ⟨fun k9 hk9 => (by cases hk9; rfl), fun z hz => (by cases hz)⟩⟩, fun x _ _ _ => rfl⟩ (by decide) (by decide) dL_append_23
    · subst hk1
      refine vx_catch (name := "java/lang/IllegalStateException") S.2.2.2.1 [⟨0, 13, 16, 19⟩, ⟨0, 13, 20, 21⟩] ⟨0, 13, 24, 23⟩ [] (by rw [hxt]; rfl) (List.forall_mem_cons.mpr ⟨Or.inr ⟨by decide, _, S.2.2.2.2 _ wd_348, hN 2 0 (by decide) (by decide) (by decide)⟩, List.forall_mem_cons.mpr ⟨Or.inr ⟨by decide, _, S.2.2.2.2 _ wd_349, hN 2 1 (by decide) (by decide) (by decide)⟩, fun _ h => absurd h List.not_mem_nil⟩⟩) (by decide) (by decide) (S.2.2.2.2 _ wd_350) (va_Nw.use rfl (hST.1.1 _ wn_18)) h1 h2 h3 ?_
      refine lv_astore (lv' := [(5, .ref q9), (0, .ref (A 0)), (1, .int x1), (2, .int x2), (3, .int x3), (4, .ref q)]) S.1 S.2.1 dL_append_24 hl (by decide) rfl (fun ls hl => ?_)
      refine lv_iconst (v := 3) S.1 S.2.1 dL_append_26 (by decide) ?_
      exact pk_iret S hr hlk hW ⟨fun x hx => hx, hI, ⟨w0, w1, e_q, ⟨fun k9 hk9 => (by cases hk9; rfl), fun z hz => (by cases hz)⟩⟩, fun x _ _ _ => rfl⟩ (by decide) (by decide) dL_append_27
  obtain ⟨rfl, z, hz, rfl, hI1, hFrA⟩ := hp
  subst hz
  have m_q1 := m_q
  have e_q1 : F1 q = _ := (hFrA q (fun i hi ee => hI.notO e_q i hi ee.symm)).trans e_q
  have hs1 : ∀ x ∈ L, x ∈ L := fun x hx => hx
  have hFr1 : ∀ x ∈ L, (∀ i, i < 18 → x ≠ A i) → F1 x = F x := fun x _ hA => hFrA x hA
  refine lv_i2l (v := Int32.toInt64 z.1) S.1 S.2.1 dL_append_9 rfl ?_
  refine pk_putN (v := .long (Int32.toInt64 z.1)) S hK hW 0 m_q1 e_q1 rfl hinX4 tyX4_ok nmX4 (by decide) (va_Nw.use rfl (hST.1.1 _ wn_8)) rfl rfl rfl rfl (Nat.le_of_ble_eq_true rfl) dL_append_10 (fun H3 l3 hW => ?_)
  refine lv_goto (tgt := 28) S.1 S.2.1 dL_append_13 (by decide) ?_
  refine lv_iconst (v := 0) S.1 S.2.1 dL_append_28 (by decide) ?_
  exact pk_iret S hr hlk hW ⟨hs1, hI1.keepA (fun x h => h) (fun i hi => up_ne (hI1.notO e_q1 i hi)), ⟨.long (Int32.toInt64 z.1), w1, up_eq, ⟨fun k9 hk9 => (by cases hk9), fun z9 hz9 => by cases hz9; exact ⟨rfl, rfl⟩⟩⟩, fun x hx hA hq => (up_ne hq).trans (hFr1 x hx hA)⟩ (by decide) (by decide) dL_append_29
set_option maxHeartbeats 4000000 in
set_option maxRecDepth 100000 in
theorem c_L_train {l : Launch} {D : va_G} {κ : Nat → ClassId} {ζ : Nat → Nat} {L : List Nat} {F : Nat → va_E} {σ : CS} {A : Nat → Nat} {q : Nat} (hst : l.stackTraces = false) (hI : CI κ A σ L F) (hO : OUT q L F) (x1 x2 x3 x4 : Int32) {res : (Nat ⊕ (Int32 × CS))} (hf : f_X3_train σ x1 x2 x3 x4 = some res) (hk : ∀ k, res = .inl k → k = 0 ∨ k = 1 ∨ k = 2) : MwI l D κ ζ yL_train cL_train 7 (some .int) [(0, 15, 18, 19), (0, 15, 22, 21), (0, 15, 26, 23)] 9 5 30 ([.ref (A 0), .int x1, .int x2, .int x3, .int x4, .ref q] : List Value) L F (LwP κ A q (aftM σ res) L F (fun r w0 _ => (∀ k, res = .inl k → r = (if k = 0 then 1 else if k = 1 then 2 else 3)) ∧ ∀ z, res = .inr z → r = 0 ∧ w0 = .long (Int32.toInt64 z.1))) := by
  refine MwI.of (by decide) (Nat.le_of_ble_eq_true rfl) ?_
  intro p e s m below meth c S hr hlk hxt hN hK hW hST ls hl
  have hl : lv_has ls 7 [(0, .ref (A 0)), (1, .int x1), (2, .int x2), (3, .int x3), (4, .int x4), (5, .ref q)] := hl
  obtain ⟨m_q, w0, w1, e_q⟩ := hO
  refine lv_aload S.1 S.2.1 dL_train_0 (lv_at hl 5 rfl) ?_
  refine lv_aload_n S.1 S.2.1 dL_train_2 rfl (lv_at hl 0 rfl) ?_
  refine lv_iload_n S.1 S.2.1 dL_train_3 rfl (lv_at hl 1 rfl) ?_
  refine lv_iload_n S.1 S.2.1 dL_train_4 rfl (lv_at hl 2 rfl) ?_
  refine lv_iload_n S.1 S.2.1 dL_train_5 rfl (lv_at hl 3 rfl) ?_
  refine lv_iload S.1 S.2.1 dL_train_6 (lv_at hl 4 rfl) ?_
  refine xk_cVI (As := [.int x1, .int x2, .int x3, .int x4]) (rest := [.ref q]) S hK hST hW (c_X3_train hst hI x1 x2 x3 x4 hf) mc_X3_train wd_487 wd_488 wd_489 rfl np_X3_train (hI.mem 0 (by decide)) hI.this rfl rfl hl.1 rfl (Nat.le_of_ble_eq_true rfl) dL_train_8 ⟨Nat.le_of_ble_eq_true rfl, Nat.le_of_ble_eq_true rfl⟩ ⟨Nat.le_of_ble_eq_true rfl, Nat.le_of_ble_eq_true rfl⟩ (fun E ce q9 H1 l1 hE hW h1 h2 h3 => ?_) (fun r L1 F1 H2 l2 hp hW => ?_)
  · obtain ⟨k, hk1, rfl⟩ := hE
    rcases hk k hk1 with rfl | rfl | rfl
    · subst hk1
      refine vx_catch (name := "java/lang/IndexOutOfBoundsException") S.2.2.2.1 [] ⟨0, 15, 18, 19⟩ [⟨0, 15, 22, 21⟩, ⟨0, 15, 26, 23⟩] (by rw [hxt]; rfl) (fun _ h => absurd h List.not_mem_nil) (by decide) (by decide) (S.2.2.2.2 _ wd_348) (va_Nw.use rfl (hST.1.1 _ wn_10)) h1 h2 h3 ?_
      refine lv_astore (lv' := [(6, .ref q9), (0, .ref (A 0)), (1, .int x1), (2, .int x2), (3, .int x3), (4, .int x4), (5, .ref q)]) S.1 S.2.1 dL_train_18 hl (by decide) rfl (fun ls hl => ?_)
      refine lv_iconst (v := 1) S.1 S.2.1 dL_train_20 (by decide) ?_
      exact pk_iret S hr hlk hW ⟨fun x hx => hx, hI, ⟨w0, w1, e_q, ⟨fun k9 hk9 => (by cases hk9; rfl), fun z hz => (by cases hz)⟩⟩, fun x _ _ _ => rfl⟩ (by decide) (by decide) dL_train_21
    · subst hk1
      refine vx_catch (name := "java/lang/IllegalArgumentException") S.2.2.2.1 [⟨0, 15, 18, 19⟩] ⟨0, 15, 22, 21⟩ [⟨0, 15, 26, 23⟩] (by rw [hxt]; rfl) (List.forall_mem_cons.mpr ⟨Or.inr ⟨by decide, _, S.2.2.2.2 _ wd_348, hN 1 0 (by decide) (by decide) (by decide)⟩, fun _ h => absurd h List.not_mem_nil⟩) (by decide) (by decide) (S.2.2.2.2 _ wd_349) (va_Nw.use rfl (hST.1.1 _ wn_17)) h1 h2 h3 ?_
      refine lv_astore (lv' := [(6, .ref q9), (0, .ref (A 0)), (1, .int x1), (2, .int x2), (3, .int x3), (4, .int x4), (5, .ref q)]) S.1 S.2.1 dL_train_22 hl (by decide) rfl (fun ls hl => ?_)
      refine lv_iconst (v := 2) S.1 S.2.1 dL_train_24 (by decide) ?_
      exact pk_iret S hr hlk hW ⟨fun x hx => hx, hI, ⟨w0, w1, e_q, ⟨fun k9 hk9 => (by cases hk9; rfl), fun z hz => (by cases hz)⟩⟩, fun x _ _ _ => rfl⟩ (by decide) (by decide) dL_train_25
    · subst hk1
      refine vx_catch (name := "java/lang/IllegalStateException") S.2.2.2.1 [⟨0, 15, 18, 19⟩, ⟨0, 15, 22, 21⟩] ⟨0, 15, 26, 23⟩ [] (by rw [hxt]; rfl) (List.forall_mem_cons.mpr ⟨Or.inr ⟨by decide, _, S.2.2.2.2 _ wd_348, hN 2 0 (by decide) (by decide) (by decide)⟩, List.forall_mem_cons.mpr ⟨Or.inr ⟨by decide, _, S.2.2.2.2 _ wd_349, hN 2 1 (by decide) (by decide) (by decide)⟩, fun _ h => absurd h List.not_mem_nil⟩⟩) (by decide) (by decide) (S.2.2.2.2 _ wd_350) (va_Nw.use rfl (hST.1.1 _ wn_18)) h1 h2 h3 ?_
      refine lv_astore (lv' := [(6, .ref q9), (0, .ref (A 0)), (1, .int x1), (2, .int x2), (3, .int x3), (4, .int x4), (5, .ref q)]) S.1 S.2.1 dL_train_26 hl (by decide) rfl (fun ls hl => ?_)
      refine lv_iconst (v := 3) S.1 S.2.1 dL_train_28 (by decide) ?_
      exact pk_iret S hr hlk hW ⟨fun x hx => hx, hI, ⟨w0, w1, e_q, ⟨fun k9 hk9 => (by cases hk9; rfl), fun z hz => (by cases hz)⟩⟩, fun x _ _ _ => rfl⟩ (by decide) (by decide) dL_train_29
  obtain ⟨rfl, z, hz, rfl, hI1, hFrA⟩ := hp
  subst hz
  have m_q1 := m_q
  have e_q1 : F1 q = _ := (hFrA q (fun i hi ee => hI.notO e_q i hi ee.symm)).trans e_q
  have hs1 : ∀ x ∈ L, x ∈ L := fun x hx => hx
  have hFr1 : ∀ x ∈ L, (∀ i, i < 18 → x ≠ A i) → F1 x = F x := fun x _ hA => hFrA x hA
  refine lv_i2l (v := Int32.toInt64 z.1) S.1 S.2.1 dL_train_11 rfl ?_
  refine pk_putN (v := .long (Int32.toInt64 z.1)) S hK hW 0 m_q1 e_q1 rfl hinX4 tyX4_ok nmX4 (by decide) (va_Nw.use rfl (hST.1.1 _ wn_8)) rfl rfl rfl rfl (Nat.le_of_ble_eq_true rfl) dL_train_12 (fun H3 l3 hW => ?_)
  refine lv_goto (tgt := 30) S.1 S.2.1 dL_train_15 (by decide) ?_
  refine lv_iconst (v := 0) S.1 S.2.1 dL_train_30 (by decide) ?_
  exact pk_iret S hr hlk hW ⟨hs1, hI1.keepA (fun x h => h) (fun i hi => up_ne (hI1.notO e_q1 i hi)), ⟨.long (Int32.toInt64 z.1), w1, up_eq, ⟨fun k9 hk9 => (by cases hk9), fun z9 hz9 => by cases hz9; exact ⟨rfl, rfl⟩⟩⟩, fun x hx hA hq => (up_ne hq).trans (hFr1 x hx hA)⟩ (by decide) (by decide) dL_train_31
set_option maxHeartbeats 4000000 in
set_option maxRecDepth 100000 in
theorem c_L_take {l : Launch} {D : va_G} {κ : Nat → ClassId} {ζ : Nat → Nat} {L : List Nat} {F : Nat → va_E} {σ : CS} {A : Nat → Nat} {q : Nat} (hst : l.stackTraces = false) (hI : CI κ A σ L F) (hO : OUT q L F) (x1 x2 : Int32) {res : (Nat ⊕ (Int32 × CS))} (hf : f_X3_take σ x1 x2 = some res) (hk : ∀ k, res = .inl k → k = 0) : MwI l D κ ζ yL_take cL_take 5 (some .int) [(0, 11, 14, 19)] 9 1 6 ([.ref (A 0), .int x1, .int x2, .ref q] : List Value) L F (LwP κ A q (aftM σ res) L F (fun r w0 _ => (∀ k, res = .inl k → r = (1)) ∧ ∀ z, res = .inr z → r = 0 ∧ w0 = .long (Int32.toInt64 z.1))) := by
  refine MwI.of (by decide) (Nat.le_of_ble_eq_true rfl) ?_
  intro p e s m below meth c S hr hlk hxt hN hK hW hST ls hl
  have hl : lv_has ls 5 [(0, .ref (A 0)), (1, .int x1), (2, .int x2), (3, .ref q)] := hl
  obtain ⟨m_q, w0, w1, e_q⟩ := hO
  refine lv_aload_n S.1 S.2.1 dL_take_0 rfl (lv_at hl 3 rfl) ?_
  refine lv_aload_n S.1 S.2.1 dL_take_1 rfl (lv_at hl 0 rfl) ?_
  refine lv_iload_n S.1 S.2.1 dL_take_2 rfl (lv_at hl 1 rfl) ?_
  refine lv_iload_n S.1 S.2.1 dL_take_3 rfl (lv_at hl 2 rfl) ?_
  refine xk_cVI (As := [.int x1, .int x2]) (rest := [.ref q]) S hK hST hW (c_X3_take hst hI x1 x2 hf) mc_X3_take wd_493 wd_494 wd_495 rfl np_X3_take (hI.mem 0 (by decide)) hI.this rfl rfl hl.1 rfl (Nat.le_of_ble_eq_true rfl) dL_take_4 ⟨Nat.le_of_ble_eq_true rfl, Nat.le_of_ble_eq_true rfl⟩ ⟨Nat.le_of_ble_eq_true rfl, Nat.le_of_ble_eq_true rfl⟩ (fun E ce q9 H1 l1 hE hW h1 h2 h3 => ?_) (fun r L1 F1 H2 l2 hp hW => ?_)
  · obtain ⟨k, hk1, rfl⟩ := hE
    have hk0 := hk k hk1
    subst hk0
    subst hk1
    refine vx_catch (name := "java/lang/IndexOutOfBoundsException") S.2.2.2.1 [] ⟨0, 11, 14, 19⟩ [] (by rw [hxt]; rfl) (fun _ h => absurd h List.not_mem_nil) (by decide) (by decide) (S.2.2.2.2 _ wd_348) (va_Nw.use rfl (hST.1.1 _ wn_10)) h1 h2 h3 ?_
    refine lv_astore (lv' := [(4, .ref q9), (0, .ref (A 0)), (1, .int x1), (2, .int x2), (3, .ref q)]) S.1 S.2.1 dL_take_14 hl (by decide) rfl (fun ls hl => ?_)
    refine lv_iconst (v := 1) S.1 S.2.1 dL_take_16 (by decide) ?_
    exact pk_iret S hr hlk hW ⟨fun x hx => hx, hI, ⟨w0, w1, e_q, ⟨fun k9 hk9 => (by cases hk9; rfl), fun z hz => (by cases hz)⟩⟩, fun x _ _ _ => rfl⟩ (by decide) (by decide) dL_take_17
  obtain ⟨rfl, z, hz, rfl, hI1, hFrA⟩ := hp
  subst hz
  have m_q1 := m_q
  have e_q1 : F1 q = _ := (hFrA q (fun i hi ee => hI.notO e_q i hi ee.symm)).trans e_q
  have hs1 : ∀ x ∈ L, x ∈ L := fun x hx => hx
  have hFr1 : ∀ x ∈ L, (∀ i, i < 18 → x ≠ A i) → F1 x = F x := fun x _ hA => hFrA x hA
  refine lv_i2l (v := Int32.toInt64 z.1) S.1 S.2.1 dL_take_7 rfl ?_
  refine pk_putN (v := .long (Int32.toInt64 z.1)) S hK hW 0 m_q1 e_q1 rfl hinX4 tyX4_ok nmX4 (by decide) (va_Nw.use rfl (hST.1.1 _ wn_8)) rfl rfl rfl rfl (Nat.le_of_ble_eq_true rfl) dL_take_8 (fun H3 l3 hW => ?_)
  refine lv_goto (tgt := 18) S.1 S.2.1 dL_take_11 (by decide) ?_
  refine lv_iconst (v := 0) S.1 S.2.1 dL_take_18 (by decide) ?_
  exact pk_iret S hr hlk hW ⟨hs1, hI1.keepA (fun x h => h) (fun i hi => up_ne (hI1.notO e_q1 i hi)), ⟨.long (Int32.toInt64 z.1), w1, up_eq, ⟨fun k9 hk9 => (by cases hk9), fun z9 hz9 => by cases hz9; exact ⟨rfl, rfl⟩⟩⟩, fun x hx hA hq => (up_ne hq).trans (hFr1 x hx hA)⟩ (by decide) (by decide) dL_take_19
set_option maxHeartbeats 4000000 in
set_option maxRecDepth 100000 in
theorem c_L_poll {l : Launch} {D : va_G} {κ : Nat → ClassId} {ζ : Nat → Nat} {L : List Nat} {F : Nat → va_E} {σ : CS} {A : Nat → Nat} {q : Nat} (hst : l.stackTraces = false) (hI : CI κ A σ L F) (hO : OUT q L F) (x1 x2 : Int32) {res : (Nat ⊕ (Int32 × CS))} (hf : f_X3_poll σ x1 x2 = some res) (hk : ∀ k, res = .inl k → k = 0) : MwI l D κ ζ yL_poll cL_poll 5 (some .int) [(0, 11, 14, 19)] 9 1 6 ([.ref (A 0), .int x1, .int x2, .ref q] : List Value) L F (LwP κ A q (aftM σ res) L F (fun r w0 _ => (∀ k, res = .inl k → r = (1)) ∧ ∀ z, res = .inr z → r = 0 ∧ w0 = .long (Int32.toInt64 z.1))) := by
  refine MwI.of (by decide) (Nat.le_of_ble_eq_true rfl) ?_
  intro p e s m below meth c S hr hlk hxt hN hK hW hST ls hl
  have hl : lv_has ls 5 [(0, .ref (A 0)), (1, .int x1), (2, .int x2), (3, .ref q)] := hl
  obtain ⟨m_q, w0, w1, e_q⟩ := hO
  refine lv_aload_n S.1 S.2.1 dL_poll_0 rfl (lv_at hl 3 rfl) ?_
  refine lv_aload_n S.1 S.2.1 dL_poll_1 rfl (lv_at hl 0 rfl) ?_
  refine lv_iload_n S.1 S.2.1 dL_poll_2 rfl (lv_at hl 1 rfl) ?_
  refine lv_iload_n S.1 S.2.1 dL_poll_3 rfl (lv_at hl 2 rfl) ?_
  refine xk_cVI (As := [.int x1, .int x2]) (rest := [.ref q]) S hK hST hW (c_X3_poll hst hI x1 x2 hf) mc_X3_poll wd_507 wd_508 wd_509 rfl np_X3_poll (hI.mem 0 (by decide)) hI.this rfl rfl hl.1 rfl (Nat.le_of_ble_eq_true rfl) dL_poll_4 ⟨Nat.le_of_ble_eq_true rfl, Nat.le_of_ble_eq_true rfl⟩ ⟨Nat.le_of_ble_eq_true rfl, Nat.le_of_ble_eq_true rfl⟩ (fun E ce q9 H1 l1 hE hW h1 h2 h3 => ?_) (fun r L1 F1 H2 l2 hp hW => ?_)
  · obtain ⟨k, hk1, rfl⟩ := hE
    have hk0 := hk k hk1
    subst hk0
    subst hk1
    refine vx_catch (name := "java/lang/IndexOutOfBoundsException") S.2.2.2.1 [] ⟨0, 11, 14, 19⟩ [] (by rw [hxt]; rfl) (fun _ h => absurd h List.not_mem_nil) (by decide) (by decide) (S.2.2.2.2 _ wd_348) (va_Nw.use rfl (hST.1.1 _ wn_10)) h1 h2 h3 ?_
    refine lv_astore (lv' := [(4, .ref q9), (0, .ref (A 0)), (1, .int x1), (2, .int x2), (3, .ref q)]) S.1 S.2.1 dL_poll_14 hl (by decide) rfl (fun ls hl => ?_)
    refine lv_iconst (v := 1) S.1 S.2.1 dL_poll_16 (by decide) ?_
    exact pk_iret S hr hlk hW ⟨fun x hx => hx, hI, ⟨w0, w1, e_q, ⟨fun k9 hk9 => (by cases hk9; rfl), fun z hz => (by cases hz)⟩⟩, fun x _ _ _ => rfl⟩ (by decide) (by decide) dL_poll_17
  obtain ⟨rfl, z, hz, rfl, hI1, hFrA⟩ := hp
  subst hz
  have m_q1 := m_q
  have e_q1 : F1 q = _ := (hFrA q (fun i hi ee => hI.notO e_q i hi ee.symm)).trans e_q
  have hs1 : ∀ x ∈ L, x ∈ L := fun x hx => hx
  have hFr1 : ∀ x ∈ L, (∀ i, i < 18 → x ≠ A i) → F1 x = F x := fun x _ hA => hFrA x hA
  refine lv_i2l (v := Int32.toInt64 z.1) S.1 S.2.1 dL_poll_7 rfl ?_
  refine pk_putN (v := .long (Int32.toInt64 z.1)) S hK hW 0 m_q1 e_q1 rfl hinX4 tyX4_ok nmX4 (by decide) (va_Nw.use rfl (hST.1.1 _ wn_8)) rfl rfl rfl rfl (Nat.le_of_ble_eq_true rfl) dL_poll_8 (fun H3 l3 hW => ?_)
  refine lv_goto (tgt := 18) S.1 S.2.1 dL_poll_11 (by decide) ?_
  refine lv_iconst (v := 0) S.1 S.2.1 dL_poll_18 (by decide) ?_
  exact pk_iret S hr hlk hW ⟨hs1, hI1.keepA (fun x h => h) (fun i hi => up_ne (hI1.notO e_q1 i hi)), ⟨.long (Int32.toInt64 z.1), w1, up_eq, ⟨fun k9 hk9 => (by cases hk9), fun z9 hz9 => by cases hz9; exact ⟨rfl, rfl⟩⟩⟩, fun x hx hA hq => (up_ne hq).trans (hFr1 x hx hA)⟩ (by decide) (by decide) dL_poll_19
set_option maxHeartbeats 4000000 in
set_option maxRecDepth 100000 in
theorem c_L_pop {l : Launch} {D : va_G} {κ : Nat → ClassId} {ζ : Nat → Nat} {L : List Nat} {F : Nat → va_E} {σ : CS} {A : Nat → Nat} {q : Nat} (hst : l.stackTraces = false) (hI : CI κ A σ L F) (hO : OUT q L F) (x1 : Int32) {res : (Nat ⊕ (Int32 × CS))} (hf : f_X3_pop σ x1 = some res) (hk : ∀ k, res = .inl k → k = 0) : MwI l D κ ζ yL_pop cL_pop 4 (some .int) [(0, 10, 13, 19)] 9 1 6 ([.ref (A 0), .int x1, .ref q] : List Value) L F (LwP κ A q (aftM σ res) L F (fun r w0 _ => (∀ k, res = .inl k → r = (1)) ∧ ∀ z, res = .inr z → r = 0 ∧ w0 = .long (Int32.toInt64 z.1))) := by
  refine MwI.of (by decide) (Nat.le_of_ble_eq_true rfl) ?_
  intro p e s m below meth c S hr hlk hxt hN hK hW hST ls hl
  have hl : lv_has ls 4 [(0, .ref (A 0)), (1, .int x1), (2, .ref q)] := hl
  obtain ⟨m_q, w0, w1, e_q⟩ := hO
  refine lv_aload_n S.1 S.2.1 dL_pop_0 rfl (lv_at hl 2 rfl) ?_
  refine lv_aload_n S.1 S.2.1 dL_pop_1 rfl (lv_at hl 0 rfl) ?_
  refine lv_iload_n S.1 S.2.1 dL_pop_2 rfl (lv_at hl 1 rfl) ?_
  refine xk_cVI (As := [.int x1]) (rest := [.ref q]) S hK hST hW (c_X3_pop hst hI x1 hf) mc_X3_pop wd_513 wd_514 wd_515 rfl np_X3_pop (hI.mem 0 (by decide)) hI.this rfl rfl hl.1 rfl (Nat.le_of_ble_eq_true rfl) dL_pop_3 ⟨Nat.le_of_ble_eq_true rfl, Nat.le_of_ble_eq_true rfl⟩ ⟨Nat.le_of_ble_eq_true rfl, Nat.le_of_ble_eq_true rfl⟩ (fun E ce q9 H1 l1 hE hW h1 h2 h3 => ?_) (fun r L1 F1 H2 l2 hp hW => ?_)
  · obtain ⟨k, hk1, rfl⟩ := hE
    have hk0 := hk k hk1
    subst hk0
    subst hk1
    refine vx_catch (name := "java/lang/IndexOutOfBoundsException") S.2.2.2.1 [] ⟨0, 10, 13, 19⟩ [] (by rw [hxt]; rfl) (fun _ h => absurd h List.not_mem_nil) (by decide) (by decide) (S.2.2.2.2 _ wd_348) (va_Nw.use rfl (hST.1.1 _ wn_10)) h1 h2 h3 ?_
    refine lv_astore_n (lv' := [(3, .ref q9), (0, .ref (A 0)), (1, .int x1), (2, .ref q)]) S.1 S.2.1 dL_pop_13 rfl hl (by decide) rfl (fun ls hl => ?_)
    refine lv_iconst (v := 1) S.1 S.2.1 dL_pop_14 (by decide) ?_
    exact pk_iret S hr hlk hW ⟨fun x hx => hx, hI, ⟨w0, w1, e_q, ⟨fun k9 hk9 => (by cases hk9; rfl), fun z hz => (by cases hz)⟩⟩, fun x _ _ _ => rfl⟩ (by decide) (by decide) dL_pop_15
  obtain ⟨rfl, z, hz, rfl, hI1, hFrA⟩ := hp
  subst hz
  have m_q1 := m_q
  have e_q1 : F1 q = _ := (hFrA q (fun i hi ee => hI.notO e_q i hi ee.symm)).trans e_q
  have hs1 : ∀ x ∈ L, x ∈ L := fun x hx => hx
  have hFr1 : ∀ x ∈ L, (∀ i, i < 18 → x ≠ A i) → F1 x = F x := fun x _ hA => hFrA x hA
  refine lv_i2l (v := Int32.toInt64 z.1) S.1 S.2.1 dL_pop_6 rfl ?_
  refine pk_putN (v := .long (Int32.toInt64 z.1)) S hK hW 0 m_q1 e_q1 rfl hinX4 tyX4_ok nmX4 (by decide) (va_Nw.use rfl (hST.1.1 _ wn_8)) rfl rfl rfl rfl (Nat.le_of_ble_eq_true rfl) dL_pop_7 (fun H3 l3 hW => ?_)
  refine lv_goto (tgt := 16) S.1 S.2.1 dL_pop_10 (by decide) ?_
  refine lv_iconst (v := 0) S.1 S.2.1 dL_pop_16 (by decide) ?_
  exact pk_iret S hr hlk hW ⟨hs1, hI1.keepA (fun x h => h) (fun i hi => up_ne (hI1.notO e_q1 i hi)), ⟨.long (Int32.toInt64 z.1), w1, up_eq, ⟨fun k9 hk9 => (by cases hk9), fun z9 hz9 => by cases hz9; exact ⟨rfl, rfl⟩⟩⟩, fun x hx hA hq => (up_ne hq).trans (hFr1 x hx hA)⟩ (by decide) (by decide) dL_pop_17
set_option maxHeartbeats 4000000 in
set_option maxRecDepth 100000 in
theorem c_L_serve {l : Launch} {D : va_G} {κ : Nat → ClassId} {ζ : Nat → Nat} {L : List Nat} {F : Nat → va_E} {σ : CS} {A : Nat → Nat} {q : Nat} (hst : l.stackTraces = false) (hI : CI κ A σ L F) (hO : OUT q L F) (x1 x2 : Int32) {res : (Nat ⊕ (Int32 × CS))} (hf : f_X3_serve σ x1 x2 = some res) (hk : ∀ k, res = .inl k → k = 0) : MwI l D κ ζ yL_serve cL_serve 5 (some .int) [(0, 11, 14, 19)] 9 1 6 ([.ref (A 0), .int x1, .int x2, .ref q] : List Value) L F (LwP κ A q (aftM σ res) L F (fun r w0 _ => (∀ k, res = .inl k → r = (1)) ∧ ∀ z, res = .inr z → r = 0 ∧ w0 = .long (Int32.toInt64 z.1))) := by
  refine MwI.of (by decide) (Nat.le_of_ble_eq_true rfl) ?_
  intro p e s m below meth c S hr hlk hxt hN hK hW hST ls hl
  have hl : lv_has ls 5 [(0, .ref (A 0)), (1, .int x1), (2, .int x2), (3, .ref q)] := hl
  obtain ⟨m_q, w0, w1, e_q⟩ := hO
  refine lv_aload_n S.1 S.2.1 dL_serve_0 rfl (lv_at hl 3 rfl) ?_
  refine lv_aload_n S.1 S.2.1 dL_serve_1 rfl (lv_at hl 0 rfl) ?_
  refine lv_iload_n S.1 S.2.1 dL_serve_2 rfl (lv_at hl 1 rfl) ?_
  refine lv_iload_n S.1 S.2.1 dL_serve_3 rfl (lv_at hl 2 rfl) ?_
  refine xk_cVI (As := [.int x1, .int x2]) (rest := [.ref q]) S hK hST hW (c_X3_serve hst hI x1 x2 hf) mc_X3_serve wd_519 wd_520 wd_521 rfl np_X3_serve (hI.mem 0 (by decide)) hI.this rfl rfl hl.1 rfl (Nat.le_of_ble_eq_true rfl) dL_serve_4 ⟨Nat.le_of_ble_eq_true rfl, Nat.le_of_ble_eq_true rfl⟩ ⟨Nat.le_of_ble_eq_true rfl, Nat.le_of_ble_eq_true rfl⟩ (fun E ce q9 H1 l1 hE hW h1 h2 h3 => ?_) (fun r L1 F1 H2 l2 hp hW => ?_)
  · obtain ⟨k, hk1, rfl⟩ := hE
    have hk0 := hk k hk1
    subst hk0
    subst hk1
    refine vx_catch (name := "java/lang/IndexOutOfBoundsException") S.2.2.2.1 [] ⟨0, 11, 14, 19⟩ [] (by rw [hxt]; rfl) (fun _ h => absurd h List.not_mem_nil) (by decide) (by decide) (S.2.2.2.2 _ wd_348) (va_Nw.use rfl (hST.1.1 _ wn_10)) h1 h2 h3 ?_
    refine lv_astore (lv' := [(4, .ref q9), (0, .ref (A 0)), (1, .int x1), (2, .int x2), (3, .ref q)]) S.1 S.2.1 dL_serve_14 hl (by decide) rfl (fun ls hl => ?_)
    refine lv_iconst (v := 1) S.1 S.2.1 dL_serve_16 (by decide) ?_
    exact pk_iret S hr hlk hW ⟨fun x hx => hx, hI, ⟨w0, w1, e_q, ⟨fun k9 hk9 => (by cases hk9; rfl), fun z hz => (by cases hz)⟩⟩, fun x _ _ _ => rfl⟩ (by decide) (by decide) dL_serve_17
  obtain ⟨rfl, z, hz, rfl, hI1, hFrA⟩ := hp
  subst hz
  have m_q1 := m_q
  have e_q1 : F1 q = _ := (hFrA q (fun i hi ee => hI.notO e_q i hi ee.symm)).trans e_q
  have hs1 : ∀ x ∈ L, x ∈ L := fun x hx => hx
  have hFr1 : ∀ x ∈ L, (∀ i, i < 18 → x ≠ A i) → F1 x = F x := fun x _ hA => hFrA x hA
  refine lv_i2l (v := Int32.toInt64 z.1) S.1 S.2.1 dL_serve_7 rfl ?_
  refine pk_putN (v := .long (Int32.toInt64 z.1)) S hK hW 0 m_q1 e_q1 rfl hinX4 tyX4_ok nmX4 (by decide) (va_Nw.use rfl (hST.1.1 _ wn_8)) rfl rfl rfl rfl (Nat.le_of_ble_eq_true rfl) dL_serve_8 (fun H3 l3 hW => ?_)
  refine lv_goto (tgt := 18) S.1 S.2.1 dL_serve_11 (by decide) ?_
  refine lv_iconst (v := 0) S.1 S.2.1 dL_serve_18 (by decide) ?_
  exact pk_iret S hr hlk hW ⟨hs1, hI1.keepA (fun x h => h) (fun i hi => up_ne (hI1.notO e_q1 i hi)), ⟨.long (Int32.toInt64 z.1), w1, up_eq, ⟨fun k9 hk9 => (by cases hk9), fun z9 hz9 => by cases hz9; exact ⟨rfl, rfl⟩⟩⟩, fun x hx hA hq => (up_ne hq).trans (hFr1 x hx hA)⟩ (by decide) (by decide) dL_serve_19
set_option maxHeartbeats 4000000 in
set_option maxRecDepth 100000 in
theorem c_L_rotate {l : Launch} {D : va_G} {κ : Nat → ClassId} {ζ : Nat → Nat} {L : List Nat} {F : Nat → va_E} {σ : CS} {A : Nat → Nat} {q : Nat} (hst : l.stackTraces = false) (hI : CI κ A σ L F) (hO : OUT q L F) (x1 x2 : Int32) {res : (Nat ⊕ (Int32 × CS))} (hf : f_X3_rotate σ x1 x2 = some res) (hk : ∀ k, res = .inl k → k = 0 ∨ k = 1) : MwI l D κ ζ yL_rotate cL_rotate 5 (some .int) [(0, 11, 14, 19), (0, 11, 18, 21)] 9 2 12 ([.ref (A 0), .int x1, .int x2, .ref q] : List Value) L F (LwP κ A q (aftM σ res) L F (fun r w0 _ => (∀ k, res = .inl k → r = (if k = 0 then 1 else 2)) ∧ ∀ z, res = .inr z → r = 0 ∧ w0 = .long (Int32.toInt64 z.1))) := by
  refine MwI.of (by decide) (Nat.le_of_ble_eq_true rfl) ?_
  intro p e s m below meth c S hr hlk hxt hN hK hW hST ls hl
  have hl : lv_has ls 5 [(0, .ref (A 0)), (1, .int x1), (2, .int x2), (3, .ref q)] := hl
  obtain ⟨m_q, w0, w1, e_q⟩ := hO
  refine lv_aload_n S.1 S.2.1 dL_rotate_0 rfl (lv_at hl 3 rfl) ?_
  refine lv_aload_n S.1 S.2.1 dL_rotate_1 rfl (lv_at hl 0 rfl) ?_
  refine lv_iload_n S.1 S.2.1 dL_rotate_2 rfl (lv_at hl 1 rfl) ?_
  refine lv_iload_n S.1 S.2.1 dL_rotate_3 rfl (lv_at hl 2 rfl) ?_
  refine xk_cVI (As := [.int x1, .int x2]) (rest := [.ref q]) S hK hST hW (c_X3_rotate hst hI x1 x2 hf) mc_X3_rotate wd_525 wd_526 wd_527 rfl np_X3_rotate (hI.mem 0 (by decide)) hI.this rfl rfl hl.1 rfl (Nat.le_of_ble_eq_true rfl) dL_rotate_4 ⟨Nat.le_of_ble_eq_true rfl, Nat.le_of_ble_eq_true rfl⟩ ⟨Nat.le_of_ble_eq_true rfl, Nat.le_of_ble_eq_true rfl⟩ (fun E ce q9 H1 l1 hE hW h1 h2 h3 => ?_) (fun r L1 F1 H2 l2 hp hW => ?_)
  · obtain ⟨k, hk1, rfl⟩ := hE
    rcases hk k hk1 with rfl | rfl
    · subst hk1
      refine vx_catch (name := "java/lang/IndexOutOfBoundsException") S.2.2.2.1 [] ⟨0, 11, 14, 19⟩ [⟨0, 11, 18, 21⟩] (by rw [hxt]; rfl) (fun _ h => absurd h List.not_mem_nil) (by decide) (by decide) (S.2.2.2.2 _ wd_348) (va_Nw.use rfl (hST.1.1 _ wn_10)) h1 h2 h3 ?_
      refine lv_astore (lv' := [(4, .ref q9), (0, .ref (A 0)), (1, .int x1), (2, .int x2), (3, .ref q)]) S.1 S.2.1 dL_rotate_14 hl (by decide) rfl (fun ls hl => ?_)
      refine lv_iconst (v := 1) S.1 S.2.1 dL_rotate_16 (by decide) ?_
      exact pk_iret S hr hlk hW ⟨fun x hx => hx, hI, ⟨w0, w1, e_q, ⟨fun k9 hk9 => (by cases hk9; rfl), fun z hz => (by cases hz)⟩⟩, fun x _ _ _ => rfl⟩ (by decide) (by decide) dL_rotate_17
    · subst hk1
      refine vx_catch (name := "java/lang/IllegalArgumentException") S.2.2.2.1 [⟨0, 11, 14, 19⟩] ⟨0, 11, 18, 21⟩ [] (by rw [hxt]; rfl) (List.forall_mem_cons.mpr ⟨Or.inr ⟨by decide, _, S.2.2.2.2 _ wd_348, hN 1 0 (by decide) (by decide) (by decide)⟩, fun _ h => absurd h List.not_mem_nil⟩) (by decide) (by decide) (S.2.2.2.2 _ wd_349) (va_Nw.use rfl (hST.1.1 _ wn_17)) h1 h2 h3 ?_
      refine lv_astore (lv' := [(4, .ref q9), (0, .ref (A 0)), (1, .int x1), (2, .int x2), (3, .ref q)]) S.1 S.2.1 dL_rotate_18 hl (by decide) rfl (fun ls hl => ?_)
      refine lv_iconst (v := 2) S.1 S.2.1 dL_rotate_20 (by decide) ?_
      exact pk_iret S hr hlk hW ⟨fun x hx => hx, hI, ⟨w0, w1, e_q, ⟨fun k9 hk9 => (by cases hk9; rfl), fun z hz => (by cases hz)⟩⟩, fun x _ _ _ => rfl⟩ (by decide) (by decide) dL_rotate_21
  obtain ⟨rfl, z, hz, rfl, hI1, hFrA⟩ := hp
  subst hz
  have m_q1 := m_q
  have e_q1 : F1 q = _ := (hFrA q (fun i hi ee => hI.notO e_q i hi ee.symm)).trans e_q
  have hs1 : ∀ x ∈ L, x ∈ L := fun x hx => hx
  have hFr1 : ∀ x ∈ L, (∀ i, i < 18 → x ≠ A i) → F1 x = F x := fun x _ hA => hFrA x hA
  refine lv_i2l (v := Int32.toInt64 z.1) S.1 S.2.1 dL_rotate_7 rfl ?_
  refine pk_putN (v := .long (Int32.toInt64 z.1)) S hK hW 0 m_q1 e_q1 rfl hinX4 tyX4_ok nmX4 (by decide) (va_Nw.use rfl (hST.1.1 _ wn_8)) rfl rfl rfl rfl (Nat.le_of_ble_eq_true rfl) dL_rotate_8 (fun H3 l3 hW => ?_)
  refine lv_goto (tgt := 22) S.1 S.2.1 dL_rotate_11 (by decide) ?_
  refine lv_iconst (v := 0) S.1 S.2.1 dL_rotate_22 (by decide) ?_
  exact pk_iret S hr hlk hW ⟨hs1, hI1.keepA (fun x h => h) (fun i hi => up_ne (hI1.notO e_q1 i hi)), ⟨.long (Int32.toInt64 z.1), w1, up_eq, ⟨fun k9 hk9 => (by cases hk9), fun z9 hz9 => by cases hz9; exact ⟨rfl, rfl⟩⟩⟩, fun x hx hA hq => (up_ne hq).trans (hFr1 x hx hA)⟩ (by decide) (by decide) dL_rotate_23
set_option maxHeartbeats 4000000 in
set_option maxRecDepth 100000 in
theorem c_L_drop {l : Launch} {D : va_G} {κ : Nat → ClassId} {ζ : Nat → Nat} {L : List Nat} {F : Nat → va_E} {σ : CS} {A : Nat → Nat} {q : Nat} (hst : l.stackTraces = false) (hI : CI κ A σ L F) (hO : OUT q L F) (x1 x2 x3 : Int32) {res : (Nat ⊕ (Int32 × CS))} (hf : f_X3_drop σ x1 x2 x3 = some res) (hk : ∀ k, res = .inl k → k = 0 ∨ k = 1) : MwI l D κ ζ yL_drop cL_drop 6 (some .int) [(0, 20, 23, 19), (0, 20, 27, 21)] 10 2 12 ([.ref (A 0), .int x1, .int x2, .int x3, .ref q] : List Value) L F (LwP κ A q (aftM σ res) L F (fun r w0 _ => (∀ k, res = .inl k → r = (if k = 0 then 1 else 2)) ∧ ∀ z, res = .inr z → r = 0 ∧ w0 = .long (if z.1 = 0 then 0 else 1))) := by
  refine MwI.of (by decide) (Nat.le_of_ble_eq_true rfl) ?_
  intro p e s m below meth c S hr hlk hxt hN hK hW hST ls hl
  have hl : lv_has ls 6 [(0, .ref (A 0)), (1, .int x1), (2, .int x2), (3, .int x3), (4, .ref q)] := hl
  obtain ⟨m_q, w0, w1, e_q⟩ := hO
  refine lv_aload S.1 S.2.1 dL_drop_0 (lv_at hl 4 rfl) ?_
  refine lv_aload_n S.1 S.2.1 dL_drop_2 rfl (lv_at hl 0 rfl) ?_
  refine lv_iload_n S.1 S.2.1 dL_drop_3 rfl (lv_at hl 1 rfl) ?_
  refine lv_iload_n S.1 S.2.1 dL_drop_4 rfl (lv_at hl 2 rfl) ?_
  refine lv_iload_n S.1 S.2.1 dL_drop_5 rfl (lv_at hl 3 rfl) ?_
  refine xk_cVI (As := [.int x1, .int x2, .int x3]) (rest := [.ref q]) S hK hST hW (c_X3_drop hst hI x1 x2 x3 hf) mc_X3_drop wd_534 wd_535 wd_536 rfl np_X3_drop (hI.mem 0 (by decide)) hI.this rfl rfl hl.1 rfl (Nat.le_of_ble_eq_true rfl) dL_drop_6 ⟨Nat.le_of_ble_eq_true rfl, Nat.le_of_ble_eq_true rfl⟩ ⟨Nat.le_of_ble_eq_true rfl, Nat.le_of_ble_eq_true rfl⟩ (fun E ce q9 H1 l1 hE hW h1 h2 h3 => ?_) (fun r L1 F1 H2 l2 hp hW => ?_)
  · obtain ⟨k, hk1, rfl⟩ := hE
    rcases hk k hk1 with rfl | rfl
    · subst hk1
      refine vx_catch (name := "java/lang/IndexOutOfBoundsException") S.2.2.2.1 [] ⟨0, 20, 23, 19⟩ [⟨0, 20, 27, 21⟩] (by rw [hxt]; rfl) (fun _ h => absurd h List.not_mem_nil) (by decide) (by decide) (S.2.2.2.2 _ wd_348) (va_Nw.use rfl (hST.1.1 _ wn_10)) h1 h2 h3 ?_
      refine lv_astore (lv' := [(5, .ref q9), (0, .ref (A 0)), (1, .int x1), (2, .int x2), (3, .int x3), (4, .ref q)]) S.1 S.2.1 dL_drop_23 hl (by decide) rfl (fun ls hl => ?_)
      refine lv_iconst (v := 1) S.1 S.2.1 dL_drop_25 (by decide) ?_
      exact pk_iret S hr hlk hW ⟨fun x hx => hx, hI, ⟨w0, w1, e_q, ⟨fun k9 hk9 => (by cases hk9; rfl), fun z hz => (by cases hz)⟩⟩, fun x _ _ _ => rfl⟩ (by decide) (by decide) dL_drop_26
    · subst hk1
      refine vx_catch (name := "java/lang/IllegalArgumentException") S.2.2.2.1 [⟨0, 20, 23, 19⟩] ⟨0, 20, 27, 21⟩ [] (by rw [hxt]; rfl) (List.forall_mem_cons.mpr ⟨Or.inr ⟨by decide, _, S.2.2.2.2 _ wd_348, hN 1 0 (by decide) (by decide) (by decide)⟩, fun _ h => absurd h List.not_mem_nil⟩) (by decide) (by decide) (S.2.2.2.2 _ wd_349) (va_Nw.use rfl (hST.1.1 _ wn_17)) h1 h2 h3 ?_
      refine lv_astore (lv' := [(5, .ref q9), (0, .ref (A 0)), (1, .int x1), (2, .int x2), (3, .int x3), (4, .ref q)]) S.1 S.2.1 dL_drop_27 hl (by decide) rfl (fun ls hl => ?_)
      refine lv_iconst (v := 2) S.1 S.2.1 dL_drop_29 (by decide) ?_
      exact pk_iret S hr hlk hW ⟨fun x hx => hx, hI, ⟨w0, w1, e_q, ⟨fun k9 hk9 => (by cases hk9; rfl), fun z hz => (by cases hz)⟩⟩, fun x _ _ _ => rfl⟩ (by decide) (by decide) dL_drop_30
  obtain ⟨rfl, z, hz, rfl, hI1, hFrA⟩ := hp
  subst hz
  have m_q1 := m_q
  have e_q1 : F1 q = _ := (hFrA q (fun i hi ee => hI.notO e_q i hi ee.symm)).trans e_q
  have hs1 : ∀ x ∈ L, x ∈ L := fun x hx => hx
  have hFr1 : ∀ x ∈ L, (∀ i, i < 18 → x ≠ A i) → F1 x = F x := fun x _ hA => hFrA x hA
  refine lv_if_eq (tgt := 16) S.1 S.2.1 dL_drop_9 (by decide) (fun c1 => ?_) (fun c1 => ?_)
  · refine lv_lconst (v := 0) S.1 S.2.1 dL_drop_16 rfl ?_
    refine pk_putN (v := .long 0) S hK hW 0 m_q1 e_q1 rfl hinX4 tyX4_ok nmX4 (by decide) (va_Nw.use rfl (hST.1.1 _ wn_8)) rfl rfl rfl rfl (Nat.le_of_ble_eq_true rfl) dL_drop_17 (fun H3 l3 hW => ?_)
    refine lv_goto (tgt := 31) S.1 S.2.1 dL_drop_20 (by decide) ?_
    refine lv_iconst (v := 0) S.1 S.2.1 dL_drop_31 (by decide) ?_
    exact pk_iret S hr hlk hW ⟨hs1, hI1.keepA (fun x h => h) (fun i hi => up_ne (hI1.notO e_q1 i hi)), ⟨.long 0, w1, up_eq, ⟨fun k9 hk9 => (by cases hk9), fun z9 hz9 => by cases hz9; exact ⟨rfl, by rw [if_pos c1]⟩⟩⟩, fun x hx hA hq => (up_ne hq).trans (hFr1 x hx hA)⟩ (by decide) (by decide) dL_drop_32
  · refine lv_lconst (v := 1) S.1 S.2.1 dL_drop_12 rfl ?_
    refine lv_goto (tgt := 17) S.1 S.2.1 dL_drop_13 (by decide) ?_
    refine pk_putN (v := .long 1) S hK hW 0 m_q1 e_q1 rfl hinX4 tyX4_ok nmX4 (by decide) (va_Nw.use rfl (hST.1.1 _ wn_8)) rfl rfl rfl rfl (Nat.le_of_ble_eq_true rfl) dL_drop_17 (fun H3 l3 hW => ?_)
    refine lv_goto (tgt := 31) S.1 S.2.1 dL_drop_20 (by decide) ?_
    refine lv_iconst (v := 0) S.1 S.2.1 dL_drop_31 (by decide) ?_
    exact pk_iret S hr hlk hW ⟨hs1, hI1.keepA (fun x h => h) (fun i hi => up_ne (hI1.notO e_q1 i hi)), ⟨.long 1, w1, up_eq, ⟨fun k9 hk9 => (by cases hk9), fun z9 hz9 => by cases hz9; exact ⟨rfl, by rw [if_neg c1]⟩⟩⟩, fun x hx hA hq => (up_ne hq).trans (hFr1 x hx hA)⟩ (by decide) (by decide) dL_drop_32
set_option maxHeartbeats 4000000 in
set_option maxRecDepth 100000 in
theorem c_L_dropAll {l : Launch} {D : va_G} {κ : Nat → ClassId} {ζ : Nat → Nat} {L : List Nat} {F : Nat → va_E} {σ : CS} {A : Nat → Nat} {q : Nat} (hst : l.stackTraces = false) (hI : CI κ A σ L F) (hO : OUT q L F) (x1 x2 : Int32) {res : (Nat ⊕ (Int32 × CS))} (hf : f_X3_dropAll σ x1 x2 = some res) (hk : ∀ k, res = .inl k → k = 0 ∨ k = 1) : MwI l D κ ζ yL_dropAll cL_dropAll 5 (some .int) [(0, 11, 14, 19), (0, 11, 18, 21)] 10 2 12 ([.ref (A 0), .int x1, .int x2, .ref q] : List Value) L F (LwP κ A q (aftM σ res) L F (fun r w0 _ => (∀ k, res = .inl k → r = (if k = 0 then 1 else 2)) ∧ ∀ z, res = .inr z → r = 0 ∧ w0 = .long (Int32.toInt64 z.1))) := by
  refine MwI.of (by decide) (Nat.le_of_ble_eq_true rfl) ?_
  intro p e s m below meth c S hr hlk hxt hN hK hW hST ls hl
  have hl : lv_has ls 5 [(0, .ref (A 0)), (1, .int x1), (2, .int x2), (3, .ref q)] := hl
  obtain ⟨m_q, w0, w1, e_q⟩ := hO
  refine lv_aload_n S.1 S.2.1 dL_dropAll_0 rfl (lv_at hl 3 rfl) ?_
  refine lv_aload_n S.1 S.2.1 dL_dropAll_1 rfl (lv_at hl 0 rfl) ?_
  refine lv_iload_n S.1 S.2.1 dL_dropAll_2 rfl (lv_at hl 1 rfl) ?_
  refine lv_iload_n S.1 S.2.1 dL_dropAll_3 rfl (lv_at hl 2 rfl) ?_
  refine xk_cVI (As := [.int x1, .int x2]) (rest := [.ref q]) S hK hST hW (c_X3_dropAll hst hI x1 x2 hf) mc_X3_dropAll wd_543 wd_544 wd_545 rfl np_X3_dropAll (hI.mem 0 (by decide)) hI.this rfl rfl hl.1 rfl (Nat.le_of_ble_eq_true rfl) dL_dropAll_4 ⟨Nat.le_of_ble_eq_true rfl, Nat.le_of_ble_eq_true rfl⟩ ⟨Nat.le_of_ble_eq_true rfl, Nat.le_of_ble_eq_true rfl⟩ (fun E ce q9 H1 l1 hE hW h1 h2 h3 => ?_) (fun r L1 F1 H2 l2 hp hW => ?_)
  · obtain ⟨k, hk1, rfl⟩ := hE
    rcases hk k hk1 with rfl | rfl
    · subst hk1
      refine vx_catch (name := "java/lang/IndexOutOfBoundsException") S.2.2.2.1 [] ⟨0, 11, 14, 19⟩ [⟨0, 11, 18, 21⟩] (by rw [hxt]; rfl) (fun _ h => absurd h List.not_mem_nil) (by decide) (by decide) (S.2.2.2.2 _ wd_348) (va_Nw.use rfl (hST.1.1 _ wn_10)) h1 h2 h3 ?_
      refine lv_astore (lv' := [(4, .ref q9), (0, .ref (A 0)), (1, .int x1), (2, .int x2), (3, .ref q)]) S.1 S.2.1 dL_dropAll_14 hl (by decide) rfl (fun ls hl => ?_)
      refine lv_iconst (v := 1) S.1 S.2.1 dL_dropAll_16 (by decide) ?_
      exact pk_iret S hr hlk hW ⟨fun x hx => hx, hI, ⟨w0, w1, e_q, ⟨fun k9 hk9 => (by cases hk9; rfl), fun z hz => (by cases hz)⟩⟩, fun x _ _ _ => rfl⟩ (by decide) (by decide) dL_dropAll_17
    · subst hk1
      refine vx_catch (name := "java/lang/IllegalArgumentException") S.2.2.2.1 [⟨0, 11, 14, 19⟩] ⟨0, 11, 18, 21⟩ [] (by rw [hxt]; rfl) (List.forall_mem_cons.mpr ⟨Or.inr ⟨by decide, _, S.2.2.2.2 _ wd_348, hN 1 0 (by decide) (by decide) (by decide)⟩, fun _ h => absurd h List.not_mem_nil⟩) (by decide) (by decide) (S.2.2.2.2 _ wd_349) (va_Nw.use rfl (hST.1.1 _ wn_17)) h1 h2 h3 ?_
      refine lv_astore (lv' := [(4, .ref q9), (0, .ref (A 0)), (1, .int x1), (2, .int x2), (3, .ref q)]) S.1 S.2.1 dL_dropAll_18 hl (by decide) rfl (fun ls hl => ?_)
      refine lv_iconst (v := 2) S.1 S.2.1 dL_dropAll_20 (by decide) ?_
      exact pk_iret S hr hlk hW ⟨fun x hx => hx, hI, ⟨w0, w1, e_q, ⟨fun k9 hk9 => (by cases hk9; rfl), fun z hz => (by cases hz)⟩⟩, fun x _ _ _ => rfl⟩ (by decide) (by decide) dL_dropAll_21
  obtain ⟨rfl, z, hz, rfl, hI1, hFrA⟩ := hp
  subst hz
  have m_q1 := m_q
  have e_q1 : F1 q = _ := (hFrA q (fun i hi ee => hI.notO e_q i hi ee.symm)).trans e_q
  have hs1 : ∀ x ∈ L, x ∈ L := fun x hx => hx
  have hFr1 : ∀ x ∈ L, (∀ i, i < 18 → x ≠ A i) → F1 x = F x := fun x _ hA => hFrA x hA
  refine lv_i2l (v := Int32.toInt64 z.1) S.1 S.2.1 dL_dropAll_7 rfl ?_
  refine pk_putN (v := .long (Int32.toInt64 z.1)) S hK hW 0 m_q1 e_q1 rfl hinX4 tyX4_ok nmX4 (by decide) (va_Nw.use rfl (hST.1.1 _ wn_8)) rfl rfl rfl rfl (Nat.le_of_ble_eq_true rfl) dL_dropAll_8 (fun H3 l3 hW => ?_)
  refine lv_goto (tgt := 22) S.1 S.2.1 dL_dropAll_11 (by decide) ?_
  refine lv_iconst (v := 0) S.1 S.2.1 dL_dropAll_22 (by decide) ?_
  exact pk_iret S hr hlk hW ⟨hs1, hI1.keepA (fun x h => h) (fun i hi => up_ne (hI1.notO e_q1 i hi)), ⟨.long (Int32.toInt64 z.1), w1, up_eq, ⟨fun k9 hk9 => (by cases hk9), fun z9 hz9 => by cases hz9; exact ⟨rfl, rfl⟩⟩⟩, fun x hx hA hq => (up_ne hq).trans (hFr1 x hx hA)⟩ (by decide) (by decide) dL_dropAll_23
set_option maxHeartbeats 4000000 in
set_option maxRecDepth 100000 in
theorem c_L_shed {l : Launch} {D : va_G} {κ : Nat → ClassId} {ζ : Nat → Nat} {L : List Nat} {F : Nat → va_E} {σ : CS} {A : Nat → Nat} {q : Nat} (hst : l.stackTraces = false) (hI : CI κ A σ L F) (hO : OUT q L F) (x1 x2 x3 x4 : Int32) {res : (Nat ⊕ (Int32 × CS))} (hf : f_X3_shed σ x1 x2 x3 x4 = some res) (hk : ∀ k, res = .inl k → k = 0 ∨ k = 1) : MwI l D κ ζ yL_shed cL_shed 7 (some .int) [(0, 15, 18, 19), (0, 15, 22, 21)] 9 3 18 ([.ref (A 0), .int x1, .int x2, .int x3, .int x4, .ref q] : List Value) L F (LwP κ A q (aftM σ res) L F (fun r w0 _ => (∀ k, res = .inl k → r = (if k = 0 then 1 else 2)) ∧ ∀ z, res = .inr z → r = 0 ∧ w0 = .long (Int32.toInt64 z.1))) := by
  refine MwI.of (by decide) (Nat.le_of_ble_eq_true rfl) ?_
  intro p e s m below meth c S hr hlk hxt hN hK hW hST ls hl
  have hl : lv_has ls 7 [(0, .ref (A 0)), (1, .int x1), (2, .int x2), (3, .int x3), (4, .int x4), (5, .ref q)] := hl
  obtain ⟨m_q, w0, w1, e_q⟩ := hO
  refine lv_aload S.1 S.2.1 dL_shed_0 (lv_at hl 5 rfl) ?_
  refine lv_aload_n S.1 S.2.1 dL_shed_2 rfl (lv_at hl 0 rfl) ?_
  refine lv_iload_n S.1 S.2.1 dL_shed_3 rfl (lv_at hl 1 rfl) ?_
  refine lv_iload_n S.1 S.2.1 dL_shed_4 rfl (lv_at hl 2 rfl) ?_
  refine lv_iload_n S.1 S.2.1 dL_shed_5 rfl (lv_at hl 3 rfl) ?_
  refine lv_iload S.1 S.2.1 dL_shed_6 (lv_at hl 4 rfl) ?_
  refine xk_cVI (As := [.int x1, .int x2, .int x3, .int x4]) (rest := [.ref q]) S hK hST hW (c_X3_shed hst hI x1 x2 x3 x4 hf) mc_X3_shed wd_549 wd_550 wd_551 rfl np_X3_shed (hI.mem 0 (by decide)) hI.this rfl rfl hl.1 rfl (Nat.le_of_ble_eq_true rfl) dL_shed_8 ⟨Nat.le_of_ble_eq_true rfl, Nat.le_of_ble_eq_true rfl⟩ ⟨Nat.le_of_ble_eq_true rfl, Nat.le_of_ble_eq_true rfl⟩ (fun E ce q9 H1 l1 hE hW h1 h2 h3 => ?_) (fun r L1 F1 H2 l2 hp hW => ?_)
  · obtain ⟨k, hk1, rfl⟩ := hE
    rcases hk k hk1 with rfl | rfl
    · subst hk1
      refine vx_catch (name := "java/lang/IndexOutOfBoundsException") S.2.2.2.1 [] ⟨0, 15, 18, 19⟩ [⟨0, 15, 22, 21⟩] (by rw [hxt]; rfl) (fun _ h => absurd h List.not_mem_nil) (by decide) (by decide) (S.2.2.2.2 _ wd_348) (va_Nw.use rfl (hST.1.1 _ wn_10)) h1 h2 h3 ?_
      refine lv_astore (lv' := [(6, .ref q9), (0, .ref (A 0)), (1, .int x1), (2, .int x2), (3, .int x3), (4, .int x4), (5, .ref q)]) S.1 S.2.1 dL_shed_18 hl (by decide) rfl (fun ls hl => ?_)
      refine lv_iconst (v := 1) S.1 S.2.1 dL_shed_20 (by decide) ?_
      exact pk_iret S hr hlk hW ⟨fun x hx => hx, hI, ⟨w0, w1, e_q, ⟨fun k9 hk9 => (by cases hk9; rfl), fun z hz => (by cases hz)⟩⟩, fun x _ _ _ => rfl⟩ (by decide) (by decide) dL_shed_21
    · subst hk1
      refine vx_catch (name := "java/lang/IllegalArgumentException") S.2.2.2.1 [⟨0, 15, 18, 19⟩] ⟨0, 15, 22, 21⟩ [] (by rw [hxt]; rfl) (List.forall_mem_cons.mpr ⟨Or.inr ⟨by decide, _, S.2.2.2.2 _ wd_348, hN 1 0 (by decide) (by decide) (by decide)⟩, fun _ h => absurd h List.not_mem_nil⟩) (by decide) (by decide) (S.2.2.2.2 _ wd_349) (va_Nw.use rfl (hST.1.1 _ wn_17)) h1 h2 h3 ?_
      refine lv_astore (lv' := [(6, .ref q9), (0, .ref (A 0)), (1, .int x1), (2, .int x2), (3, .int x3), (4, .int x4), (5, .ref q)]) S.1 S.2.1 dL_shed_22 hl (by decide) rfl (fun ls hl => ?_)
      refine lv_iconst (v := 2) S.1 S.2.1 dL_shed_24 (by decide) ?_
      exact pk_iret S hr hlk hW ⟨fun x hx => hx, hI, ⟨w0, w1, e_q, ⟨fun k9 hk9 => (by cases hk9; rfl), fun z hz => (by cases hz)⟩⟩, fun x _ _ _ => rfl⟩ (by decide) (by decide) dL_shed_25
  obtain ⟨rfl, z, hz, rfl, hI1, hFrA⟩ := hp
  subst hz
  have m_q1 := m_q
  have e_q1 : F1 q = _ := (hFrA q (fun i hi ee => hI.notO e_q i hi ee.symm)).trans e_q
  have hs1 : ∀ x ∈ L, x ∈ L := fun x hx => hx
  have hFr1 : ∀ x ∈ L, (∀ i, i < 18 → x ≠ A i) → F1 x = F x := fun x _ hA => hFrA x hA
  refine lv_i2l (v := Int32.toInt64 z.1) S.1 S.2.1 dL_shed_11 rfl ?_
  refine pk_putN (v := .long (Int32.toInt64 z.1)) S hK hW 0 m_q1 e_q1 rfl hinX4 tyX4_ok nmX4 (by decide) (va_Nw.use rfl (hST.1.1 _ wn_8)) rfl rfl rfl rfl (Nat.le_of_ble_eq_true rfl) dL_shed_12 (fun H3 l3 hW => ?_)
  refine lv_goto (tgt := 26) S.1 S.2.1 dL_shed_15 (by decide) ?_
  refine lv_iconst (v := 0) S.1 S.2.1 dL_shed_26 (by decide) ?_
  exact pk_iret S hr hlk hW ⟨hs1, hI1.keepA (fun x h => h) (fun i hi => up_ne (hI1.notO e_q1 i hi)), ⟨.long (Int32.toInt64 z.1), w1, up_eq, ⟨fun k9 hk9 => (by cases hk9), fun z9 hz9 => by cases hz9; exact ⟨rfl, rfl⟩⟩⟩, fun x hx hA hq => (up_ne hq).trans (hFr1 x hx hA)⟩ (by decide) (by decide) dL_shed_27
set_option maxHeartbeats 4000000 in
set_option maxRecDepth 100000 in
theorem c_L_thin {l : Launch} {D : va_G} {κ : Nat → ClassId} {ζ : Nat → Nat} {L : List Nat} {F : Nat → va_E} {σ : CS} {A : Nat → Nat} {q : Nat} (hst : l.stackTraces = false) (hI : CI κ A σ L F) (hO : OUT q L F) (x1 x2 x3 : Int32) {res : (Nat ⊕ (Int32 × CS))} (hf : f_X3_thin σ x1 x2 x3 = some res) (hk : ∀ k, res = .inl k → k = 0 ∨ k = 1) : MwI l D κ ζ yL_thin cL_thin 6 (some .int) [(0, 13, 16, 19), (0, 13, 20, 21)] 9 2 12 ([.ref (A 0), .int x1, .int x2, .int x3, .ref q] : List Value) L F (LwP κ A q (aftM σ res) L F (fun r w0 _ => (∀ k, res = .inl k → r = (if k = 0 then 1 else 2)) ∧ ∀ z, res = .inr z → r = 0 ∧ w0 = .long (Int32.toInt64 z.1))) := by
  refine MwI.of (by decide) (Nat.le_of_ble_eq_true rfl) ?_
  intro p e s m below meth c S hr hlk hxt hN hK hW hST ls hl
  have hl : lv_has ls 6 [(0, .ref (A 0)), (1, .int x1), (2, .int x2), (3, .int x3), (4, .ref q)] := hl
  obtain ⟨m_q, w0, w1, e_q⟩ := hO
  refine lv_aload S.1 S.2.1 dL_thin_0 (lv_at hl 4 rfl) ?_
  refine lv_aload_n S.1 S.2.1 dL_thin_2 rfl (lv_at hl 0 rfl) ?_
  refine lv_iload_n S.1 S.2.1 dL_thin_3 rfl (lv_at hl 1 rfl) ?_
  refine lv_iload_n S.1 S.2.1 dL_thin_4 rfl (lv_at hl 2 rfl) ?_
  refine lv_iload_n S.1 S.2.1 dL_thin_5 rfl (lv_at hl 3 rfl) ?_
  refine xk_cVI (As := [.int x1, .int x2, .int x3]) (rest := [.ref q]) S hK hST hW (c_X3_thin hst hI x1 x2 x3 hf) mc_X3_thin wd_555 wd_556 wd_557 rfl np_X3_thin (hI.mem 0 (by decide)) hI.this rfl rfl hl.1 rfl (Nat.le_of_ble_eq_true rfl) dL_thin_6 ⟨Nat.le_of_ble_eq_true rfl, Nat.le_of_ble_eq_true rfl⟩ ⟨Nat.le_of_ble_eq_true rfl, Nat.le_of_ble_eq_true rfl⟩ (fun E ce q9 H1 l1 hE hW h1 h2 h3 => ?_) (fun r L1 F1 H2 l2 hp hW => ?_)
  · obtain ⟨k, hk1, rfl⟩ := hE
    rcases hk k hk1 with rfl | rfl
    · subst hk1
      refine vx_catch (name := "java/lang/IndexOutOfBoundsException") S.2.2.2.1 [] ⟨0, 13, 16, 19⟩ [⟨0, 13, 20, 21⟩] (by rw [hxt]; rfl) (fun _ h => absurd h List.not_mem_nil) (by decide) (by decide) (S.2.2.2.2 _ wd_348) (va_Nw.use rfl (hST.1.1 _ wn_10)) h1 h2 h3 ?_
      refine lv_astore (lv' := [(5, .ref q9), (0, .ref (A 0)), (1, .int x1), (2, .int x2), (3, .int x3), (4, .ref q)]) S.1 S.2.1 dL_thin_16 hl (by decide) rfl (fun ls hl => ?_)
      refine lv_iconst (v := 1) S.1 S.2.1 dL_thin_18 (by decide) ?_
      exact pk_iret S hr hlk hW ⟨fun x hx => hx, hI, ⟨w0, w1, e_q, ⟨fun k9 hk9 => (by cases hk9; rfl), fun z hz => (by cases hz)⟩⟩, fun x _ _ _ => rfl⟩ (by decide) (by decide) dL_thin_19
    · subst hk1
      refine vx_catch (name := "java/lang/IllegalArgumentException") S.2.2.2.1 [⟨0, 13, 16, 19⟩] ⟨0, 13, 20, 21⟩ [] (by rw [hxt]; rfl) (List.forall_mem_cons.mpr ⟨Or.inr ⟨by decide, _, S.2.2.2.2 _ wd_348, hN 1 0 (by decide) (by decide) (by decide)⟩, fun _ h => absurd h List.not_mem_nil⟩) (by decide) (by decide) (S.2.2.2.2 _ wd_349) (va_Nw.use rfl (hST.1.1 _ wn_17)) h1 h2 h3 ?_
      refine lv_astore (lv' := [(5, .ref q9), (0, .ref (A 0)), (1, .int x1), (2, .int x2), (3, .int x3), (4, .ref q)]) S.1 S.2.1 dL_thin_20 hl (by decide) rfl (fun ls hl => ?_)
      refine lv_iconst (v := 2) S.1 S.2.1 dL_thin_22 (by decide) ?_
      exact pk_iret S hr hlk hW ⟨fun x hx => hx, hI, ⟨w0, w1, e_q, ⟨fun k9 hk9 => (by cases hk9; rfl), fun z hz => (by cases hz)⟩⟩, fun x _ _ _ => rfl⟩ (by decide) (by decide) dL_thin_23
  obtain ⟨rfl, z, hz, rfl, hI1, hFrA⟩ := hp
  subst hz
  have m_q1 := m_q
  have e_q1 : F1 q = _ := (hFrA q (fun i hi ee => hI.notO e_q i hi ee.symm)).trans e_q
  have hs1 : ∀ x ∈ L, x ∈ L := fun x hx => hx
  have hFr1 : ∀ x ∈ L, (∀ i, i < 18 → x ≠ A i) → F1 x = F x := fun x _ hA => hFrA x hA
  refine lv_i2l (v := Int32.toInt64 z.1) S.1 S.2.1 dL_thin_9 rfl ?_
  refine pk_putN (v := .long (Int32.toInt64 z.1)) S hK hW 0 m_q1 e_q1 rfl hinX4 tyX4_ok nmX4 (by decide) (va_Nw.use rfl (hST.1.1 _ wn_8)) rfl rfl rfl rfl (Nat.le_of_ble_eq_true rfl) dL_thin_10 (fun H3 l3 hW => ?_)
  refine lv_goto (tgt := 24) S.1 S.2.1 dL_thin_13 (by decide) ?_
  refine lv_iconst (v := 0) S.1 S.2.1 dL_thin_24 (by decide) ?_
  exact pk_iret S hr hlk hW ⟨hs1, hI1.keepA (fun x h => h) (fun i hi => up_ne (hI1.notO e_q1 i hi)), ⟨.long (Int32.toInt64 z.1), w1, up_eq, ⟨fun k9 hk9 => (by cases hk9), fun z9 hz9 => by cases hz9; exact ⟨rfl, rfl⟩⟩⟩, fun x hx hA hq => (up_ne hq).trans (hFr1 x hx hA)⟩ (by decide) (by decide) dL_thin_25
set_option maxHeartbeats 4000000 in
set_option maxRecDepth 100000 in
theorem c_L_turn {l : Launch} {D : va_G} {κ : Nat → ClassId} {ζ : Nat → Nat} {L : List Nat} {F : Nat → va_E} {σ : CS} {A : Nat → Nat} {q : Nat} (hst : l.stackTraces = false) (hI : CI κ A σ L F) (hO : OUT q L F) (x1 : Int32) {res : (Nat ⊕ (Int32 × CS))} (hf : f_X3_turn σ x1 = some res) (hk : ∀ k, res = .inl k → k = 0) : MwI l D κ ζ yL_turn cL_turn 4 (some .int) [(0, 10, 13, 19)] 9 1 6 ([.ref (A 0), .int x1, .ref q] : List Value) L F (LwP κ A q (aftM σ res) L F (fun r w0 _ => (∀ k, res = .inl k → r = (1)) ∧ ∀ z, res = .inr z → r = 0 ∧ w0 = .long (Int32.toInt64 z.1))) := by
  refine MwI.of (by decide) (Nat.le_of_ble_eq_true rfl) ?_
  intro p e s m below meth c S hr hlk hxt hN hK hW hST ls hl
  have hl : lv_has ls 4 [(0, .ref (A 0)), (1, .int x1), (2, .ref q)] := hl
  obtain ⟨m_q, w0, w1, e_q⟩ := hO
  refine lv_aload_n S.1 S.2.1 dL_turn_0 rfl (lv_at hl 2 rfl) ?_
  refine lv_aload_n S.1 S.2.1 dL_turn_1 rfl (lv_at hl 0 rfl) ?_
  refine lv_iload_n S.1 S.2.1 dL_turn_2 rfl (lv_at hl 1 rfl) ?_
  refine xk_cVI (As := [.int x1]) (rest := [.ref q]) S hK hST hW (c_X3_turn hst hI x1 hf) mc_X3_turn wd_561 wd_562 wd_563 rfl np_X3_turn (hI.mem 0 (by decide)) hI.this rfl rfl hl.1 rfl (Nat.le_of_ble_eq_true rfl) dL_turn_3 ⟨Nat.le_of_ble_eq_true rfl, Nat.le_of_ble_eq_true rfl⟩ ⟨Nat.le_of_ble_eq_true rfl, Nat.le_of_ble_eq_true rfl⟩ (fun E ce q9 H1 l1 hE hW h1 h2 h3 => ?_) (fun r L1 F1 H2 l2 hp hW => ?_)
  · obtain ⟨k, hk1, rfl⟩ := hE
    have hk0 := hk k hk1
    subst hk0
    subst hk1
    refine vx_catch (name := "java/lang/IndexOutOfBoundsException") S.2.2.2.1 [] ⟨0, 10, 13, 19⟩ [] (by rw [hxt]; rfl) (fun _ h => absurd h List.not_mem_nil) (by decide) (by decide) (S.2.2.2.2 _ wd_348) (va_Nw.use rfl (hST.1.1 _ wn_10)) h1 h2 h3 ?_
    refine lv_astore_n (lv' := [(3, .ref q9), (0, .ref (A 0)), (1, .int x1), (2, .ref q)]) S.1 S.2.1 dL_turn_13 rfl hl (by decide) rfl (fun ls hl => ?_)
    refine lv_iconst (v := 1) S.1 S.2.1 dL_turn_14 (by decide) ?_
    exact pk_iret S hr hlk hW ⟨fun x hx => hx, hI, ⟨w0, w1, e_q, ⟨fun k9 hk9 => (by cases hk9; rfl), fun z hz => (by cases hz)⟩⟩, fun x _ _ _ => rfl⟩ (by decide) (by decide) dL_turn_15
  obtain ⟨rfl, z, hz, rfl, hI1, hFrA⟩ := hp
  subst hz
  have m_q1 := m_q
  have e_q1 : F1 q = _ := (hFrA q (fun i hi ee => hI.notO e_q i hi ee.symm)).trans e_q
  have hs1 : ∀ x ∈ L, x ∈ L := fun x hx => hx
  have hFr1 : ∀ x ∈ L, (∀ i, i < 18 → x ≠ A i) → F1 x = F x := fun x _ hA => hFrA x hA
  refine lv_i2l (v := Int32.toInt64 z.1) S.1 S.2.1 dL_turn_6 rfl ?_
  refine pk_putN (v := .long (Int32.toInt64 z.1)) S hK hW 0 m_q1 e_q1 rfl hinX4 tyX4_ok nmX4 (by decide) (va_Nw.use rfl (hST.1.1 _ wn_8)) rfl rfl rfl rfl (Nat.le_of_ble_eq_true rfl) dL_turn_7 (fun H3 l3 hW => ?_)
  refine lv_goto (tgt := 16) S.1 S.2.1 dL_turn_10 (by decide) ?_
  refine lv_iconst (v := 0) S.1 S.2.1 dL_turn_16 (by decide) ?_
  exact pk_iret S hr hlk hW ⟨hs1, hI1.keepA (fun x h => h) (fun i hi => up_ne (hI1.notO e_q1 i hi)), ⟨.long (Int32.toInt64 z.1), w1, up_eq, ⟨fun k9 hk9 => (by cases hk9), fun z9 hz9 => by cases hz9; exact ⟨rfl, rfl⟩⟩⟩, fun x hx hA hq => (up_ne hq).trans (hFr1 x hx hA)⟩ (by decide) (by decide) dL_turn_17
set_option maxHeartbeats 4000000 in
set_option maxRecDepth 100000 in
theorem c_L_clear {l : Launch} {D : va_G} {κ : Nat → ClassId} {ζ : Nat → Nat} {L : List Nat} {F : Nat → va_E} {σ : CS} {A : Nat → Nat} {q : Nat} (hst : l.stackTraces = false) (hI : CI κ A σ L F) (hO : OUT q L F) (x1 : Int32) {res : (Nat ⊕ (Int32 × CS))} (hf : f_X3_clear σ x1 = some res) (hk : ∀ k, res = .inl k → k = 0) : MwI l D κ ζ yL_clear cL_clear 4 (some .int) [(0, 10, 13, 19)] 9 1 6 ([.ref (A 0), .int x1, .ref q] : List Value) L F (LwP κ A q (aftM σ res) L F (fun r w0 _ => (∀ k, res = .inl k → r = (1)) ∧ ∀ z, res = .inr z → r = 0 ∧ w0 = .long (Int32.toInt64 z.1))) := by
  refine MwI.of (by decide) (Nat.le_of_ble_eq_true rfl) ?_
  intro p e s m below meth c S hr hlk hxt hN hK hW hST ls hl
  have hl : lv_has ls 4 [(0, .ref (A 0)), (1, .int x1), (2, .ref q)] := hl
  obtain ⟨m_q, w0, w1, e_q⟩ := hO
  refine lv_aload_n S.1 S.2.1 dL_clear_0 rfl (lv_at hl 2 rfl) ?_
  refine lv_aload_n S.1 S.2.1 dL_clear_1 rfl (lv_at hl 0 rfl) ?_
  refine lv_iload_n S.1 S.2.1 dL_clear_2 rfl (lv_at hl 1 rfl) ?_
  refine xk_cVI (As := [.int x1]) (rest := [.ref q]) S hK hST hW (c_X3_clear hst hI x1 hf) mc_X3_clear wd_568 wd_569 wd_570 rfl np_X3_clear (hI.mem 0 (by decide)) hI.this rfl rfl hl.1 rfl (Nat.le_of_ble_eq_true rfl) dL_clear_3 ⟨Nat.le_of_ble_eq_true rfl, Nat.le_of_ble_eq_true rfl⟩ ⟨Nat.le_of_ble_eq_true rfl, Nat.le_of_ble_eq_true rfl⟩ (fun E ce q9 H1 l1 hE hW h1 h2 h3 => ?_) (fun r L1 F1 H2 l2 hp hW => ?_)
  · obtain ⟨k, hk1, rfl⟩ := hE
    have hk0 := hk k hk1
    subst hk0
    subst hk1
    refine vx_catch (name := "java/lang/IndexOutOfBoundsException") S.2.2.2.1 [] ⟨0, 10, 13, 19⟩ [] (by rw [hxt]; rfl) (fun _ h => absurd h List.not_mem_nil) (by decide) (by decide) (S.2.2.2.2 _ wd_348) (va_Nw.use rfl (hST.1.1 _ wn_10)) h1 h2 h3 ?_
    refine lv_astore_n (lv' := [(3, .ref q9), (0, .ref (A 0)), (1, .int x1), (2, .ref q)]) S.1 S.2.1 dL_clear_13 rfl hl (by decide) rfl (fun ls hl => ?_)
    refine lv_iconst (v := 1) S.1 S.2.1 dL_clear_14 (by decide) ?_
    exact pk_iret S hr hlk hW ⟨fun x hx => hx, hI, ⟨w0, w1, e_q, ⟨fun k9 hk9 => (by cases hk9; rfl), fun z hz => (by cases hz)⟩⟩, fun x _ _ _ => rfl⟩ (by decide) (by decide) dL_clear_15
  obtain ⟨rfl, z, hz, rfl, hI1, hFrA⟩ := hp
  subst hz
  have m_q1 := m_q
  have e_q1 : F1 q = _ := (hFrA q (fun i hi ee => hI.notO e_q i hi ee.symm)).trans e_q
  have hs1 : ∀ x ∈ L, x ∈ L := fun x hx => hx
  have hFr1 : ∀ x ∈ L, (∀ i, i < 18 → x ≠ A i) → F1 x = F x := fun x _ hA => hFrA x hA
  refine lv_i2l (v := Int32.toInt64 z.1) S.1 S.2.1 dL_clear_6 rfl ?_
  refine pk_putN (v := .long (Int32.toInt64 z.1)) S hK hW 0 m_q1 e_q1 rfl hinX4 tyX4_ok nmX4 (by decide) (va_Nw.use rfl (hST.1.1 _ wn_8)) rfl rfl rfl rfl (Nat.le_of_ble_eq_true rfl) dL_clear_7 (fun H3 l3 hW => ?_)
  refine lv_goto (tgt := 16) S.1 S.2.1 dL_clear_10 (by decide) ?_
  refine lv_iconst (v := 0) S.1 S.2.1 dL_clear_16 (by decide) ?_
  exact pk_iret S hr hlk hW ⟨hs1, hI1.keepA (fun x h => h) (fun i hi => up_ne (hI1.notO e_q1 i hi)), ⟨.long (Int32.toInt64 z.1), w1, up_eq, ⟨fun k9 hk9 => (by cases hk9), fun z9 hz9 => by cases hz9; exact ⟨rfl, rfl⟩⟩⟩, fun x hx hA hq => (up_ne hq).trans (hFr1 x hx hA)⟩ (by decide) (by decide) dL_clear_17
set_option maxHeartbeats 4000000 in
set_option maxRecDepth 100000 in
theorem c_L_step {l : Launch} {D : va_G} {κ : Nat → ClassId} {ζ : Nat → Nat} {L : List Nat} {F : Nat → va_E} {σ : CS} {A : Nat → Nat} {q : Nat} (hst : l.stackTraces = false) (hI : CI κ A σ L F) (hO : OUT q L F)  {res : (Nat ⊕ (Int32 × CS))} (hf : f_X3_step σ  = some res) (hk : ∀ k, res = .inl k → k = 2) : MwI l D κ ζ yL_step cL_step 3 (some .int) [(0, 9, 12, 23)] 9 1 6 ([.ref (A 0), .ref q] : List Value) L F (LwP κ A q (aftM σ res) L F (fun r w0 _ => (∀ k, res = .inl k → r = (1)) ∧ ∀ z, res = .inr z → r = 0 ∧ w0 = .long (Int32.toInt64 z.1))) := by
  refine MwI.of (by decide) (Nat.le_of_ble_eq_true rfl) ?_
  intro p e s m below meth c S hr hlk hxt hN hK hW hST ls hl
  have hl : lv_has ls 3 [(0, .ref (A 0)), (1, .ref q)] := hl
  obtain ⟨m_q, w0, w1, e_q⟩ := hO
  refine lv_aload_n S.1 S.2.1 dL_step_0 rfl (lv_at hl 1 rfl) ?_
  refine lv_aload_n S.1 S.2.1 dL_step_1 rfl (lv_at hl 0 rfl) ?_
  refine xk_cVI (As := []) (rest := [.ref q]) S hK hST hW (c_X3_step hst hI  hf) mc_X3_step wd_574 wd_575 wd_576 rfl np_X3_step (hI.mem 0 (by decide)) hI.this rfl rfl hl.1 rfl (Nat.le_of_ble_eq_true rfl) dL_step_2 ⟨Nat.le_of_ble_eq_true rfl, Nat.le_of_ble_eq_true rfl⟩ ⟨Nat.le_of_ble_eq_true rfl, Nat.le_of_ble_eq_true rfl⟩ (fun E ce q9 H1 l1 hE hW h1 h2 h3 => ?_) (fun r L1 F1 H2 l2 hp hW => ?_)
  · obtain ⟨k, hk1, rfl⟩ := hE
    have hk0 := hk k hk1
    subst hk0
    subst hk1
    refine vx_catch (name := "java/lang/IllegalStateException") S.2.2.2.1 [] ⟨0, 9, 12, 23⟩ [] (by rw [hxt]; rfl) (fun _ h => absurd h List.not_mem_nil) (by decide) (by decide) (S.2.2.2.2 _ wd_350) (va_Nw.use rfl (hST.1.1 _ wn_18)) h1 h2 h3 ?_
    refine lv_astore_n (lv' := [(2, .ref q9), (0, .ref (A 0)), (1, .ref q)]) S.1 S.2.1 dL_step_12 rfl hl (by decide) rfl (fun ls hl => ?_)
    refine lv_iconst (v := 1) S.1 S.2.1 dL_step_13 (by decide) ?_
    exact pk_iret S hr hlk hW ⟨fun x hx => hx, hI, ⟨w0, w1, e_q, ⟨fun k9 hk9 => (by cases hk9; rfl), fun z hz => (by cases hz)⟩⟩, fun x _ _ _ => rfl⟩ (by decide) (by decide) dL_step_14
  obtain ⟨rfl, z, hz, rfl, hI1, hFrA⟩ := hp
  subst hz
  have m_q1 := m_q
  have e_q1 : F1 q = _ := (hFrA q (fun i hi ee => hI.notO e_q i hi ee.symm)).trans e_q
  have hs1 : ∀ x ∈ L, x ∈ L := fun x hx => hx
  have hFr1 : ∀ x ∈ L, (∀ i, i < 18 → x ≠ A i) → F1 x = F x := fun x _ hA => hFrA x hA
  refine lv_i2l (v := Int32.toInt64 z.1) S.1 S.2.1 dL_step_5 rfl ?_
  refine pk_putN (v := .long (Int32.toInt64 z.1)) S hK hW 0 m_q1 e_q1 rfl hinX4 tyX4_ok nmX4 (by decide) (va_Nw.use rfl (hST.1.1 _ wn_8)) rfl rfl rfl rfl (Nat.le_of_ble_eq_true rfl) dL_step_6 (fun H3 l3 hW => ?_)
  refine lv_goto (tgt := 15) S.1 S.2.1 dL_step_9 (by decide) ?_
  refine lv_iconst (v := 0) S.1 S.2.1 dL_step_15 (by decide) ?_
  exact pk_iret S hr hlk hW ⟨hs1, hI1.keepA (fun x h => h) (fun i hi => up_ne (hI1.notO e_q1 i hi)), ⟨.long (Int32.toInt64 z.1), w1, up_eq, ⟨fun k9 hk9 => (by cases hk9), fun z9 hz9 => by cases hz9; exact ⟨rfl, rfl⟩⟩⟩, fun x hx hA hq => (up_ne hq).trans (hFr1 x hx hA)⟩ (by decide) (by decide) dL_step_16
set_option maxHeartbeats 4000000 in
set_option maxRecDepth 100000 in
theorem c_L_pluck {l : Launch} {D : va_G} {κ : Nat → ClassId} {ζ : Nat → Nat} {L : List Nat} {F : Nat → va_E} {σ : CS} {A : Nat → Nat} {q : Nat} (hst : l.stackTraces = false) (hI : CI κ A σ L F) (hO : OUT q L F)  {res : (Nat ⊕ (Int32 × CS))} (hf : f_X3_pluck σ  = some res) (hk : ∀ k, res = .inl k → k = 2) : MwI l D κ ζ yL_pluck cL_pluck 3 (some .int) [(0, 9, 12, 23)] 9 1 6 ([.ref (A 0), .ref q] : List Value) L F (LwP κ A q (aftM σ res) L F (fun r w0 _ => (∀ k, res = .inl k → r = (1)) ∧ ∀ z, res = .inr z → r = 0 ∧ w0 = .long (Int32.toInt64 z.1))) := by
  refine MwI.of (by decide) (Nat.le_of_ble_eq_true rfl) ?_
  intro p e s m below meth c S hr hlk hxt hN hK hW hST ls hl
  have hl : lv_has ls 3 [(0, .ref (A 0)), (1, .ref q)] := hl
  obtain ⟨m_q, w0, w1, e_q⟩ := hO
  refine lv_aload_n S.1 S.2.1 dL_pluck_0 rfl (lv_at hl 1 rfl) ?_
  refine lv_aload_n S.1 S.2.1 dL_pluck_1 rfl (lv_at hl 0 rfl) ?_
  refine xk_cVI (As := []) (rest := [.ref q]) S hK hST hW (c_X3_pluck hst hI  hf) mc_X3_pluck wd_589 wd_590 wd_591 rfl np_X3_pluck (hI.mem 0 (by decide)) hI.this rfl rfl hl.1 rfl (Nat.le_of_ble_eq_true rfl) dL_pluck_2 ⟨Nat.le_of_ble_eq_true rfl, Nat.le_of_ble_eq_true rfl⟩ ⟨Nat.le_of_ble_eq_true rfl, Nat.le_of_ble_eq_true rfl⟩ (fun E ce q9 H1 l1 hE hW h1 h2 h3 => ?_) (fun r L1 F1 H2 l2 hp hW => ?_)
  · obtain ⟨k, hk1, rfl⟩ := hE
    have hk0 := hk k hk1
    subst hk0
    subst hk1
    refine vx_catch (name := "java/lang/IllegalStateException") S.2.2.2.1 [] ⟨0, 9, 12, 23⟩ [] (by rw [hxt]; rfl) (fun _ h => absurd h List.not_mem_nil) (by decide) (by decide) (S.2.2.2.2 _ wd_350) (va_Nw.use rfl (hST.1.1 _ wn_18)) h1 h2 h3 ?_
    refine lv_astore_n (lv' := [(2, .ref q9), (0, .ref (A 0)), (1, .ref q)]) S.1 S.2.1 dL_pluck_12 rfl hl (by decide) rfl (fun ls hl => ?_)
    refine lv_iconst (v := 1) S.1 S.2.1 dL_pluck_13 (by decide) ?_
    exact pk_iret S hr hlk hW ⟨fun x hx => hx, hI, ⟨w0, w1, e_q, ⟨fun k9 hk9 => (by cases hk9; rfl), fun z hz => (by cases hz)⟩⟩, fun x _ _ _ => rfl⟩ (by decide) (by decide) dL_pluck_14
  obtain ⟨rfl, z, hz, rfl, hI1, hFrA⟩ := hp
  subst hz
  have m_q1 := m_q
  have e_q1 : F1 q = _ := (hFrA q (fun i hi ee => hI.notO e_q i hi ee.symm)).trans e_q
  have hs1 : ∀ x ∈ L, x ∈ L := fun x hx => hx
  have hFr1 : ∀ x ∈ L, (∀ i, i < 18 → x ≠ A i) → F1 x = F x := fun x _ hA => hFrA x hA
  refine lv_i2l (v := Int32.toInt64 z.1) S.1 S.2.1 dL_pluck_5 rfl ?_
  refine pk_putN (v := .long (Int32.toInt64 z.1)) S hK hW 0 m_q1 e_q1 rfl hinX4 tyX4_ok nmX4 (by decide) (va_Nw.use rfl (hST.1.1 _ wn_8)) rfl rfl rfl rfl (Nat.le_of_ble_eq_true rfl) dL_pluck_6 (fun H3 l3 hW => ?_)
  refine lv_goto (tgt := 15) S.1 S.2.1 dL_pluck_9 (by decide) ?_
  refine lv_iconst (v := 0) S.1 S.2.1 dL_pluck_15 (by decide) ?_
  exact pk_iret S hr hlk hW ⟨hs1, hI1.keepA (fun x h => h) (fun i hi => up_ne (hI1.notO e_q1 i hi)), ⟨.long (Int32.toInt64 z.1), w1, up_eq, ⟨fun k9 hk9 => (by cases hk9), fun z9 hz9 => by cases hz9; exact ⟨rfl, rfl⟩⟩⟩, fun x hx hA hq => (up_ne hq).trans (hFr1 x hx hA)⟩ (by decide) (by decide) dL_pluck_16
set_option maxHeartbeats 4000000 in
set_option maxRecDepth 100000 in
theorem c_L_insert {l : Launch} {D : va_G} {κ : Nat → ClassId} {ζ : Nat → Nat} {L : List Nat} {F : Nat → va_E} {σ : CS} {A : Nat → Nat} {q : Nat} (hst : l.stackTraces = false) (hI : CI κ A σ L F) (hO : OUT q L F) (x1 x2 x3 : Int32) {res : (Nat ⊕ (Int32 × CS))} (hf : f_X3_insert σ x1 x2 x3 = some res) (hk : ∀ k, res = .inl k → k = 0 ∨ k = 1 ∨ k = 2) : MwI l D κ ζ yL_insert cL_insert 6 (some .int) [(0, 13, 16, 19), (0, 13, 20, 21), (0, 13, 24, 23)] 10 4 24 ([.ref (A 0), .int x1, .int x2, .int x3, .ref q] : List Value) L F (LwP κ A q (aftM σ res) L F (fun r w0 _ => (∀ k, res = .inl k → r = (if k = 0 then 1 else if k = 1 then 2 else 3)) ∧ ∀ z, res = .inr z → r = 0 ∧ w0 = .long (Int32.toInt64 z.1))) := by
  refine MwI.of (by decide) (Nat.le_of_ble_eq_true rfl) ?_
  intro p e s m below meth c S hr hlk hxt hN hK hW hST ls hl
  have hl : lv_has ls 6 [(0, .ref (A 0)), (1, .int x1), (2, .int x2), (3, .int x3), (4, .ref q)] := hl
  obtain ⟨m_q, w0, w1, e_q⟩ := hO
  refine lv_aload S.1 S.2.1 dL_insert_0 (lv_at hl 4 rfl) ?_
  refine lv_aload_n S.1 S.2.1 dL_insert_2 rfl (lv_at hl 0 rfl) ?_
  refine lv_iload_n S.1 S.2.1 dL_insert_3 rfl (lv_at hl 1 rfl) ?_
  refine lv_iload_n S.1 S.2.1 dL_insert_4 rfl (lv_at hl 2 rfl) ?_
  refine lv_iload_n S.1 S.2.1 dL_insert_5 rfl (lv_at hl 3 rfl) ?_
  refine xk_cVI (As := [.int x1, .int x2, .int x3]) (rest := [.ref q]) S hK hST hW (c_X3_insert hst hI x1 x2 x3 hf) mc_X3_insert wd_599 wd_600 wd_601 rfl np_X3_insert (hI.mem 0 (by decide)) hI.this rfl rfl hl.1 rfl (Nat.le_of_ble_eq_true rfl) dL_insert_6 ⟨Nat.le_of_ble_eq_true rfl, Nat.le_of_ble_eq_true rfl⟩ ⟨Nat.le_of_ble_eq_true rfl, Nat.le_of_ble_eq_true rfl⟩ (fun E ce q9 H1 l1 hE hW h1 h2 h3 => ?_) (fun r L1 F1 H2 l2 hp hW => ?_)
  · obtain ⟨k, hk1, rfl⟩ := hE
    rcases hk k hk1 with rfl | rfl | rfl
    · subst hk1
      refine vx_catch (name := "java/lang/IndexOutOfBoundsException") S.2.2.2.1 [] ⟨0, 13, 16, 19⟩ [⟨0, 13, 20, 21⟩, ⟨0, 13, 24, 23⟩] (by rw [hxt]; rfl) (fun _ h => absurd h List.not_mem_nil) (by decide) (by decide) (S.2.2.2.2 _ wd_348) (va_Nw.use rfl (hST.1.1 _ wn_10)) h1 h2 h3 ?_
      refine lv_astore (lv' := [(5, .ref q9), (0, .ref (A 0)), (1, .int x1), (2, .int x2), (3, .int x3), (4, .ref q)]) S.1 S.2.1 dL_insert_16 hl (by decide) rfl (fun ls hl => ?_)
      refine lv_iconst (v := 1) S.1 S.2.1 dL_insert_18 (by decide) ?_
      exact pk_iret S hr hlk hW ⟨fun x hx => hx, hI, ⟨w0, w1, e_q, ⟨fun k9 hk9 => (by cases hk9; rfl), fun z hz => (by cases hz)⟩⟩, fun x _ _ _ => rfl⟩ (by decide) (by decide) dL_insert_19
    · subst hk1
      refine vx_catch (name := "java/lang/IllegalArgumentException") S.2.2.2.1 [⟨0, 13, 16, 19⟩] ⟨0, 13, 20, 21⟩ [⟨0, 13, 24, 23⟩] (by rw [hxt]; rfl) (List.forall_mem_cons.mpr ⟨Or.inr ⟨by decide, _, S.2.2.2.2 _ wd_348, hN 1 0 (by decide) (by decide) (by decide)⟩, fun _ h => absurd h List.not_mem_nil⟩) (by decide) (by decide) (S.2.2.2.2 _ wd_349) (va_Nw.use rfl (hST.1.1 _ wn_17)) h1 h2 h3 ?_
      refine lv_astore (lv' := [(5, .ref q9), (0, .ref (A 0)), (1, .int x1), (2, .int x2), (3, .int x3), (4, .ref q)]) S.1 S.2.1 dL_insert_20 hl (by decide) rfl (fun ls hl => ?_)
      refine lv_iconst (v := 2) S.1 S.2.1 dL_insert_22 (by decide) ?_
      exact pk_iret S hr hlk hW ⟨fun x hx => hx, hI, ⟨w0, w1, e_q, ⟨fun k9 hk9 => (by cases hk9; rfl), fun z hz => (by cases hz)⟩⟩, fun x _ _ _ => rfl⟩ (by decide) (by decide) dL_insert_23
    · subst hk1
      refine vx_catch (name := "java/lang/IllegalStateException") S.2.2.2.1 [⟨0, 13, 16, 19⟩, ⟨0, 13, 20, 21⟩] ⟨0, 13, 24, 23⟩ [] (by rw [hxt]; rfl) (List.forall_mem_cons.mpr ⟨Or.inr ⟨by decide, _, S.2.2.2.2 _ wd_348, hN 2 0 (by decide) (by decide) (by decide)⟩, List.forall_mem_cons.mpr ⟨Or.inr ⟨by decide, _, S.2.2.2.2 _ wd_349, hN 2 1 (by decide) (by decide) (by decide)⟩, fun _ h => absurd h List.not_mem_nil⟩⟩) (by decide) (by decide) (S.2.2.2.2 _ wd_350) (va_Nw.use rfl (hST.1.1 _ wn_18)) h1 h2 h3 ?_
      refine lv_astore (lv' := [(5, .ref q9), (0, .ref (A 0)), (1, .int x1), (2, .int x2), (3, .int x3), (4, .ref q)]) S.1 S.2.1 dL_insert_24 hl (by decide) rfl (fun ls hl => ?_)
      refine lv_iconst (v := 3) S.1 S.2.1 dL_insert_26 (by decide) ?_
      exact pk_iret S hr hlk hW ⟨fun x hx => hx, hI, ⟨w0, w1, e_q, ⟨fun k9 hk9 => (by cases hk9; rfl), fun z hz => (by cases hz)⟩⟩, fun x _ _ _ => rfl⟩ (by decide) (by decide) dL_insert_27
  obtain ⟨rfl, z, hz, rfl, hI1, hFrA⟩ := hp
  subst hz
  have m_q1 := m_q
  have e_q1 : F1 q = _ := (hFrA q (fun i hi ee => hI.notO e_q i hi ee.symm)).trans e_q
  have hs1 : ∀ x ∈ L, x ∈ L := fun x hx => hx
  have hFr1 : ∀ x ∈ L, (∀ i, i < 18 → x ≠ A i) → F1 x = F x := fun x _ hA => hFrA x hA
  refine lv_i2l (v := Int32.toInt64 z.1) S.1 S.2.1 dL_insert_9 rfl ?_
  refine pk_putN (v := .long (Int32.toInt64 z.1)) S hK hW 0 m_q1 e_q1 rfl hinX4 tyX4_ok nmX4 (by decide) (va_Nw.use rfl (hST.1.1 _ wn_8)) rfl rfl rfl rfl (Nat.le_of_ble_eq_true rfl) dL_insert_10 (fun H3 l3 hW => ?_)
  refine lv_goto (tgt := 28) S.1 S.2.1 dL_insert_13 (by decide) ?_
  refine lv_iconst (v := 0) S.1 S.2.1 dL_insert_28 (by decide) ?_
  exact pk_iret S hr hlk hW ⟨hs1, hI1.keepA (fun x h => h) (fun i hi => up_ne (hI1.notO e_q1 i hi)), ⟨.long (Int32.toInt64 z.1), w1, up_eq, ⟨fun k9 hk9 => (by cases hk9), fun z9 hz9 => by cases hz9; exact ⟨rfl, rfl⟩⟩⟩, fun x hx hA hq => (up_ne hq).trans (hFr1 x hx hA)⟩ (by decide) (by decide) dL_insert_29
set_option maxHeartbeats 4000000 in
set_option maxRecDepth 100000 in
theorem c_L_cut {l : Launch} {D : va_G} {κ : Nat → ClassId} {ζ : Nat → Nat} {L : List Nat} {F : Nat → va_E} {σ : CS} {A : Nat → Nat} {q : Nat} (hst : l.stackTraces = false) (hI : CI κ A σ L F) (hO : OUT q L F) (x1 : Int32) {res : (Nat ⊕ (Int32 × CS))} (hf : f_X3_cut σ x1 = some res) (hk : ∀ k, res = .inl k → k = 0) : MwI l D κ ζ yL_cut cL_cut 4 (some .int) [(0, 10, 13, 19)] 9 1 6 ([.ref (A 0), .int x1, .ref q] : List Value) L F (LwP κ A q (aftM σ res) L F (fun r w0 _ => (∀ k, res = .inl k → r = (1)) ∧ ∀ z, res = .inr z → r = 0 ∧ w0 = .long (Int32.toInt64 z.1))) := by
  refine MwI.of (by decide) (Nat.le_of_ble_eq_true rfl) ?_
  intro p e s m below meth c S hr hlk hxt hN hK hW hST ls hl
  have hl : lv_has ls 4 [(0, .ref (A 0)), (1, .int x1), (2, .ref q)] := hl
  obtain ⟨m_q, w0, w1, e_q⟩ := hO
  refine lv_aload_n S.1 S.2.1 dL_cut_0 rfl (lv_at hl 2 rfl) ?_
  refine lv_aload_n S.1 S.2.1 dL_cut_1 rfl (lv_at hl 0 rfl) ?_
  refine lv_iload_n S.1 S.2.1 dL_cut_2 rfl (lv_at hl 1 rfl) ?_
  refine xk_cVI (As := [.int x1]) (rest := [.ref q]) S hK hST hW (c_X3_cut hst hI x1 hf) mc_X3_cut wd_609 wd_610 wd_611 rfl np_X3_cut (hI.mem 0 (by decide)) hI.this rfl rfl hl.1 rfl (Nat.le_of_ble_eq_true rfl) dL_cut_3 ⟨Nat.le_of_ble_eq_true rfl, Nat.le_of_ble_eq_true rfl⟩ ⟨Nat.le_of_ble_eq_true rfl, Nat.le_of_ble_eq_true rfl⟩ (fun E ce q9 H1 l1 hE hW h1 h2 h3 => ?_) (fun r L1 F1 H2 l2 hp hW => ?_)
  · obtain ⟨k, hk1, rfl⟩ := hE
    have hk0 := hk k hk1
    subst hk0
    subst hk1
    refine vx_catch (name := "java/lang/IndexOutOfBoundsException") S.2.2.2.1 [] ⟨0, 10, 13, 19⟩ [] (by rw [hxt]; rfl) (fun _ h => absurd h List.not_mem_nil) (by decide) (by decide) (S.2.2.2.2 _ wd_348) (va_Nw.use rfl (hST.1.1 _ wn_10)) h1 h2 h3 ?_
    refine lv_astore_n (lv' := [(3, .ref q9), (0, .ref (A 0)), (1, .int x1), (2, .ref q)]) S.1 S.2.1 dL_cut_13 rfl hl (by decide) rfl (fun ls hl => ?_)
    refine lv_iconst (v := 1) S.1 S.2.1 dL_cut_14 (by decide) ?_
    exact pk_iret S hr hlk hW ⟨fun x hx => hx, hI, ⟨w0, w1, e_q, ⟨fun k9 hk9 => (by cases hk9; rfl), fun z hz => (by cases hz)⟩⟩, fun x _ _ _ => rfl⟩ (by decide) (by decide) dL_cut_15
  obtain ⟨rfl, z, hz, rfl, hI1, hFrA⟩ := hp
  subst hz
  have m_q1 := m_q
  have e_q1 : F1 q = _ := (hFrA q (fun i hi ee => hI.notO e_q i hi ee.symm)).trans e_q
  have hs1 : ∀ x ∈ L, x ∈ L := fun x hx => hx
  have hFr1 : ∀ x ∈ L, (∀ i, i < 18 → x ≠ A i) → F1 x = F x := fun x _ hA => hFrA x hA
  refine lv_i2l (v := Int32.toInt64 z.1) S.1 S.2.1 dL_cut_6 rfl ?_
  refine pk_putN (v := .long (Int32.toInt64 z.1)) S hK hW 0 m_q1 e_q1 rfl hinX4 tyX4_ok nmX4 (by decide) (va_Nw.use rfl (hST.1.1 _ wn_8)) rfl rfl rfl rfl (Nat.le_of_ble_eq_true rfl) dL_cut_7 (fun H3 l3 hW => ?_)
  refine lv_goto (tgt := 16) S.1 S.2.1 dL_cut_10 (by decide) ?_
  refine lv_iconst (v := 0) S.1 S.2.1 dL_cut_16 (by decide) ?_
  exact pk_iret S hr hlk hW ⟨hs1, hI1.keepA (fun x h => h) (fun i hi => up_ne (hI1.notO e_q1 i hi)), ⟨.long (Int32.toInt64 z.1), w1, up_eq, ⟨fun k9 hk9 => (by cases hk9), fun z9 hz9 => by cases hz9; exact ⟨rfl, rfl⟩⟩⟩, fun x hx hA hq => (up_ne hq).trans (hFr1 x hx hA)⟩ (by decide) (by decide) dL_cut_17
set_option maxHeartbeats 4000000 in
set_option maxRecDepth 100000 in
theorem c_L_replace {l : Launch} {D : va_G} {κ : Nat → ClassId} {ζ : Nat → Nat} {L : List Nat} {F : Nat → va_E} {σ : CS} {A : Nat → Nat} {q : Nat} (hst : l.stackTraces = false) (hI : CI κ A σ L F) (hO : OUT q L F) (x1 x2 x3 : Int32) {res : (Nat ⊕ (Int32 × CS))} (hf : f_X3_replace σ x1 x2 x3 = some res) (hk : ∀ k, res = .inl k → k = 0 ∨ k = 1) : MwI l D κ ζ yL_replace cL_replace 6 (some .int) [(0, 13, 16, 19), (0, 13, 20, 21)] 10 3 18 ([.ref (A 0), .int x1, .int x2, .int x3, .ref q] : List Value) L F (LwP κ A q (aftM σ res) L F (fun r w0 _ => (∀ k, res = .inl k → r = (if k = 0 then 1 else 2)) ∧ ∀ z, res = .inr z → r = 0 ∧ w0 = .long (Int32.toInt64 z.1))) := by
  refine MwI.of (by decide) (Nat.le_of_ble_eq_true rfl) ?_
  intro p e s m below meth c S hr hlk hxt hN hK hW hST ls hl
  have hl : lv_has ls 6 [(0, .ref (A 0)), (1, .int x1), (2, .int x2), (3, .int x3), (4, .ref q)] := hl
  obtain ⟨m_q, w0, w1, e_q⟩ := hO
  refine lv_aload S.1 S.2.1 dL_replace_0 (lv_at hl 4 rfl) ?_
  refine lv_aload_n S.1 S.2.1 dL_replace_2 rfl (lv_at hl 0 rfl) ?_
  refine lv_iload_n S.1 S.2.1 dL_replace_3 rfl (lv_at hl 1 rfl) ?_
  refine lv_iload_n S.1 S.2.1 dL_replace_4 rfl (lv_at hl 2 rfl) ?_
  refine lv_iload_n S.1 S.2.1 dL_replace_5 rfl (lv_at hl 3 rfl) ?_
  refine xk_cVI (As := [.int x1, .int x2, .int x3]) (rest := [.ref q]) S hK hST hW (c_X3_replace hst hI x1 x2 x3 hf) mc_X3_replace wd_615 wd_616 wd_617 rfl np_X3_replace (hI.mem 0 (by decide)) hI.this rfl rfl hl.1 rfl (Nat.le_of_ble_eq_true rfl) dL_replace_6 ⟨Nat.le_of_ble_eq_true rfl, Nat.le_of_ble_eq_true rfl⟩ ⟨Nat.le_of_ble_eq_true rfl, Nat.le_of_ble_eq_true rfl⟩ (fun E ce q9 H1 l1 hE hW h1 h2 h3 => ?_) (fun r L1 F1 H2 l2 hp hW => ?_)
  · obtain ⟨k, hk1, rfl⟩ := hE
    rcases hk k hk1 with rfl | rfl
    · subst hk1
      refine vx_catch (name := "java/lang/IndexOutOfBoundsException") S.2.2.2.1 [] ⟨0, 13, 16, 19⟩ [⟨0, 13, 20, 21⟩] (by rw [hxt]; rfl) (fun _ h => absurd h List.not_mem_nil) (by decide) (by decide) (S.2.2.2.2 _ wd_348) (va_Nw.use rfl (hST.1.1 _ wn_10)) h1 h2 h3 ?_
      refine lv_astore (lv' := [(5, .ref q9), (0, .ref (A 0)), (1, .int x1), (2, .int x2), (3, .int x3), (4, .ref q)]) S.1 S.2.1 dL_replace_16 hl (by decide) rfl (fun ls hl => ?_)
      refine lv_iconst (v := 1) S.1 S.2.1 dL_replace_18 (by decide) ?_
      exact pk_iret S hr hlk hW ⟨fun x hx => hx, hI, ⟨w0, w1, e_q, ⟨fun k9 hk9 => (by cases hk9; rfl), fun z hz => (by cases hz)⟩⟩, fun x _ _ _ => rfl⟩ (by decide) (by decide) dL_replace_19
    · subst hk1
      refine vx_catch (name := "java/lang/IllegalArgumentException") S.2.2.2.1 [⟨0, 13, 16, 19⟩] ⟨0, 13, 20, 21⟩ [] (by rw [hxt]; rfl) (List.forall_mem_cons.mpr ⟨Or.inr ⟨by decide, _, S.2.2.2.2 _ wd_348, hN 1 0 (by decide) (by decide) (by decide)⟩, fun _ h => absurd h List.not_mem_nil⟩) (by decide) (by decide) (S.2.2.2.2 _ wd_349) (va_Nw.use rfl (hST.1.1 _ wn_17)) h1 h2 h3 ?_
      refine lv_astore (lv' := [(5, .ref q9), (0, .ref (A 0)), (1, .int x1), (2, .int x2), (3, .int x3), (4, .ref q)]) S.1 S.2.1 dL_replace_20 hl (by decide) rfl (fun ls hl => ?_)
      refine lv_iconst (v := 2) S.1 S.2.1 dL_replace_22 (by decide) ?_
      exact pk_iret S hr hlk hW ⟨fun x hx => hx, hI, ⟨w0, w1, e_q, ⟨fun k9 hk9 => (by cases hk9; rfl), fun z hz => (by cases hz)⟩⟩, fun x _ _ _ => rfl⟩ (by decide) (by decide) dL_replace_23
  obtain ⟨rfl, z, hz, rfl, hI1, hFrA⟩ := hp
  subst hz
  have m_q1 := m_q
  have e_q1 : F1 q = _ := (hFrA q (fun i hi ee => hI.notO e_q i hi ee.symm)).trans e_q
  have hs1 : ∀ x ∈ L, x ∈ L := fun x hx => hx
  have hFr1 : ∀ x ∈ L, (∀ i, i < 18 → x ≠ A i) → F1 x = F x := fun x _ hA => hFrA x hA
  refine lv_i2l (v := Int32.toInt64 z.1) S.1 S.2.1 dL_replace_9 rfl ?_
  refine pk_putN (v := .long (Int32.toInt64 z.1)) S hK hW 0 m_q1 e_q1 rfl hinX4 tyX4_ok nmX4 (by decide) (va_Nw.use rfl (hST.1.1 _ wn_8)) rfl rfl rfl rfl (Nat.le_of_ble_eq_true rfl) dL_replace_10 (fun H3 l3 hW => ?_)
  refine lv_goto (tgt := 24) S.1 S.2.1 dL_replace_13 (by decide) ?_
  refine lv_iconst (v := 0) S.1 S.2.1 dL_replace_24 (by decide) ?_
  exact pk_iret S hr hlk hW ⟨hs1, hI1.keepA (fun x h => h) (fun i hi => up_ne (hI1.notO e_q1 i hi)), ⟨.long (Int32.toInt64 z.1), w1, up_eq, ⟨fun k9 hk9 => (by cases hk9), fun z9 hz9 => by cases hz9; exact ⟨rfl, rfl⟩⟩⟩, fun x hx hA hq => (up_ne hq).trans (hFr1 x hx hA)⟩ (by decide) (by decide) dL_replace_25
set_option maxHeartbeats 4000000 in
set_option maxRecDepth 100000 in
theorem c_L_at {l : Launch} {D : va_G} {κ : Nat → ClassId} {ζ : Nat → Nat} {L : List Nat} {F : Nat → va_E} {σ : CS} {A : Nat → Nat} {q : Nat} (hst : l.stackTraces = false) (hI : CI κ A σ L F) (hO : OUT q L F) (x1 : Int32) {res : (Nat ⊕ Int32)} (hf : f_X3_at σ x1 = some res) (hk : ∀ k, res = .inl k → k = 0) : MwI l D κ ζ yL_at cL_at 4 (some .int) [(0, 10, 13, 19)] 9 1 6 ([.ref (A 0), .int x1, .ref q] : List Value) L F (LwP κ A q (σ) L F (fun r w0 _ => (∀ k, res = .inl k → r = (1)) ∧ ∀ z, res = .inr z → r = 0 ∧ w0 = .long (Int32.toInt64 z))) := by
  refine MwI.of (by decide) (Nat.le_of_ble_eq_true rfl) ?_
  intro p e s m below meth c S hr hlk hxt hN hK hW hST ls hl
  have hl : lv_has ls 4 [(0, .ref (A 0)), (1, .int x1), (2, .ref q)] := hl
  obtain ⟨m_q, w0, w1, e_q⟩ := hO
  refine lv_aload_n S.1 S.2.1 dL_at_0 rfl (lv_at hl 2 rfl) ?_
  refine lv_aload_n S.1 S.2.1 dL_at_1 rfl (lv_at hl 0 rfl) ?_
  refine lv_iload_n S.1 S.2.1 dL_at_2 rfl (lv_at hl 1 rfl) ?_
  refine xk_cVI (As := [.int x1]) (rest := [.ref q]) S hK hST hW (c_X3_at hst hI x1 hf) mc_X3_at wd_625 wd_626 wd_627 rfl np_X3_at (hI.mem 0 (by decide)) hI.this rfl rfl hl.1 rfl (Nat.le_of_ble_eq_true rfl) dL_at_3 ⟨Nat.le_of_ble_eq_true rfl, Nat.le_of_ble_eq_true rfl⟩ ⟨Nat.le_of_ble_eq_true rfl, Nat.le_of_ble_eq_true rfl⟩ (fun E ce q9 H1 l1 hE hW h1 h2 h3 => ?_) (fun r L1 F1 H2 l2 hp hW => ?_)
  · obtain ⟨k, hk1, rfl⟩ := hE
    have hk0 := hk k hk1
    subst hk0
    subst hk1
    refine vx_catch (name := "java/lang/IndexOutOfBoundsException") S.2.2.2.1 [] ⟨0, 10, 13, 19⟩ [] (by rw [hxt]; rfl) (fun _ h => absurd h List.not_mem_nil) (by decide) (by decide) (S.2.2.2.2 _ wd_348) (va_Nw.use rfl (hST.1.1 _ wn_10)) h1 h2 h3 ?_
    refine lv_astore_n (lv' := [(3, .ref q9), (0, .ref (A 0)), (1, .int x1), (2, .ref q)]) S.1 S.2.1 dL_at_13 rfl hl (by decide) rfl (fun ls hl => ?_)
    refine lv_iconst (v := 1) S.1 S.2.1 dL_at_14 (by decide) ?_
    exact pk_iret S hr hlk hW ⟨fun x hx => hx, hI, ⟨w0, w1, e_q, ⟨fun k9 hk9 => (by cases hk9; rfl), fun z hz => (by cases hz)⟩⟩, fun x _ _ _ => rfl⟩ (by decide) (by decide) dL_at_15
  obtain ⟨rfl, rfl, z, hz, rfl⟩ := hp
  subst hz
  have hI1 := hI
  have m_q1 := m_q
  have e_q1 := e_q
  have hs1 : ∀ x ∈ L, x ∈ L := fun x hx => hx
  have hFr1 : ∀ x ∈ L, (∀ i, i < 18 → x ≠ A i) → F x = F x := fun x _ _ => rfl
  refine lv_i2l (v := Int32.toInt64 z) S.1 S.2.1 dL_at_6 rfl ?_
  refine pk_putN (v := .long (Int32.toInt64 z)) S hK hW 0 m_q1 e_q1 rfl hinX4 tyX4_ok nmX4 (by decide) (va_Nw.use rfl (hST.1.1 _ wn_8)) rfl rfl rfl rfl (Nat.le_of_ble_eq_true rfl) dL_at_7 (fun H3 l3 hW => ?_)
  refine lv_goto (tgt := 16) S.1 S.2.1 dL_at_10 (by decide) ?_
  refine lv_iconst (v := 0) S.1 S.2.1 dL_at_16 (by decide) ?_
  exact pk_iret S hr hlk hW ⟨hs1, hI1.keepA (fun x h => h) (fun i hi => up_ne (hI1.notO e_q1 i hi)), ⟨.long (Int32.toInt64 z), w1, up_eq, ⟨fun k9 hk9 => (by cases hk9), fun z9 hz9 => by cases hz9; exact ⟨rfl, rfl⟩⟩⟩, fun x hx hA hq => (up_ne hq).trans (hFr1 x hx hA)⟩ (by decide) (by decide) dL_at_17
set_option maxHeartbeats 4000000 in
set_option maxRecDepth 100000 in
theorem c_L_find {l : Launch} {D : va_G} {κ : Nat → ClassId} {ζ : Nat → Nat} {L : List Nat} {F : Nat → va_E} {σ : CS} {A : Nat → Nat} {q : Nat} (hst : l.stackTraces = false) (hI : CI κ A σ L F) (hO : OUT q L F) (x1 x2 : Int32) {res : (Nat ⊕ Int32)} (hf : f_X3_find σ x1 x2 = some res) (hk : ∀ k, res = .inl k → k = 1) : MwI l D κ ζ yL_find cL_find 5 (some .int) [(0, 11, 14, 21)] 9 1 6 ([.ref (A 0), .int x1, .int x2, .ref q] : List Value) L F (LwP κ A q (σ) L F (fun r w0 _ => (∀ k, res = .inl k → r = (1)) ∧ ∀ z, res = .inr z → r = 0 ∧ w0 = .long (Int32.toInt64 z))) := by
  refine MwI.of (by decide) (Nat.le_of_ble_eq_true rfl) ?_
  intro p e s m below meth c S hr hlk hxt hN hK hW hST ls hl
  have hl : lv_has ls 5 [(0, .ref (A 0)), (1, .int x1), (2, .int x2), (3, .ref q)] := hl
  obtain ⟨m_q, w0, w1, e_q⟩ := hO
  refine lv_aload_n S.1 S.2.1 dL_find_0 rfl (lv_at hl 3 rfl) ?_
  refine lv_aload_n S.1 S.2.1 dL_find_1 rfl (lv_at hl 0 rfl) ?_
  refine lv_iload_n S.1 S.2.1 dL_find_2 rfl (lv_at hl 1 rfl) ?_
  refine lv_iload_n S.1 S.2.1 dL_find_3 rfl (lv_at hl 2 rfl) ?_
  refine xk_cVI (As := [.int x1, .int x2]) (rest := [.ref q]) S hK hST hW (c_X3_find hst hI x1 x2 hf) mc_X3_find wd_631 wd_632 wd_633 rfl np_X3_find (hI.mem 0 (by decide)) hI.this rfl rfl hl.1 rfl (Nat.le_of_ble_eq_true rfl) dL_find_4 ⟨Nat.le_of_ble_eq_true rfl, Nat.le_of_ble_eq_true rfl⟩ ⟨Nat.le_of_ble_eq_true rfl, Nat.le_of_ble_eq_true rfl⟩ (fun E ce q9 H1 l1 hE hW h1 h2 h3 => ?_) (fun r L1 F1 H2 l2 hp hW => ?_)
  · obtain ⟨k, hk1, rfl⟩ := hE
    have hk0 := hk k hk1
    subst hk0
    subst hk1
    refine vx_catch (name := "java/lang/IllegalArgumentException") S.2.2.2.1 [] ⟨0, 11, 14, 21⟩ [] (by rw [hxt]; rfl) (fun _ h => absurd h List.not_mem_nil) (by decide) (by decide) (S.2.2.2.2 _ wd_349) (va_Nw.use rfl (hST.1.1 _ wn_17)) h1 h2 h3 ?_
    refine lv_astore (lv' := [(4, .ref q9), (0, .ref (A 0)), (1, .int x1), (2, .int x2), (3, .ref q)]) S.1 S.2.1 dL_find_14 hl (by decide) rfl (fun ls hl => ?_)
    refine lv_iconst (v := 1) S.1 S.2.1 dL_find_16 (by decide) ?_
    exact pk_iret S hr hlk hW ⟨fun x hx => hx, hI, ⟨w0, w1, e_q, ⟨fun k9 hk9 => (by cases hk9; rfl), fun z hz => (by cases hz)⟩⟩, fun x _ _ _ => rfl⟩ (by decide) (by decide) dL_find_17
  obtain ⟨rfl, rfl, z, hz, rfl⟩ := hp
  subst hz
  have hI1 := hI
  have m_q1 := m_q
  have e_q1 := e_q
  have hs1 : ∀ x ∈ L, x ∈ L := fun x hx => hx
  have hFr1 : ∀ x ∈ L, (∀ i, i < 18 → x ≠ A i) → F x = F x := fun x _ _ => rfl
  refine lv_i2l (v := Int32.toInt64 z) S.1 S.2.1 dL_find_7 rfl ?_
  refine pk_putN (v := .long (Int32.toInt64 z)) S hK hW 0 m_q1 e_q1 rfl hinX4 tyX4_ok nmX4 (by decide) (va_Nw.use rfl (hST.1.1 _ wn_8)) rfl rfl rfl rfl (Nat.le_of_ble_eq_true rfl) dL_find_8 (fun H3 l3 hW => ?_)
  refine lv_goto (tgt := 18) S.1 S.2.1 dL_find_11 (by decide) ?_
  refine lv_iconst (v := 0) S.1 S.2.1 dL_find_18 (by decide) ?_
  exact pk_iret S hr hlk hW ⟨hs1, hI1.keepA (fun x h => h) (fun i hi => up_ne (hI1.notO e_q1 i hi)), ⟨.long (Int32.toInt64 z), w1, up_eq, ⟨fun k9 hk9 => (by cases hk9), fun z9 hz9 => by cases hz9; exact ⟨rfl, rfl⟩⟩⟩, fun x hx hA hq => (up_ne hq).trans (hFr1 x hx hA)⟩ (by decide) (by decide) dL_find_19
set_option maxHeartbeats 4000000 in
set_option maxRecDepth 100000 in
theorem c_L_splice {l : Launch} {D : va_G} {κ : Nat → ClassId} {ζ : Nat → Nat} {L : List Nat} {F : Nat → va_E} {σ : CS} {A : Nat → Nat} {q : Nat} (hst : l.stackTraces = false) (hI : CI κ A σ L F) (hO : OUT q L F) (x1 : Int32) {res : (Nat ⊕ (Int32 × CS))} (hf : f_X3_splice σ x1 = some res) (hk : ∀ k, res = .inl k → k = 0 ∨ k = 2) : MwI l D κ ζ yL_splice cL_splice 4 (some .int) [(0, 10, 13, 19), (0, 10, 16, 23)] 9 2 12 ([.ref (A 0), .int x1, .ref q] : List Value) L F (LwP κ A q (aftM σ res) L F (fun r w0 _ => (∀ k, res = .inl k → r = (if k = 0 then 1 else 2)) ∧ ∀ z, res = .inr z → r = 0 ∧ w0 = .long (Int32.toInt64 z.1))) := by
  refine MwI.of (by decide) (Nat.le_of_ble_eq_true rfl) ?_
  intro p e s m below meth c S hr hlk hxt hN hK hW hST ls hl
  have hl : lv_has ls 4 [(0, .ref (A 0)), (1, .int x1), (2, .ref q)] := hl
  obtain ⟨m_q, w0, w1, e_q⟩ := hO
  refine lv_aload_n S.1 S.2.1 dL_splice_0 rfl (lv_at hl 2 rfl) ?_
  refine lv_aload_n S.1 S.2.1 dL_splice_1 rfl (lv_at hl 0 rfl) ?_
  refine lv_iload_n S.1 S.2.1 dL_splice_2 rfl (lv_at hl 1 rfl) ?_
  refine xk_cVI (As := [.int x1]) (rest := [.ref q]) S hK hST hW (c_X3_splice hst hI x1 hf) mc_X3_splice wd_637 wd_638 wd_639 rfl np_X3_splice (hI.mem 0 (by decide)) hI.this rfl rfl hl.1 rfl (Nat.le_of_ble_eq_true rfl) dL_splice_3 ⟨Nat.le_of_ble_eq_true rfl, Nat.le_of_ble_eq_true rfl⟩ ⟨Nat.le_of_ble_eq_true rfl, Nat.le_of_ble_eq_true rfl⟩ (fun E ce q9 H1 l1 hE hW h1 h2 h3 => ?_) (fun r L1 F1 H2 l2 hp hW => ?_)
  · obtain ⟨k, hk1, rfl⟩ := hE
    rcases hk k hk1 with rfl | rfl
    · subst hk1
      refine vx_catch (name := "java/lang/IndexOutOfBoundsException") S.2.2.2.1 [] ⟨0, 10, 13, 19⟩ [⟨0, 10, 16, 23⟩] (by rw [hxt]; rfl) (fun _ h => absurd h List.not_mem_nil) (by decide) (by decide) (S.2.2.2.2 _ wd_348) (va_Nw.use rfl (hST.1.1 _ wn_10)) h1 h2 h3 ?_
      refine lv_astore_n (lv' := [(3, .ref q9), (0, .ref (A 0)), (1, .int x1), (2, .ref q)]) S.1 S.2.1 dL_splice_13 rfl hl (by decide) rfl (fun ls hl => ?_)
      refine lv_iconst (v := 1) S.1 S.2.1 dL_splice_14 (by decide) ?_
      exact pk_iret S hr hlk hW ⟨fun x hx => hx, hI, ⟨w0, w1, e_q, ⟨fun k9 hk9 => (by cases hk9; rfl), fun z hz => (by cases hz)⟩⟩, fun x _ _ _ => rfl⟩ (by decide) (by decide) dL_splice_15
    · subst hk1
      refine vx_catch (name := "java/lang/IllegalStateException") S.2.2.2.1 [⟨0, 10, 13, 19⟩] ⟨0, 10, 16, 23⟩ [] (by rw [hxt]; rfl) (List.forall_mem_cons.mpr ⟨Or.inr ⟨by decide, _, S.2.2.2.2 _ wd_348, hN 2 0 (by decide) (by decide) (by decide)⟩, fun _ h => absurd h List.not_mem_nil⟩) (by decide) (by decide) (S.2.2.2.2 _ wd_350) (va_Nw.use rfl (hST.1.1 _ wn_18)) h1 h2 h3 ?_
      refine lv_astore_n (lv' := [(3, .ref q9), (0, .ref (A 0)), (1, .int x1), (2, .ref q)]) S.1 S.2.1 dL_splice_16 rfl hl (by decide) rfl (fun ls hl => ?_)
      refine lv_iconst (v := 2) S.1 S.2.1 dL_splice_17 (by decide) ?_
      exact pk_iret S hr hlk hW ⟨fun x hx => hx, hI, ⟨w0, w1, e_q, ⟨fun k9 hk9 => (by cases hk9; rfl), fun z hz => (by cases hz)⟩⟩, fun x _ _ _ => rfl⟩ (by decide) (by decide) dL_splice_18
  obtain ⟨rfl, z, hz, rfl, hI1, hFrA⟩ := hp
  subst hz
  have m_q1 := m_q
  have e_q1 : F1 q = _ := (hFrA q (fun i hi ee => hI.notO e_q i hi ee.symm)).trans e_q
  have hs1 : ∀ x ∈ L, x ∈ L := fun x hx => hx
  have hFr1 : ∀ x ∈ L, (∀ i, i < 18 → x ≠ A i) → F1 x = F x := fun x _ hA => hFrA x hA
  refine lv_i2l (v := Int32.toInt64 z.1) S.1 S.2.1 dL_splice_6 rfl ?_
  refine pk_putN (v := .long (Int32.toInt64 z.1)) S hK hW 0 m_q1 e_q1 rfl hinX4 tyX4_ok nmX4 (by decide) (va_Nw.use rfl (hST.1.1 _ wn_8)) rfl rfl rfl rfl (Nat.le_of_ble_eq_true rfl) dL_splice_7 (fun H3 l3 hW => ?_)
  refine lv_goto (tgt := 19) S.1 S.2.1 dL_splice_10 (by decide) ?_
  refine lv_iconst (v := 0) S.1 S.2.1 dL_splice_19 (by decide) ?_
  exact pk_iret S hr hlk hW ⟨hs1, hI1.keepA (fun x h => h) (fun i hi => up_ne (hI1.notO e_q1 i hi)), ⟨.long (Int32.toInt64 z.1), w1, up_eq, ⟨fun k9 hk9 => (by cases hk9), fun z9 hz9 => by cases hz9; exact ⟨rfl, rfl⟩⟩⟩, fun x hx hA hq => (up_ne hq).trans (hFr1 x hx hA)⟩ (by decide) (by decide) dL_splice_20
set_option maxHeartbeats 4000000 in
set_option maxRecDepth 100000 in
theorem c_L_shunt {l : Launch} {D : va_G} {κ : Nat → ClassId} {ζ : Nat → Nat} {L : List Nat} {F : Nat → va_E} {σ : CS} {A : Nat → Nat} {q : Nat} (hst : l.stackTraces = false) (hI : CI κ A σ L F) (hO : OUT q L F) (x1 x2 : Int32) {res : (Nat ⊕ (Int32 × CS))} (hf : f_X3_shunt σ x1 x2 = some res) (hk : ∀ k, res = .inl k → k = 0 ∨ k = 1 ∨ k = 2) : MwI l D κ ζ yL_shunt cL_shunt 5 (some .int) [(0, 11, 14, 19), (0, 11, 18, 21), (0, 11, 22, 23)] 9 3 18 ([.ref (A 0), .int x1, .int x2, .ref q] : List Value) L F (LwP κ A q (aftM σ res) L F (fun r w0 _ => (∀ k, res = .inl k → r = (if k = 0 then 1 else if k = 1 then 2 else 3)) ∧ ∀ z, res = .inr z → r = 0 ∧ w0 = .long (Int32.toInt64 z.1))) := by
  refine MwI.of (by decide) (Nat.le_of_ble_eq_true rfl) ?_
  intro p e s m below meth c S hr hlk hxt hN hK hW hST ls hl
  have hl : lv_has ls 5 [(0, .ref (A 0)), (1, .int x1), (2, .int x2), (3, .ref q)] := hl
  obtain ⟨m_q, w0, w1, e_q⟩ := hO
  refine lv_aload_n S.1 S.2.1 dL_shunt_0 rfl (lv_at hl 3 rfl) ?_
  refine lv_aload_n S.1 S.2.1 dL_shunt_1 rfl (lv_at hl 0 rfl) ?_
  refine lv_iload_n S.1 S.2.1 dL_shunt_2 rfl (lv_at hl 1 rfl) ?_
  refine lv_iload_n S.1 S.2.1 dL_shunt_3 rfl (lv_at hl 2 rfl) ?_
  refine xk_cVI (As := [.int x1, .int x2]) (rest := [.ref q]) S hK hST hW (c_X3_shunt hst hI x1 x2 hf) mc_X3_shunt wd_643 wd_644 wd_645 rfl np_X3_shunt (hI.mem 0 (by decide)) hI.this rfl rfl hl.1 rfl (Nat.le_of_ble_eq_true rfl) dL_shunt_4 ⟨Nat.le_of_ble_eq_true rfl, Nat.le_of_ble_eq_true rfl⟩ ⟨Nat.le_of_ble_eq_true rfl, Nat.le_of_ble_eq_true rfl⟩ (fun E ce q9 H1 l1 hE hW h1 h2 h3 => ?_) (fun r L1 F1 H2 l2 hp hW => ?_)
  · obtain ⟨k, hk1, rfl⟩ := hE
    rcases hk k hk1 with rfl | rfl | rfl
    · subst hk1
      refine vx_catch (name := "java/lang/IndexOutOfBoundsException") S.2.2.2.1 [] ⟨0, 11, 14, 19⟩ [⟨0, 11, 18, 21⟩, ⟨0, 11, 22, 23⟩] (by rw [hxt]; rfl) (fun _ h => absurd h List.not_mem_nil) (by decide) (by decide) (S.2.2.2.2 _ wd_348) (va_Nw.use rfl (hST.1.1 _ wn_10)) h1 h2 h3 ?_
      refine lv_astore (lv' := [(4, .ref q9), (0, .ref (A 0)), (1, .int x1), (2, .int x2), (3, .ref q)]) S.1 S.2.1 dL_shunt_14 hl (by decide) rfl (fun ls hl => ?_)
      refine lv_iconst (v := 1) S.1 S.2.1 dL_shunt_16 (by decide) ?_
      exact pk_iret S hr hlk hW ⟨fun x hx => hx, hI, ⟨w0, w1, e_q, ⟨fun k9 hk9 => (by cases hk9; rfl), fun z hz => (by cases hz)⟩⟩, fun x _ _ _ => rfl⟩ (by decide) (by decide) dL_shunt_17
    · subst hk1
      refine vx_catch (name := "java/lang/IllegalArgumentException") S.2.2.2.1 [⟨0, 11, 14, 19⟩] ⟨0, 11, 18, 21⟩ [⟨0, 11, 22, 23⟩] (by rw [hxt]; rfl) (List.forall_mem_cons.mpr ⟨Or.inr ⟨by decide, _, S.2.2.2.2 _ wd_348, hN 1 0 (by decide) (by decide) (by decide)⟩, fun _ h => absurd h List.not_mem_nil⟩) (by decide) (by decide) (S.2.2.2.2 _ wd_349) (va_Nw.use rfl (hST.1.1 _ wn_17)) h1 h2 h3 ?_
      refine lv_astore (lv' := [(4, .ref q9), (0, .ref (A 0)), (1, .int x1), (2, .int x2), (3, .ref q)]) S.1 S.2.1 dL_shunt_18 hl (by decide) rfl (fun ls hl => ?_)
      refine lv_iconst (v := 2) S.1 S.2.1 dL_shunt_20 (by decide) ?_
      exact pk_iret S hr hlk hW ⟨fun x hx => hx, hI, ⟨w0, w1, e_q, ⟨fun k9 hk9 => (by cases hk9; rfl), fun z hz => (by cases hz)⟩⟩, fun x _ _ _ => rfl⟩ (by decide) (by decide) dL_shunt_21
    · subst hk1
      refine vx_catch (name := "java/lang/IllegalStateException") S.2.2.2.1 [⟨0, 11, 14, 19⟩, ⟨0, 11, 18, 21⟩] ⟨0, 11, 22, 23⟩ [] (by rw [hxt]; rfl) (List.forall_mem_cons.mpr ⟨Or.inr ⟨by decide, _, S.2.2.2.2 _ wd_348, hN 2 0 (by decide) (by decide) (by decide)⟩, List.forall_mem_cons.mpr ⟨Or.inr ⟨by decide, _, S.2.2.2.2 _ wd_349, hN 2 1 (by decide) (by decide) (by decide)⟩, fun _ h => absurd h List.not_mem_nil⟩⟩) (by decide) (by decide) (S.2.2.2.2 _ wd_350) (va_Nw.use rfl (hST.1.1 _ wn_18)) h1 h2 h3 ?_
      refine lv_astore (lv' := [(4, .ref q9), (0, .ref (A 0)), (1, .int x1), (2, .int x2), (3, .ref q)]) S.1 S.2.1 dL_shunt_22 hl (by decide) rfl (fun ls hl => ?_)
      refine lv_iconst (v := 3) S.1 S.2.1 dL_shunt_24 (by decide) ?_
      exact pk_iret S hr hlk hW ⟨fun x hx => hx, hI, ⟨w0, w1, e_q, ⟨fun k9 hk9 => (by cases hk9; rfl), fun z hz => (by cases hz)⟩⟩, fun x _ _ _ => rfl⟩ (by decide) (by decide) dL_shunt_25
  obtain ⟨rfl, z, hz, rfl, hI1, hFrA⟩ := hp
  subst hz
  have m_q1 := m_q
  have e_q1 : F1 q = _ := (hFrA q (fun i hi ee => hI.notO e_q i hi ee.symm)).trans e_q
  have hs1 : ∀ x ∈ L, x ∈ L := fun x hx => hx
  have hFr1 : ∀ x ∈ L, (∀ i, i < 18 → x ≠ A i) → F1 x = F x := fun x _ hA => hFrA x hA
  refine lv_i2l (v := Int32.toInt64 z.1) S.1 S.2.1 dL_shunt_7 rfl ?_
  refine pk_putN (v := .long (Int32.toInt64 z.1)) S hK hW 0 m_q1 e_q1 rfl hinX4 tyX4_ok nmX4 (by decide) (va_Nw.use rfl (hST.1.1 _ wn_8)) rfl rfl rfl rfl (Nat.le_of_ble_eq_true rfl) dL_shunt_8 (fun H3 l3 hW => ?_)
  refine lv_goto (tgt := 26) S.1 S.2.1 dL_shunt_11 (by decide) ?_
  refine lv_iconst (v := 0) S.1 S.2.1 dL_shunt_26 (by decide) ?_
  exact pk_iret S hr hlk hW ⟨hs1, hI1.keepA (fun x h => h) (fun i hi => up_ne (hI1.notO e_q1 i hi)), ⟨.long (Int32.toInt64 z.1), w1, up_eq, ⟨fun k9 hk9 => (by cases hk9), fun z9 hz9 => by cases hz9; exact ⟨rfl, rfl⟩⟩⟩, fun x hx hA hq => (up_ne hq).trans (hFr1 x hx hA)⟩ (by decide) (by decide) dL_shunt_27
set_option maxHeartbeats 4000000 in
set_option maxRecDepth 100000 in
theorem c_L_stand {l : Launch} {D : va_G} {κ : Nat → ClassId} {ζ : Nat → Nat} {L : List Nat} {F : Nat → va_E} {σ : CS} {A : Nat → Nat} {q : Nat} (hst : l.stackTraces = false) (hI : CI κ A σ L F) (hO : OUT q L F) (x1 x2 : Int32) {res : (Nat ⊕ (Int32 × CS))} (hf : f_X3_stand σ x1 x2 = some res) (hk : ∀ k, res = .inl k → k = 0) : MwI l D κ ζ yL_stand cL_stand 5 (some .int) [(0, 11, 14, 19)] 9 2 12 ([.ref (A 0), .int x1, .int x2, .ref q] : List Value) L F (LwP κ A q (aftM σ res) L F (fun r w0 _ => (∀ k, res = .inl k → r = (1)) ∧ ∀ z, res = .inr z → r = 0 ∧ w0 = .long (Int32.toInt64 z.1))) := by
  refine MwI.of (by decide) (Nat.le_of_ble_eq_true rfl) ?_
  intro p e s m below meth c S hr hlk hxt hN hK hW hST ls hl
  have hl : lv_has ls 5 [(0, .ref (A 0)), (1, .int x1), (2, .int x2), (3, .ref q)] := hl
  obtain ⟨m_q, w0, w1, e_q⟩ := hO
  refine lv_aload_n S.1 S.2.1 dL_stand_0 rfl (lv_at hl 3 rfl) ?_
  refine lv_aload_n S.1 S.2.1 dL_stand_1 rfl (lv_at hl 0 rfl) ?_
  refine lv_iload_n S.1 S.2.1 dL_stand_2 rfl (lv_at hl 1 rfl) ?_
  refine lv_iload_n S.1 S.2.1 dL_stand_3 rfl (lv_at hl 2 rfl) ?_
  refine xk_cVI (As := [.int x1, .int x2]) (rest := [.ref q]) S hK hST hW (c_X3_stand hst hI x1 x2 hf) mc_X3_stand wd_652 wd_653 wd_654 rfl np_X3_stand (hI.mem 0 (by decide)) hI.this rfl rfl hl.1 rfl (Nat.le_of_ble_eq_true rfl) dL_stand_4 ⟨Nat.le_of_ble_eq_true rfl, Nat.le_of_ble_eq_true rfl⟩ ⟨Nat.le_of_ble_eq_true rfl, Nat.le_of_ble_eq_true rfl⟩ (fun E ce q9 H1 l1 hE hW h1 h2 h3 => ?_) (fun r L1 F1 H2 l2 hp hW => ?_)
  · obtain ⟨k, hk1, rfl⟩ := hE
    have hk0 := hk k hk1
    subst hk0
    subst hk1
    refine vx_catch (name := "java/lang/IndexOutOfBoundsException") S.2.2.2.1 [] ⟨0, 11, 14, 19⟩ [] (by rw [hxt]; rfl) (fun _ h => absurd h List.not_mem_nil) (by decide) (by decide) (S.2.2.2.2 _ wd_348) (va_Nw.use rfl (hST.1.1 _ wn_10)) h1 h2 h3 ?_
    refine lv_astore (lv' := [(4, .ref q9), (0, .ref (A 0)), (1, .int x1), (2, .int x2), (3, .ref q)]) S.1 S.2.1 dL_stand_14 hl (by decide) rfl (fun ls hl => ?_)
    refine lv_iconst (v := 1) S.1 S.2.1 dL_stand_16 (by decide) ?_
    exact pk_iret S hr hlk hW ⟨fun x hx => hx, hI, ⟨w0, w1, e_q, ⟨fun k9 hk9 => (by cases hk9; rfl), fun z hz => (by cases hz)⟩⟩, fun x _ _ _ => rfl⟩ (by decide) (by decide) dL_stand_17
  obtain ⟨rfl, z, hz, rfl, hI1, hFrA⟩ := hp
  subst hz
  have m_q1 := m_q
  have e_q1 : F1 q = _ := (hFrA q (fun i hi ee => hI.notO e_q i hi ee.symm)).trans e_q
  have hs1 : ∀ x ∈ L, x ∈ L := fun x hx => hx
  have hFr1 : ∀ x ∈ L, (∀ i, i < 18 → x ≠ A i) → F1 x = F x := fun x _ hA => hFrA x hA
  refine lv_i2l (v := Int32.toInt64 z.1) S.1 S.2.1 dL_stand_7 rfl ?_
  refine pk_putN (v := .long (Int32.toInt64 z.1)) S hK hW 0 m_q1 e_q1 rfl hinX4 tyX4_ok nmX4 (by decide) (va_Nw.use rfl (hST.1.1 _ wn_8)) rfl rfl rfl rfl (Nat.le_of_ble_eq_true rfl) dL_stand_8 (fun H3 l3 hW => ?_)
  refine lv_goto (tgt := 18) S.1 S.2.1 dL_stand_11 (by decide) ?_
  refine lv_iconst (v := 0) S.1 S.2.1 dL_stand_18 (by decide) ?_
  exact pk_iret S hr hlk hW ⟨hs1, hI1.keepA (fun x h => h) (fun i hi => up_ne (hI1.notO e_q1 i hi)), ⟨.long (Int32.toInt64 z.1), w1, up_eq, ⟨fun k9 hk9 => (by cases hk9), fun z9 hz9 => by cases hz9; exact ⟨rfl, rfl⟩⟩⟩, fun x hx hA hq => (up_ne hq).trans (hFr1 x hx hA)⟩ (by decide) (by decide) dL_stand_19
set_option maxHeartbeats 4000000 in
set_option maxRecDepth 100000 in
theorem c_L_forth {l : Launch} {D : va_G} {κ : Nat → ClassId} {ζ : Nat → Nat} {L : List Nat} {F : Nat → va_E} {σ : CS} {A : Nat → Nat} {q : Nat} (hst : l.stackTraces = false) (hI : CI κ A σ L F) (hO : OUT q L F) (x1 : Int32) {res : (Nat ⊕ (Int32 × CS))} (hf : f_X3_forth σ x1 = some res) (hk : ∀ k, res = .inl k → k = 0 ∨ k = 2) : MwI l D κ ζ yL_forth cL_forth 4 (some .int) [(0, 10, 13, 19), (0, 10, 16, 23)] 9 2 12 ([.ref (A 0), .int x1, .ref q] : List Value) L F (LwP κ A q (aftM σ res) L F (fun r w0 _ => (∀ k, res = .inl k → r = (if k = 0 then 1 else 2)) ∧ ∀ z, res = .inr z → r = 0 ∧ w0 = .long (Int32.toInt64 z.1))) := by
  refine MwI.of (by decide) (Nat.le_of_ble_eq_true rfl) ?_
  intro p e s m below meth c S hr hlk hxt hN hK hW hST ls hl
  have hl : lv_has ls 4 [(0, .ref (A 0)), (1, .int x1), (2, .ref q)] := hl
  obtain ⟨m_q, w0, w1, e_q⟩ := hO
  refine lv_aload_n S.1 S.2.1 dL_forth_0 rfl (lv_at hl 2 rfl) ?_
  refine lv_aload_n S.1 S.2.1 dL_forth_1 rfl (lv_at hl 0 rfl) ?_
  refine lv_iload_n S.1 S.2.1 dL_forth_2 rfl (lv_at hl 1 rfl) ?_
  refine xk_cVI (As := [.int x1]) (rest := [.ref q]) S hK hST hW (c_X3_forth hst hI x1 hf) mc_X3_forth wd_666 wd_667 wd_668 rfl np_X3_forth (hI.mem 0 (by decide)) hI.this rfl rfl hl.1 rfl (Nat.le_of_ble_eq_true rfl) dL_forth_3 ⟨Nat.le_of_ble_eq_true rfl, Nat.le_of_ble_eq_true rfl⟩ ⟨Nat.le_of_ble_eq_true rfl, Nat.le_of_ble_eq_true rfl⟩ (fun E ce q9 H1 l1 hE hW h1 h2 h3 => ?_) (fun r L1 F1 H2 l2 hp hW => ?_)
  · obtain ⟨k, hk1, rfl⟩ := hE
    rcases hk k hk1 with rfl | rfl
    · subst hk1
      refine vx_catch (name := "java/lang/IndexOutOfBoundsException") S.2.2.2.1 [] ⟨0, 10, 13, 19⟩ [⟨0, 10, 16, 23⟩] (by rw [hxt]; rfl) (fun _ h => absurd h List.not_mem_nil) (by decide) (by decide) (S.2.2.2.2 _ wd_348) (va_Nw.use rfl (hST.1.1 _ wn_10)) h1 h2 h3 ?_
      refine lv_astore_n (lv' := [(3, .ref q9), (0, .ref (A 0)), (1, .int x1), (2, .ref q)]) S.1 S.2.1 dL_forth_13 rfl hl (by decide) rfl (fun ls hl => ?_)
      refine lv_iconst (v := 1) S.1 S.2.1 dL_forth_14 (by decide) ?_
      exact pk_iret S hr hlk hW ⟨fun x hx => hx, hI, ⟨w0, w1, e_q, ⟨fun k9 hk9 => (by cases hk9; rfl), fun z hz => (by cases hz)⟩⟩, fun x _ _ _ => rfl⟩ (by decide) (by decide) dL_forth_15
    · subst hk1
      refine vx_catch (name := "java/lang/IllegalStateException") S.2.2.2.1 [⟨0, 10, 13, 19⟩] ⟨0, 10, 16, 23⟩ [] (by rw [hxt]; rfl) (List.forall_mem_cons.mpr ⟨Or.inr ⟨by decide, _, S.2.2.2.2 _ wd_348, hN 2 0 (by decide) (by decide) (by decide)⟩, fun _ h => absurd h List.not_mem_nil⟩) (by decide) (by decide) (S.2.2.2.2 _ wd_350) (va_Nw.use rfl (hST.1.1 _ wn_18)) h1 h2 h3 ?_
      refine lv_astore_n (lv' := [(3, .ref q9), (0, .ref (A 0)), (1, .int x1), (2, .ref q)]) S.1 S.2.1 dL_forth_16 rfl hl (by decide) rfl (fun ls hl => ?_)
      refine lv_iconst (v := 2) S.1 S.2.1 dL_forth_17 (by decide) ?_
      exact pk_iret S hr hlk hW ⟨fun x hx => hx, hI, ⟨w0, w1, e_q, ⟨fun k9 hk9 => (by cases hk9; rfl), fun z hz => (by cases hz)⟩⟩, fun x _ _ _ => rfl⟩ (by decide) (by decide) dL_forth_18
  obtain ⟨rfl, z, hz, rfl, hI1, hFrA⟩ := hp
  subst hz
  have m_q1 := m_q
  have e_q1 : F1 q = _ := (hFrA q (fun i hi ee => hI.notO e_q i hi ee.symm)).trans e_q
  have hs1 : ∀ x ∈ L, x ∈ L := fun x hx => hx
  have hFr1 : ∀ x ∈ L, (∀ i, i < 18 → x ≠ A i) → F1 x = F x := fun x _ hA => hFrA x hA
  refine lv_i2l (v := Int32.toInt64 z.1) S.1 S.2.1 dL_forth_6 rfl ?_
  refine pk_putN (v := .long (Int32.toInt64 z.1)) S hK hW 0 m_q1 e_q1 rfl hinX4 tyX4_ok nmX4 (by decide) (va_Nw.use rfl (hST.1.1 _ wn_8)) rfl rfl rfl rfl (Nat.le_of_ble_eq_true rfl) dL_forth_7 (fun H3 l3 hW => ?_)
  refine lv_goto (tgt := 19) S.1 S.2.1 dL_forth_10 (by decide) ?_
  refine lv_iconst (v := 0) S.1 S.2.1 dL_forth_19 (by decide) ?_
  exact pk_iret S hr hlk hW ⟨hs1, hI1.keepA (fun x h => h) (fun i hi => up_ne (hI1.notO e_q1 i hi)), ⟨.long (Int32.toInt64 z.1), w1, up_eq, ⟨fun k9 hk9 => (by cases hk9), fun z9 hz9 => by cases hz9; exact ⟨rfl, rfl⟩⟩⟩, fun x hx hA hq => (up_ne hq).trans (hFr1 x hx hA)⟩ (by decide) (by decide) dL_forth_20
set_option maxHeartbeats 4000000 in
set_option maxRecDepth 100000 in
theorem c_L_back {l : Launch} {D : va_G} {κ : Nat → ClassId} {ζ : Nat → Nat} {L : List Nat} {F : Nat → va_E} {σ : CS} {A : Nat → Nat} {q : Nat} (hst : l.stackTraces = false) (hI : CI κ A σ L F) (hO : OUT q L F) (x1 : Int32) {res : (Nat ⊕ (Int32 × CS))} (hf : f_X3_back σ x1 = some res) (hk : ∀ k, res = .inl k → k = 0 ∨ k = 2) : MwI l D κ ζ yL_back cL_back 4 (some .int) [(0, 10, 13, 19), (0, 10, 16, 23)] 9 2 12 ([.ref (A 0), .int x1, .ref q] : List Value) L F (LwP κ A q (aftM σ res) L F (fun r w0 _ => (∀ k, res = .inl k → r = (if k = 0 then 1 else 2)) ∧ ∀ z, res = .inr z → r = 0 ∧ w0 = .long (Int32.toInt64 z.1))) := by
  refine MwI.of (by decide) (Nat.le_of_ble_eq_true rfl) ?_
  intro p e s m below meth c S hr hlk hxt hN hK hW hST ls hl
  have hl : lv_has ls 4 [(0, .ref (A 0)), (1, .int x1), (2, .ref q)] := hl
  obtain ⟨m_q, w0, w1, e_q⟩ := hO
  refine lv_aload_n S.1 S.2.1 dL_back_0 rfl (lv_at hl 2 rfl) ?_
  refine lv_aload_n S.1 S.2.1 dL_back_1 rfl (lv_at hl 0 rfl) ?_
  refine lv_iload_n S.1 S.2.1 dL_back_2 rfl (lv_at hl 1 rfl) ?_
  refine xk_cVI (As := [.int x1]) (rest := [.ref q]) S hK hST hW (c_X3_back hst hI x1 hf) mc_X3_back wd_681 wd_682 wd_683 rfl np_X3_back (hI.mem 0 (by decide)) hI.this rfl rfl hl.1 rfl (Nat.le_of_ble_eq_true rfl) dL_back_3 ⟨Nat.le_of_ble_eq_true rfl, Nat.le_of_ble_eq_true rfl⟩ ⟨Nat.le_of_ble_eq_true rfl, Nat.le_of_ble_eq_true rfl⟩ (fun E ce q9 H1 l1 hE hW h1 h2 h3 => ?_) (fun r L1 F1 H2 l2 hp hW => ?_)
  · obtain ⟨k, hk1, rfl⟩ := hE
    rcases hk k hk1 with rfl | rfl
    · subst hk1
      refine vx_catch (name := "java/lang/IndexOutOfBoundsException") S.2.2.2.1 [] ⟨0, 10, 13, 19⟩ [⟨0, 10, 16, 23⟩] (by rw [hxt]; rfl) (fun _ h => absurd h List.not_mem_nil) (by decide) (by decide) (S.2.2.2.2 _ wd_348) (va_Nw.use rfl (hST.1.1 _ wn_10)) h1 h2 h3 ?_
      refine lv_astore_n (lv' := [(3, .ref q9), (0, .ref (A 0)), (1, .int x1), (2, .ref q)]) S.1 S.2.1 dL_back_13 rfl hl (by decide) rfl (fun ls hl => ?_)
      refine lv_iconst (v := 1) S.1 S.2.1 dL_back_14 (by decide) ?_
      exact pk_iret S hr hlk hW ⟨fun x hx => hx, hI, ⟨w0, w1, e_q, ⟨fun k9 hk9 => (by cases hk9; rfl), fun z hz => (by cases hz)⟩⟩, fun x _ _ _ => rfl⟩ (by decide) (by decide) dL_back_15
    · subst hk1
      refine vx_catch (name := "java/lang/IllegalStateException") S.2.2.2.1 [⟨0, 10, 13, 19⟩] ⟨0, 10, 16, 23⟩ [] (by rw [hxt]; rfl) (List.forall_mem_cons.mpr ⟨Or.inr ⟨by decide, _, S.2.2.2.2 _ wd_348, hN 2 0 (by decide) (by decide) (by decide)⟩, fun _ h => absurd h List.not_mem_nil⟩) (by decide) (by decide) (S.2.2.2.2 _ wd_350) (va_Nw.use rfl (hST.1.1 _ wn_18)) h1 h2 h3 ?_
      refine lv_astore_n (lv' := [(3, .ref q9), (0, .ref (A 0)), (1, .int x1), (2, .ref q)]) S.1 S.2.1 dL_back_16 rfl hl (by decide) rfl (fun ls hl => ?_)
      refine lv_iconst (v := 2) S.1 S.2.1 dL_back_17 (by decide) ?_
      exact pk_iret S hr hlk hW ⟨fun x hx => hx, hI, ⟨w0, w1, e_q, ⟨fun k9 hk9 => (by cases hk9; rfl), fun z hz => (by cases hz)⟩⟩, fun x _ _ _ => rfl⟩ (by decide) (by decide) dL_back_18
  obtain ⟨rfl, z, hz, rfl, hI1, hFrA⟩ := hp
  subst hz
  have m_q1 := m_q
  have e_q1 : F1 q = _ := (hFrA q (fun i hi ee => hI.notO e_q i hi ee.symm)).trans e_q
  have hs1 : ∀ x ∈ L, x ∈ L := fun x hx => hx
  have hFr1 : ∀ x ∈ L, (∀ i, i < 18 → x ≠ A i) → F1 x = F x := fun x _ hA => hFrA x hA
  refine lv_i2l (v := Int32.toInt64 z.1) S.1 S.2.1 dL_back_6 rfl ?_
  refine pk_putN (v := .long (Int32.toInt64 z.1)) S hK hW 0 m_q1 e_q1 rfl hinX4 tyX4_ok nmX4 (by decide) (va_Nw.use rfl (hST.1.1 _ wn_8)) rfl rfl rfl rfl (Nat.le_of_ble_eq_true rfl) dL_back_7 (fun H3 l3 hW => ?_)
  refine lv_goto (tgt := 19) S.1 S.2.1 dL_back_10 (by decide) ?_
  refine lv_iconst (v := 0) S.1 S.2.1 dL_back_19 (by decide) ?_
  exact pk_iret S hr hlk hW ⟨hs1, hI1.keepA (fun x h => h) (fun i hi => up_ne (hI1.notO e_q1 i hi)), ⟨.long (Int32.toInt64 z.1), w1, up_eq, ⟨fun k9 hk9 => (by cases hk9), fun z9 hz9 => by cases hz9; exact ⟨rfl, rfl⟩⟩⟩, fun x hx hA hq => (up_ne hq).trans (hFr1 x hx hA)⟩ (by decide) (by decide) dL_back_20
set_option maxHeartbeats 4000000 in
set_option maxRecDepth 100000 in
theorem c_L_takeHeld {l : Launch} {D : va_G} {κ : Nat → ClassId} {ζ : Nat → Nat} {L : List Nat} {F : Nat → va_E} {σ : CS} {A : Nat → Nat} {q : Nat} (hst : l.stackTraces = false) (hI : CI κ A σ L F) (hO : OUT q L F) (x1 : Int32) {res : (Nat ⊕ (Int32 × CS))} (hf : f_X3_takeHeld σ x1 = some res) (hk : ∀ k, res = .inl k → k = 0 ∨ k = 2) : MwI l D κ ζ yL_takeHeld cL_takeHeld 4 (some .int) [(0, 10, 13, 19), (0, 10, 16, 23)] 9 2 12 ([.ref (A 0), .int x1, .ref q] : List Value) L F (LwP κ A q (aftM σ res) L F (fun r w0 _ => (∀ k, res = .inl k → r = (if k = 0 then 1 else 2)) ∧ ∀ z, res = .inr z → r = 0 ∧ w0 = .long (Int32.toInt64 z.1))) := by
  refine MwI.of (by decide) (Nat.le_of_ble_eq_true rfl) ?_
  intro p e s m below meth c S hr hlk hxt hN hK hW hST ls hl
  have hl : lv_has ls 4 [(0, .ref (A 0)), (1, .int x1), (2, .ref q)] := hl
  obtain ⟨m_q, w0, w1, e_q⟩ := hO
  refine lv_aload_n S.1 S.2.1 dL_takeHeld_0 rfl (lv_at hl 2 rfl) ?_
  refine lv_aload_n S.1 S.2.1 dL_takeHeld_1 rfl (lv_at hl 0 rfl) ?_
  refine lv_iload_n S.1 S.2.1 dL_takeHeld_2 rfl (lv_at hl 1 rfl) ?_
  refine xk_cVI (As := [.int x1]) (rest := [.ref q]) S hK hST hW (c_X3_takeHeld hst hI x1 hf) mc_X3_takeHeld wd_691 wd_692 wd_693 rfl np_X3_takeHeld (hI.mem 0 (by decide)) hI.this rfl rfl hl.1 rfl (Nat.le_of_ble_eq_true rfl) dL_takeHeld_3 ⟨Nat.le_of_ble_eq_true rfl, Nat.le_of_ble_eq_true rfl⟩ ⟨Nat.le_of_ble_eq_true rfl, Nat.le_of_ble_eq_true rfl⟩ (fun E ce q9 H1 l1 hE hW h1 h2 h3 => ?_) (fun r L1 F1 H2 l2 hp hW => ?_)
  · obtain ⟨k, hk1, rfl⟩ := hE
    rcases hk k hk1 with rfl | rfl
    · subst hk1
      refine vx_catch (name := "java/lang/IndexOutOfBoundsException") S.2.2.2.1 [] ⟨0, 10, 13, 19⟩ [⟨0, 10, 16, 23⟩] (by rw [hxt]; rfl) (fun _ h => absurd h List.not_mem_nil) (by decide) (by decide) (S.2.2.2.2 _ wd_348) (va_Nw.use rfl (hST.1.1 _ wn_10)) h1 h2 h3 ?_
      refine lv_astore_n (lv' := [(3, .ref q9), (0, .ref (A 0)), (1, .int x1), (2, .ref q)]) S.1 S.2.1 dL_takeHeld_13 rfl hl (by decide) rfl (fun ls hl => ?_)
      refine lv_iconst (v := 1) S.1 S.2.1 dL_takeHeld_14 (by decide) ?_
      exact pk_iret S hr hlk hW ⟨fun x hx => hx, hI, ⟨w0, w1, e_q, ⟨fun k9 hk9 => (by cases hk9; rfl), fun z hz => (by cases hz)⟩⟩, fun x _ _ _ => rfl⟩ (by decide) (by decide) dL_takeHeld_15
    · subst hk1
      refine vx_catch (name := "java/lang/IllegalStateException") S.2.2.2.1 [⟨0, 10, 13, 19⟩] ⟨0, 10, 16, 23⟩ [] (by rw [hxt]; rfl) (List.forall_mem_cons.mpr ⟨Or.inr ⟨by decide, _, S.2.2.2.2 _ wd_348, hN 2 0 (by decide) (by decide) (by decide)⟩, fun _ h => absurd h List.not_mem_nil⟩) (by decide) (by decide) (S.2.2.2.2 _ wd_350) (va_Nw.use rfl (hST.1.1 _ wn_18)) h1 h2 h3 ?_
      refine lv_astore_n (lv' := [(3, .ref q9), (0, .ref (A 0)), (1, .int x1), (2, .ref q)]) S.1 S.2.1 dL_takeHeld_16 rfl hl (by decide) rfl (fun ls hl => ?_)
      refine lv_iconst (v := 2) S.1 S.2.1 dL_takeHeld_17 (by decide) ?_
      exact pk_iret S hr hlk hW ⟨fun x hx => hx, hI, ⟨w0, w1, e_q, ⟨fun k9 hk9 => (by cases hk9; rfl), fun z hz => (by cases hz)⟩⟩, fun x _ _ _ => rfl⟩ (by decide) (by decide) dL_takeHeld_18
  obtain ⟨rfl, z, hz, rfl, hI1, hFrA⟩ := hp
  subst hz
  have m_q1 := m_q
  have e_q1 : F1 q = _ := (hFrA q (fun i hi ee => hI.notO e_q i hi ee.symm)).trans e_q
  have hs1 : ∀ x ∈ L, x ∈ L := fun x hx => hx
  have hFr1 : ∀ x ∈ L, (∀ i, i < 18 → x ≠ A i) → F1 x = F x := fun x _ hA => hFrA x hA
  refine lv_i2l (v := Int32.toInt64 z.1) S.1 S.2.1 dL_takeHeld_6 rfl ?_
  refine pk_putN (v := .long (Int32.toInt64 z.1)) S hK hW 0 m_q1 e_q1 rfl hinX4 tyX4_ok nmX4 (by decide) (va_Nw.use rfl (hST.1.1 _ wn_8)) rfl rfl rfl rfl (Nat.le_of_ble_eq_true rfl) dL_takeHeld_7 (fun H3 l3 hW => ?_)
  refine lv_goto (tgt := 19) S.1 S.2.1 dL_takeHeld_10 (by decide) ?_
  refine lv_iconst (v := 0) S.1 S.2.1 dL_takeHeld_19 (by decide) ?_
  exact pk_iret S hr hlk hW ⟨hs1, hI1.keepA (fun x h => h) (fun i hi => up_ne (hI1.notO e_q1 i hi)), ⟨.long (Int32.toInt64 z.1), w1, up_eq, ⟨fun k9 hk9 => (by cases hk9), fun z9 hz9 => by cases hz9; exact ⟨rfl, rfl⟩⟩⟩, fun x hx hA hq => (up_ne hq).trans (hFr1 x hx hA)⟩ (by decide) (by decide) dL_takeHeld_20
set_option maxHeartbeats 4000000 in
set_option maxRecDepth 100000 in
theorem c_L_setHeld {l : Launch} {D : va_G} {κ : Nat → ClassId} {ζ : Nat → Nat} {L : List Nat} {F : Nat → va_E} {σ : CS} {A : Nat → Nat} {q : Nat} (hst : l.stackTraces = false) (hI : CI κ A σ L F) (hO : OUT q L F) (x1 x2 x3 : Int32) {res : (Nat ⊕ (Int32 × CS))} (hf : f_X3_setHeld σ x1 x2 x3 = some res) (hk : ∀ k, res = .inl k → k = 0 ∨ k = 1 ∨ k = 2) : MwI l D κ ζ yL_setHeld cL_setHeld 6 (some .int) [(0, 13, 16, 19), (0, 13, 20, 21), (0, 13, 24, 23)] 10 4 24 ([.ref (A 0), .int x1, .int x2, .int x3, .ref q] : List Value) L F (LwP κ A q (aftM σ res) L F (fun r w0 _ => (∀ k, res = .inl k → r = (if k = 0 then 1 else if k = 1 then 2 else 3)) ∧ ∀ z, res = .inr z → r = 0 ∧ w0 = .long (Int32.toInt64 z.1))) := by
  refine MwI.of (by decide) (Nat.le_of_ble_eq_true rfl) ?_
  intro p e s m below meth c S hr hlk hxt hN hK hW hST ls hl
  have hl : lv_has ls 6 [(0, .ref (A 0)), (1, .int x1), (2, .int x2), (3, .int x3), (4, .ref q)] := hl
  obtain ⟨m_q, w0, w1, e_q⟩ := hO
  refine lv_aload S.1 S.2.1 dL_setHeld_0 (lv_at hl 4 rfl) ?_
  refine lv_aload_n S.1 S.2.1 dL_setHeld_2 rfl (lv_at hl 0 rfl) ?_
  refine lv_iload_n S.1 S.2.1 dL_setHeld_3 rfl (lv_at hl 1 rfl) ?_
  refine lv_iload_n S.1 S.2.1 dL_setHeld_4 rfl (lv_at hl 2 rfl) ?_
  refine lv_iload_n S.1 S.2.1 dL_setHeld_5 rfl (lv_at hl 3 rfl) ?_
  refine xk_cVI (As := [.int x1, .int x2, .int x3]) (rest := [.ref q]) S hK hST hW (c_X3_setHeld hst hI x1 x2 x3 hf) mc_X3_setHeld wd_710 wd_711 wd_712 rfl np_X3_setHeld (hI.mem 0 (by decide)) hI.this rfl rfl hl.1 rfl (Nat.le_of_ble_eq_true rfl) dL_setHeld_6 ⟨Nat.le_of_ble_eq_true rfl, Nat.le_of_ble_eq_true rfl⟩ ⟨Nat.le_of_ble_eq_true rfl, Nat.le_of_ble_eq_true rfl⟩ (fun E ce q9 H1 l1 hE hW h1 h2 h3 => ?_) (fun r L1 F1 H2 l2 hp hW => ?_)
  · obtain ⟨k, hk1, rfl⟩ := hE
    rcases hk k hk1 with rfl | rfl | rfl
    · subst hk1
      refine vx_catch (name := "java/lang/IndexOutOfBoundsException") S.2.2.2.1 [] ⟨0, 13, 16, 19⟩ [⟨0, 13, 20, 21⟩, ⟨0, 13, 24, 23⟩] (by rw [hxt]; rfl) (fun _ h => absurd h List.not_mem_nil) (by decide) (by decide) (S.2.2.2.2 _ wd_348) (va_Nw.use rfl (hST.1.1 _ wn_10)) h1 h2 h3 ?_
      refine lv_astore (lv' := [(5, .ref q9), (0, .ref (A 0)), (1, .int x1), (2, .int x2), (3, .int x3), (4, .ref q)]) S.1 S.2.1 dL_setHeld_16 hl (by decide) rfl (fun ls hl => ?_)
      refine lv_iconst (v := 1) S.1 S.2.1 dL_setHeld_18 (by decide) ?_
      exact pk_iret S hr hlk hW ⟨fun x hx => hx, hI, ⟨w0, w1, e_q, ⟨fun k9 hk9 => (by cases hk9; rfl), fun z hz => (by cases hz)⟩⟩, fun x _ _ _ => rfl⟩ (by decide) (by decide) dL_setHeld_19
    · subst hk1
      refine vx_catch (name := "java/lang/IllegalArgumentException") S.2.2.2.1 [⟨0, 13, 16, 19⟩] ⟨0, 13, 20, 21⟩ [⟨0, 13, 24, 23⟩] (by rw [hxt]; rfl) (List.forall_mem_cons.mpr ⟨Or.inr ⟨by decide, _, S.2.2.2.2 _ wd_348, hN 1 0 (by decide) (by decide) (by decide)⟩, fun _ h => absurd h List.not_mem_nil⟩) (by decide) (by decide) (S.2.2.2.2 _ wd_349) (va_Nw.use rfl (hST.1.1 _ wn_17)) h1 h2 h3 ?_
      refine lv_astore (lv' := [(5, .ref q9), (0, .ref (A 0)), (1, .int x1), (2, .int x2), (3, .int x3), (4, .ref q)]) S.1 S.2.1 dL_setHeld_20 hl (by decide) rfl (fun ls hl => ?_)
      refine lv_iconst (v := 2) S.1 S.2.1 dL_setHeld_22 (by decide) ?_
      exact pk_iret S hr hlk hW ⟨fun x hx => hx, hI, ⟨w0, w1, e_q, ⟨fun k9 hk9 => (by cases hk9; rfl), fun z hz => (by cases hz)⟩⟩, fun x _ _ _ => rfl⟩ (by decide) (by decide) dL_setHeld_23
    · subst hk1
      refine vx_catch (name := "java/lang/IllegalStateException") S.2.2.2.1 [⟨0, 13, 16, 19⟩, ⟨0, 13, 20, 21⟩] ⟨0, 13, 24, 23⟩ [] (by rw [hxt]; rfl) (List.forall_mem_cons.mpr ⟨Or.inr ⟨by decide, _, S.2.2.2.2 _ wd_348, hN 2 0 (by decide) (by decide) (by decide)⟩, List.forall_mem_cons.mpr ⟨Or.inr ⟨by decide, _, S.2.2.2.2 _ wd_349, hN 2 1 (by decide) (by decide) (by decide)⟩, fun _ h => absurd h List.not_mem_nil⟩⟩) (by decide) (by decide) (S.2.2.2.2 _ wd_350) (va_Nw.use rfl (hST.1.1 _ wn_18)) h1 h2 h3 ?_
      refine lv_astore (lv' := [(5, .ref q9), (0, .ref (A 0)), (1, .int x1), (2, .int x2), (3, .int x3), (4, .ref q)]) S.1 S.2.1 dL_setHeld_24 hl (by decide) rfl (fun ls hl => ?_)
      refine lv_iconst (v := 3) S.1 S.2.1 dL_setHeld_26 (by decide) ?_
      exact pk_iret S hr hlk hW ⟨fun x hx => hx, hI, ⟨w0, w1, e_q, ⟨fun k9 hk9 => (by cases hk9; rfl), fun z hz => (by cases hz)⟩⟩, fun x _ _ _ => rfl⟩ (by decide) (by decide) dL_setHeld_27
  obtain ⟨rfl, z, hz, rfl, hI1, hFrA⟩ := hp
  subst hz
  have m_q1 := m_q
  have e_q1 : F1 q = _ := (hFrA q (fun i hi ee => hI.notO e_q i hi ee.symm)).trans e_q
  have hs1 : ∀ x ∈ L, x ∈ L := fun x hx => hx
  have hFr1 : ∀ x ∈ L, (∀ i, i < 18 → x ≠ A i) → F1 x = F x := fun x _ hA => hFrA x hA
  refine lv_i2l (v := Int32.toInt64 z.1) S.1 S.2.1 dL_setHeld_9 rfl ?_
  refine pk_putN (v := .long (Int32.toInt64 z.1)) S hK hW 0 m_q1 e_q1 rfl hinX4 tyX4_ok nmX4 (by decide) (va_Nw.use rfl (hST.1.1 _ wn_8)) rfl rfl rfl rfl (Nat.le_of_ble_eq_true rfl) dL_setHeld_10 (fun H3 l3 hW => ?_)
  refine lv_goto (tgt := 28) S.1 S.2.1 dL_setHeld_13 (by decide) ?_
  refine lv_iconst (v := 0) S.1 S.2.1 dL_setHeld_28 (by decide) ?_
  exact pk_iret S hr hlk hW ⟨hs1, hI1.keepA (fun x h => h) (fun i hi => up_ne (hI1.notO e_q1 i hi)), ⟨.long (Int32.toInt64 z.1), w1, up_eq, ⟨fun k9 hk9 => (by cases hk9), fun z9 hz9 => by cases hz9; exact ⟨rfl, rfl⟩⟩⟩, fun x hx hA hq => (up_ne hq).trans (hFr1 x hx hA)⟩ (by decide) (by decide) dL_setHeld_29
set_option maxHeartbeats 4000000 in
set_option maxRecDepth 100000 in
theorem c_L_put {l : Launch} {D : va_G} {κ : Nat → ClassId} {ζ : Nat → Nat} {L : List Nat} {F : Nat → va_E} {σ : CS} {A : Nat → Nat} {q : Nat} (hst : l.stackTraces = false) (hI : CI κ A σ L F) (hO : OUT q L F) (x1 x2 x3 : Int32) {res : (Nat ⊕ (Int32 × CS))} (hf : f_X3_put σ x1 x2 x3 = some res) (hk : ∀ k, res = .inl k → k = 0 ∨ k = 1 ∨ k = 2) : MwI l D κ ζ yL_put cL_put 6 (some .int) [(0, 13, 16, 19), (0, 13, 20, 21), (0, 13, 24, 23)] 10 5 30 ([.ref (A 0), .int x1, .int x2, .int x3, .ref q] : List Value) L F (LwP κ A q (aftM σ res) L F (fun r w0 _ => (∀ k, res = .inl k → r = (if k = 0 then 1 else if k = 1 then 2 else 3)) ∧ ∀ z, res = .inr z → r = 0 ∧ w0 = .long (Int32.toInt64 z.1))) := by
  refine MwI.of (by decide) (Nat.le_of_ble_eq_true rfl) ?_
  intro p e s m below meth c S hr hlk hxt hN hK hW hST ls hl
  have hl : lv_has ls 6 [(0, .ref (A 0)), (1, .int x1), (2, .int x2), (3, .int x3), (4, .ref q)] := hl
  obtain ⟨m_q, w0, w1, e_q⟩ := hO
  refine lv_aload S.1 S.2.1 dL_put_0 (lv_at hl 4 rfl) ?_
  refine lv_aload_n S.1 S.2.1 dL_put_2 rfl (lv_at hl 0 rfl) ?_
  refine lv_iload_n S.1 S.2.1 dL_put_3 rfl (lv_at hl 1 rfl) ?_
  refine lv_iload_n S.1 S.2.1 dL_put_4 rfl (lv_at hl 2 rfl) ?_
  refine lv_iload_n S.1 S.2.1 dL_put_5 rfl (lv_at hl 3 rfl) ?_
  refine xk_cVI (As := [.int x1, .int x2, .int x3]) (rest := [.ref q]) S hK hST hW (c_X3_put hst hI x1 x2 x3 hf) mc_X3_put wd_716 wd_717 wd_718 rfl np_X3_put (hI.mem 0 (by decide)) hI.this rfl rfl hl.1 rfl (Nat.le_of_ble_eq_true rfl) dL_put_6 ⟨Nat.le_of_ble_eq_true rfl, Nat.le_of_ble_eq_true rfl⟩ ⟨Nat.le_of_ble_eq_true rfl, Nat.le_of_ble_eq_true rfl⟩ (fun E ce q9 H1 l1 hE hW h1 h2 h3 => ?_) (fun r L1 F1 H2 l2 hp hW => ?_)
  · obtain ⟨k, hk1, rfl⟩ := hE
    rcases hk k hk1 with rfl | rfl | rfl
    · subst hk1
      refine vx_catch (name := "java/lang/IndexOutOfBoundsException") S.2.2.2.1 [] ⟨0, 13, 16, 19⟩ [⟨0, 13, 20, 21⟩, ⟨0, 13, 24, 23⟩] (by rw [hxt]; rfl) (fun _ h => absurd h List.not_mem_nil) (by decide) (by decide) (S.2.2.2.2 _ wd_348) (va_Nw.use rfl (hST.1.1 _ wn_10)) h1 h2 h3 ?_
      refine lv_astore (lv' := [(5, .ref q9), (0, .ref (A 0)), (1, .int x1), (2, .int x2), (3, .int x3), (4, .ref q)]) S.1 S.2.1 dL_put_16 hl (by decide) rfl (fun ls hl => ?_)
      refine lv_iconst (v := 1) S.1 S.2.1 dL_put_18 (by decide) ?_
      exact pk_iret S hr hlk hW ⟨fun x hx => hx, hI, ⟨w0, w1, e_q, ⟨fun k9 hk9 => (by cases hk9; rfl), fun z hz => (by cases hz)⟩⟩, fun x _ _ _ => rfl⟩ (by decide) (by decide) dL_put_19
    · subst hk1
      refine vx_catch (name := "java/lang/IllegalArgumentException") S.2.2.2.1 [⟨0, 13, 16, 19⟩] ⟨0, 13, 20, 21⟩ [⟨0, 13, 24, 23⟩] (by rw [hxt]; rfl) (List.forall_mem_cons.mpr ⟨Or.inr ⟨by decide, _, S.2.2.2.2 _ wd_348, hN 1 0 (by decide) (by decide) (by decide)⟩, fun _ h => absurd h List.not_mem_nil⟩) (by decide) (by decide) (S.2.2.2.2 _ wd_349) (va_Nw.use rfl (hST.1.1 _ wn_17)) h1 h2 h3 ?_
      refine lv_astore (lv' := [(5, .ref q9), (0, .ref (A 0)), (1, .int x1), (2, .int x2), (3, .int x3), (4, .ref q)]) S.1 S.2.1 dL_put_20 hl (by decide) rfl (fun ls hl => ?_)
      refine lv_iconst (v := 2) S.1 S.2.1 dL_put_22 (by decide) ?_
      exact pk_iret S hr hlk hW ⟨fun x hx => hx, hI, ⟨w0, w1, e_q, ⟨fun k9 hk9 => (by cases hk9; rfl), fun z hz => (by cases hz)⟩⟩, fun x _ _ _ => rfl⟩ (by decide) (by decide) dL_put_23
    · subst hk1
      refine vx_catch (name := "java/lang/IllegalStateException") S.2.2.2.1 [⟨0, 13, 16, 19⟩, ⟨0, 13, 20, 21⟩] ⟨0, 13, 24, 23⟩ [] (by rw [hxt]; rfl) (List.forall_mem_cons.mpr ⟨Or.inr ⟨by decide, _, S.2.2.2.2 _ wd_348, hN 2 0 (by decide) (by decide) (by decide)⟩, List.forall_mem_cons.mpr ⟨Or.inr ⟨by decide, _, S.2.2.2.2 _ wd_349, hN 2 1 (by decide) (by decide) (by decide)⟩, fun _ h => absurd h List.not_mem_nil⟩⟩) (by decide) (by decide) (S.2.2.2.2 _ wd_350) (va_Nw.use rfl (hST.1.1 _ wn_18)) h1 h2 h3 ?_
      refine lv_astore (lv' := [(5, .ref q9), (0, .ref (A 0)), (1, .int x1), (2, .int x2), (3, .int x3), (4, .ref q)]) S.1 S.2.1 dL_put_24 hl (by decide) rfl (fun ls hl => ?_)
      refine lv_iconst (v := 3) S.1 S.2.1 dL_put_26 (by decide) ?_
      exact pk_iret S hr hlk hW ⟨fun x hx => hx, hI, ⟨w0, w1, e_q, ⟨fun k9 hk9 => (by cases hk9; rfl), fun z hz => (by cases hz)⟩⟩, fun x _ _ _ => rfl⟩ (by decide) (by decide) dL_put_27
  obtain ⟨rfl, z, hz, rfl, hI1, hFrA⟩ := hp
  subst hz
  have m_q1 := m_q
  have e_q1 : F1 q = _ := (hFrA q (fun i hi ee => hI.notO e_q i hi ee.symm)).trans e_q
  have hs1 : ∀ x ∈ L, x ∈ L := fun x hx => hx
  have hFr1 : ∀ x ∈ L, (∀ i, i < 18 → x ≠ A i) → F1 x = F x := fun x _ hA => hFrA x hA
  refine lv_i2l (v := Int32.toInt64 z.1) S.1 S.2.1 dL_put_9 rfl ?_
  refine pk_putN (v := .long (Int32.toInt64 z.1)) S hK hW 0 m_q1 e_q1 rfl hinX4 tyX4_ok nmX4 (by decide) (va_Nw.use rfl (hST.1.1 _ wn_8)) rfl rfl rfl rfl (Nat.le_of_ble_eq_true rfl) dL_put_10 (fun H3 l3 hW => ?_)
  refine lv_goto (tgt := 28) S.1 S.2.1 dL_put_13 (by decide) ?_
  refine lv_iconst (v := 0) S.1 S.2.1 dL_put_28 (by decide) ?_
  exact pk_iret S hr hlk hW ⟨hs1, hI1.keepA (fun x h => h) (fun i hi => up_ne (hI1.notO e_q1 i hi)), ⟨.long (Int32.toInt64 z.1), w1, up_eq, ⟨fun k9 hk9 => (by cases hk9), fun z9 hz9 => by cases hz9; exact ⟨rfl, rfl⟩⟩⟩, fun x hx hA hq => (up_ne hq).trans (hFr1 x hx hA)⟩ (by decide) (by decide) dL_put_29
set_option maxHeartbeats 4000000 in
set_option maxRecDepth 100000 in
theorem c_L_where {l : Launch} {D : va_G} {κ : Nat → ClassId} {ζ : Nat → Nat} {L : List Nat} {F : Nat → va_E} {σ : CS} {A : Nat → Nat} {q : Nat} (hst : l.stackTraces = false) (hI : CI κ A σ L F) (hO : OUT q L F) (x1 x2 : Int32) {res : (Nat ⊕ Int32)} (hf : f_X3_where σ x1 x2 = some res) (hk : ∀ k, res = .inl k → k = 0 ∨ k = 1 ∨ k = 2) : MwI l D κ ζ yL_where cL_where 5 (some .int) [(0, 11, 14, 19), (0, 11, 18, 21), (0, 11, 22, 23)] 9 3 18 ([.ref (A 0), .int x1, .int x2, .ref q] : List Value) L F (LwP κ A q (σ) L F (fun r w0 _ => (∀ k, res = .inl k → r = (if k = 0 then 1 else if k = 1 then 2 else 3)) ∧ ∀ z, res = .inr z → r = 0 ∧ w0 = .long (Int32.toInt64 z))) := by
  refine MwI.of (by decide) (Nat.le_of_ble_eq_true rfl) ?_
  intro p e s m below meth c S hr hlk hxt hN hK hW hST ls hl
  have hl : lv_has ls 5 [(0, .ref (A 0)), (1, .int x1), (2, .int x2), (3, .ref q)] := hl
  obtain ⟨m_q, w0, w1, e_q⟩ := hO
  refine lv_aload_n S.1 S.2.1 dL_where_0 rfl (lv_at hl 3 rfl) ?_
  refine lv_aload_n S.1 S.2.1 dL_where_1 rfl (lv_at hl 0 rfl) ?_
  refine lv_iload_n S.1 S.2.1 dL_where_2 rfl (lv_at hl 1 rfl) ?_
  refine lv_iload_n S.1 S.2.1 dL_where_3 rfl (lv_at hl 2 rfl) ?_
  refine xk_cVI (As := [.int x1, .int x2]) (rest := [.ref q]) S hK hST hW (c_X3_where hst hI x1 x2 hf) mc_X3_where wd_726 wd_727 wd_728 rfl np_X3_where (hI.mem 0 (by decide)) hI.this rfl rfl hl.1 rfl (Nat.le_of_ble_eq_true rfl) dL_where_4 ⟨Nat.le_of_ble_eq_true rfl, Nat.le_of_ble_eq_true rfl⟩ ⟨Nat.le_of_ble_eq_true rfl, Nat.le_of_ble_eq_true rfl⟩ (fun E ce q9 H1 l1 hE hW h1 h2 h3 => ?_) (fun r L1 F1 H2 l2 hp hW => ?_)
  · obtain ⟨k, hk1, rfl⟩ := hE
    rcases hk k hk1 with rfl | rfl | rfl
    · subst hk1
      refine vx_catch (name := "java/lang/IndexOutOfBoundsException") S.2.2.2.1 [] ⟨0, 11, 14, 19⟩ [⟨0, 11, 18, 21⟩, ⟨0, 11, 22, 23⟩] (by rw [hxt]; rfl) (fun _ h => absurd h List.not_mem_nil) (by decide) (by decide) (S.2.2.2.2 _ wd_348) (va_Nw.use rfl (hST.1.1 _ wn_10)) h1 h2 h3 ?_
      refine lv_astore (lv' := [(4, .ref q9), (0, .ref (A 0)), (1, .int x1), (2, .int x2), (3, .ref q)]) S.1 S.2.1 dL_where_14 hl (by decide) rfl (fun ls hl => ?_)
      refine lv_iconst (v := 1) S.1 S.2.1 dL_where_16 (by decide) ?_
      exact pk_iret S hr hlk hW ⟨fun x hx => hx, hI, ⟨w0, w1, e_q, ⟨fun k9 hk9 => (by cases hk9; rfl), fun z hz => (by cases hz)⟩⟩, fun x _ _ _ => rfl⟩ (by decide) (by decide) dL_where_17
    · subst hk1
      refine vx_catch (name := "java/lang/IllegalArgumentException") S.2.2.2.1 [⟨0, 11, 14, 19⟩] ⟨0, 11, 18, 21⟩ [⟨0, 11, 22, 23⟩] (by rw [hxt]; rfl) (List.forall_mem_cons.mpr ⟨Or.inr ⟨by decide, _, S.2.2.2.2 _ wd_348, hN 1 0 (by decide) (by decide) (by decide)⟩, fun _ h => absurd h List.not_mem_nil⟩) (by decide) (by decide) (S.2.2.2.2 _ wd_349) (va_Nw.use rfl (hST.1.1 _ wn_17)) h1 h2 h3 ?_
      refine lv_astore (lv' := [(4, .ref q9), (0, .ref (A 0)), (1, .int x1), (2, .int x2), (3, .ref q)]) S.1 S.2.1 dL_where_18 hl (by decide) rfl (fun ls hl => ?_)
      refine lv_iconst (v := 2) S.1 S.2.1 dL_where_20 (by decide) ?_
      exact pk_iret S hr hlk hW ⟨fun x hx => hx, hI, ⟨w0, w1, e_q, ⟨fun k9 hk9 => (by cases hk9; rfl), fun z hz => (by cases hz)⟩⟩, fun x _ _ _ => rfl⟩ (by decide) (by decide) dL_where_21
    · subst hk1
      refine vx_catch (name := "java/lang/IllegalStateException") S.2.2.2.1 [⟨0, 11, 14, 19⟩, ⟨0, 11, 18, 21⟩] ⟨0, 11, 22, 23⟩ [] (by rw [hxt]; rfl) (List.forall_mem_cons.mpr ⟨Or.inr ⟨by decide, _, S.2.2.2.2 _ wd_348, hN 2 0 (by decide) (by decide) (by decide)⟩, List.forall_mem_cons.mpr ⟨Or.inr ⟨by decide, _, S.2.2.2.2 _ wd_349, hN 2 1 (by decide) (by decide) (by decide)⟩, fun _ h => absurd h List.not_mem_nil⟩⟩) (by decide) (by decide) (S.2.2.2.2 _ wd_350) (va_Nw.use rfl (hST.1.1 _ wn_18)) h1 h2 h3 ?_
      refine lv_astore (lv' := [(4, .ref q9), (0, .ref (A 0)), (1, .int x1), (2, .int x2), (3, .ref q)]) S.1 S.2.1 dL_where_22 hl (by decide) rfl (fun ls hl => ?_)
      refine lv_iconst (v := 3) S.1 S.2.1 dL_where_24 (by decide) ?_
      exact pk_iret S hr hlk hW ⟨fun x hx => hx, hI, ⟨w0, w1, e_q, ⟨fun k9 hk9 => (by cases hk9; rfl), fun z hz => (by cases hz)⟩⟩, fun x _ _ _ => rfl⟩ (by decide) (by decide) dL_where_25
  obtain ⟨rfl, rfl, z, hz, rfl⟩ := hp
  subst hz
  have hI1 := hI
  have m_q1 := m_q
  have e_q1 := e_q
  have hs1 : ∀ x ∈ L, x ∈ L := fun x hx => hx
  have hFr1 : ∀ x ∈ L, (∀ i, i < 18 → x ≠ A i) → F x = F x := fun x _ _ => rfl
  refine lv_i2l (v := Int32.toInt64 z) S.1 S.2.1 dL_where_7 rfl ?_
  refine pk_putN (v := .long (Int32.toInt64 z)) S hK hW 0 m_q1 e_q1 rfl hinX4 tyX4_ok nmX4 (by decide) (va_Nw.use rfl (hST.1.1 _ wn_8)) rfl rfl rfl rfl (Nat.le_of_ble_eq_true rfl) dL_where_8 (fun H3 l3 hW => ?_)
  refine lv_goto (tgt := 26) S.1 S.2.1 dL_where_11 (by decide) ?_
  refine lv_iconst (v := 0) S.1 S.2.1 dL_where_26 (by decide) ?_
  exact pk_iret S hr hlk hW ⟨hs1, hI1.keepA (fun x h => h) (fun i hi => up_ne (hI1.notO e_q1 i hi)), ⟨.long (Int32.toInt64 z), w1, up_eq, ⟨fun k9 hk9 => (by cases hk9), fun z9 hz9 => by cases hz9; exact ⟨rfl, rfl⟩⟩⟩, fun x hx hA hq => (up_ne hq).trans (hFr1 x hx hA)⟩ (by decide) (by decide) dL_where_27
set_option maxHeartbeats 4000000 in
set_option maxRecDepth 100000 in
theorem c_L_order {l : Launch} {D : va_G} {κ : Nat → ClassId} {ζ : Nat → Nat} {L : List Nat} {F : Nat → va_E} {σ : CS} {A : Nat → Nat} {q : Nat} (hst : l.stackTraces = false) (hI : CI κ A σ L F) (hO : OUT q L F) (x1 : Int32) {res : (Nat ⊕ (Int32 × CS))} (hf : f_X3_order σ x1 = some res) (hk : ∀ k, res = .inl k → k = 1 ∨ k = 2) : MwI l D κ ζ yL_order cL_order 4 (some .int) [(0, 10, 13, 21), (0, 10, 16, 23)] 9 2 12 ([.ref (A 0), .int x1, .ref q] : List Value) L F (LwP κ A q (aftM σ res) L F (fun r w0 _ => (∀ k, res = .inl k → r = (if k = 1 then 1 else 2)) ∧ ∀ z, res = .inr z → r = 0 ∧ w0 = .long (Int32.toInt64 z.1))) := by
  refine MwI.of (by decide) (Nat.le_of_ble_eq_true rfl) ?_
  intro p e s m below meth c S hr hlk hxt hN hK hW hST ls hl
  have hl : lv_has ls 4 [(0, .ref (A 0)), (1, .int x1), (2, .ref q)] := hl
  obtain ⟨m_q, w0, w1, e_q⟩ := hO
  refine lv_aload_n S.1 S.2.1 dL_order_0 rfl (lv_at hl 2 rfl) ?_
  refine lv_aload_n S.1 S.2.1 dL_order_1 rfl (lv_at hl 0 rfl) ?_
  refine lv_iload_n S.1 S.2.1 dL_order_2 rfl (lv_at hl 1 rfl) ?_
  refine xk_cVI (As := [.int x1]) (rest := [.ref q]) S hK hST hW (c_X3_order hst hI x1 hf) mc_X3_order wd_733 wd_734 wd_735 rfl np_X3_order (hI.mem 0 (by decide)) hI.this rfl rfl hl.1 rfl (Nat.le_of_ble_eq_true rfl) dL_order_3 ⟨Nat.le_of_ble_eq_true rfl, Nat.le_of_ble_eq_true rfl⟩ ⟨Nat.le_of_ble_eq_true rfl, Nat.le_of_ble_eq_true rfl⟩ (fun E ce q9 H1 l1 hE hW h1 h2 h3 => ?_) (fun r L1 F1 H2 l2 hp hW => ?_)
  · obtain ⟨k, hk1, rfl⟩ := hE
    rcases hk k hk1 with rfl | rfl
    · subst hk1
      refine vx_catch (name := "java/lang/IllegalArgumentException") S.2.2.2.1 [] ⟨0, 10, 13, 21⟩ [⟨0, 10, 16, 23⟩] (by rw [hxt]; rfl) (fun _ h => absurd h List.not_mem_nil) (by decide) (by decide) (S.2.2.2.2 _ wd_349) (va_Nw.use rfl (hST.1.1 _ wn_17)) h1 h2 h3 ?_
      refine lv_astore_n (lv' := [(3, .ref q9), (0, .ref (A 0)), (1, .int x1), (2, .ref q)]) S.1 S.2.1 dL_order_13 rfl hl (by decide) rfl (fun ls hl => ?_)
      refine lv_iconst (v := 1) S.1 S.2.1 dL_order_14 (by decide) ?_
      exact pk_iret S hr hlk hW ⟨fun x hx => hx, hI, ⟨w0, w1, e_q, ⟨fun k9 hk9 => (by cases hk9; rfl), fun z hz => (by cases hz)⟩⟩, fun x _ _ _ => rfl⟩ (by decide) (by decide) dL_order_15
    · subst hk1
      refine vx_catch (name := "java/lang/IllegalStateException") S.2.2.2.1 [⟨0, 10, 13, 21⟩] ⟨0, 10, 16, 23⟩ [] (by rw [hxt]; rfl) (List.forall_mem_cons.mpr ⟨Or.inr ⟨by decide, _, S.2.2.2.2 _ wd_349, hN 2 1 (by decide) (by decide) (by decide)⟩, fun _ h => absurd h List.not_mem_nil⟩) (by decide) (by decide) (S.2.2.2.2 _ wd_350) (va_Nw.use rfl (hST.1.1 _ wn_18)) h1 h2 h3 ?_
      refine lv_astore_n (lv' := [(3, .ref q9), (0, .ref (A 0)), (1, .int x1), (2, .ref q)]) S.1 S.2.1 dL_order_16 rfl hl (by decide) rfl (fun ls hl => ?_)
      refine lv_iconst (v := 2) S.1 S.2.1 dL_order_17 (by decide) ?_
      exact pk_iret S hr hlk hW ⟨fun x hx => hx, hI, ⟨w0, w1, e_q, ⟨fun k9 hk9 => (by cases hk9; rfl), fun z hz => (by cases hz)⟩⟩, fun x _ _ _ => rfl⟩ (by decide) (by decide) dL_order_18
  obtain ⟨rfl, z, hz, rfl, hI1, hFrA⟩ := hp
  subst hz
  have m_q1 := m_q
  have e_q1 : F1 q = _ := (hFrA q (fun i hi ee => hI.notO e_q i hi ee.symm)).trans e_q
  have hs1 : ∀ x ∈ L, x ∈ L := fun x hx => hx
  have hFr1 : ∀ x ∈ L, (∀ i, i < 18 → x ≠ A i) → F1 x = F x := fun x _ hA => hFrA x hA
  refine lv_i2l (v := Int32.toInt64 z.1) S.1 S.2.1 dL_order_6 rfl ?_
  refine pk_putN (v := .long (Int32.toInt64 z.1)) S hK hW 0 m_q1 e_q1 rfl hinX4 tyX4_ok nmX4 (by decide) (va_Nw.use rfl (hST.1.1 _ wn_8)) rfl rfl rfl rfl (Nat.le_of_ble_eq_true rfl) dL_order_7 (fun H3 l3 hW => ?_)
  refine lv_goto (tgt := 19) S.1 S.2.1 dL_order_10 (by decide) ?_
  refine lv_iconst (v := 0) S.1 S.2.1 dL_order_19 (by decide) ?_
  exact pk_iret S hr hlk hW ⟨hs1, hI1.keepA (fun x h => h) (fun i hi => up_ne (hI1.notO e_q1 i hi)), ⟨.long (Int32.toInt64 z.1), w1, up_eq, ⟨fun k9 hk9 => (by cases hk9), fun z9 hz9 => by cases hz9; exact ⟨rfl, rfl⟩⟩⟩, fun x hx hA hq => (up_ne hq).trans (hFr1 x hx hA)⟩ (by decide) (by decide) dL_order_20
set_option maxHeartbeats 4000000 in
set_option maxRecDepth 100000 in
theorem c_L_work {l : Launch} {D : va_G} {κ : Nat → ClassId} {ζ : Nat → Nat} {L : List Nat} {F : Nat → va_E} {σ : CS} {A : Nat → Nat} {q : Nat} (hst : l.stackTraces = false) (hI : CI κ A σ L F) (hO : OUT q L F) (x1 : Int32) {res : (Nat ⊕ (Int32 × CS))} (hf : f_X3_work σ x1 = some res) (hk : ∀ k, res = .inl k → k = 1) : MwI l D κ ζ yL_work cL_work 4 (some .int) [(0, 10, 13, 21)] 9 1 6 ([.ref (A 0), .int x1, .ref q] : List Value) L F (LwP κ A q (aftM σ res) L F (fun r w0 _ => (∀ k, res = .inl k → r = (1)) ∧ ∀ z, res = .inr z → r = 0 ∧ w0 = .long (Int32.toInt64 z.1))) := by
  refine MwI.of (by decide) (Nat.le_of_ble_eq_true rfl) ?_
  intro p e s m below meth c S hr hlk hxt hN hK hW hST ls hl
  have hl : lv_has ls 4 [(0, .ref (A 0)), (1, .int x1), (2, .ref q)] := hl
  obtain ⟨m_q, w0, w1, e_q⟩ := hO
  refine lv_aload_n S.1 S.2.1 dL_work_0 rfl (lv_at hl 2 rfl) ?_
  refine lv_aload_n S.1 S.2.1 dL_work_1 rfl (lv_at hl 0 rfl) ?_
  refine lv_iload_n S.1 S.2.1 dL_work_2 rfl (lv_at hl 1 rfl) ?_
  refine xk_cVI (As := [.int x1]) (rest := [.ref q]) S hK hST hW (c_X3_work hst hI x1 hf) mc_X3_work wd_740 wd_741 wd_742 rfl np_X3_work (hI.mem 0 (by decide)) hI.this rfl rfl hl.1 rfl (Nat.le_of_ble_eq_true rfl) dL_work_3 ⟨Nat.le_of_ble_eq_true rfl, Nat.le_of_ble_eq_true rfl⟩ ⟨Nat.le_of_ble_eq_true rfl, Nat.le_of_ble_eq_true rfl⟩ (fun E ce q9 H1 l1 hE hW h1 h2 h3 => ?_) (fun r L1 F1 H2 l2 hp hW => ?_)
  · obtain ⟨k, hk1, rfl⟩ := hE
    have hk0 := hk k hk1
    subst hk0
    subst hk1
    refine vx_catch (name := "java/lang/IllegalArgumentException") S.2.2.2.1 [] ⟨0, 10, 13, 21⟩ [] (by rw [hxt]; rfl) (fun _ h => absurd h List.not_mem_nil) (by decide) (by decide) (S.2.2.2.2 _ wd_349) (va_Nw.use rfl (hST.1.1 _ wn_17)) h1 h2 h3 ?_
    refine lv_astore_n (lv' := [(3, .ref q9), (0, .ref (A 0)), (1, .int x1), (2, .ref q)]) S.1 S.2.1 dL_work_13 rfl hl (by decide) rfl (fun ls hl => ?_)
    refine lv_iconst (v := 1) S.1 S.2.1 dL_work_14 (by decide) ?_
    exact pk_iret S hr hlk hW ⟨fun x hx => hx, hI, ⟨w0, w1, e_q, ⟨fun k9 hk9 => (by cases hk9; rfl), fun z hz => (by cases hz)⟩⟩, fun x _ _ _ => rfl⟩ (by decide) (by decide) dL_work_15
  obtain ⟨rfl, z, hz, rfl, hI1, hFrA⟩ := hp
  subst hz
  have m_q1 := m_q
  have e_q1 : F1 q = _ := (hFrA q (fun i hi ee => hI.notO e_q i hi ee.symm)).trans e_q
  have hs1 : ∀ x ∈ L, x ∈ L := fun x hx => hx
  have hFr1 : ∀ x ∈ L, (∀ i, i < 18 → x ≠ A i) → F1 x = F x := fun x _ hA => hFrA x hA
  refine lv_i2l (v := Int32.toInt64 z.1) S.1 S.2.1 dL_work_6 rfl ?_
  refine pk_putN (v := .long (Int32.toInt64 z.1)) S hK hW 0 m_q1 e_q1 rfl hinX4 tyX4_ok nmX4 (by decide) (va_Nw.use rfl (hST.1.1 _ wn_8)) rfl rfl rfl rfl (Nat.le_of_ble_eq_true rfl) dL_work_7 (fun H3 l3 hW => ?_)
  refine lv_goto (tgt := 16) S.1 S.2.1 dL_work_10 (by decide) ?_
  refine lv_iconst (v := 0) S.1 S.2.1 dL_work_16 (by decide) ?_
  exact pk_iret S hr hlk hW ⟨hs1, hI1.keepA (fun x h => h) (fun i hi => up_ne (hI1.notO e_q1 i hi)), ⟨.long (Int32.toInt64 z.1), w1, up_eq, ⟨fun k9 hk9 => (by cases hk9), fun z9 hz9 => by cases hz9; exact ⟨rfl, rfl⟩⟩⟩, fun x hx hA hq => (up_ne hq).trans (hFr1 x hx hA)⟩ (by decide) (by decide) dL_work_17
set_option maxHeartbeats 4000000 in
set_option maxRecDepth 100000 in
theorem c_L_cancel {l : Launch} {D : va_G} {κ : Nat → ClassId} {ζ : Nat → Nat} {L : List Nat} {F : Nat → va_E} {σ : CS} {A : Nat → Nat} {q : Nat} (hst : l.stackTraces = false) (hI : CI κ A σ L F) (hO : OUT q L F) (x1 x2 : Int32) {res : (Nat ⊕ (Int32 × CS))} (hf : f_X3_cancel σ x1 x2 = some res) (hk : ∀ k, res = .inl k → k = 1) : MwI l D κ ζ yL_cancel cL_cancel 5 (some .int) [(0, 18, 21, 21)] 9 1 6 ([.ref (A 0), .int x1, .int x2, .ref q] : List Value) L F (LwP κ A q (aftM σ res) L F (fun r w0 _ => (∀ k, res = .inl k → r = (1)) ∧ ∀ z, res = .inr z → r = 0 ∧ w0 = .long (if z.1 = 0 then 0 else 1))) := by
  refine MwI.of (by decide) (Nat.le_of_ble_eq_true rfl) ?_
  intro p e s m below meth c S hr hlk hxt hN hK hW hST ls hl
  have hl : lv_has ls 5 [(0, .ref (A 0)), (1, .int x1), (2, .int x2), (3, .ref q)] := hl
  obtain ⟨m_q, w0, w1, e_q⟩ := hO
  refine lv_aload_n S.1 S.2.1 dL_cancel_0 rfl (lv_at hl 3 rfl) ?_
  refine lv_aload_n S.1 S.2.1 dL_cancel_1 rfl (lv_at hl 0 rfl) ?_
  refine lv_iload_n S.1 S.2.1 dL_cancel_2 rfl (lv_at hl 1 rfl) ?_
  refine lv_iload_n S.1 S.2.1 dL_cancel_3 rfl (lv_at hl 2 rfl) ?_
  refine xk_cVI (As := [.int x1, .int x2]) (rest := [.ref q]) S hK hST hW (c_X3_cancel hst hI x1 x2 hf) mc_X3_cancel wd_763 wd_764 wd_765 rfl np_X3_cancel (hI.mem 0 (by decide)) hI.this rfl rfl hl.1 rfl (Nat.le_of_ble_eq_true rfl) dL_cancel_4 ⟨Nat.le_of_ble_eq_true rfl, Nat.le_of_ble_eq_true rfl⟩ ⟨Nat.le_of_ble_eq_true rfl, Nat.le_of_ble_eq_true rfl⟩ (fun E ce q9 H1 l1 hE hW h1 h2 h3 => ?_) (fun r L1 F1 H2 l2 hp hW => ?_)
  · obtain ⟨k, hk1, rfl⟩ := hE
    have hk0 := hk k hk1
    subst hk0
    subst hk1
    refine vx_catch (name := "java/lang/IllegalArgumentException") S.2.2.2.1 [] ⟨0, 18, 21, 21⟩ [] (by rw [hxt]; rfl) (fun _ h => absurd h List.not_mem_nil) (by decide) (by decide) (S.2.2.2.2 _ wd_349) (va_Nw.use rfl (hST.1.1 _ wn_17)) h1 h2 h3 ?_
    refine lv_astore (lv' := [(4, .ref q9), (0, .ref (A 0)), (1, .int x1), (2, .int x2), (3, .ref q)]) S.1 S.2.1 dL_cancel_21 hl (by decide) rfl (fun ls hl => ?_)
    refine lv_iconst (v := 1) S.1 S.2.1 dL_cancel_23 (by decide) ?_
    exact pk_iret S hr hlk hW ⟨fun x hx => hx, hI, ⟨w0, w1, e_q, ⟨fun k9 hk9 => (by cases hk9; rfl), fun z hz => (by cases hz)⟩⟩, fun x _ _ _ => rfl⟩ (by decide) (by decide) dL_cancel_24
  obtain ⟨rfl, z, hz, rfl, hI1, hFrA⟩ := hp
  subst hz
  have m_q1 := m_q
  have e_q1 : F1 q = _ := (hFrA q (fun i hi ee => hI.notO e_q i hi ee.symm)).trans e_q
  have hs1 : ∀ x ∈ L, x ∈ L := fun x hx => hx
  have hFr1 : ∀ x ∈ L, (∀ i, i < 18 → x ≠ A i) → F1 x = F x := fun x _ hA => hFrA x hA
  refine lv_if_eq (tgt := 14) S.1 S.2.1 dL_cancel_7 (by decide) (fun c1 => ?_) (fun c1 => ?_)
  · refine lv_lconst (v := 0) S.1 S.2.1 dL_cancel_14 rfl ?_
    refine pk_putN (v := .long 0) S hK hW 0 m_q1 e_q1 rfl hinX4 tyX4_ok nmX4 (by decide) (va_Nw.use rfl (hST.1.1 _ wn_8)) rfl rfl rfl rfl (Nat.le_of_ble_eq_true rfl) dL_cancel_15 (fun H3 l3 hW => ?_)
    refine lv_goto (tgt := 25) S.1 S.2.1 dL_cancel_18 (by decide) ?_
    refine lv_iconst (v := 0) S.1 S.2.1 dL_cancel_25 (by decide) ?_
    exact pk_iret S hr hlk hW ⟨hs1, hI1.keepA (fun x h => h) (fun i hi => up_ne (hI1.notO e_q1 i hi)), ⟨.long 0, w1, up_eq, ⟨fun k9 hk9 => (by cases hk9), fun z9 hz9 => by cases hz9; exact ⟨rfl, by rw [if_pos c1]⟩⟩⟩, fun x hx hA hq => (up_ne hq).trans (hFr1 x hx hA)⟩ (by decide) (by decide) dL_cancel_26
  · refine lv_lconst (v := 1) S.1 S.2.1 dL_cancel_10 rfl ?_
    refine lv_goto (tgt := 15) S.1 S.2.1 dL_cancel_11 (by decide) ?_
    refine pk_putN (v := .long 1) S hK hW 0 m_q1 e_q1 rfl hinX4 tyX4_ok nmX4 (by decide) (va_Nw.use rfl (hST.1.1 _ wn_8)) rfl rfl rfl rfl (Nat.le_of_ble_eq_true rfl) dL_cancel_15 (fun H3 l3 hW => ?_)
    refine lv_goto (tgt := 25) S.1 S.2.1 dL_cancel_18 (by decide) ?_
    refine lv_iconst (v := 0) S.1 S.2.1 dL_cancel_25 (by decide) ?_
    exact pk_iret S hr hlk hW ⟨hs1, hI1.keepA (fun x h => h) (fun i hi => up_ne (hI1.notO e_q1 i hi)), ⟨.long 1, w1, up_eq, ⟨fun k9 hk9 => (by cases hk9), fun z9 hz9 => by cases hz9; exact ⟨rfl, by rw [if_neg c1]⟩⟩⟩, fun x hx hA hq => (up_ne hq).trans (hFr1 x hx hA)⟩ (by decide) (by decide) dL_cancel_26
set_option maxHeartbeats 4000000 in
set_option maxRecDepth 100000 in
theorem c_L_ask {l : Launch} {D : va_G} {κ : Nat → ClassId} {ζ : Nat → Nat} {L : List Nat} {F : Nat → va_E} {σ : CS} {A : Nat → Nat} {q : Nat} (hst : l.stackTraces = false) (hI : CI κ A σ L F) (hO : OUT q L F) (x1 x2 : Int32) {res : (Nat ⊕ Int32)} (hf : f_X3_ask σ x1 x2 = some res) (hk : ∀ k, res = .inl k → k = 0 ∨ k = 1) : MwI l D κ ζ yL_ask cL_ask 5 (some .int) [(0, 11, 14, 19), (0, 11, 18, 21)] 9 2 12 ([.ref (A 0), .int x1, .int x2, .ref q] : List Value) L F (LwP κ A q (σ) L F (fun r w0 _ => (∀ k, res = .inl k → r = (if k = 0 then 1 else 2)) ∧ ∀ z, res = .inr z → r = 0 ∧ w0 = .long (Int32.toInt64 z))) := by
  refine MwI.of (by decide) (Nat.le_of_ble_eq_true rfl) ?_
  intro p e s m below meth c S hr hlk hxt hN hK hW hST ls hl
  have hl : lv_has ls 5 [(0, .ref (A 0)), (1, .int x1), (2, .int x2), (3, .ref q)] := hl
  obtain ⟨m_q, w0, w1, e_q⟩ := hO
  refine lv_aload_n S.1 S.2.1 dL_ask_0 rfl (lv_at hl 3 rfl) ?_
  refine lv_aload_n S.1 S.2.1 dL_ask_1 rfl (lv_at hl 0 rfl) ?_
  refine lv_iload_n S.1 S.2.1 dL_ask_2 rfl (lv_at hl 1 rfl) ?_
  refine lv_iload_n S.1 S.2.1 dL_ask_3 rfl (lv_at hl 2 rfl) ?_
  refine xk_cVI (As := [.int x1, .int x2]) (rest := [.ref q]) S hK hST hW (c_X3_ask hst hI x1 x2 hf) mc_X3_ask wd_773 wd_774 wd_775 rfl np_X3_ask (hI.mem 0 (by decide)) hI.this rfl rfl hl.1 rfl (Nat.le_of_ble_eq_true rfl) dL_ask_4 ⟨Nat.le_of_ble_eq_true rfl, Nat.le_of_ble_eq_true rfl⟩ ⟨Nat.le_of_ble_eq_true rfl, Nat.le_of_ble_eq_true rfl⟩ (fun E ce q9 H1 l1 hE hW h1 h2 h3 => ?_) (fun r L1 F1 H2 l2 hp hW => ?_)
  · obtain ⟨k, hk1, rfl⟩ := hE
    rcases hk k hk1 with rfl | rfl
    · subst hk1
      refine vx_catch (name := "java/lang/IndexOutOfBoundsException") S.2.2.2.1 [] ⟨0, 11, 14, 19⟩ [⟨0, 11, 18, 21⟩] (by rw [hxt]; rfl) (fun _ h => absurd h List.not_mem_nil) (by decide) (by decide) (S.2.2.2.2 _ wd_348) (va_Nw.use rfl (hST.1.1 _ wn_10)) h1 h2 h3 ?_
      refine lv_astore (lv' := [(4, .ref q9), (0, .ref (A 0)), (1, .int x1), (2, .int x2), (3, .ref q)]) S.1 S.2.1 dL_ask_14 hl (by decide) rfl (fun ls hl => ?_)
      refine lv_iconst (v := 1) S.1 S.2.1 dL_ask_16 (by decide) ?_
      exact pk_iret S hr hlk hW ⟨fun x hx => hx, hI, ⟨w0, w1, e_q, ⟨fun k9 hk9 => (by cases hk9; rfl), fun z hz => (by cases hz)⟩⟩, fun x _ _ _ => rfl⟩ (by decide) (by decide) dL_ask_17
    · subst hk1
      refine vx_catch (name := "java/lang/IllegalArgumentException") S.2.2.2.1 [⟨0, 11, 14, 19⟩] ⟨0, 11, 18, 21⟩ [] (by rw [hxt]; rfl) (List.forall_mem_cons.mpr ⟨Or.inr ⟨by decide, _, S.2.2.2.2 _ wd_348, hN 1 0 (by decide) (by decide) (by decide)⟩, fun _ h => absurd h List.not_mem_nil⟩) (by decide) (by decide) (S.2.2.2.2 _ wd_349) (va_Nw.use rfl (hST.1.1 _ wn_17)) h1 h2 h3 ?_
      refine lv_astore (lv' := [(4, .ref q9), (0, .ref (A 0)), (1, .int x1), (2, .int x2), (3, .ref q)]) S.1 S.2.1 dL_ask_18 hl (by decide) rfl (fun ls hl => ?_)
      refine lv_iconst (v := 2) S.1 S.2.1 dL_ask_20 (by decide) ?_
      exact pk_iret S hr hlk hW ⟨fun x hx => hx, hI, ⟨w0, w1, e_q, ⟨fun k9 hk9 => (by cases hk9; rfl), fun z hz => (by cases hz)⟩⟩, fun x _ _ _ => rfl⟩ (by decide) (by decide) dL_ask_21
  obtain ⟨rfl, rfl, z, hz, rfl⟩ := hp
  subst hz
  have hI1 := hI
  have m_q1 := m_q
  have e_q1 := e_q
  have hs1 : ∀ x ∈ L, x ∈ L := fun x hx => hx
  have hFr1 : ∀ x ∈ L, (∀ i, i < 18 → x ≠ A i) → F x = F x := fun x _ _ => rfl
  refine lv_i2l (v := Int32.toInt64 z) S.1 S.2.1 dL_ask_7 rfl ?_
  refine pk_putN (v := .long (Int32.toInt64 z)) S hK hW 0 m_q1 e_q1 rfl hinX4 tyX4_ok nmX4 (by decide) (va_Nw.use rfl (hST.1.1 _ wn_8)) rfl rfl rfl rfl (Nat.le_of_ble_eq_true rfl) dL_ask_8 (fun H3 l3 hW => ?_)
  refine lv_goto (tgt := 22) S.1 S.2.1 dL_ask_11 (by decide) ?_
  refine lv_iconst (v := 0) S.1 S.2.1 dL_ask_22 (by decide) ?_
  exact pk_iret S hr hlk hW ⟨hs1, hI1.keepA (fun x h => h) (fun i hi => up_ne (hI1.notO e_q1 i hi)), ⟨.long (Int32.toInt64 z), w1, up_eq, ⟨fun k9 hk9 => (by cases hk9), fun z9 hz9 => by cases hz9; exact ⟨rfl, rfl⟩⟩⟩, fun x hx hA hq => (up_ne hq).trans (hFr1 x hx hA)⟩ (by decide) (by decide) dL_ask_23
set_option maxHeartbeats 4000000 in
set_option maxRecDepth 100000 in
theorem c_L_ofTrack {l : Launch} {D : va_G} {κ : Nat → ClassId} {ζ : Nat → Nat} {L : List Nat} {F : Nat → va_E} {σ : CS} {A : Nat → Nat} {q : Nat} (hst : l.stackTraces = false) (hI : CI κ A σ L F) (hO : OUT q L F) (x1 x2 : Int32) {res : (Nat ⊕ Int32)} (hf : f_X3_ofTrack σ x1 x2 = some res) (hk : ∀ k, res = .inl k → k = 0 ∨ k = 1) : MwI l D κ ζ yL_ofTrack cL_ofTrack 5 (some .int) [(0, 11, 14, 19), (0, 11, 18, 21)] 9 2 12 ([.ref (A 0), .int x1, .int x2, .ref q] : List Value) L F (LwP κ A q (σ) L F (fun r w0 _ => (∀ k, res = .inl k → r = (if k = 0 then 1 else 2)) ∧ ∀ z, res = .inr z → r = 0 ∧ w0 = .long (Int32.toInt64 z))) := by
  refine MwI.of (by decide) (Nat.le_of_ble_eq_true rfl) ?_
  intro p e s m below meth c S hr hlk hxt hN hK hW hST ls hl
  have hl : lv_has ls 5 [(0, .ref (A 0)), (1, .int x1), (2, .int x2), (3, .ref q)] := hl
  obtain ⟨m_q, w0, w1, e_q⟩ := hO
  refine lv_aload_n S.1 S.2.1 dL_ofTrack_0 rfl (lv_at hl 3 rfl) ?_
  refine lv_aload_n S.1 S.2.1 dL_ofTrack_1 rfl (lv_at hl 0 rfl) ?_
  refine lv_iload_n S.1 S.2.1 dL_ofTrack_2 rfl (lv_at hl 1 rfl) ?_
  refine lv_iload_n S.1 S.2.1 dL_ofTrack_3 rfl (lv_at hl 2 rfl) ?_
  refine xk_cVI (As := [.int x1, .int x2]) (rest := [.ref q]) S hK hST hW (c_X3_ofTrack hst hI x1 x2 hf) mc_X3_ofTrack wd_779 wd_780 wd_781 rfl np_X3_ofTrack (hI.mem 0 (by decide)) hI.this rfl rfl hl.1 rfl (Nat.le_of_ble_eq_true rfl) dL_ofTrack_4 ⟨Nat.le_of_ble_eq_true rfl, Nat.le_of_ble_eq_true rfl⟩ ⟨Nat.le_of_ble_eq_true rfl, Nat.le_of_ble_eq_true rfl⟩ (fun E ce q9 H1 l1 hE hW h1 h2 h3 => ?_) (fun r L1 F1 H2 l2 hp hW => ?_)
  · obtain ⟨k, hk1, rfl⟩ := hE
    rcases hk k hk1 with rfl | rfl
    · subst hk1
      refine vx_catch (name := "java/lang/IndexOutOfBoundsException") S.2.2.2.1 [] ⟨0, 11, 14, 19⟩ [⟨0, 11, 18, 21⟩] (by rw [hxt]; rfl) (fun _ h => absurd h List.not_mem_nil) (by decide) (by decide) (S.2.2.2.2 _ wd_348) (va_Nw.use rfl (hST.1.1 _ wn_10)) h1 h2 h3 ?_
      refine lv_astore (lv' := [(4, .ref q9), (0, .ref (A 0)), (1, .int x1), (2, .int x2), (3, .ref q)]) S.1 S.2.1 dL_ofTrack_14 hl (by decide) rfl (fun ls hl => ?_)
      refine lv_iconst (v := 1) S.1 S.2.1 dL_ofTrack_16 (by decide) ?_
      exact pk_iret S hr hlk hW ⟨fun x hx => hx, hI, ⟨w0, w1, e_q, ⟨fun k9 hk9 => (by cases hk9; rfl), fun z hz => (by cases hz)⟩⟩, fun x _ _ _ => rfl⟩ (by decide) (by decide) dL_ofTrack_17
    · subst hk1
      refine vx_catch (name := "java/lang/IllegalArgumentException") S.2.2.2.1 [⟨0, 11, 14, 19⟩] ⟨0, 11, 18, 21⟩ [] (by rw [hxt]; rfl) (List.forall_mem_cons.mpr ⟨Or.inr ⟨by decide, _, S.2.2.2.2 _ wd_348, hN 1 0 (by decide) (by decide) (by decide)⟩, fun _ h => absurd h List.not_mem_nil⟩) (by decide) (by decide) (S.2.2.2.2 _ wd_349) (va_Nw.use rfl (hST.1.1 _ wn_17)) h1 h2 h3 ?_
      refine lv_astore (lv' := [(4, .ref q9), (0, .ref (A 0)), (1, .int x1), (2, .int x2), (3, .ref q)]) S.1 S.2.1 dL_ofTrack_18 hl (by decide) rfl (fun ls hl => ?_)
      refine lv_iconst (v := 2) S.1 S.2.1 dL_ofTrack_20 (by decide) ?_
      exact pk_iret S hr hlk hW ⟨fun x hx => hx, hI, ⟨w0, w1, e_q, ⟨fun k9 hk9 => (by cases hk9; rfl), fun z hz => (by cases hz)⟩⟩, fun x _ _ _ => rfl⟩ (by decide) (by decide) dL_ofTrack_21
  obtain ⟨rfl, rfl, z, hz, rfl⟩ := hp
  subst hz
  have hI1 := hI
  have m_q1 := m_q
  have e_q1 := e_q
  have hs1 : ∀ x ∈ L, x ∈ L := fun x hx => hx
  have hFr1 : ∀ x ∈ L, (∀ i, i < 18 → x ≠ A i) → F x = F x := fun x _ _ => rfl
  refine lv_i2l (v := Int32.toInt64 z) S.1 S.2.1 dL_ofTrack_7 rfl ?_
  refine pk_putN (v := .long (Int32.toInt64 z)) S hK hW 0 m_q1 e_q1 rfl hinX4 tyX4_ok nmX4 (by decide) (va_Nw.use rfl (hST.1.1 _ wn_8)) rfl rfl rfl rfl (Nat.le_of_ble_eq_true rfl) dL_ofTrack_8 (fun H3 l3 hW => ?_)
  refine lv_goto (tgt := 22) S.1 S.2.1 dL_ofTrack_11 (by decide) ?_
  refine lv_iconst (v := 0) S.1 S.2.1 dL_ofTrack_22 (by decide) ?_
  exact pk_iret S hr hlk hW ⟨hs1, hI1.keepA (fun x h => h) (fun i hi => up_ne (hI1.notO e_q1 i hi)), ⟨.long (Int32.toInt64 z), w1, up_eq, ⟨fun k9 hk9 => (by cases hk9), fun z9 hz9 => by cases hz9; exact ⟨rfl, rfl⟩⟩⟩, fun x hx hA hq => (up_ne hq).trans (hFr1 x hx hA)⟩ (by decide) (by decide) dL_ofTrack_23
set_option maxHeartbeats 4000000 in
set_option maxRecDepth 100000 in
theorem c_L_has {l : Launch} {D : va_G} {κ : Nat → ClassId} {ζ : Nat → Nat} {L : List Nat} {F : Nat → va_E} {σ : CS} {A : Nat → Nat} {q : Nat} (hst : l.stackTraces = false) (hI : CI κ A σ L F) (hO : OUT q L F) (x1 x2 : Int32) {res : (Nat ⊕ Int32)} (hf : f_X3_has σ x1 x2 = some res) (hk : ∀ k, res = .inl k → k = 0 ∨ k = 1) : MwI l D κ ζ yL_has cL_has 5 (some .int) [(0, 18, 21, 19), (0, 18, 25, 21)] 10 2 12 ([.ref (A 0), .int x1, .int x2, .ref q] : List Value) L F (LwP κ A q (σ) L F (fun r w0 _ => (∀ k, res = .inl k → r = (if k = 0 then 1 else 2)) ∧ ∀ z, res = .inr z → r = 0 ∧ w0 = .long (if z = 0 then 0 else 1))) := by
  refine MwI.of (by decide) (Nat.le_of_ble_eq_true rfl) ?_
  intro p e s m below meth c S hr hlk hxt hN hK hW hST ls hl
  have hl : lv_has ls 5 [(0, .ref (A 0)), (1, .int x1), (2, .int x2), (3, .ref q)] := hl
  obtain ⟨m_q, w0, w1, e_q⟩ := hO
  refine lv_aload_n S.1 S.2.1 dL_has_0 rfl (lv_at hl 3 rfl) ?_
  refine lv_aload_n S.1 S.2.1 dL_has_1 rfl (lv_at hl 0 rfl) ?_
  refine lv_iload_n S.1 S.2.1 dL_has_2 rfl (lv_at hl 1 rfl) ?_
  refine lv_iload_n S.1 S.2.1 dL_has_3 rfl (lv_at hl 2 rfl) ?_
  refine xk_cVI (As := [.int x1, .int x2]) (rest := [.ref q]) S hK hST hW (c_X3_has hst hI x1 x2 hf) mc_X3_has wd_785 wd_786 wd_787 rfl np_X3_has (hI.mem 0 (by decide)) hI.this rfl rfl hl.1 rfl (Nat.le_of_ble_eq_true rfl) dL_has_4 ⟨Nat.le_of_ble_eq_true rfl, Nat.le_of_ble_eq_true rfl⟩ ⟨Nat.le_of_ble_eq_true rfl, Nat.le_of_ble_eq_true rfl⟩ (fun E ce q9 H1 l1 hE hW h1 h2 h3 => ?_) (fun r L1 F1 H2 l2 hp hW => ?_)
  · obtain ⟨k, hk1, rfl⟩ := hE
    rcases hk k hk1 with rfl | rfl
    · subst hk1
      refine vx_catch (name := "java/lang/IndexOutOfBoundsException") S.2.2.2.1 [] ⟨0, 18, 21, 19⟩ [⟨0, 18, 25, 21⟩] (by rw [hxt]; rfl) (fun _ h => absurd h List.not_mem_nil) (by decide) (by decide) (S.2.2.2.2 _ wd_348) (va_Nw.use rfl (hST.1.1 _ wn_10)) h1 h2 h3 ?_
      refine lv_astore (lv' := [(4, .ref q9), (0, .ref (A 0)), (1, .int x1), (2, .int x2), (3, .ref q)]) S.1 S.2.1 dL_has_21 hl (by decide) rfl (fun ls hl => ?_)
      refine lv_iconst (v := 1) S.1 S.2.1 dL_has_23 (by decide) ?_
      exact pk_iret S hr hlk hW ⟨fun x hx => hx, hI, ⟨w0, w1, e_q, ⟨fun k9 hk9 => (by cases hk9; rfl), fun z hz => (by cases hz)⟩⟩, fun x _ _ _ => rfl⟩ (by decide) (by decide) dL_has_24
    · subst hk1
      refine vx_catch (name := "java/lang/IllegalArgumentException") S.2.2.2.1 [⟨0, 18, 21, 19⟩] ⟨0, 18, 25, 21⟩ [] (by rw [hxt]; rfl) (List.forall_mem_cons.mpr ⟨Or.inr ⟨by decide, _, S.2.2.2.2 _ wd_348, hN 1 0 (by decide) (by decide) (by decide)⟩, fun _ h => absurd h List.not_mem_nil⟩) (by decide) (by decide) (S.2.2.2.2 _ wd_349) (va_Nw.use rfl (hST.1.1 _ wn_17)) h1 h2 h3 ?_
      refine lv_astore (lv' := [(4, .ref q9), (0, .ref (A 0)), (1, .int x1), (2, .int x2), (3, .ref q)]) S.1 S.2.1 dL_has_25 hl (by decide) rfl (fun ls hl => ?_)
      refine lv_iconst (v := 2) S.1 S.2.1 dL_has_27 (by decide) ?_
      exact pk_iret S hr hlk hW ⟨fun x hx => hx, hI, ⟨w0, w1, e_q, ⟨fun k9 hk9 => (by cases hk9; rfl), fun z hz => (by cases hz)⟩⟩, fun x _ _ _ => rfl⟩ (by decide) (by decide) dL_has_28
  obtain ⟨rfl, rfl, z, hz, rfl⟩ := hp
  subst hz
  have hI1 := hI
  have m_q1 := m_q
  have e_q1 := e_q
  have hs1 : ∀ x ∈ L, x ∈ L := fun x hx => hx
  have hFr1 : ∀ x ∈ L, (∀ i, i < 18 → x ≠ A i) → F x = F x := fun x _ _ => rfl
  refine lv_if_eq (tgt := 14) S.1 S.2.1 dL_has_7 (by decide) (fun c1 => ?_) (fun c1 => ?_)
  · refine lv_lconst (v := 0) S.1 S.2.1 dL_has_14 rfl ?_
    refine pk_putN (v := .long 0) S hK hW 0 m_q1 e_q1 rfl hinX4 tyX4_ok nmX4 (by decide) (va_Nw.use rfl (hST.1.1 _ wn_8)) rfl rfl rfl rfl (Nat.le_of_ble_eq_true rfl) dL_has_15 (fun H3 l3 hW => ?_)
    refine lv_goto (tgt := 29) S.1 S.2.1 dL_has_18 (by decide) ?_
    refine lv_iconst (v := 0) S.1 S.2.1 dL_has_29 (by decide) ?_
    exact pk_iret S hr hlk hW ⟨hs1, hI1.keepA (fun x h => h) (fun i hi => up_ne (hI1.notO e_q1 i hi)), ⟨.long 0, w1, up_eq, ⟨fun k9 hk9 => (by cases hk9), fun z9 hz9 => by cases hz9; exact ⟨rfl, by rw [if_pos c1]⟩⟩⟩, fun x hx hA hq => (up_ne hq).trans (hFr1 x hx hA)⟩ (by decide) (by decide) dL_has_30
  · refine lv_lconst (v := 1) S.1 S.2.1 dL_has_10 rfl ?_
    refine lv_goto (tgt := 15) S.1 S.2.1 dL_has_11 (by decide) ?_
    refine pk_putN (v := .long 1) S hK hW 0 m_q1 e_q1 rfl hinX4 tyX4_ok nmX4 (by decide) (va_Nw.use rfl (hST.1.1 _ wn_8)) rfl rfl rfl rfl (Nat.le_of_ble_eq_true rfl) dL_has_15 (fun H3 l3 hW => ?_)
    refine lv_goto (tgt := 29) S.1 S.2.1 dL_has_18 (by decide) ?_
    refine lv_iconst (v := 0) S.1 S.2.1 dL_has_29 (by decide) ?_
    exact pk_iret S hr hlk hW ⟨hs1, hI1.keepA (fun x h => h) (fun i hi => up_ne (hI1.notO e_q1 i hi)), ⟨.long 1, w1, up_eq, ⟨fun k9 hk9 => (by cases hk9), fun z9 hz9 => by cases hz9; exact ⟨rfl, by rw [if_neg c1]⟩⟩⟩, fun x hx hA hq => (up_ne hq).trans (hFr1 x hx hA)⟩ (by decide) (by decide) dL_has_30
set_option maxHeartbeats 4000000 in
set_option maxRecDepth 100000 in
theorem c_L_text {l : Launch} {D : va_G} {κ : Nat → ClassId} {ζ : Nat → Nat} {L : List Nat} {F : Nat → va_E} {σ : CS} {A : Nat → Nat} {q : Nat} (hst : l.stackTraces = false) (hI : CI κ A σ L F) (hO : OUT q L F) (x1 x2 : Int32) (hcn : ∀ i, i < 2 → ∃ k, k ≤ 20 ∧ (σ.1 i).2 = nI k) (hcc : ∀ i, i < 2 → ∀ u p, ∃ v, v < 1000 ∧ f_X0_readFrom (cap i) (σ.1 i) u p = some (nI v)) (hk : ∀ k, f_X3_needTrack x1 = some (.inl k) → k = 0) : MwI l D κ ζ yL_text cL_text 5 (some .int) [(0, 10, 13, 19)] 9 13 400 ([.ref (A 0), .int x1, .int x2, .ref q] : List Value) L F (LwP κ A q (σ) L F (fun _ _ _ => True)) := by
  refine MwI.of (by decide) (Nat.le_of_ble_eq_true rfl) ?_
  intro p e s m below meth c S hr hlk hxt hN hK hW hST ls hl
  have hl : lv_has ls 5 [(0, .ref (A 0)), (1, .int x1), (2, .int x2), (3, .ref q)] := hl
  obtain ⟨m_q, w0, w1, e_q⟩ := hO
  refine lv_aload_n S.1 S.2.1 dL_text_0 rfl (lv_at hl 3 rfl) ?_
  refine lv_aload_n S.1 S.2.1 dL_text_1 rfl (lv_at hl 0 rfl) ?_
  refine lv_iload_n S.1 S.2.1 dL_text_2 rfl (lv_at hl 1 rfl) ?_
  refine lv_iload_n S.1 S.2.1 dL_text_3 rfl (lv_at hl 2 rfl) ?_
  refine xk_cVR (As := [.int x1, .int x2]) (rest := [.ref q]) S hK hST hW (c_X3_text hst hI x1 x2 hcn hcc) mc_X3_text wd_791 wd_792 wd_793 rfl np_X3_text (hI.mem 0 (by decide)) hI.this rfl rfl hl.1 rfl (Nat.le_of_ble_eq_true rfl) dL_text_4 ⟨Nat.le_of_ble_eq_true rfl, Nat.le_of_ble_eq_true rfl⟩ ⟨Nat.le_of_ble_eq_true rfl, Nat.le_of_ble_eq_true rfl⟩ (fun E ce q9 H1 l1 hE hW h1 h2 h3 => ?_) (fun r L1 F1 H2 l2 hp hW => ?_)
  · obtain ⟨k, hk1, rfl⟩ := hE
    have hk0 := hk k hk1
    subst hk0
    refine vx_catch (name := "java/lang/IndexOutOfBoundsException") S.2.2.2.1 [] ⟨0, 10, 13, 19⟩ [] (by rw [hxt]; rfl) (fun _ h => absurd h List.not_mem_nil) (by decide) (by decide) (S.2.2.2.2 _ wd_348) (va_Nw.use rfl (hST.1.1 _ wn_10)) h1 h2 h3 ?_
    refine lv_astore (lv' := [(4, .ref q9), (0, .ref (A 0)), (1, .int x1), (2, .int x2), (3, .ref q)]) S.1 S.2.1 dL_text_13 hl (by decide) rfl (fun ls hl => ?_)
    refine lv_iconst (v := 1) S.1 S.2.1 dL_text_15 (by decide) ?_
    exact pk_iret S hr hlk hW ⟨fun x hx => hx, hI, ⟨w0, w1, e_q, trivial⟩, fun x _ _ _ => rfl⟩ (by decide) (by decide) dL_text_16
  obtain ⟨hs1, -, hf1⟩ := hp
  have hI1 := hI.keep hs1 hf1
  have m_q1 := hs1 _ m_q
  have e_q1 : F1 q = _ := (hf1 q m_q).trans e_q
  have hFr1 : ∀ x ∈ L, (∀ i, i < 18 → x ≠ A i) → F1 x = F x := fun x hx _ => hf1 x hx
  refine pk_putN (v := .ref r) S hK hW 1 m_q1 e_q1 rfl hinX4 tyX4_ok nmX4 (by decide) (va_Nw.use rfl (hST.1.1 _ wn_9)) rfl rfl rfl rfl (Nat.le_of_ble_eq_true rfl) dL_text_7 (fun H3 l3 hW => ?_)
  refine lv_goto (tgt := 17) S.1 S.2.1 dL_text_10 (by decide) ?_
  refine lv_iconst (v := 0) S.1 S.2.1 dL_text_17 (by decide) ?_
  exact pk_iret S hr hlk hW ⟨hs1, hI1.keepA (fun x h => h) (fun i hi => up_ne (hI1.notO e_q1 i hi)), ⟨w0, .ref r, up_eq, trivial⟩, fun x hx hA hq => (up_ne hq).trans (hFr1 x hx hA)⟩ (by decide) (by decide) dL_text_18
set_option maxHeartbeats 4000000 in
set_option maxRecDepth 100000 in
theorem c_L_nested {l : Launch} {D : va_G} {κ : Nat → ClassId} {ζ : Nat → Nat} {L : List Nat} {F : Nat → va_E} {σ : CS} {A : Nat → Nat} {q : Nat} (hst : l.stackTraces = false) (hI : CI κ A σ L F) (hO : OUT q L F) (x1 : Int32) {res : (Nat ⊕ (Int32 × CS))} (hf : f_X3_nested σ x1 = some res) (hk : ∀ k, res = .inl k → k = 0) : MwI l D κ ζ yL_nested cL_nested 4 (some .int) [(0, 10, 13, 19)] 9 1 6 ([.ref (A 0), .int x1, .ref q] : List Value) L F (LwP κ A q (aftM σ res) L F (fun r w0 _ => (∀ k, res = .inl k → r = (1)) ∧ ∀ z, res = .inr z → r = 0 ∧ w0 = .long (Int32.toInt64 z.1))) := by
  refine MwI.of (by decide) (Nat.le_of_ble_eq_true rfl) ?_
  intro p e s m below meth c S hr hlk hxt hN hK hW hST ls hl
  have hl : lv_has ls 4 [(0, .ref (A 0)), (1, .int x1), (2, .ref q)] := hl
  obtain ⟨m_q, w0, w1, e_q⟩ := hO
  refine lv_aload_n S.1 S.2.1 dL_nested_0 rfl (lv_at hl 2 rfl) ?_
  refine lv_aload_n S.1 S.2.1 dL_nested_1 rfl (lv_at hl 0 rfl) ?_
  refine lv_iload_n S.1 S.2.1 dL_nested_2 rfl (lv_at hl 1 rfl) ?_
  refine xk_cVI (As := [.int x1]) (rest := [.ref q]) S hK hST hW (c_X3_nested hst hI x1 hf) mc_X3_nested wd_1042 wd_1043 wd_1044 rfl np_X3_nested (hI.mem 0 (by decide)) hI.this rfl rfl hl.1 rfl (Nat.le_of_ble_eq_true rfl) dL_nested_3 ⟨Nat.le_of_ble_eq_true rfl, Nat.le_of_ble_eq_true rfl⟩ ⟨Nat.le_of_ble_eq_true rfl, Nat.le_of_ble_eq_true rfl⟩ (fun E ce q9 H1 l1 hE hW h1 h2 h3 => ?_) (fun r L1 F1 H2 l2 hp hW => ?_)
  · obtain ⟨k, hk1, rfl⟩ := hE
    have hk0 := hk k hk1
    subst hk0
    subst hk1
    refine vx_catch (name := "java/lang/IndexOutOfBoundsException") S.2.2.2.1 [] ⟨0, 10, 13, 19⟩ [] (by rw [hxt]; rfl) (fun _ h => absurd h List.not_mem_nil) (by decide) (by decide) (S.2.2.2.2 _ wd_348) (va_Nw.use rfl (hST.1.1 _ wn_10)) h1 h2 h3 ?_
    refine lv_astore_n (lv' := [(3, .ref q9), (0, .ref (A 0)), (1, .int x1), (2, .ref q)]) S.1 S.2.1 dL_nested_13 rfl hl (by decide) rfl (fun ls hl => ?_)
    refine lv_iconst (v := 1) S.1 S.2.1 dL_nested_14 (by decide) ?_
    exact pk_iret S hr hlk hW ⟨fun x hx => hx, hI, ⟨w0, w1, e_q, ⟨fun k9 hk9 => (by cases hk9; rfl), fun z hz => (by cases hz)⟩⟩, fun x _ _ _ => rfl⟩ (by decide) (by decide) dL_nested_15
  obtain ⟨rfl, z, hz, rfl, hI1, hFrA⟩ := hp
  subst hz
  have m_q1 := m_q
  have e_q1 : F1 q = _ := (hFrA q (fun i hi ee => hI.notO e_q i hi ee.symm)).trans e_q
  have hs1 : ∀ x ∈ L, x ∈ L := fun x hx => hx
  have hFr1 : ∀ x ∈ L, (∀ i, i < 18 → x ≠ A i) → F1 x = F x := fun x _ hA => hFrA x hA
  refine lv_i2l (v := Int32.toInt64 z.1) S.1 S.2.1 dL_nested_6 rfl ?_
  refine pk_putN (v := .long (Int32.toInt64 z.1)) S hK hW 0 m_q1 e_q1 rfl hinX4 tyX4_ok nmX4 (by decide) (va_Nw.use rfl (hST.1.1 _ wn_8)) rfl rfl rfl rfl (Nat.le_of_ble_eq_true rfl) dL_nested_7 (fun H3 l3 hW => ?_)
  refine lv_goto (tgt := 16) S.1 S.2.1 dL_nested_10 (by decide) ?_
  refine lv_iconst (v := 0) S.1 S.2.1 dL_nested_16 (by decide) ?_
  exact pk_iret S hr hlk hW ⟨hs1, hI1.keepA (fun x h => h) (fun i hi => up_ne (hI1.notO e_q1 i hi)), ⟨.long (Int32.toInt64 z.1), w1, up_eq, ⟨fun k9 hk9 => (by cases hk9), fun z9 hz9 => by cases hz9; exact ⟨rfl, rfl⟩⟩⟩, fun x hx hA hq => (up_ne hq).trans (hFr1 x hx hA)⟩ (by decide) (by decide) dL_nested_17
set_option maxHeartbeats 4000000 in
set_option maxRecDepth 100000 in
theorem c_L_heaviest {l : Launch} {D : va_G} {κ : Nat → ClassId} {ζ : Nat → Nat} {L : List Nat} {F : Nat → va_E} {σ : CS} {A : Nat → Nat} {q : Nat} (hst : l.stackTraces = false) (hI : CI κ A σ L F) (hO : OUT q L F) (x1 x2 x3 : Int32) {res : (Nat ⊕ Int32)} (hf : f_X3_heaviest σ x1 x2 x3 = some res) (hk : ∀ k, res = .inl k → k = 0 ∨ k = 1) : MwI l D κ ζ yL_heaviest cL_heaviest 6 (some .int) [(0, 13, 16, 19), (0, 13, 20, 21)] 9 3 18 ([.ref (A 0), .int x1, .int x2, .int x3, .ref q] : List Value) L F (LwP κ A q (σ) L F (fun r w0 _ => (∀ k, res = .inl k → r = (if k = 0 then 1 else 2)) ∧ ∀ z, res = .inr z → r = 0 ∧ w0 = .long (Int32.toInt64 z))) := by
  refine MwI.of (by decide) (Nat.le_of_ble_eq_true rfl) ?_
  intro p e s m below meth c S hr hlk hxt hN hK hW hST ls hl
  have hl : lv_has ls 6 [(0, .ref (A 0)), (1, .int x1), (2, .int x2), (3, .int x3), (4, .ref q)] := hl
  obtain ⟨m_q, w0, w1, e_q⟩ := hO
  refine lv_aload S.1 S.2.1 dL_heaviest_0 (lv_at hl 4 rfl) ?_
  refine lv_aload_n S.1 S.2.1 dL_heaviest_2 rfl (lv_at hl 0 rfl) ?_
  refine lv_iload_n S.1 S.2.1 dL_heaviest_3 rfl (lv_at hl 1 rfl) ?_
  refine lv_iload_n S.1 S.2.1 dL_heaviest_4 rfl (lv_at hl 2 rfl) ?_
  refine lv_iload_n S.1 S.2.1 dL_heaviest_5 rfl (lv_at hl 3 rfl) ?_
  refine xk_cVI (As := [.int x1, .int x2, .int x3]) (rest := [.ref q]) S hK hST hW (c_X3_heaviest hst hI x1 x2 x3 hf) mc_X3_heaviest wd_1048 wd_1049 wd_1050 rfl np_X3_heaviest (hI.mem 0 (by decide)) hI.this rfl rfl hl.1 rfl (Nat.le_of_ble_eq_true rfl) dL_heaviest_6 ⟨Nat.le_of_ble_eq_true rfl, Nat.le_of_ble_eq_true rfl⟩ ⟨Nat.le_of_ble_eq_true rfl, Nat.le_of_ble_eq_true rfl⟩ (fun E ce q9 H1 l1 hE hW h1 h2 h3 => ?_) (fun r L1 F1 H2 l2 hp hW => ?_)
  · obtain ⟨k, hk1, rfl⟩ := hE
    rcases hk k hk1 with rfl | rfl
    · subst hk1
      refine vx_catch (name := "java/lang/IndexOutOfBoundsException") S.2.2.2.1 [] ⟨0, 13, 16, 19⟩ [⟨0, 13, 20, 21⟩] (by rw [hxt]; rfl) (fun _ h => absurd h List.not_mem_nil) (by decide) (by decide) (S.2.2.2.2 _ wd_348) (va_Nw.use rfl (hST.1.1 _ wn_10)) h1 h2 h3 ?_
      refine lv_astore (lv' := [(5, .ref q9), (0, .ref (A 0)), (1, .int x1), (2, .int x2), (3, .int x3), (4, .ref q)]) S.1 S.2.1 dL_heaviest_16 hl (by decide) rfl (fun ls hl => ?_)
      refine lv_iconst (v := 1) S.1 S.2.1 dL_heaviest_18 (by decide) ?_
      exact pk_iret S hr hlk hW ⟨fun x hx => hx, hI, ⟨w0, w1, e_q, ⟨fun k9 hk9 => (by cases hk9; rfl), fun z hz => (by cases hz)⟩⟩, fun x _ _ _ => rfl⟩ (by decide) (by decide) dL_heaviest_19
    · subst hk1
      refine vx_catch (name := "java/lang/IllegalArgumentException") S.2.2.2.1 [⟨0, 13, 16, 19⟩] ⟨0, 13, 20, 21⟩ [] (by rw [hxt]; rfl) (List.forall_mem_cons.mpr ⟨Or.inr ⟨by decide, _, S.2.2.2.2 _ wd_348, hN 1 0 (by decide) (by decide) (by decide)⟩, fun _ h => absurd h List.not_mem_nil⟩) (by decide) (by decide) (S.2.2.2.2 _ wd_349) (va_Nw.use rfl (hST.1.1 _ wn_17)) h1 h2 h3 ?_
      refine lv_astore (lv' := [(5, .ref q9), (0, .ref (A 0)), (1, .int x1), (2, .int x2), (3, .int x3), (4, .ref q)]) S.1 S.2.1 dL_heaviest_20 hl (by decide) rfl (fun ls hl => ?_)
      refine lv_iconst (v := 2) S.1 S.2.1 dL_heaviest_22 (by decide) ?_
      exact pk_iret S hr hlk hW ⟨fun x hx => hx, hI, ⟨w0, w1, e_q, ⟨fun k9 hk9 => (by cases hk9; rfl), fun z hz => (by cases hz)⟩⟩, fun x _ _ _ => rfl⟩ (by decide) (by decide) dL_heaviest_23
  obtain ⟨rfl, rfl, z, hz, rfl⟩ := hp
  subst hz
  have hI1 := hI
  have m_q1 := m_q
  have e_q1 := e_q
  have hs1 : ∀ x ∈ L, x ∈ L := fun x hx => hx
  have hFr1 : ∀ x ∈ L, (∀ i, i < 18 → x ≠ A i) → F x = F x := fun x _ _ => rfl
  refine lv_i2l (v := Int32.toInt64 z) S.1 S.2.1 dL_heaviest_9 rfl ?_
  refine pk_putN (v := .long (Int32.toInt64 z)) S hK hW 0 m_q1 e_q1 rfl hinX4 tyX4_ok nmX4 (by decide) (va_Nw.use rfl (hST.1.1 _ wn_8)) rfl rfl rfl rfl (Nat.le_of_ble_eq_true rfl) dL_heaviest_10 (fun H3 l3 hW => ?_)
  refine lv_goto (tgt := 24) S.1 S.2.1 dL_heaviest_13 (by decide) ?_
  refine lv_iconst (v := 0) S.1 S.2.1 dL_heaviest_24 (by decide) ?_
  exact pk_iret S hr hlk hW ⟨hs1, hI1.keepA (fun x h => h) (fun i hi => up_ne (hI1.notO e_q1 i hi)), ⟨.long (Int32.toInt64 z), w1, up_eq, ⟨fun k9 hk9 => (by cases hk9), fun z9 hz9 => by cases hz9; exact ⟨rfl, rfl⟩⟩⟩, fun x hx hA hq => (up_ne hq).trans (hFr1 x hx hA)⟩ (by decide) (by decide) dL_heaviest_25
set_option maxHeartbeats 4000000 in
set_option maxRecDepth 100000 in
theorem c_L_ahead {l : Launch} {D : va_G} {κ : Nat → ClassId} {ζ : Nat → Nat} {L : List Nat} {F : Nat → va_E} {σ : CS} {A : Nat → Nat} {q : Nat} (hst : l.stackTraces = false) (hI : CI κ A σ L F) (hO : OUT q L F) (x1 x2 : Int32) {res : (Nat ⊕ Int32)} (hf : f_X3_ahead σ x1 x2 = some res) (hk : ∀ k, res = .inl k → k = 0) : MwI l D κ ζ yL_ahead cL_ahead 5 (some .int) [(0, 11, 14, 19)] 9 2 12 ([.ref (A 0), .int x1, .int x2, .ref q] : List Value) L F (LwP κ A q (σ) L F (fun r w0 _ => (∀ k, res = .inl k → r = (1)) ∧ ∀ z, res = .inr z → r = 0 ∧ w0 = .long (Int32.toInt64 z))) := by
  refine MwI.of (by decide) (Nat.le_of_ble_eq_true rfl) ?_
  intro p e s m below meth c S hr hlk hxt hN hK hW hST ls hl
  have hl : lv_has ls 5 [(0, .ref (A 0)), (1, .int x1), (2, .int x2), (3, .ref q)] := hl
  obtain ⟨m_q, w0, w1, e_q⟩ := hO
  refine lv_aload_n S.1 S.2.1 dL_ahead_0 rfl (lv_at hl 3 rfl) ?_
  refine lv_aload_n S.1 S.2.1 dL_ahead_1 rfl (lv_at hl 0 rfl) ?_
  refine lv_iload_n S.1 S.2.1 dL_ahead_2 rfl (lv_at hl 1 rfl) ?_
  refine lv_iload_n S.1 S.2.1 dL_ahead_3 rfl (lv_at hl 2 rfl) ?_
  refine xk_cVI (As := [.int x1, .int x2]) (rest := [.ref q]) S hK hST hW (c_X3_ahead hst hI x1 x2 hf) mc_X3_ahead wd_1054 wd_1055 wd_1056 rfl np_X3_ahead (hI.mem 0 (by decide)) hI.this rfl rfl hl.1 rfl (Nat.le_of_ble_eq_true rfl) dL_ahead_4 ⟨Nat.le_of_ble_eq_true rfl, Nat.le_of_ble_eq_true rfl⟩ ⟨Nat.le_of_ble_eq_true rfl, Nat.le_of_ble_eq_true rfl⟩ (fun E ce q9 H1 l1 hE hW h1 h2 h3 => ?_) (fun r L1 F1 H2 l2 hp hW => ?_)
  · obtain ⟨k, hk1, rfl⟩ := hE
    have hk0 := hk k hk1
    subst hk0
    subst hk1
    refine vx_catch (name := "java/lang/IndexOutOfBoundsException") S.2.2.2.1 [] ⟨0, 11, 14, 19⟩ [] (by rw [hxt]; rfl) (fun _ h => absurd h List.not_mem_nil) (by decide) (by decide) (S.2.2.2.2 _ wd_348) (va_Nw.use rfl (hST.1.1 _ wn_10)) h1 h2 h3 ?_
    refine lv_astore (lv' := [(4, .ref q9), (0, .ref (A 0)), (1, .int x1), (2, .int x2), (3, .ref q)]) S.1 S.2.1 dL_ahead_14 hl (by decide) rfl (fun ls hl => ?_)
    refine lv_iconst (v := 1) S.1 S.2.1 dL_ahead_16 (by decide) ?_
    exact pk_iret S hr hlk hW ⟨fun x hx => hx, hI, ⟨w0, w1, e_q, ⟨fun k9 hk9 => (by cases hk9; rfl), fun z hz => (by cases hz)⟩⟩, fun x _ _ _ => rfl⟩ (by decide) (by decide) dL_ahead_17
  obtain ⟨rfl, rfl, z, hz, rfl⟩ := hp
  subst hz
  have hI1 := hI
  have m_q1 := m_q
  have e_q1 := e_q
  have hs1 : ∀ x ∈ L, x ∈ L := fun x hx => hx
  have hFr1 : ∀ x ∈ L, (∀ i, i < 18 → x ≠ A i) → F x = F x := fun x _ _ => rfl
  refine lv_i2l (v := Int32.toInt64 z) S.1 S.2.1 dL_ahead_7 rfl ?_
  refine pk_putN (v := .long (Int32.toInt64 z)) S hK hW 0 m_q1 e_q1 rfl hinX4 tyX4_ok nmX4 (by decide) (va_Nw.use rfl (hST.1.1 _ wn_8)) rfl rfl rfl rfl (Nat.le_of_ble_eq_true rfl) dL_ahead_8 (fun H3 l3 hW => ?_)
  refine lv_goto (tgt := 18) S.1 S.2.1 dL_ahead_11 (by decide) ?_
  refine lv_iconst (v := 0) S.1 S.2.1 dL_ahead_18 (by decide) ?_
  exact pk_iret S hr hlk hW ⟨hs1, hI1.keepA (fun x h => h) (fun i hi => up_ne (hI1.notO e_q1 i hi)), ⟨.long (Int32.toInt64 z), w1, up_eq, ⟨fun k9 hk9 => (by cases hk9), fun z9 hz9 => by cases hz9; exact ⟨rfl, rfl⟩⟩⟩, fun x hx hA hq => (up_ne hq).trans (hFr1 x hx hA)⟩ (by decide) (by decide) dL_ahead_19
set_option maxHeartbeats 4000000 in
set_option maxRecDepth 100000 in
theorem c_L_yard {l : Launch} {D : va_G} {κ : Nat → ClassId} {ζ : Nat → Nat} {L : List Nat} {F : Nat → va_E} {σ : CS} {A : Nat → Nat} {q : Nat} (hst : l.stackTraces = false) (hI : CI κ A σ L F) (hO : OUT q L F) (x1 : Int32) {res : (Nat ⊕ Int32)} (hf : f_X3_yard σ x1 = some res) (hk : ∀ k, res = .inl k → k = 1) : MwI l D κ ζ yL_yard cL_yard 4 (some .int) [(0, 10, 13, 21)] 9 1 6 ([.ref (A 0), .int x1, .ref q] : List Value) L F (LwP κ A q (σ) L F (fun r w0 _ => (∀ k, res = .inl k → r = (1)) ∧ ∀ z, res = .inr z → r = 0 ∧ w0 = .long (Int32.toInt64 z))) := by
  refine MwI.of (by decide) (Nat.le_of_ble_eq_true rfl) ?_
  intro p e s m below meth c S hr hlk hxt hN hK hW hST ls hl
  have hl : lv_has ls 4 [(0, .ref (A 0)), (1, .int x1), (2, .ref q)] := hl
  obtain ⟨m_q, w0, w1, e_q⟩ := hO
  refine lv_aload_n S.1 S.2.1 dL_yard_0 rfl (lv_at hl 2 rfl) ?_
  refine lv_aload_n S.1 S.2.1 dL_yard_1 rfl (lv_at hl 0 rfl) ?_
  refine lv_iload_n S.1 S.2.1 dL_yard_2 rfl (lv_at hl 1 rfl) ?_
  refine xk_cVI (As := [.int x1]) (rest := [.ref q]) S hK hST hW (c_X3_yard hst hI x1 hf) mc_X3_yard wd_1060 wd_1061 wd_1062 rfl np_X3_yard (hI.mem 0 (by decide)) hI.this rfl rfl hl.1 rfl (Nat.le_of_ble_eq_true rfl) dL_yard_3 ⟨Nat.le_of_ble_eq_true rfl, Nat.le_of_ble_eq_true rfl⟩ ⟨Nat.le_of_ble_eq_true rfl, Nat.le_of_ble_eq_true rfl⟩ (fun E ce q9 H1 l1 hE hW h1 h2 h3 => ?_) (fun r L1 F1 H2 l2 hp hW => ?_)
  · obtain ⟨k, hk1, rfl⟩ := hE
    have hk0 := hk k hk1
    subst hk0
    subst hk1
    refine vx_catch (name := "java/lang/IllegalArgumentException") S.2.2.2.1 [] ⟨0, 10, 13, 21⟩ [] (by rw [hxt]; rfl) (fun _ h => absurd h List.not_mem_nil) (by decide) (by decide) (S.2.2.2.2 _ wd_349) (va_Nw.use rfl (hST.1.1 _ wn_17)) h1 h2 h3 ?_
    refine lv_astore_n (lv' := [(3, .ref q9), (0, .ref (A 0)), (1, .int x1), (2, .ref q)]) S.1 S.2.1 dL_yard_13 rfl hl (by decide) rfl (fun ls hl => ?_)
    refine lv_iconst (v := 1) S.1 S.2.1 dL_yard_14 (by decide) ?_
    exact pk_iret S hr hlk hW ⟨fun x hx => hx, hI, ⟨w0, w1, e_q, ⟨fun k9 hk9 => (by cases hk9; rfl), fun z hz => (by cases hz)⟩⟩, fun x _ _ _ => rfl⟩ (by decide) (by decide) dL_yard_15
  obtain ⟨rfl, rfl, z, hz, rfl⟩ := hp
  subst hz
  have hI1 := hI
  have m_q1 := m_q
  have e_q1 := e_q
  have hs1 : ∀ x ∈ L, x ∈ L := fun x hx => hx
  have hFr1 : ∀ x ∈ L, (∀ i, i < 18 → x ≠ A i) → F x = F x := fun x _ _ => rfl
  refine lv_i2l (v := Int32.toInt64 z) S.1 S.2.1 dL_yard_6 rfl ?_
  refine pk_putN (v := .long (Int32.toInt64 z)) S hK hW 0 m_q1 e_q1 rfl hinX4 tyX4_ok nmX4 (by decide) (va_Nw.use rfl (hST.1.1 _ wn_8)) rfl rfl rfl rfl (Nat.le_of_ble_eq_true rfl) dL_yard_7 (fun H3 l3 hW => ?_)
  refine lv_goto (tgt := 16) S.1 S.2.1 dL_yard_10 (by decide) ?_
  refine lv_iconst (v := 0) S.1 S.2.1 dL_yard_16 (by decide) ?_
  exact pk_iret S hr hlk hW ⟨hs1, hI1.keepA (fun x h => h) (fun i hi => up_ne (hI1.notO e_q1 i hi)), ⟨.long (Int32.toInt64 z), w1, up_eq, ⟨fun k9 hk9 => (by cases hk9), fun z9 hz9 => by cases hz9; exact ⟨rfl, rfl⟩⟩⟩, fun x hx hA hq => (up_ne hq).trans (hFr1 x hx hA)⟩ (by decide) (by decide) dL_yard_17
end
section
/-! what the law finds at its entry -/
def cpath : Cond → List Bool → Option Cond
  | T, [] => some T
  | .and a b, x :: p => if x then cpath a p else cpath b p
  | _, _ :: _ => none
theorem cpath_before {args : Array Value} {s : State} : ∀ (p : List Bool) (T : Cond) (w : Cond), T.before args s = true → cpath T p = some w → w.before args s = true
  | [], T, w, h, e => by cases T <;> (cases e; exact h)
  | x :: p, T, w, h, e => by
    cases T with
    | and a b =>
      rw [Cond.before_and, Bool.and_eq_true] at h
      cases x
      · exact cpath_before p b w h.2 e
      · exact cpath_before p a w h.1 e
    | _ => cases e
theorem gv_at {args : Array Value} {s : State} {p : List Bool} {w : Cond} (h : (Jvm.Cond.and given_1 narrow_1).before args s = true) (e : cpath narrow_1 p = some w) : w.before args s = true := by
  rw [Cond.before_and, Bool.and_eq_true] at h
  exact cpath_before p _ w h.2 e
def dgpOnes : List (List Bool) := [[true, true, true, true, true, false, true, false, true], [true, true, true, true, true, false, true, false, false, true], [true, true, true, true, true, false, true, false, false, false], [true, true, true, true, true, false, false, true, true], [true, true, true, true, true, false, false, true, false], [true, true, true, true, true, false, false, false, true], [true, true, true, true, true, false, false, false, false, true], [true, true, true, true, true, false, false, false, false, false], [true, true, true, true, false, true, true, true, true], [true, true, true, true, false, true, true, true, false], [true, true, true, true, false, true, true, false, true], [true, true, true, true, false, true, true, false, false, true], [true, true, true, true, false, true, true, false, false, false], [true, true, true, true, false, true, false, true, true], [true, true, true, true, false, true, false, true, false], [true, true, true, true, false, true, false, false, true], [true, true, true, true, false, true, false, false, false, true], [true, true, true, true, false, true, false, false, false, false], [true, true, true, true, false, false, true, true, true], [true, true, true, true, false, false, true, true, false], [true, true, true, true, false, false, true, false, true], [true, true, true, true, false, false, true, false, false, true], [true, true, true, true, false, false, true, false, false, false], [true, true, true, true, false, false, false, true, true], [true, true, true, true, false, false, false, true, false, true], [true, true, true, true, false, false, false, true, false, false], [true, true, true, true, false, false, false, false, true], [true, true, true, true, false, false, false, false, false, true], [true, true, true, true, false, false, false, false, false, false], [true, true, true, false, true, true, true, true, true], [true, true, true, false, true, true, true, true, false], [true, true, true, false, true, true, true, false, true], [true, true, true, false, true, true, true, false, false, true], [true, true, true, false, true, true, true, false, false, false], [true, true, true, false, true, true, false, true, true], [true, true, true, false, true, true, false, true, false], [true, true, true, false, true, true, false, false, true], [true, true, true, false, true, true, false, false, false, true], [true, true, true, false, true, true, false, false, false, false], [true, true, true, false, true, false, true, true, true], [true, true, true, false, true, false, true, true, false], [true, true, true, false, true, false, true, false, true], [true, true, true, false, true, false, true, false, false, true], [true, true, true, false, true, false, true, false, false, false], [true, true, true, false, true, false, false, true, true], [true, true, true, false, true, false, false, true, false, true], [true, true, true, false, true, false, false, true, false, false], [true, true, true, false, true, false, false, false, true], [true, true, true, false, true, false, false, false, false, true], [true, true, true, false, true, false, false, false, false, false], [true, true, true, false, false, true, true, true, true], [true, true, true, false, false, true, true, true, false], [true, true, true, false, false, true, true, false, true], [true, true, true, false, false, true, true, false, false, true], [true, true, true, false, false, true, true, false, false, false], [true, true, true, false, false, true, false, true, true], [true, true, true, false, false, true, false, true, false], [true, true, true, false, false, true, false, false, true], [true, true, true, false, false, true, false, false, false, true], [true, true, true, false, false, true, false, false, false, false], [true, true, true, false, false, false, true, true, true], [true, true, true, false, false, false, true, true, false], [true, true, true, false, false, false, true, false, true], [true, true, true, false, false, false, true, false, false, true], [true, true, true, false, false, false, true, false, false, false], [true, true, true, false, false, false, false, true, true], [true, true, true, false, false, false, false, true, false, true], [true, true, true, false, false, false, false, true, false, false], [true, true, true, false, false, false, false, false, true], [true, true, true, false, false, false, false, false, false, true], [true, true, true, false, false, false, false, false, false, false], [true, true, false, true, true, true, true, true, true], [true, true, false, true, true, true, true, true, false], [true, true, false, true, true, true, true, false, true], [true, true, false, true, true, true, true, false, false, true], [true, true, false, true, true, true, true, false, false, false], [true, true, false, true, true, true, false, true, true], [true, true, false, true, true, true, false, true, false], [true, true, false, true, true, true, false, false, true], [true, true, false, true, true, true, false, false, false, true], [true, true, false, true, true, true, false, false, false, false], [true, true, false, true, true, false, true, true, true], [true, true, false, true, true, false, true, true, false], [true, true, false, true, true, false, true, false, true], [true, true, false, true, true, false, true, false, false, true], [true, true, false, true, true, false, true, false, false, false], [true, true, false, true, true, false, false, true, true], [true, true, false, true, true, false, false, true, false], [true, true, false, true, true, false, false, false, true], [true, true, false, true, true, false, false, false, false, true], [true, true, false, true, true, false, false, false, false, false], [true, true, false, true, false, true, true, true, true], [true, true, false, true, false, true, true, true, false], [true, true, false, true, false, true, true, false, true], [true, true, false, true, false, true, true, false, false, true], [true, true, false, true, false, true, true, false, false, false], [true, true, false, true, false, true, false, true, true], [true, true, false, true, false, true, false, true, false], [true, true, false, true, false, true, false, false, true], [true, true, false, true, false, true, false, false, false, true]]
theorem dgpOnes_ok : ∀ j, j < 100 → cpath narrow_1 (dgpOnes.getD j []) = some (Cond.eq (.elem (.static "java/lang/Integer" "DigitOnes" "[B") (.int (Int32.ofNat j))) (.int (dgOnes j))) := by decide +kernel
def dgpTens : List (List Bool) := [[true, true, false, true, false, false, true, false, true], [true, true, false, true, false, false, true, false, false, true], [true, true, false, true, false, false, true, false, false, false], [true, true, false, true, false, false, false, true, true], [true, true, false, true, false, false, false, true, false, true], [true, true, false, true, false, false, false, true, false, false], [true, true, false, true, false, false, false, false, true], [true, true, false, true, false, false, false, false, false, true], [true, true, false, true, false, false, false, false, false, false], [true, true, false, false, true, true, true, true, true], [true, true, false, false, true, true, true, true, false], [true, true, false, false, true, true, true, false, true], [true, true, false, false, true, true, true, false, false, true], [true, true, false, false, true, true, true, false, false, false], [true, true, false, false, true, true, false, true, true], [true, true, false, false, true, true, false, true, false], [true, true, false, false, true, true, false, false, true], [true, true, false, false, true, true, false, false, false, true], [true, true, false, false, true, true, false, false, false, false], [true, true, false, false, true, false, true, true, true], [true, true, false, false, true, false, true, true, false], [true, true, false, false, true, false, true, false, true], [true, true, false, false, true, false, true, false, false, true], [true, true, false, false, true, false, true, false, false, false], [true, true, false, false, true, false, false, true, true], [true, true, false, false, true, false, false, true, false, true], [true, true, false, false, true, false, false, true, false, false], [true, true, false, false, true, false, false, false, true], [true, true, false, false, true, false, false, false, false, true], [true, true, false, false, true, false, false, false, false, false], [true, true, false, false, false, true, true, true, true], [true, true, false, false, false, true, true, true, false], [true, true, false, false, false, true, true, false, true], [true, true, false, false, false, true, true, false, false, true], [true, true, false, false, false, true, true, false, false, false], [true, true, false, false, false, true, false, true, true], [true, true, false, false, false, true, false, true, false], [true, true, false, false, false, true, false, false, true], [true, true, false, false, false, true, false, false, false, true], [true, true, false, false, false, true, false, false, false, false], [true, true, false, false, false, false, true, true, true], [true, true, false, false, false, false, true, true, false], [true, true, false, false, false, false, true, false, true], [true, true, false, false, false, false, true, false, false, true], [true, true, false, false, false, false, true, false, false, false], [true, true, false, false, false, false, false, true, true], [true, true, false, false, false, false, false, true, false, true], [true, true, false, false, false, false, false, true, false, false], [true, true, false, false, false, false, false, false, true], [true, true, false, false, false, false, false, false, false, true], [true, true, false, false, false, false, false, false, false, false], [true, false, true, true, true, true, true, true, true], [true, false, true, true, true, true, true, true, false], [true, false, true, true, true, true, true, false, true], [true, false, true, true, true, true, true, false, false, true], [true, false, true, true, true, true, true, false, false, false], [true, false, true, true, true, true, false, true, true], [true, false, true, true, true, true, false, true, false], [true, false, true, true, true, true, false, false, true], [true, false, true, true, true, true, false, false, false, true], [true, false, true, true, true, true, false, false, false, false], [true, false, true, true, true, false, true, true, true], [true, false, true, true, true, false, true, true, false], [true, false, true, true, true, false, true, false, true], [true, false, true, true, true, false, true, false, false, true], [true, false, true, true, true, false, true, false, false, false], [true, false, true, true, true, false, false, true, true], [true, false, true, true, true, false, false, true, false], [true, false, true, true, true, false, false, false, true], [true, false, true, true, true, false, false, false, false, true], [true, false, true, true, true, false, false, false, false, false], [true, false, true, true, false, true, true, true, true], [true, false, true, true, false, true, true, true, false], [true, false, true, true, false, true, true, false, true], [true, false, true, true, false, true, true, false, false, true], [true, false, true, true, false, true, true, false, false, false], [true, false, true, true, false, true, false, true, true], [true, false, true, true, false, true, false, true, false], [true, false, true, true, false, true, false, false, true], [true, false, true, true, false, true, false, false, false, true], [true, false, true, true, false, true, false, false, false, false], [true, false, true, true, false, false, true, true, true], [true, false, true, true, false, false, true, true, false], [true, false, true, true, false, false, true, false, true], [true, false, true, true, false, false, true, false, false, true], [true, false, true, true, false, false, true, false, false, false], [true, false, true, true, false, false, false, true, true], [true, false, true, true, false, false, false, true, false, true], [true, false, true, true, false, false, false, true, false, false], [true, false, true, true, false, false, false, false, true], [true, false, true, true, false, false, false, false, false, true], [true, false, true, true, false, false, false, false, false, false], [true, false, true, false, true, true, true, true, true], [true, false, true, false, true, true, true, true, false], [true, false, true, false, true, true, true, false, true], [true, false, true, false, true, true, true, false, false, true], [true, false, true, false, true, true, true, false, false, false], [true, false, true, false, true, true, false, true, true], [true, false, true, false, true, true, false, true, false], [true, false, true, false, true, true, false, false, true]]
theorem dgpTens_ok : ∀ j, j < 100 → cpath narrow_1 (dgpTens.getD j []) = some (Cond.eq (.elem (.static "java/lang/Integer" "DigitTens" "[B") (.int (Int32.ofNat j))) (.int (dgTens j))) := by decide +kernel
theorem nw_entry {args : Array Value} {s : State} (hts : ∀ w ∈ lw_tbl, w.before args s = true) : ∀ w ∈ NwL, va_Nw w s :=
  List.forall_mem_append.mpr ⟨fun w hw => va_Nw.of (nw_ot w (List.mem_append_left _ hw)) (hts w (nw_tbl w hw)), List.forall_mem_cons.mpr ⟨va_Nw.of rfl (sel_priv (n := 4) (y0 := ⟨"java/lang/AbstractStringBuilder", "isLatin1", "()Z"⟩) (by decide) (hts _ (List.mem_append_right _ (tb_4 (List.mem_of_getElem? (i := 166) (by decide +kernel))))) (hts _ (List.mem_append_right _ (tb_4 (List.mem_of_getElem? (i := 204) (by decide +kernel))))) (hts _ (List.mem_append_right _ (tb_4 (List.mem_of_getElem? (i := 205) (by decide +kernel))))) (hts _ (List.mem_append_right _ (tb_4 (List.mem_of_getElem? (i := 237) (by decide +kernel))))) rfl), List.forall_mem_cons.mpr ⟨va_Nw.of rfl (sel_priv (n := 4) (y0 := ⟨"java/lang/AbstractStringBuilder", "isLatin1", "()Z"⟩) (by decide) (hts _ (List.mem_append_right _ (tb_4 (List.mem_of_getElem? (i := 166) (by decide +kernel))))) (hts _ (List.mem_append_right _ (tb_4 (List.mem_of_getElem? (i := 208) (by decide +kernel))))) (hts _ (List.mem_append_right _ (tb_4 (List.mem_of_getElem? (i := 209) (by decide +kernel))))) (hts _ (List.mem_append_right _ (tb_4 (List.mem_of_getElem? (i := 237) (by decide +kernel))))) rfl), List.forall_mem_cons.mpr ⟨va_Nw.of rfl (sel_priv (n := 4) (y0 := ⟨"java/lang/AbstractStringBuilder", "isLatin1", "()Z"⟩) (by decide) (hts _ (List.mem_append_right _ (tb_4 (List.mem_of_getElem? (i := 166) (by decide +kernel))))) (hts _ (List.mem_append_right _ (tb_5 (List.mem_of_getElem? (i := 3) (by decide +kernel))))) (hts _ (List.mem_append_right _ (tb_5 (List.mem_of_getElem? (i := 4) (by decide +kernel))))) (hts _ (List.mem_append_right _ (tb_4 (List.mem_of_getElem? (i := 237) (by decide +kernel))))) rfl), List.forall_mem_cons.mpr ⟨va_Nw.of rfl (sel_priv (n := 4) (y0 := ⟨"java/lang/AbstractStringBuilder", "isLatin1", "()Z"⟩) (by decide) (hts _ (List.mem_append_right _ (tb_4 (List.mem_of_getElem? (i := 166) (by decide +kernel))))) (hts _ (List.mem_append_right _ (tb_5 (List.mem_of_getElem? (i := 130) (by decide +kernel))))) (hts _ (List.mem_append_right _ (tb_5 (List.mem_of_getElem? (i := 131) (by decide +kernel))))) (hts _ (List.mem_append_right _ (tb_4 (List.mem_of_getElem? (i := 237) (by decide +kernel))))) rfl), List.forall_mem_cons.mpr ⟨va_Nw.of rfl (sel_priv (n := 4) (y0 := ⟨"java/lang/AbstractStringBuilder", "isLatin1", "()Z"⟩) (by decide) (hts _ (List.mem_append_right _ (tb_4 (List.mem_of_getElem? (i := 166) (by decide +kernel))))) (hts _ (List.mem_append_right _ (tb_5 (List.mem_of_getElem? (i := 146) (by decide +kernel))))) (hts _ (List.mem_append_right _ (tb_5 (List.mem_of_getElem? (i := 147) (by decide +kernel))))) (hts _ (List.mem_append_right _ (tb_4 (List.mem_of_getElem? (i := 237) (by decide +kernel))))) rfl), List.forall_mem_cons.mpr ⟨va_Nw.of rfl (sel_priv (n := 4) (y0 := ⟨"java/lang/AbstractStringBuilder", "isLatin1", "()Z"⟩) (by decide) (hts _ (List.mem_append_right _ (tb_4 (List.mem_of_getElem? (i := 166) (by decide +kernel))))) (hts _ (List.mem_append_right _ (tb_5 (List.mem_of_getElem? (i := 150) (by decide +kernel))))) (hts _ (List.mem_append_right _ (tb_5 (List.mem_of_getElem? (i := 151) (by decide +kernel))))) (hts _ (List.mem_append_right _ (tb_4 (List.mem_of_getElem? (i := 237) (by decide +kernel))))) rfl), fun _ h => absurd h List.not_mem_nil⟩⟩⟩⟩⟩⟩⟩
theorem str_at {args : Array Value} {s : State} {own tx C : String} {k : Nat} (h1 : (Cond.stringRef own k tx).before args s = true) (h2 : (Cond.exactly (.string own k) C).before args s = true) : ∃ a : Nat, vk_R own k tx a s := by
  obtain ⟨a, ha⟩ : ∃ a : Nat, (Term.string own k).eval args s none [] s = some (.ref a) := by
    cases hv : (Term.string own k).eval args s none [] s with
    | none => simp [Cond.before, Cond.holds, Cond.value, hv] at h2
    | some v =>
      cases v with
      | ref a => exact ⟨a, rfl⟩
      | _ => cases hc : s.vm.findClass C <;> simp [Cond.before, Cond.holds, Cond.value, hv, hc] at h2
  exact ⟨a, vk_R.of h1 ha⟩
theorem xs_entry {args : Array Value} {s : State} (hts : ∀ w ∈ lw_tbl, w.before args s = true) (hgv : (Jvm.Cond.and given_1 narrow_1).before args s = true) : ∀ q ∈ XsL, ∃ a : Nat, vk_R q.1 q.2.1 q.2.2 a s := List.forall_mem_cons.mpr ⟨str_at (hts _ (List.mem_append_right _ (tb_2 (List.mem_of_getElem? (i := 196) (by decide +kernel))))) (gv_at hgv (p := [true, false, false, true, false, false, true, false, true]) rfl), List.forall_mem_cons.mpr ⟨str_at (hts _ (List.mem_append_right _ (tb_2 (List.mem_of_getElem? (i := 238) (by decide +kernel))))) (gv_at hgv (p := [true, false, false, false, true, true, false, false, false, true]) rfl), List.forall_mem_cons.mpr ⟨str_at (hts _ (List.mem_append_right _ (tb_3 (List.mem_of_getElem? (i := 18) (by decide +kernel))))) (gv_at hgv (p := [false, true, true, true, true, true, false, false, true]) rfl), List.forall_mem_cons.mpr ⟨str_at (hts _ (List.mem_append_right _ (tb_3 (List.mem_of_getElem? (i := 170) (by decide +kernel))))) (gv_at hgv (p := [false, true, true, true, false, false, true, false, false, false]) rfl), List.forall_mem_cons.mpr ⟨str_at (hts _ (List.mem_append_right _ (tb_3 (List.mem_of_getElem? (i := 196) (by decide +kernel))))) (gv_at hgv (p := [false, true, true, false, true, false, false, true, false, true]) rfl), List.forall_mem_cons.mpr ⟨str_at (hts _ (List.mem_append_right _ (tb_4 (List.mem_of_getElem? (i := 16) (by decide +kernel))))) (gv_at hgv (p := [false, true, false, true, true, true, false, false, true]) rfl), List.forall_mem_cons.mpr ⟨str_at (hts _ (List.mem_append_right _ (tb_4 (List.mem_of_getElem? (i := 32) (by decide +kernel))))) (gv_at hgv (p := [false, true, false, true, false, true, false, false, false, false]) rfl), List.forall_mem_cons.mpr ⟨str_at (hts _ (List.mem_append_right _ (tb_4 (List.mem_of_getElem? (i := 93) (by decide +kernel))))) (gv_at hgv (p := [false, true, false, false, true, false, false, false, false, true]) rfl), List.forall_mem_cons.mpr ⟨str_at (hts _ (List.mem_append_right _ (tb_4 (List.mem_of_getElem? (i := 101) (by decide +kernel))))) (gv_at hgv (p := [false, false, true, true, true, false, true, true, false]) rfl), fun _ h => absurd h List.not_mem_nil⟩⟩⟩⟩⟩⟩⟩⟩⟩
theorem ncx_entry {args : Array Value} {s : State} (hgv : (Jvm.Cond.and given_1 narrow_1).before args s = true) : NCX s := by
  intro i j hi hj hij
  match i, j, hi, hj with
  | 0, 0, _, _ => exact absurd rfl hij
  | 0, 1, _, _ => exact va_Nc.of (gv_at hgv (p := [true, false, true, false, false, false, false, false, true]) rfl)
  | 0, 2, _, _ => exact va_Nc.of (gv_at hgv (p := [true, false, false, true, true, false, true, true, false]) rfl)
  | 1, 0, _, _ => exact va_Nc.of (gv_at hgv (p := [true, false, true, false, false, true, true, false, false, false]) rfl)
  | 1, 1, _, _ => exact absurd rfl hij
  | 1, 2, _, _ => exact va_Nc.of (gv_at hgv (p := [true, false, false, true, true, false, true, false, true]) rfl)
  | 2, 0, _, _ => exact va_Nc.of (gv_at hgv (p := [true, false, true, false, false, true, false, true, true]) rfl)
  | 2, 1, _, _ => exact va_Nc.of (gv_at hgv (p := [true, false, true, false, false, false, false, false, false, true]) rfl)
  | 2, 2, _, _ => exact absurd rfl hij
  | i + 3, _, hi, _ => exact absurd hi (by omega)
  | 0, j + 3, _, hj => exact absurd hj (by omega)
  | 1, j + 3, _, hj => exact absurd hj (by omega)
  | 2, j + 3, _, hj => exact absurd hj (by omega)
theorem vaT_congr {ty : FieldType} {t N : Nat} {f g : Nat → Value} {A : Nat → Prop} {U : State} {H : Heap} (e : ∀ j, j < N → f j = g j) (h : va_T ty t N f A U H) : va_T ty t N g A U H := by
  obtain ⟨cell, h1, h2, h3, h4, h5, h6, h7⟩ := h
  exact ⟨cell, h1, h2, h3, h4, h5, fun j hj => (h6 j hj).trans (by rw [e j hj]), h7⟩
theorem vkS_congr {N : Nat} {len : List Nat} {byt : List (List Int32)} {aK aV bK bV : Nat → Nat} {A : Nat → Prop} {U : State} {H : Heap} (e1 : ∀ i, i < N → bK i = aK i) (e2 : ∀ i, i < N → bV i = aV i) (h : vk_S N len byt aK aV A U H) : vk_S N len byt bK bV A U H :=
  ⟨fun i hi => by rw [e1 i hi, e2 i hi]; exact h.1 i hi, fun i j hi hj e => h.2 i j hi hj (by rw [← e1 i hi, ← e1 j hj]; exact e)⟩
theorem vaEf_congr {N : Nat} {o n d : String} {v : Nat → Value} {a b : Nat → Nat} {A : Nat → Prop} {U : State} {H : Heap} (e : ∀ i, i < N → a i = b i) (h : va_Ef N o n d v a A U H) : va_Ef N o n d v b A U H := fun i hi => by rw [← e i hi]; exact h i hi
set_option maxHeartbeats 4000000 in
theorem str_entry {args : Array Value} {s : State} (hts : ∀ w ∈ lw_tbl, w.before args s = true) (hgv : (Jvm.Cond.and given_1 narrow_1).before args s = true) : ∃ ζ : Nat → Nat, STR ζ (AL [] s.heap.size) s s.heap := by
  have hA : ∀ a : Nat, a < s.heap.size → ¬ AL [] s.heap.size a := fun a h q => q.elim (fun q => absurd q List.not_mem_nil) (fun q => absurd h (by omega))
  obtain ⟨ad, hC, hel⟩ := vb_Cof (A := AL [] s.heap.size) (st := .static "java/lang/Integer$IntegerCache" "cache" "[Ljava/lang/Integer;") rfl (va_eqt (gv_at hgv (p := [true, false, true, false, true, false, false, true, true]) rfl)) (gv_at hgv (p := [true, false, true, false, true, false, false, true, false, true]) rfl) hA
  obtain ⟨tC, etC, hTC⟩ := va_Tof (A := AL [] s.heap.size) (N := 256) (f := fun j => .ref (ad j)) (by decide) (gv_at hgv (p := [true, false, true, false, true, false, true, false, false, false]) rfl) (va_eqt (gv_at hgv (p := [true, false, true, false, true, false, false, true, true]) rfl)) hel hA
  obtain ⟨tE, etE, hTE⟩ := va_Tof (A := AL [] s.heap.size) (N := 0) (f := fun _ => .null) (by decide) (gv_at hgv (p := [true, false, true, false, true, true, false, false, false, false]) rfl) (va_eqt (gv_at hgv (p := [true, false, true, false, true, false, true, true, false]) rfl)) (fun j hj => absurd hj (Nat.not_lt_zero j)) hA
  obtain ⟨tO, etO, hTO⟩ := va_Tof (A := AL [] s.heap.size) (N := 100) (f := fun j => .int (dgOnes j)) (by decide) (gv_at hgv (p := [true, true, true, true, true, false, true, true, true]) rfl) (va_eqt (gv_at hgv (p := [true, true, true, true, true, false, true, true, false]) rfl)) (fun j hj => va_eqt (gv_at hgv (dgpOnes_ok j hj))) hA
  obtain ⟨tT, etT, hTT⟩ := va_Tof (A := AL [] s.heap.size) (N := 100) (f := fun j => .int (dgTens j)) (by decide) (gv_at hgv (p := [true, true, false, true, false, false, true, true, true]) rfl) (va_eqt (gv_at hgv (p := [true, true, false, true, false, false, true, true, false]) rfl)) (fun j hj => va_eqt (gv_at hgv (dgpTens_ok j hj))) hA
  obtain ⟨adK, adV, hSS, heS⟩ := vk_Sof (A := AL [] s.heap.size) (N := 2) (len := [0, 1]) (byt := [[], [32]]) (tm := (fun i => .string "TwoendsModel" (216 + 2 * i))) (fun i hi => by rw [len01 hi]; omega) (fun i hi => by
      match i, hi with
      | 0, _ => exact (gv_at hgv (p := [false, false, false, true, false, false, true, false, false, true]) rfl)
      | 1, _ => exact (gv_at hgv (p := [false, false, false, false, true, true, false, false, false, true]) rfl)
      | i + 2, hi => exact absurd hi (by omega)) (fun i hi => by
      match i, hi with
      | 0, _ => exact (gv_at hgv (p := [false, false, false, true, false, false, true, false, false, false]) rfl)
      | 1, _ => exact (gv_at hgv (p := [false, false, false, false, true, true, false, false, false, false]) rfl)
      | i + 2, hi => exact absurd hi (by omega)) (fun i hi => by
      match i, hi with
      | 0, _ => exact (gv_at hgv (p := [false, false, false, true, false, false, false, true, true]) rfl)
      | 1, _ => exact (gv_at hgv (p := [false, false, false, false, true, false, true, true, true]) rfl)
      | i + 2, hi => exact absurd hi (by omega)) (fun i hi => by
      match i, hi with
      | 0, _ => exact (gv_at hgv (p := [false, false, false, true, false, false, false, true, false, true]) rfl)
      | 1, _ => exact (gv_at hgv (p := [false, false, false, false, true, false, true, true, false]) rfl)
      | i + 2, hi => exact absurd hi (by omega)) (fun i hi j hj => by
      rw [len01 hi] at hj
      match i, hi, j, hj with
      | 1, _, 0, _ => exact (gv_at hgv (p := [false, false, false, false, true, false, true, false, true]) rfl)
      | 0, _, j, hj => exact absurd hj (Nat.not_lt_zero j)
      | 1, _, j + 1, hj => exact absurd hj (by omega)
      | i + 2, hi, _, _ => exact absurd hi (by omega)) (fun i j hi hj hij => by
      match i, j, hi, hj with
      | 0, 0, _, _ => exact absurd rfl hij
      | 1, 1, _, _ => exact absurd rfl hij
      | 0, 1, _, _ => exact Or.inl (gv_at hgv (p := [false, false, false, false, false, true, true, false, false, false]) rfl)
      | 1, 0, _, _ => exact Or.inr (gv_at hgv (p := [false, false, false, false, false, true, true, false, false, false]) rfl)
      | i + 2, _, hi, _ => exact absurd hi (by omega)
      | 0, j + 2, _, hj => exact absurd hj (by omega)
      | 1, j + 2, _, hj => exact absurd hj (by omega)) hA
  obtain ⟨mi, hmi⟩ := va_Mi.of (gv_at hgv (p := [true, false, false, true, false, false, true, true, false]) rfl)
  refine ⟨fun i => if i < 256 then ad i else if i = 256 then tE else if i = 257 then tC else if i = 258 then tO else if i = 259 then tT else if i = 260 then mi else if i < 263 then adK (i - 261) else adV (i - 263), ?_, va_Zof (C := "java/lang/Integer$IntegerCache") (n := "cache") (d := "[Ljava/lang/Integer;") (hts _ (List.mem_append_right _ (tb_6 (List.mem_of_getElem? (i := 171) (by decide +kernel))))) (hts _ (List.mem_append_right _ (tb_1 (List.mem_of_getElem? (i := 25) (by decide +kernel))))) etC hA, ?_, va_Zof (C := "java/lang/Integer$IntegerCache") (n := "high") (d := "I") (hts _ (List.mem_append_right _ (tb_6 (List.mem_of_getElem? (i := 169) (by decide +kernel))))) (hts _ (List.mem_append_right _ (tb_1 (List.mem_of_getElem? (i := 25) (by decide +kernel))))) (va_eqt (gv_at hgv (p := [true, false, true, false, true, false, true, false, true]) rfl)) hA, va_Zof (C := "java/util/ArrayList") (n := "DEFAULTCAPACITY_EMPTY_ELEMENTDATA") (d := "[Ljava/lang/Object;") (hts _ (List.mem_append_right _ (tb_5 (List.mem_of_getElem? (i := 233) (by decide +kernel))))) (hts _ (List.mem_append_right _ (tb_1 (List.mem_of_getElem? (i := 8) (by decide +kernel))))) etE hA, hTE, va_Zof (C := "java/lang/String") (n := "COMPACT_STRINGS") (d := "Z") (hts _ (List.mem_append_right _ (tb_4 (List.mem_of_getElem? (i := 175) (by decide +kernel))))) (hts _ (List.mem_append_right _ (tb_1 (List.mem_of_getElem? (i := 28) (by decide +kernel))))) (va_eqt (gv_at hgv (p := [true, true, true, true, true, true, true, false, false, false]) rfl)) hA, va_Zof (C := "java/lang/Integer") (n := "DigitOnes") (d := "[B") (hts _ (List.mem_append_right _ (tb_5 (List.mem_of_getElem? (i := 61) (by decide +kernel))))) (hts _ (List.mem_append_right _ (tb_1 (List.mem_of_getElem? (i := 24) (by decide +kernel))))) etO hA, hTO, va_Zof (C := "java/lang/Integer") (n := "DigitTens") (d := "[B") (hts _ (List.mem_append_right _ (tb_5 (List.mem_of_getElem? (i := 63) (by decide +kernel))))) (hts _ (List.mem_append_right _ (tb_1 (List.mem_of_getElem? (i := 24) (by decide +kernel))))) etT hA, hTT, ?_, hmi, va_Dc.of (hts _ (List.mem_append_right _ (tb_8 (List.mem_of_getElem? (i := 144) (by decide +kernel))))), va_AO.of (hts _ (List.mem_append_right _ (tb_6 (List.mem_of_getElem? (i := 70) (by decide +kernel))))), va_AO.of (hts _ (List.mem_append_right _ (tb_6 (List.mem_of_getElem? (i := 10) (by decide +kernel))))), va_Fw.of (hts _ (List.mem_append_right _ (tb_8 (List.mem_of_getElem? (i := 86) (by decide +kernel))))) (hts _ (List.mem_append_right _ (tb_8 (List.mem_of_getElem? (i := 85) (by decide +kernel))))) (hts _ (List.mem_append_right _ (tb_8 (List.mem_of_getElem? (i := 91) (by decide +kernel))))) (hts _ (List.mem_append_right _ (tb_8 (List.mem_of_getElem? (i := 89) (by decide +kernel))))) (hts _ (List.mem_append_right _ (tb_8 (List.mem_of_getElem? (i := 87) (by decide +kernel))))), va_Fw.of (hts _ (List.mem_append_right _ (tb_8 (List.mem_of_getElem? (i := 96) (by decide +kernel))))) (hts _ (List.mem_append_right _ (tb_8 (List.mem_of_getElem? (i := 95) (by decide +kernel))))) (hts _ (List.mem_append_right _ (tb_8 (List.mem_of_getElem? (i := 100) (by decide +kernel))))) (hts _ (List.mem_append_right _ (tb_8 (List.mem_of_getElem? (i := 98) (by decide +kernel))))) (hts _ (List.mem_append_right _ (tb_8 (List.mem_of_getElem? (i := 87) (by decide +kernel))))), vk_R.of (hts _ (List.mem_append_right _ (tb_8 (List.mem_of_getElem? (i := 8) (by decide +kernel))))) (heS 0 (by decide)), vk_R.of (hts _ (List.mem_append_right _ (tb_8 (List.mem_of_getElem? (i := 15) (by decide +kernel))))) (heS 1 (by decide))⟩
  · refine ⟨fun k hk => ?_, ?_⟩
    · exact (congrArg (fun a => va_O "java/lang/Integer" a (AL [] s.heap.size) s s.heap) (if_pos hk)).mpr (hC.1 k hk)
    · exact vaEf_congr (fun k hk => (if_pos hk).symm) hC.2
  · exact vaT_congr (fun j hj => congrArg Value.ref (if_pos hj).symm) hTC
  · exact vkS_congr (fun i hi => by match i, hi with | 0, _ => rfl | 1, _ => rfl | i + 2, hi => exact absurd hi (by omega)) (fun i hi => by match i, hi with | 0, _ => rfl | 1, _ => rfl | i + 2, hi => exact absurd hi (by omega)) hSS
theorem st_entry {args : Array Value} {s : State} (hts : ∀ w ∈ lw_tbl, w.before args s = true) (hgv : (Jvm.Cond.and given_1 narrow_1).before args s = true) : ∃ ζ : Nat → Nat, ST ζ (AL [] s.heap.size) s s.heap := by
  have hA : ∀ a : Nat, a < s.heap.size → ¬ AL [] s.heap.size a := fun a h q => q.elim (fun q => absurd q List.not_mem_nil) (fun q => absurd h (by omega))
  obtain ⟨ζ, h⟩ := str_entry hts hgv
  exact ⟨ζ, ⟨nw_entry hts, vx_Zqof (hts _ (List.mem_append_right _ (tb_2 (List.mem_of_getElem? (i := 182) (by decide +kernel))))) (hts _ (List.mem_append_right _ (tb_1 (List.mem_of_getElem? (i := 15) (by decide +kernel))))) (gv_at hgv (p := [true, true, true, true, true, true, true, false, true]) rfl) hA, vx_Zqof (hts _ (List.mem_append_right _ (tb_2 (List.mem_of_getElem? (i := 184) (by decide +kernel))))) (hts _ (List.mem_append_right _ (tb_1 (List.mem_of_getElem? (i := 15) (by decide +kernel))))) (gv_at hgv (p := [true, true, true, true, true, true, true, false, false, true]) rfl) hA, xs_entry hts hgv⟩, h⟩
end
section
/-! the classes at the law's entry -/
set_option maxHeartbeats 4000000 in
theorem k_entry {args : Array Value} {s : State} (hts : ∀ w ∈ lw_tbl, w.before args s = true) (h3 : va_AO "java/lang/Object" s) (h4 : va_AO "TwoendsModel$Walker" s) : ∃ (D : va_G) (κ : Nat → ClassId), va_K D cls (ty5 κ) s := by
  have hG := gw_hts hts
  obtain ⟨c0, i0, u0⟩ := u_known (C := RJ0) (T := TJ0) (N := 4) (n := 4) hG hinJ0 (hG _ wd_944)
  obtain ⟨c1, i1, u1⟩ := u_known (C := RJ4) (T := TJ4) (N := 4) (n := 4) hG hinJ4 (hG _ wd_796)
  obtain ⟨c2, i2, u2⟩ := u_known (C := RJ6) (T := TJ6) (N := 1) (n := 1) hG hinJ6 (hG _ wd_1239)
  obtain ⟨c3, i3, u3⟩ := u_known (C := RJx35411) (T := TJx35411) (N := 4) (n := 4) hG hinJx35411 (hG _ wd_1610)
  obtain ⟨c4, i4, u4⟩ := u_known (C := RJx4a65c) (T := TJx4a65c) (N := 3) (n := 3) hG hinJx4a65c (hG _ wd_1071)
  obtain ⟨c5, i5, u5⟩ := u_known (C := RX0) (T := TX0) (N := 2) (n := 2) hG hinX0 (hG _ wd_41)
  obtain ⟨c6, i6, u6⟩ := u_known (C := RX1) (T := TX1) (N := 4) (n := 4) hG hinX1 (hG _ wd_53)
  obtain ⟨c7, i7, u7⟩ := u_known (C := RX2) (T := TX2) (N := 3) (n := 3) hG hinX2 (hG _ wd_68)
  obtain ⟨c8, i8, u8⟩ := u_known (C := RX3) (T := TX3) (N := 11) (n := 11) hG hinX3 (hG _ wd_33)
  obtain ⟨c9, i9, u9⟩ := u_known (C := RX4) (T := TX4) (N := 2) (n := 2) hG hinX4 (hG _ wd_339)
  obtain ⟨c10, i10, u10⟩ := u_known (C := RX5) (T := TX5) (N := 3) (n := 3) hG hinX5 (hG _ wd_1096)
  obtain ⟨c11, i11, u11⟩ := u_known (C := RX6) (T := TX6) (N := 9) (n := 9) hG hinX6 (hG _ wd_1065)
  obtain ⟨a0, k0, p0, f0, g0, e0⟩ := Cond.arrayClass_spec (hG _ wd_51)
  obtain ⟨a1, k1, p1, f1, g1, e1⟩ := Cond.arrayClass_spec (hG _ wd_412)
  obtain ⟨a2, k2, p2, f2, g2, e2⟩ := Cond.arrayClass_spec (hG _ wd_1389)
  obtain ⟨p3, a3, k3, q3, -, g3, e3, f3⟩ := Cond.arrayOver_spec (va_AO.use (A := args) h3)
  obtain ⟨p4, a4, k4, q4, -, g4, e4, f4⟩ := Cond.arrayOver_spec (va_AO.use (A := args) h4)
  refine ⟨(fun k => ([c0, c1, c2, c3, c4, c5, c6, c7, c8, c9, c10, c11] : List ClassId).getD k c0, fun k => ([i0, i1, i2, i3, i4, i5, i6, i7, i8, i9, i10, i11] : List (Nat → Nat)).getD k i0), fun k => ([a0, a1, a2, a3, a4] : List ClassId).getD k a0, ?_, ?_⟩
  · intro k q hq
    match k, hq with
    | 0, hq => cases hq; exact u0
    | 1, hq => cases hq; exact u1
    | 2, hq => cases hq; exact u2
    | 3, hq => cases hq; exact u3
    | 4, hq => cases hq; exact u4
    | 5, hq => cases hq; exact u5
    | 6, hq => cases hq; exact u6
    | 7, hq => cases hq; exact u7
    | 8, hq => cases hq; exact u8
    | 9, hq => cases hq; exact u9
    | 10, hq => cases hq; exact u10
    | 11, hq => cases hq; exact u11
    | k + 12, hq => cases hq
  · intro k q hq
    match k, hq with
    | 0, hq => cases hq; exact ⟨fun n z => ⟨fun k h => (by cases h), k0, g0, p0, e0⟩, f0⟩
    | 1, hq => cases hq; exact ⟨fun n z => ⟨fun k h => (by cases h), k1, g1, p1, e1⟩, f1⟩
    | 2, hq => cases hq; exact ⟨fun n z => ⟨fun k h => (by cases h), k2, g2, p2, e2⟩, f2⟩
    | 3, hq => cases hq; exact ⟨fun n z => ⟨fun k h => (by cases h), k3, g3, p3, e3⟩, k3, p3, g3, e3, q3, f3⟩
    | 4, hq => cases hq; exact ⟨fun n z => ⟨fun k h => (by cases h), k4, g4, p4, e4⟩, k4, p4, g4, e4, q4, f4⟩
    | k + 5, hq => cases hq
end
section
/-! LEVEL 2: nothing throws and every loop ends -/
def Ok {α : Type} (o : Option α) (Q : α → Prop) : Prop := ∃ r, o = some r ∧ Q r
def XQ {α : Type} (ks : List Nat) (P : α → Prop) : Nat ⊕ α → Prop := fun z => match z with
  | .inl e => e ∈ ks
  | .inr z => P z
section OKR
variable {α β : Type} {Q : α → Prop} {P : β → Prop}
theorem ok_some {r : α} (h : Q r) : Ok (some r) Q := ⟨r, rfl, h⟩
theorem ok_bind {o : Option β} {f : β → Option α} (h : Ok o P) (g : ∀ x, P x → Ok (f x) Q) : Ok (o.bind f) Q := by
  obtain ⟨r, e, hr⟩ := h
  obtain ⟨q, e2, hq⟩ := g r hr
  exact ⟨q, by rw [e]; exact e2, hq⟩
theorem ok_nm {v : β} {f : β → Option α} (P : β → Prop) (hv : P v) (h : ∀ x, P x → Ok (f x) Q) : Ok (nm v f) Q := h v hv
theorem ok_nme {v : β} {f : β → Option α} (h : ∀ x, x = v → Ok (f x) Q) : Ok (nm v f) Q := h v rfl
theorem ok_if {c : Prop} [Decidable c] {a b : Option α} (h1 : c → Ok a Q) (h2 : ¬ c → Ok b Q) : Ok (if c then a else b) Q := by
  by_cases hc : c
  · rw [if_pos hc]; exact h1 hc
  · rw [if_neg hc]; exact h2 hc
theorem ok_no {c : Prop} [Decidable c] {b : Option α} (hc : ¬ c) (h : Ok b Q) : Ok (if c then none else b) Q := by rw [if_neg hc]; exact h
theorem ok_yes {c : Prop} [Decidable c] {b : Option α} (hc : c) (h : Ok b Q) : Ok (if c then b else none) Q := by rw [if_pos hc]; exact h
theorem ok_obx {o : Option (Nat ⊕ β)} {f : β → Option (Nat ⊕ α)} {ks ks' : List Nat} (h : Ok o (XQ ks P)) (hk : ∀ e ∈ ks, e ∈ ks') (g : ∀ z, P z → Ok (f z) (XQ ks' Q)) : Ok (obx o f) (XQ ks' Q) := by
  obtain ⟨r, e, hr⟩ := h
  cases r with
  | inl k => exact ⟨.inl k, by rw [e]; rfl, hk k hr⟩
  | inr z =>
    obtain ⟨q, e2, hq⟩ := g z hr
    exact ⟨q, by rw [e]; exact e2, hq⟩
theorem ok_inl {e : Nat} {ks : List Nat} (h : e ∈ ks) : Ok (some (.inl e)) (XQ ks Q) := ⟨_, rfl, h⟩
theorem ok_inr {z : α} {ks : List Nat} (h : Q z) : Ok (some (.inr z)) (XQ ks Q) := ⟨_, rfl, h⟩
theorem ok_mono {o : Option α} {Q' : α → Prop} (h : Ok o Q) (g : ∀ x, Q x → Q' x) : Ok o Q' := by
  obtain ⟨r, e, hr⟩ := h
  exact ⟨r, e, g r hr⟩
theorem nI_dec {m : Nat} (h : m + 1 < 2147483648) : nI (m + 1) - 1 = nI m := by
  apply Int32.toInt_inj.mp
  have h1 := nI_toInt (n := m + 1) (by omega)
  have h2 := nI_toInt (n := m) (by omega)
  have h3 : (1 : Int32).toInt = 1 := rfl
  rw [Int32.toInt_sub, h1, h2, h3]
  have := Int.bmod_eq_of_le (n := ((m + 1 : Nat) : Int) - 1) (m := 2 ^ 32) (by omega) (by omega)
  rw [this]; omega
theorem nI_ge1 {n : Nat} (h : n < 2147483648) (h1 : 1 ≤ nI n) : 1 ≤ n := by
  have h2 := nI_toInt (n := n) (by omega)
  have h3 : (1 : Int32).toInt ≤ (nI n).toInt := Int32.le_iff_toInt_le.mp h1
  have h4 : (1 : Int32).toInt = 1 := rfl
  omega
theorem nI_bnd {n b : Nat} (h : n ≤ b) (hb : b < 2147483648) : 0 ≤ nI n ∧ nI n ≤ nI b := by
  have h2 := nI_toInt (n := n) (by omega)
  have h3 := nI_toInt (n := b) (by omega)
  have h4 : (0 : Int32).toInt = 0 := rfl
  exact ⟨Int32.le_iff_toInt_le.mpr (by omega), Int32.le_iff_toInt_le.mpr (by omega)⟩
theorem lpn_ok {st : (β → Option α) → β → Option α} (I : Int32 → β → Prop) (h : ∀ N k a, 0 ≤ N → N ≤ 63 → I N a → (∀ b, 1 ≤ N → I (N - 1) b → Ok (k b) Q) → Ok (st k a) Q) : ∀ n : Nat, n < 64 → ∀ a, I (nI n) a → Ok (lpn st (n + 1) a) Q := by
  intro n
  induction n with
  | zero =>
    intro _ a ha
    refine h (nI 0) _ a (by decide) (by decide) ha fun b h1 _ => ?_
    exact absurd h1 (by decide)
  | succ m ih =>
    intro hm a ha
    obtain ⟨q1, q2⟩ := nI_bnd (n := m + 1) (b := 63) (by omega) (by omega)
    refine h (nI (m + 1)) _ a q1 q2 ha fun b _ hb => ?_
    rw [nI_dec (by omega)] at hb
    exact ih (by omega) b hb
theorem lpn64 {st : (β → Option α) → β → Option α} (I : Int32 → β → Prop) (h : ∀ N k a, 0 ≤ N → N ≤ 63 → I N a → (∀ b, 1 ≤ N → I (N - 1) b → Ok (k b) Q) → Ok (st k a) Q) {a : β} (ha : I 63 a) : Ok (lpn st 64 a) Q := lpn_ok I h 63 (by omega) a ha
theorem lpn24 {st : (β → Option α) → β → Option α} (I : Int32 → β → Prop) (h : ∀ N k a, 0 ≤ N → N ≤ 63 → I N a → (∀ b, 1 ≤ N → I (N - 1) b → Ok (k b) Q) → Ok (st k a) Q) {a : β} (ha : I 23 a) : Ok (lpn st 24 a) Q := lpn_ok I h 23 (by omega) a ha
end OKR
/-! quotients and remainders -/
theorem div_b {x : Int32} {b : Nat} (hb : 0 < b) (hb2 : b < 2147483648) (h : 0 ≤ x) : (x / nI b).toInt = x.toInt / (b : Int) := by
  have h0 : 0 ≤ x.toInt := Int32.le_iff_toInt_le.mp h
  have h1 := nI_toInt (n := b) (by omega)
  rw [Int32.toInt_div_of_ne_right _ _ (by
    intro e
    have := congrArg Int32.toInt e
    rw [h1] at this
    have h9 : (-1 : Int32).toInt = -1 := rfl
    omega), h1]
  exact Int.tdiv_eq_ediv_of_nonneg h0
theorem jrem_b {x : Int32} {b : Nat} (hb : 0 < b) (hb2 : b < 2147483648) (h : 0 ≤ x) : 0 ≤ jrem x (nI b) ∧ jrem x (nI b) ≤ nI (b - 1) := by
  have h0 : 0 ≤ x.toInt := Int32.le_iff_toInt_le.mp h
  have h1 := nI_toInt (n := b) (by omega)
  have h2 := div_b hb hb2 h
  have h3 := x.toInt_lt
  have hd : (x.toInt / (b : Int)) * b ≤ x.toInt := Int.ediv_mul_le _ (by omega)
  have hd0 : 0 ≤ x.toInt / (b : Int) := Int.ediv_nonneg h0 (by omega)
  have hd1 : 0 ≤ (x.toInt / (b : Int)) * b := Int.mul_nonneg hd0 (by omega)
  have hm := Int.emod_def x.toInt (b : Int)
  have hm1 := Int.emod_nonneg x.toInt (b := (b : Int)) (by omega)
  have hm2 := Int.emod_lt_of_pos x.toInt (b := (b : Int)) (by omega)
  have hc : (b : Int) * (x.toInt / (b : Int)) = (x.toInt / (b : Int)) * b := Int.mul_comm _ _
  have e : (jrem x (nI b)).toInt = x.toInt % (b : Int) := by
    unfold jrem
    rw [Int32.toInt_sub, Int32.toInt_mul, h2, h1, Int.bmod_eq_of_le (n := x.toInt / (b : Int) * b) (by omega) (by omega), Int.bmod_eq_of_le (by omega) (by omega)]
    omega
  have h5 : (0 : Int32).toInt = 0 := rfl
  have h6 := nI_toInt (n := b - 1) (by omega)
  exact ⟨Int32.le_iff_toInt_le.mpr (by omega), Int32.le_iff_toInt_le.mpr (by omega)⟩
theorem jr100 {x : Int32} (h : 0 ≤ x) : 0 ≤ jrem x 100 ∧ jrem x 100 ≤ 99 := jrem_b (b := 100) (by omega) (by omega) h
theorem jr9 {x : Int32} (h : 0 ≤ x) : 0 ≤ jrem x 9 ∧ jrem x 9 ≤ 8 := jrem_b (b := 9) (by omega) (by omega) h
theorem jr1000 {x : Int32} (h : 0 ≤ x) : 0 ≤ jrem x 1000 ∧ jrem x 1000 ≤ 999 := jrem_b (b := 1000) (by omega) (by omega) h
theorem div_r {x : Int32} {b c d : Nat} (hb : 0 < b) (hb2 : b < 2147483648) (hc : c < 2147483648) (h : 0 ≤ x) (h2 : x ≤ nI c) (hd : c / b ≤ d) (hd2 : d < 2147483648) : 0 ≤ x / nI b ∧ x / nI b ≤ nI d := by
  have h0 : 0 ≤ x.toInt := Int32.le_iff_toInt_le.mp h
  have h1 : x.toInt ≤ (nI c).toInt := Int32.le_iff_toInt_le.mp h2
  have hc1 := nI_toInt (n := c) (by omega)
  have hd1 := nI_toInt (n := d) (by omega)
  have e := div_b hb hb2 h
  have h5 : (0 : Int32).toInt = 0 := rfl
  have q0 : 0 ≤ x.toInt / (b : Int) := Int.ediv_nonneg h0 (by omega)
  have q1 : x.toInt / (b : Int) ≤ (c : Int) / (b : Int) := Int.ediv_le_ediv (by omega) (by omega)
  have q2 : (c : Int) / (b : Int) = ((c / b : Nat) : Int) := rfl
  exact ⟨Int32.le_iff_toInt_le.mpr (by omega), Int32.le_iff_toInt_le.mpr (by omega)⟩
theorem dv100 {x : Int32} (h : 0 ≤ x) (h2 : x ≤ 999) : 0 ≤ x / 100 ∧ x / 100 ≤ 9 := div_r (b := 100) (c := 999) (d := 9) (by omega) (by omega) (by omega) h h2 (by omega) (by omega)
theorem dv4 {x : Int32} (h : 0 ≤ x) (h2 : x ≤ 7) : 0 ≤ x / 4 ∧ x / 4 ≤ 1 := div_r (b := 4) (c := 7) (d := 1) (by omega) (by omega) (by omega) h h2 (by omega) (by omega)
theorem dv4000 {x : Int32} (h : 0 ≤ x) (h2 : x ≤ 7999) : 0 ≤ x / 4000 ∧ x / 4000 ≤ 1 := div_r (b := 4000) (c := 7999) (d := 1) (by omega) (by omega) (by omega) h h2 (by omega) (by omega)
/-! rows of the class -/
def hiR (i : Nat) : Int32 := if i = 2 then 7999 else if i = 3 then 7 else 999
theorem capN (i : Nat) : nI (cap i) ≤ 20 ∧ 10 ≤ nI (cap i) ∧ cap i ≤ 20 ∧ (nI (cap i)).toInt = (cap i : Int) := by
  refine ⟨?_, ?_, ?_, nI_toInt (by simp only [cap]; split <;> (try split) <;> omega)⟩ <;> (simp only [cap]; split <;> (try split) <;> decide)
theorem hiR0 (i : Nat) : 7 ≤ hiR i ∧ hiR i ≤ 7999 := by
  simp only [hiR]; split <;> (try split) <;> decide
end
