/-! text() -/
theorem CI.keep {κ : Nat → ClassId} {A : Nat → Nat} {σ : CS} {L L' : List Nat} {F F' : Nat → va_E} (hI : CI κ A σ L F) (hsub : ∀ x ∈ L, x ∈ L') (hfr : ∀ x ∈ L, F' x = F x) : CI κ A σ L' F' := by
  obtain ⟨h1, h2, h3, h4, h5, h6⟩ := hI
  have hm : ∀ i, i < 18 → F' (A i) = F (A i) := fun i hi => hfr _ (h1 i hi)
  exact ⟨fun i hi => hsub _ (h1 i hi), h2, (hm 0 (by omega)).trans h3, fun i hi => ⟨(hm _ (by omega)).trans (h4 i hi).1, (hm _ (by omega)).trans (h4 i hi).2⟩, (hm 15 (by omega)).trans h5, fun j hj => (hm _ (by omega)).trans (h6 j hj)⟩
theorem gm34 {cap m : Nat} (h : 16 ≤ cap) : 34 * gmc cap m ≤ gms cap m := by
  unfold gmc gms
  by_cases e : m ≤ cap
  · rw [if_pos e, if_pos e]; omega
  · rw [if_neg e, if_neg e]; omega
theorem rd_code {n : Nat} {ρ : RS} (hn : n < 2147483648) (hc : ∀ j, ∃ v, v < 1000 ∧ ρ.1 j = nI v) (x : Int32) : ∃ v, v < 1000 ∧ f_X0_read n ρ x = some (nI v) := by
  unfold f_X0_read
  by_cases h1 : x < 0
  · exact ⟨0, by omega, by rw [if_pos h1]; rfl⟩
  · rw [if_neg h1]
    by_cases h2 : ρ.2 ≤ x
    · exact ⟨0, by omega, by rw [if_pos h2]; rfl⟩
    · rw [if_neg h2]
      by_cases h3 : nI n ≤ x
      · exact ⟨0, by omega, by rw [if_pos h3]; rfl⟩
      · rw [if_neg h3]
        obtain ⟨j, hj, e⟩ := nI_of h1
        subst e
        have hjn : j < n := Nat.lt_of_not_le (fun q => h3 ((nI_leI (by omega) (by omega)).mpr q))
        rw [if_neg (by rw [nI_clamp hj]; intro q; rcases q with q | q; exact h1 q; omega)]
        obtain ⟨v, hv, e⟩ := hc (nI j).toNatClampNeg
        exact ⟨v, hv, by rw [e]⟩
theorem rdf_code {n : Nat} {ρ : RS} (hn : n < 2147483648) (hc : ∀ j, ∃ v, v < 1000 ∧ ρ.1 j = nI v) (x1 x2 : Int32) : ∃ v, v < 1000 ∧ f_X0_readFrom n ρ x1 x2 = some (nI v) := by
  unfold f_X0_readFrom
  by_cases h1 : x1 = 0
  · obtain ⟨v, hv, e⟩ := rd_code hn hc x2
    exact ⟨v, hv, by rw [if_pos h1]; unfold f_X0_readFrom_17; rw [e]; rfl⟩
  · obtain ⟨v, hv, e⟩ := rd_code hn hc ((ρ.2 - 1) - x2)
    exact ⟨v, hv, by rw [if_neg h1]; unfold f_X0_readFrom_17; rw [e]; rfl⟩
theorem cap_lt (i : Nat) : cap i < 2147483648 := by
  unfold cap
  split
  · decide
  · split <;> decide

theorem mc_X3_text : MCode yX3_text cX3_text 6 (some (.object "java/lang/String")) := ⟨wd_794, wd_1, by decide, by decide⟩
theorem np_X3_text : (parseMethodDescriptor yX3_text.desc).map (fun d => d.parameters.length) = some 2 := by decide +kernel
set_option maxHeartbeats 4000000 in
set_option maxRecDepth 100000 in
theorem c_X3_text {l : Launch} {D : va_G} {κ : Nat → ClassId} {ζ : Nat → Nat} {L : List Nat} {F : Nat → va_E} {σ : CS} {A : Nat → Nat} (hst : l.stackTraces = false) (hI : CI κ A σ L F) (x1 x2 : Int32) (hcn : ∀ i, i < 2 → ∃ k, k ≤ 20 ∧ (σ.1 i).2 = nI k) (hcc : ∀ i, i < 2 → ∀ u p, ∃ v, v < 1000 ∧ f_X0_readFrom (cap i) (σ.1 i) u p = some (nI v)) : MxR l D cls (ty5 κ) ζ yX3_text cX3_text 6 (some (.object "java/lang/String")) 8 13 400 ([.ref (A 0), .int x1, .int x2] : List Value) L F (fun r L' F' => (∀ x ∈ L, x ∈ L') ∧ r ∈ L' ∧ ∀ x ∈ L, F' x = F x) (fun E => ∃ k, f_X3_needTrack x1 = some (.inl k) ∧ E = xName k) := by
  refine MxR.of (by decide) (Nat.le_of_ble_eq_true rfl) ?_
  intro p e s m below meth c S hr hlk hxt hK hW hST ls hl
  have hl : lv_has ls 6 [(0, .ref (A 0)), (1, .int x1), (2, .int x2)] := hl
  refine lv_iload_n S.1 S.2.1 dX3_text_0 rfl (lv_at hl 1 rfl) ?_
  obtain ⟨zt, hzt⟩ : ∃ z, f_X3_needTrack x1 = some z := by
    unfold f_X3_needTrack
    split
    · exact ⟨_, rfl⟩
    · split <;> exact ⟨_, rfl⟩
  refine xk_cSV (As := [.int x1]) (rest := []) S hK hST hW (c_X3_needTrack hst x1 hzt) mc_X3_needTrack wd_359 wd_360 np_X3_needTrack rfl hl.1 rfl (Nat.le_of_ble_eq_true rfl) dX3_text_1 ⟨Nat.le_of_ble_eq_true rfl, Nat.le_of_ble_eq_true rfl⟩ ⟨Nat.le_of_ble_eq_true rfl, Nat.le_of_ble_eq_true rfl⟩ (fun E ce q9 H26 l27 hE hW h1 h2 h3 => ?_) (fun L24 F25 H26 l27 hp hW => ?_)
  · obtain ⟨k, hk1, hk2⟩ := hE
    exact xk_outR hxt hlk hW ⟨k, by rw [hzt, hk1], hk2⟩ h1 h2 h3 (by decide) (by decide)
  obtain ⟨rfl, rfl, _, _⟩ := hp
  refine lv_aload_n S.1 S.2.1 dX3_text_4 rfl (lv_at hl 0 rfl) ?_
  refine lv_iload_n S.1 S.2.1 dX3_text_5 rfl (lv_at hl 1 rfl) ?_
  obtain ⟨i0, hi2, hti⟩ : ∃ i, i < 2 ∧ f_X3_trackOf σ x1 = some i := by
    unfold f_X3_trackOf
    split
    · exact ⟨0, by omega, rfl⟩
    · exact ⟨1, by omega, rfl⟩
  refine pk_cVR (As := [.int x1]) (rest := []) S hK hST hW (c_X3_trackOf hI x1 hti) mc_X3_trackOf wd_130 wd_132 wd_1664 rfl np_X3_trackOf (hI.mem 0 (by decide)) hI.this rfl rfl hl.1 rfl (Nat.le_of_ble_eq_true rfl) dX3_text_6 ⟨Nat.le_of_ble_eq_true rfl, Nat.le_of_ble_eq_true rfl⟩ ⟨Nat.le_of_ble_eq_true rfl, Nat.le_of_ble_eq_true rfl⟩ (fun r L3 F4 H5 l6 hp hW => ?_)
  obtain ⟨rfl, rfl, hi7, rfl⟩ := hp
  have hsub : ∀ x ∈ L, x ∈ L := fun x hx => hx
  have hfr : ∀ x ∈ L, True → F x = F x := fun _ _ _ => rfl
  refine lv_astore_n (lv' := [(3, .ref (A (1 + 2 * i0))), (0, .ref (A 0)), (1, .int x1), (2, .int x2)]) S.1 S.2.1 dX3_text_9 rfl hl (Nat.le_of_ble_eq_true rfl) rfl (fun ls hl => ?_)
  refine pk_new (fs := [.null, .int 0, .int 0, .int 0]) (ci := 1) S hK hW hinJ4 tyJ4_ok wd_795 wd_796 wd_27 rfl (fun j hj => by match j, hj with | 0, _ => rfl | 1, _ => rfl | 2, _ => rfl | 3, _ => rfl | j + 4, hj => exact absurd hj (by omega)) (by decide) (by decide) dX3_text_10 (fun b H_1 hq_b hW => ?_)
  have e_b : (va_up F b (.inr (1, [.null, .int 0, .int 0, .int 0]))) b = .inr (1, [.null, .int 0, .int 0, .int 0]) := up_eq
  have m_b : b ∈ L ++ [b] := List.mem_append_right _ (List.mem_singleton.mpr rfl)
  have hnw_b : b ∉ L := fun ee => hq_b (hsub _ ee)
  have hfr : ∀ x ∈ L, True → (va_up F b (.inr (1, [.null, .int 0, .int 0, .int 0]))) x = F x := fun x hx ht => (up_ne (fun (ee : x = b) => hnw_b (ee ▸ hx))).trans (hfr x hx ht)
  have hsub : ∀ x ∈ L, x ∈ L ++ [b] := fun x hx => List.mem_append_left _ (hsub x hx)
  generalize va_up F b (.inr (1, [.null, .int 0, .int 0, .int 0])) = F_2 at hW e_b hfr
  generalize L ++ [b] = L_3 at hW m_b hsub
  refine lv_dup S.1 S.2.1 dX3_text_13 rfl ?_
  have hsub0 := hsub
  refine pk_cIV (As := []) (rest := [.ref b]) S hK hST hW (c_J4_init_da8c8 m_b e_b) mc_J4_init_da8c8 wd_797 wd_798 rfl rfl np_J4_init_da8c8 rfl hl.1 rfl (Nat.le_of_ble_eq_true rfl) dX3_text_14 ⟨Nat.le_of_ble_eq_true rfl, Nat.le_of_ble_eq_true rfl⟩ ⟨Nat.le_of_ble_eq_true rfl, Nat.le_of_ble_eq_true rfl⟩ (fun L1 F1 H1 l1 hp hW => ?_)
  obtain ⟨hsub1, ⟨q0, g0, hq_q, m_q, n_b_q, e_b, e_q, hg0⟩, hfr1⟩ := hp
  have hbL : b ∉ L := hnw_b
  have hqL : q0 ∉ L := fun hx => hq_q (hsub _ hx)
  have m_b := hsub1 _ m_b
  have hsub : ∀ x ∈ L, x ∈ L1 := fun x hx => hsub1 x (hsub x hx)
  have hfr : ∀ x ∈ L, F1 x = F x := fun x hx => (hfr1 x (hsub0 x hx) (fun (ee : x = b) => hbL (ee ▸ hx))).trans (hfr x hx trivial)
  have hSB : SB κ b q0 16 0 L1 F1 := ⟨m_b, m_q, n_b_q, by omega, ⟨0, e_b⟩, g0, hg0, e_q⟩
  refine lv_astore (lv' := [(4, .ref b), (3, .ref (A (1 + 2 * i0))), (0, .ref (A 0)), (1, .int x1), (2, .int x2)]) S.1 S.2.1 dX3_text_17 hl (Nat.le_of_ble_eq_true rfl) rfl (fun ls hl => ?_)
  refine lv_iconst (v := 0) S.1 S.2.1 dX3_text_19 (by decide) ?_
  refine lv_istore (lv' := [(5, .int 0), (4, .ref b), (3, .ref (A (1 + 2 * i0))), (0, .ref (A 0)), (1, .int x1), (2, .int x2)]) S.1 S.2.1 dX3_text_20 hl (Nat.le_of_ble_eq_true rfl) rfl (fun ls hl => ?_)
  obtain ⟨k0, hk20, hk0e⟩ := hcn i0 hi2
  have B22 : ∀ (N i : Nat), N + i = k0 → ∀ (L9 : List Nat) (F9 : Nat → va_E) (v cap cnt c9 s9 : Nat), (∀ x ∈ L, x ∈ L9) → (∀ x ∈ L, F9 x = F x) → v ∉ L → SB κ b v cap cnt L9 F9 → cnt ≤ 4 * i → 16 ≤ cap → cap ≤ 160 → s9 + 6 ≤ 2 * cap → 34 * c9 ≤ s9 + 76 → ∀ (H9 : Heap) (l9 : List Loc) (ls : Array Slot), HW D cls L s H9 l9 L9 F9 → lv_has ls 6 [(5, .int (nI i)), (4, .ref b), (3, .ref (A (1 + 2 * i0))), (0, .ref (A 0)), (1, .int x1), (2, .int x2)] → W p l e (Rm 8 13 400) s m ([.ref (A 0), .int x1, .int x2] : List Value).toArray below meth c H9 l9 c9 s9 (ExR D cls s below ([.ref (A 0), .int x1, .int x2] : List Value).toArray 13 400 L F (fun r L' F' => (∀ x ∈ L, x ∈ L') ∧ r ∈ L' ∧ ∀ x ∈ L, F' x = F x) (fun E => ∃ k, f_X3_needTrack x1 = some (.inl k) ∧ E = xName k)) (F0 m 22 ls []) := by
    intro N
    induction N with
    | zero =>
      intro i hN L9 F9 v cap cnt c9 s9 hsub hfr hvL hSB hcnt hc16 hc160 hs9 hc9 H9 l9 ls hW hl
      refine lv_iload S.1 S.2.1 dX3_text_22 (lv_at hl 0 rfl) ?_
      refine lv_aload_n S.1 S.2.1 dX3_text_24 rfl (lv_at hl 2 rfl) ?_
      refine pk_cVI (As := []) (rest := [.int (nI i)]) S hK hST hW (c_X0_size ((hI.keep hsub hfr).row (i := i0) (by omega)) (show f_X0_size _ _ = some _ from rfl)) mc_X0_size wd_140 wd_141 wd_142 rfl np_X0_size ((hI.keep hsub hfr).mem _ (by omega)) ((hI.keep hsub hfr).rowH (i := i0) (by omega)) rfl rfl hl.1 rfl (Nat.le_of_ble_eq_true rfl) dX3_text_25 ⟨Nat.le_of_ble_eq_true rfl, Nat.le_of_ble_eq_true rfl⟩ ⟨by show c9 + 0 ≤ 13; omega, by show s9 + 0 ≤ 400; omega⟩ (fun r L8 F8 H8 l8 hp hW => ?_)
      obtain ⟨rfl, rfl, rfl⟩ := hp
      rw [hk0e, Nat.add_zero, Nat.add_zero]
      refine lv_icmp_ge (tgt := 63) S.1 S.2.1 dX3_text_28 (by decide) (fun _ => ?_) (fun c1 => absurd (nI_le (by omega) (by omega)) c1)
      refine lv_aload S.1 S.2.1 dX3_text_63 (lv_at hl 1 rfl) ?_
      obtain ⟨m_b, m_v, n_b_v, hle, ⟨ml, e_b⟩, g, hg, e_v⟩ := hSB
      refine pk_cVR (As := []) (rest := []) S hK hST hW (c_J4_toString_0e30d m_b m_v n_b_v e_b e_v hg hle (by omega)) mc_J4_toString_0e30d wd_939 wd_940 wd_941 rfl np_J4_toString_0e30d m_b e_b rfl rfl hl.1 rfl (Nat.le_of_ble_eq_true rfl) dX3_text_65 ⟨Nat.le_of_ble_eq_true rfl, Nat.le_of_ble_eq_true rfl⟩ ⟨by show c9 + 2 ≤ 13; omega, by show s9 + (4 + cnt) ≤ 400; omega⟩ (fun r L8 F8 H8 l8 hp hW => ?_)
      obtain ⟨hs1, hr1, ⟨q1, hq1, hSS⟩, hf1⟩ := hp
      exact xk_rret S hr (Or.inl ⟨_, rfl⟩) hlk hW ⟨fun x hx => hs1 x (hsub x hx), hSS.1, fun x hx => (hf1 x (hsub x hx)).trans (hfr x hx)⟩ (by show c9 + 2 ≤ 13; omega) (by show s9 + (4 + cnt) ≤ 400; omega) dX3_text_68
    | succ N ih =>
      intro i hN L9 F9 v cap cnt c9 s9 hsub hfr hvL hSB hcnt hc16 hc160 hs9 hc9 H9 l9 ls hW hl
      refine lv_iload S.1 S.2.1 dX3_text_22 (lv_at hl 0 rfl) ?_
      refine lv_aload_n S.1 S.2.1 dX3_text_24 rfl (lv_at hl 2 rfl) ?_
      refine pk_cVI (As := []) (rest := [.int (nI i)]) S hK hST hW (c_X0_size ((hI.keep hsub hfr).row (i := i0) (by omega)) (show f_X0_size _ _ = some _ from rfl)) mc_X0_size wd_140 wd_141 wd_142 rfl np_X0_size ((hI.keep hsub hfr).mem _ (by omega)) ((hI.keep hsub hfr).rowH (i := i0) (by omega)) rfl rfl hl.1 rfl (Nat.le_of_ble_eq_true rfl) dX3_text_25 ⟨Nat.le_of_ble_eq_true rfl, Nat.le_of_ble_eq_true rfl⟩ ⟨by show c9 + 0 ≤ 13; omega, by show s9 + 0 ≤ 400; omega⟩ (fun r L8 F8 H8 l8 hp hW => ?_)
      obtain ⟨rfl, rfl, rfl⟩ := hp
      rw [hk0e, Nat.add_zero, Nat.add_zero]
      refine lv_icmp_ge (tgt := 63) S.1 S.2.1 dX3_text_28 (by decide) (fun c1 => absurd c1 (nI_ge (by omega) (by omega))) (fun _ => ?_)
      have T44 : ∀ (L9 : List Nat) (F9 : Nat → va_E) (v cap cnt c9 s9 : Nat), (∀ x ∈ L, x ∈ L9) → (∀ x ∈ L, F9 x = F x) → v ∉ L → SB κ b v cap cnt L9 F9 → cnt ≤ 4 * i + 1 → 16 ≤ cap → cap ≤ 160 → s9 + 6 ≤ 2 * cap → 34 * c9 ≤ s9 + 76 → ∀ (H9 : Heap) (l9 : List Loc) (ls : Array Slot), HW D cls L s H9 l9 L9 F9 → lv_has ls 6 [(5, .int (nI i)), (4, .ref b), (3, .ref (A (1 + 2 * i0))), (0, .ref (A 0)), (1, .int x1), (2, .int x2)] → W p l e (Rm 8 13 400) s m ([.ref (A 0), .int x1, .int x2] : List Value).toArray below meth c H9 l9 c9 s9 (ExR D cls s below ([.ref (A 0), .int x1, .int x2] : List Value).toArray 13 400 L F (fun r L' F' => (∀ x ∈ L, x ∈ L') ∧ r ∈ L' ∧ ∀ x ∈ L, F' x = F x) (fun E => ∃ k, f_X3_needTrack x1 = some (.inl k) ∧ E = xName k)) (F0 m 44 ls []) := by
        intro L9 F9 v cap cnt c9 s9 hsub hfr hvL hSB hcnt hc16 hc160 hs9 hc9 H9 l9 ls hW hl
        obtain ⟨z, hz, hzr⟩ := hcc i0 hi2 x2 (nI i)
        refine lv_aload S.1 S.2.1 dX3_text_44 (lv_at hl 1 rfl) ?_
        refine lv_aload_n S.1 S.2.1 dX3_text_46 rfl (lv_at hl 2 rfl) ?_
        refine lv_iload_n S.1 S.2.1 dX3_text_47 rfl (lv_at hl 5 rfl) ?_
        refine lv_iload S.1 S.2.1 dX3_text_48 (lv_at hl 0 rfl) ?_
        refine pk_cVI (As := [.int x2, .int (nI i)]) (rest := [.ref b]) S hK hST hW (c_X0_readFrom ((hI.keep hsub hfr).row (i := i0) (by omega)) x2 (nI i) hzr) mc_X0_readFrom wd_225 wd_226 wd_227 rfl np_X0_readFrom ((hI.keep hsub hfr).mem _ (by omega)) ((hI.keep hsub hfr).rowH (i := i0) (by omega)) rfl rfl hl.1 rfl (Nat.le_of_ble_eq_true rfl) dX3_text_50 ⟨Nat.le_of_ble_eq_true rfl, Nat.le_of_ble_eq_true rfl⟩ ⟨by show c9 + 0 ≤ 13; omega, by show s9 + 0 ≤ 400; omega⟩ (fun r L7 F7 H7 l7 hp hW => ?_)
        obtain ⟨rfl, rfl, rfl⟩ := hp
        rw [Nat.add_zero, Nat.add_zero]
        have hp1 := ncap_pot cap (cnt + sdg z)
        have hp2 := gm34 (cap := cap) (m := cnt + sdg z) hc16
        have hp3 := sdg_le z
        obtain ⟨ml, e_b⟩ := hSB.2.2.2.2.1
        refine pk_cVR (As := [.int (nI z)]) (rest := []) S hK hST hW (c_SBi hSB hz (by omega) (by omega)) mc_J4_append_bf812 wd_907 wd_908 wd_909 rfl np_J4_append_bf812 hSB.1 e_b rfl rfl hl.1 rfl (Nat.le_of_ble_eq_true rfl) dX3_text_53 ⟨Nat.le_of_ble_eq_true rfl, Nat.le_of_ble_eq_true rfl⟩ ⟨by show c9 + gmc cap (cnt + sdg z) ≤ 13; omega, by show s9 + gms cap (cnt + sdg z) ≤ 400; omega⟩ (fun r L8 F8 H8 l8 hp hW => ?_)
        obtain ⟨rfl, hs1, ⟨v1, hv1, hSB1⟩, hf1⟩ := hp
        have hsub1 : ∀ x ∈ L, x ∈ L8 := fun x hx => hs1 x (hsub x hx)
        have hfr1 : ∀ x ∈ L, F8 x = F x := fun x hx => (hf1 x (hsub x hx) (fun (ee : x = b) => hbL (ee ▸ hx)) (fun (ee : x = v) => hvL (ee ▸ hx))).trans (hfr x hx)
        have hv1L : v1 ∉ L := fun hx => hv1.elim (fun ee => hvL (ee ▸ hx)) (fun hn => hn (hsub _ hx))
        refine lv_pop S.1 S.2.1 dX3_text_56 rfl ?_
        refine lv_iinc (lv' := [(5, .int (nI (i + 1))), (4, .ref b), (3, .ref (A (1 + 2 * i0))), (0, .ref (A 0)), (1, .int x1), (2, .int x2)]) S.1 S.2.1 dX3_text_57 hl (k := 0) rfl (nI_1 i) (by decide) rfl (fun ls hl => ?_)
        refine lv_goto (tgt := 22) S.1 S.2.1 dX3_text_60 (by decide) ?_
        exact ih (i + 1) (by omega) _ _ v1 _ _ _ _ hsub1 hfr1 hv1L hSB1 (by omega) (by omega) (by omega) (by omega) (by omega) _ _ _ hW hl
      refine lv_iload S.1 S.2.1 dX3_text_31 (lv_at hl 0 rfl) ?_
      refine lv_if_le (tgt := 44) S.1 S.2.1 dX3_text_33 (by decide) (fun _ => T44 _ _ v _ _ _ _ hsub hfr hvL hSB (by omega) hc16 hc160 hs9 hc9 _ _ _ hW hl) (fun c1 => ?_)
      refine lv_aload S.1 S.2.1 dX3_text_36 (lv_at hl 1 rfl) ?_
      refine lv_bipush (v := 32) S.1 S.2.1 dX3_text_38 (by decide) ?_
      have hp1 := ncap_pot cap (cnt + 1)
      have hp2 := gm34 (cap := cap) (m := cnt + 1) hc16
      obtain ⟨ml, e_b⟩ := hSB.2.2.2.2.1
      refine pk_cVR (As := [.int 32]) (rest := []) S hK hST hW (c_SBc hSB (ch := 32) (by decide) (by omega) (by omega)) mc_J4_append_cf468 wd_821 wd_822 wd_823 rfl np_J4_append_cf468 hSB.1 e_b rfl rfl hl.1 rfl (Nat.le_of_ble_eq_true rfl) dX3_text_40 ⟨Nat.le_of_ble_eq_true rfl, Nat.le_of_ble_eq_true rfl⟩ ⟨by show c9 + gmc cap (cnt + 1) ≤ 13; omega, by show s9 + gms cap (cnt + 1) ≤ 400; omega⟩ (fun r L8 F8 H8 l8 hp hW => ?_)
      obtain ⟨rfl, hs1, ⟨v1, hv1, hSB1⟩, hf1⟩ := hp
      have hsub1 : ∀ x ∈ L, x ∈ L8 := fun x hx => hs1 x (hsub x hx)
      have hfr1 : ∀ x ∈ L, F8 x = F x := fun x hx => (hf1 x (hsub x hx) (fun (ee : x = b) => hbL (ee ▸ hx)) (fun (ee : x = v) => hvL (ee ▸ hx))).trans (hfr x hx)
      have hv1L : v1 ∉ L := fun hx => hv1.elim (fun ee => hvL (ee ▸ hx)) (fun hn => hn (hsub _ hx))
      refine lv_pop S.1 S.2.1 dX3_text_43 rfl ?_
      exact T44 _ _ v1 _ _ _ _ hsub1 hfr1 hv1L hSB1 (by omega) (by omega) (by omega) (by omega) (by omega) _ _ _ hW hl
  exact B22 k0 0 (by omega) _ _ q0 _ _ _ _ hsub hfr hqL hSB (by omega) (by omega) (by omega) (by decide) (by decide) _ _ _ hW (show lv_has ls 6 [(5, .int (nI 0)), (4, .ref b), (3, .ref (A (1 + 2 * i0))), (0, .ref (A 0)), (1, .int x1), (2, .int x2)] from hl)
