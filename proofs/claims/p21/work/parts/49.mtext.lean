/-! textOf() and text() of the model -/
theorem lget_in {xs : List Int32} {j : Nat} (h : j < xs.length) (hb : xs.length < 2147483648) : lget xs (nI j) = some (xs.getD j 0) := by
  unfold lget
  have hc : (nI j).toNatClampNeg = j := nI_clamp (by omega)
  rw [hc, if_neg (by intro q; rcases q with q | q; exact nI_pos (by omega) q; omega)]
/-- how long a text is, after i pieces -/
def tlG (xs : List Int32) (x2 : Int32) : Nat → Nat
  | 0 => 0
  | i + 1 => tlG xs x2 i + (if i = 0 then 0 else 1) + sdg ((xs.getD (if x2 = 0 then i else xs.length - 1 - i) 0).toNatClampNeg)
theorem mc_X6_textOf : MCode yX6_textOf cX6_textOf 5 (some (.object "java/lang/String")) := ⟨wd_1557, wd_5, by decide, by decide⟩
theorem np_X6_textOf : (parseMethodDescriptor yX6_textOf.desc).map (fun d => d.parameters.length) = some 2 := by decide +kernel
set_option maxHeartbeats 4000000 in
set_option maxRecDepth 100000 in
theorem c_X6_textOf {l : Launch} {D : va_G} {κ : Nat → ClassId} {ζ : Nat → Nat} {L : List Nat} {F : Nat → va_E} {τ : MS} {B : Nat → Nat} (hI : MI κ ζ B τ L F) (x1 x2 : Int32) {t k0 : Nat} (ht : gtr x1 = some t) (hk0 : k0 = (τ.1 t).length) (hk20 : k0 ≤ 20) (hcc : ∀ j, j < k0 → ∃ v, v < 1000 ∧ (τ.1 t).getD j 0 = nI v) : MtR l D cls (ty5 κ) ζ yX6_textOf cX6_textOf 5 (some (.object "java/lang/String")) 8 13 429 ([.ref (B 0), .int x1, .int x2] : List Value) L F (fun r L' F' => (∀ x ∈ L, x ∈ L') ∧ r ∉ L ∧ (∃ q, q ∉ L ∧ SS κ r q (tlG (τ.1 t) x2 k0) L' F') ∧ ∀ x ∈ L, F' x = F x) := by
  refine MtR.of (by decide) (Nat.le_of_ble_eq_true rfl) ?_
  intro p e s m below meth c S hr hlk hini hK hW hST ls hl
  have hl : lv_has ls 5 [(0, .ref (B 0)), (1, .int x1), (2, .int x2)] := hl
  have hsz : f_X6_size τ x1 = some (nI k0) := by (unfold f_X6_size; rw [ht]; show some (nI (τ.1 t).length) = _; rw [← hk0])
  have hsub : ∀ x ∈ L, x ∈ L := fun x hx => hx
  have hfr : ∀ x ∈ L, True → F x = F x := fun _ _ _ => rfl
  refine pk_new (fs := [.null, .int 0, .int 0, .int 0]) (ci := 1) S hK hW hinJ4 tyJ4_ok wd_1558 wd_796 wd_27 rfl (fun j hj => by match j, hj with | 0, _ => rfl | 1, _ => rfl | 2, _ => rfl | 3, _ => rfl | j + 4, hj => exact absurd hj (by omega)) (by decide) (by decide) dX6_textOf_0 (fun b H_1 hq_b hW => ?_)
  have e_b : (va_up F b (.inr (1, [.null, .int 0, .int 0, .int 0]))) b = .inr (1, [.null, .int 0, .int 0, .int 0]) := up_eq
  have m_b : b ∈ L ++ [b] := List.mem_append_right _ (List.mem_singleton.mpr rfl)
  have hnw_b : b ∉ L := fun ee => hq_b (hsub _ ee)
  have hfr : ∀ x ∈ L, True → (va_up F b (.inr (1, [.null, .int 0, .int 0, .int 0]))) x = F x := fun x hx ht => (up_ne (fun (ee : x = b) => hnw_b (ee ▸ hx))).trans (hfr x hx ht)
  have hsub : ∀ x ∈ L, x ∈ L ++ [b] := fun x hx => List.mem_append_left _ (hsub x hx)
  generalize va_up F b (.inr (1, [.null, .int 0, .int 0, .int 0])) = F_2 at hW e_b hfr
  generalize L ++ [b] = L_3 at hW m_b hsub
  refine lv_dup S.1 S.2.1 dX6_textOf_3 rfl ?_
  have hsub0 := hsub
  refine pk_cIV (As := []) (rest := [.ref b]) S hK hST hW (c_J4_init_da8c8 m_b e_b) mc_J4_init_da8c8 wd_1559 wd_798 rfl rfl np_J4_init_da8c8 rfl hl.1 rfl (Nat.le_of_ble_eq_true rfl) dX6_textOf_4 ⟨Nat.le_of_ble_eq_true rfl, Nat.le_of_ble_eq_true rfl⟩ ⟨Nat.le_of_ble_eq_true rfl, Nat.le_of_ble_eq_true rfl⟩ (fun L1 F1 H1 l1 hp hW => ?_)
  obtain ⟨hsub1, ⟨q0, g0, hq_q, m_q, n_b_q, e_b, e_q, hg0⟩, hfr1⟩ := hp
  have hbL : b ∉ L := hnw_b
  have hqL : q0 ∉ L := fun hx => hq_q (hsub _ hx)
  have m_b := hsub1 _ m_b
  have hsub : ∀ x ∈ L, x ∈ L1 := fun x hx => hsub1 x (hsub x hx)
  have hfr : ∀ x ∈ L, F1 x = F x := fun x hx => (hfr1 x (hsub0 x hx) (fun (ee : x = b) => hbL (ee ▸ hx))).trans (hfr x hx trivial)
  have hSB : SB κ b q0 16 0 L1 F1 := ⟨m_b, m_q, n_b_q, by omega, ⟨0, e_b⟩, g0, hg0, e_q⟩
  refine lv_astore_n (lv' := [(3, .ref b), (0, .ref (B 0)), (1, .int x1), (2, .int x2)]) S.1 S.2.1 dX6_textOf_7 rfl hl (Nat.le_of_ble_eq_true rfl) rfl (fun ls hl => ?_)
  refine lv_iconst (v := 0) S.1 S.2.1 dX6_textOf_8 (by decide) ?_
  refine lv_istore (lv' := [(4, .int 0), (3, .ref b), (0, .ref (B 0)), (1, .int x1), (2, .int x2)]) S.1 S.2.1 dX6_textOf_9 hl (Nat.le_of_ble_eq_true rfl) rfl (fun ls hl => ?_)
  have B11 : ∀ (N i : Nat), N + i = k0 → ∀ (L9 : List Nat) (F9 : Nat → va_E) (v cap cnt c9 s9 : Nat), (∀ x ∈ L, x ∈ L9) → (∀ x ∈ L, F9 x = F x) → v ∉ L → SB κ b v cap cnt L9 F9 → cnt ≤ 4 * i → cnt = tlG (τ.1 t) x2 i → 16 ≤ cap → cap ≤ 160 → s9 + 12 ≤ 2 * cap → 34 * c9 ≤ s9 + 48 → ∀ (H9 : Heap) (l9 : List Loc) (ls : Array Slot), HW D cls L s H9 l9 L9 F9 → lv_has ls 5 [(4, .int (nI i)), (3, .ref b), (0, .ref (B 0)), (1, .int x1), (2, .int x2)] → W p l e (Rm 8 13 429) s m ([.ref (B 0), .int x1, .int x2] : List Value).toArray below meth c H9 l9 c9 s9 (EnR D cls s below ([.ref (B 0), .int x1, .int x2] : List Value).toArray 13 429 L (fun r L' F' => (∀ x ∈ L, x ∈ L') ∧ r ∉ L ∧ (∃ q, q ∉ L ∧ SS κ r q (tlG (τ.1 t) x2 k0) L' F') ∧ ∀ x ∈ L, F' x = F x)) (F0 m 11 ls []) := by
    intro N
    induction N with
    | zero =>
      intro i hN L9 F9 v cap cnt c9 s9 hsub hfr hvL hSB hcnt hct hc16 hc160 hs9 hc9 H9 l9 ls hW hl
      have hI9 := hI.keep0 hsub hfr (noE hW hST)
      refine lv_iload S.1 S.2.1 dX6_textOf_11 (lv_at hl 0 rfl) ?_
      refine lv_aload_n S.1 S.2.1 dX6_textOf_13 rfl (lv_at hl 2 rfl) ?_
      refine lv_iload_n S.1 S.2.1 dX6_textOf_14 rfl (lv_at hl 3 rfl) ?_
      refine pk_cVI (As := [.int x1]) (rest := [.int (nI i)]) S hK hST hW (c_X6_size hI9 x1 hsz) mc_X6_size wd_1199 wd_1201 wd_1703 rfl np_X6_size (hI9.mem (by decide)) hI9.this rfl rfl hl.1 rfl (Nat.le_of_ble_eq_true rfl) dX6_textOf_15 ⟨Nat.le_of_ble_eq_true rfl, Nat.le_of_ble_eq_true rfl⟩ ⟨by show c9 + 0 ≤ 13; omega, by show s9 + 0 ≤ 429; omega⟩ (fun r L8 F8 H8 l8 hp hW => ?_)
      obtain ⟨rfl, rfl, rfl⟩ := hp
      rw [Nat.add_zero, Nat.add_zero]
      refine lv_icmp_ge (tgt := 71) S.1 S.2.1 dX6_textOf_18 (by decide) (fun _ => ?_) (fun c1 => absurd (nI_le (by omega) (by omega)) c1)
      refine lv_aload_n S.1 S.2.1 dX6_textOf_71 rfl (lv_at hl 1 rfl) ?_
      obtain ⟨m_b, m_v, n_b_v, hle, ⟨ml, e_b⟩, g, hg, e_v⟩ := hSB
      refine pk_cVR (As := []) (rest := []) S hK hST hW (c_J4_toString_0e30d m_b m_v n_b_v e_b e_v hg hle (by omega)) mc_J4_toString_0e30d wd_1563 wd_940 wd_941 rfl np_J4_toString_0e30d m_b e_b rfl rfl hl.1 rfl (Nat.le_of_ble_eq_true rfl) dX6_textOf_72 ⟨Nat.le_of_ble_eq_true rfl, Nat.le_of_ble_eq_true rfl⟩ ⟨by show c9 + 2 ≤ 13; omega, by show s9 + (4 + cnt) ≤ 429; omega⟩ (fun r L8 F8 H8 l8 hp hW => ?_)
      obtain ⟨hs1, hr1, ⟨q1, hq1, hSS⟩, hf1⟩ := hp
      exact pk_rret S hr (Or.inl ⟨_, rfl⟩) hlk hW ⟨fun x hx => hs1 x (hsub x hx), fun hx => hr1 (hsub _ hx), ⟨q1, fun hx => hq1 (hsub _ hx), (by rw [hct, show i = k0 by omega] at hSS; exact hSS)⟩, fun x hx => (hf1 x (hsub x hx)).trans (hfr x hx)⟩ (by show c9 + 2 ≤ 13; omega) (by show s9 + (4 + cnt) ≤ 429; omega) dX6_textOf_75
    | succ N ih =>
      intro i hN L9 F9 v cap cnt c9 s9 hsub hfr hvL hSB hcnt hct hc16 hc160 hs9 hc9 H9 l9 ls hW hl
      have hI9 := hI.keep0 hsub hfr (noE hW hST)
      refine lv_iload S.1 S.2.1 dX6_textOf_11 (lv_at hl 0 rfl) ?_
      refine lv_aload_n S.1 S.2.1 dX6_textOf_13 rfl (lv_at hl 2 rfl) ?_
      refine lv_iload_n S.1 S.2.1 dX6_textOf_14 rfl (lv_at hl 3 rfl) ?_
      refine pk_cVI (As := [.int x1]) (rest := [.int (nI i)]) S hK hST hW (c_X6_size hI9 x1 hsz) mc_X6_size wd_1199 wd_1201 wd_1703 rfl np_X6_size (hI9.mem (by decide)) hI9.this rfl rfl hl.1 rfl (Nat.le_of_ble_eq_true rfl) dX6_textOf_15 ⟨Nat.le_of_ble_eq_true rfl, Nat.le_of_ble_eq_true rfl⟩ ⟨by show c9 + 0 ≤ 13; omega, by show s9 + 0 ≤ 429; omega⟩ (fun r L8 F8 H8 l8 hp hW => ?_)
      obtain ⟨rfl, rfl, rfl⟩ := hp
      rw [Nat.add_zero, Nat.add_zero]
      refine lv_icmp_ge (tgt := 71) S.1 S.2.1 dX6_textOf_18 (by decide) (fun c1 => absurd c1 (nI_ge (by omega) (by omega))) (fun _ => ?_)
      have T58 : ∀ (jj : Nat), jj < k0 → ∀ (L9 : List Nat) (F9 : Nat → va_E) (v cap cnt c9 s9 : Nat), (∀ x ∈ L, x ∈ L9) → (∀ x ∈ L, F9 x = F x) → v ∉ L → SB κ b v cap cnt L9 F9 → cnt ≤ 4 * i + 1 → cnt = tlG (τ.1 t) x2 i + (if i = 0 then 0 else 1) → jj = (if x2 = 0 then i else k0 - 1 - i) → 16 ≤ cap → cap ≤ 160 → s9 + 12 ≤ 2 * cap → 34 * c9 ≤ s9 + 48 → ∀ (H9 : Heap) (l9 : List Loc), HW D cls L s H9 l9 L9 F9 → W p l e (Rm 8 13 429) s m ([.ref (B 0), .int x1, .int x2] : List Value).toArray below meth c H9 l9 c9 s9 (EnR D cls s below ([.ref (B 0), .int x1, .int x2] : List Value).toArray 13 429 L (fun r L' F' => (∀ x ∈ L, x ∈ L') ∧ r ∉ L ∧ (∃ q, q ∉ L ∧ SS κ r q (tlG (τ.1 t) x2 k0) L' F') ∧ ∀ x ∈ L, F' x = F x)) (F0 m 58 ls [.int (nI jj), .int x1, .ref (B 0), .ref b]) := by
        intro jj hjj L9 F9 v cap cnt c9 s9 hsub hfr hvL hSB hcnt hct hjx hc16 hc160 hs9 hc9 H9 l9 hW
        have hI9 := hI.keep0 hsub hfr (noE hW hST)
        obtain ⟨z, hz, hzr⟩ := hcc jj (by omega)
        have hget : f_X6_get τ x1 (nI jj) = some (nI z) := by (unfold f_X6_get; rw [ht]; show (lget (τ.1 t) (nI jj)).bind _ = _; rw [lget_in (by omega) (by omega), hzr]; rfl)
        refine pk_cVI (As := [.int x1, .int (nI jj)]) (rest := [.ref b]) S hK hST hW (c_X6_get hI9 x1 (nI jj) hget) mc_X6_get wd_1299 wd_1301 wd_1711 rfl np_X6_get (hI9.mem (by decide)) hI9.this rfl rfl hl.1 rfl (Nat.le_of_ble_eq_true rfl) dX6_textOf_58 ⟨Nat.le_of_ble_eq_true rfl, Nat.le_of_ble_eq_true rfl⟩ ⟨by show c9 + 0 ≤ 13; omega, by show s9 + 0 ≤ 429; omega⟩ (fun r L7 F7 H7 l7 hp hW => ?_)
        obtain ⟨rfl, rfl, rfl⟩ := hp
        rw [Nat.add_zero, Nat.add_zero]
        have hp1 := ncap_pot cap (cnt + sdg z)
        have hp2 := gm34 (cap := cap) (m := cnt + sdg z) hc16
        have hp3 := sdg_le z
        obtain ⟨ml, e_b⟩ := hSB.2.2.2.2.1
        refine pk_cVR (As := [.int (nI z)]) (rest := []) S hK hST hW (c_SBi hSB hz (by omega) (by omega)) mc_J4_append_bf812 wd_1562 wd_908 wd_909 rfl np_J4_append_bf812 hSB.1 e_b rfl rfl hl.1 rfl (Nat.le_of_ble_eq_true rfl) dX6_textOf_61 ⟨Nat.le_of_ble_eq_true rfl, Nat.le_of_ble_eq_true rfl⟩ ⟨by show c9 + gmc cap (cnt + sdg z) ≤ 13; omega, by show s9 + gms cap (cnt + sdg z) ≤ 429; omega⟩ (fun r L8 F8 H8 l8 hp hW => ?_)
        obtain ⟨rfl, hs1, ⟨v1, hv1, hSB1⟩, hf1⟩ := hp
        have hsub1 : ∀ x ∈ L, x ∈ L8 := fun x hx => hs1 x (hsub x hx)
        have hfr1 : ∀ x ∈ L, F8 x = F x := fun x hx => (hf1 x (hsub x hx) (fun (ee : x = b) => hbL (ee ▸ hx)) (fun (ee : x = v) => hvL (ee ▸ hx))).trans (hfr x hx)
        have hv1L : v1 ∉ L := fun hx => hv1.elim (fun ee => hvL (ee ▸ hx)) (fun hn => hn (hsub _ hx))
        refine lv_pop S.1 S.2.1 dX6_textOf_64 rfl ?_
        refine lv_iinc (lv' := [(4, .int (nI (i + 1))), (3, .ref b), (0, .ref (B 0)), (1, .int x1), (2, .int x2)]) S.1 S.2.1 dX6_textOf_65 hl (k := 0) rfl (nI_1 i) (by decide) rfl (fun ls hl => ?_)
        refine lv_goto (tgt := 11) S.1 S.2.1 dX6_textOf_68 (by decide) ?_
        exact ih (i + 1) (by omega) _ _ v1 _ _ _ _ hsub1 hfr1 hv1L hSB1 (by omega) (by show _ = tlG (τ.1 t) x2 i + (if i = 0 then 0 else 1) + sdg (((τ.1 t).getD (if x2 = 0 then i else (τ.1 t).length - 1 - i) 0).toNatClampNeg); rw [← hk0, ← hjx, hzr, nI_clamp (by omega), hct]) (by omega) (by omega) (by omega) (by omega) _ _ _ hW hl
      have T34 : ∀ j : Nat, j < 2 → (j = if i = 0 then 0 else 1) → W p l e (Rm 8 13 429) s m ([.ref (B 0), .int x1, .int x2] : List Value).toArray below meth c H8 l8 c9 s9 (EnR D cls s below ([.ref (B 0), .int x1, .int x2] : List Value).toArray 13 429 L (fun r L' F' => (∀ x ∈ L, x ∈ L') ∧ r ∉ L ∧ (∃ q, q ∉ L ∧ SS κ r q (tlG (τ.1 t) x2 k0) L' F') ∧ ∀ x ∈ L, F' x = F x)) (F0 m 34 ls [.ref (ζ (261 + j)), .ref b]) := by
        intro j hj hjv
        have hp1 := ncap_pot cap (cnt + j)
        have hp2 := gm34 (cap := cap) (m := cnt + j) hc16
        obtain ⟨ml, e_b⟩ := hSB.2.2.2.2.1
        refine pk_cVR (As := [.ref (ζ (261 + j))]) (rest := []) S hK hST hW (c_SBk hSB hj (by omega) (by omega)) mc_J4_append_15ec4 wd_1561 wd_981 wd_982 rfl np_J4_append_15ec4 hSB.1 e_b rfl rfl hl.1 rfl (Nat.le_of_ble_eq_true rfl) dX6_textOf_34 ⟨Nat.le_of_ble_eq_true rfl, Nat.le_of_ble_eq_true rfl⟩ ⟨by show c9 + gmc cap (cnt + j) ≤ 13; omega, by show s9 + gms cap (cnt + j) ≤ 429; omega⟩ (fun r L8 F8 H8 l8 hp hW => ?_)
        obtain ⟨rfl, hs1, ⟨v1, hv1, hSB1⟩, hf1⟩ := hp
        have hsub1 : ∀ x ∈ L, x ∈ L8 := fun x hx => hs1 x (hsub x hx)
        have hfr1 : ∀ x ∈ L, F8 x = F x := fun x hx => (hf1 x (hsub x hx) (fun (ee : x = b) => hbL (ee ▸ hx)) (fun (ee : x = v) => hvL (ee ▸ hx))).trans (hfr x hx)
        have hv1L : v1 ∉ L := fun hx => hv1.elim (fun ee => hvL (ee ▸ hx)) (fun hn => hn (hsub _ hx))
        have hI8 := hI.keep0 hsub1 hfr1 (noE hW hST)
        refine lv_aload_n S.1 S.2.1 dX6_textOf_37 rfl (lv_at hl 2 rfl) ?_
        refine lv_iload_n S.1 S.2.1 dX6_textOf_38 rfl (lv_at hl 3 rfl) ?_
        refine lv_iload_n S.1 S.2.1 dX6_textOf_39 rfl (lv_at hl 4 rfl) ?_
        refine lv_if_eq (tgt := 56) S.1 S.2.1 dX6_textOf_40 (by decide) (fun c2 => ?_) (fun c2 => ?_)
        · refine lv_iload S.1 S.2.1 dX6_textOf_56 (lv_at hl 0 rfl) ?_
          exact T58 i (by omega) _ _ v1 _ _ _ _ hsub1 hfr1 hv1L hSB1 (by omega) (by rw [hct, ← hjv]) (if_pos c2).symm (by omega) (by omega) (by omega) (by omega) _ _ hW
        · refine lv_aload_n S.1 S.2.1 dX6_textOf_43 rfl (lv_at hl 2 rfl) ?_
          refine lv_iload_n S.1 S.2.1 dX6_textOf_44 rfl (lv_at hl 3 rfl) ?_
          refine pk_cVI (As := [.int x1]) (rest := [.int x1, .ref (B 0), .ref b]) S hK hST hW (c_X6_size hI8 x1 hsz) mc_X6_size wd_1199 wd_1201 wd_1703 rfl np_X6_size (hI8.mem (by decide)) hI8.this rfl rfl hl.1 rfl (Nat.le_of_ble_eq_true rfl) dX6_textOf_45 ⟨Nat.le_of_ble_eq_true rfl, Nat.le_of_ble_eq_true rfl⟩ ⟨by show c9 + gmc cap (cnt + j) + 0 ≤ 13; omega, by show s9 + gms cap (cnt + j) + 0 ≤ 429; omega⟩ (fun r L7 F7 H7 l7 hp hW => ?_)
          obtain ⟨rfl, rfl, rfl⟩ := hp
          rw [Nat.add_zero, Nat.add_zero]
          refine lv_iconst (v := 1) S.1 S.2.1 dX6_textOf_48 (by decide) ?_
          refine lv_isub S.1 S.2.1 dX6_textOf_49 ?_
          refine lv_iload S.1 S.2.1 dX6_textOf_50 (lv_at hl 0 rfl) ?_
          refine lv_isub S.1 S.2.1 dX6_textOf_52 ?_
          refine lv_topi (fun y ey => ?_)
          have ey : y = nI (k0 - 1 - i) := ey.trans (by rw [show nI k0 - 1 = nI (k0 - 1) from pk_sub (b := 1) (by omega), pk_sub (by omega)])
          subst ey
          refine lv_goto (tgt := 58) S.1 S.2.1 dX6_textOf_53 (by decide) ?_
          exact T58 (k0 - 1 - i) (by omega) _ _ v1 _ _ _ _ hsub1 hfr1 hv1L hSB1 (by omega) (by rw [hct, ← hjv]) (if_neg c2).symm (by omega) (by omega) (by omega) (by omega) _ _ hW
      refine lv_aload_n S.1 S.2.1 dX6_textOf_21 rfl (lv_at hl 1 rfl) ?_
      refine lv_iload S.1 S.2.1 dX6_textOf_22 (lv_at hl 0 rfl) ?_
      refine lv_if_ne (tgt := 32) S.1 S.2.1 dX6_textOf_24 (by decide) (fun c2 => ?_) (fun c2 => ?_)
      · refine va_ldcS S.1 S.2.1 S.2.2.2.1 hST.2.s1 dX6_textOf_32 ?_
        exact T34 1 (by omega) (by rw [if_neg (fun q => c2 (by rw [q]; rfl))])
      · refine va_ldcS S.1 S.2.1 S.2.2.2.1 hST.2.s0 dX6_textOf_27 ?_
        refine lv_goto (tgt := 34) S.1 S.2.1 dX6_textOf_29 (by decide) ?_
        exact T34 0 (by omega) (by rw [if_pos ((nI_eq (a := i) (b := 0) (by omega) (by omega)).mp c2)])
  exact B11 k0 0 (by omega) _ _ q0 _ _ _ _ hsub hfr hqL hSB (by omega) rfl (by omega) (by omega) (by decide) (by decide) _ _ _ hW (show lv_has ls 5 [(4, .int (nI 0)), (3, .ref b), (0, .ref (B 0)), (1, .int x1), (2, .int x2)] from hl)
theorem mc_X6_text : MCode yX6_text cX6_text 3 (some (.object "java/lang/String")) := ⟨wd_1552, wd_5, by decide, by decide⟩
theorem np_X6_text : (parseMethodDescriptor yX6_text.desc).map (fun d => d.parameters.length) = some 2 := by decide +kernel
set_option maxHeartbeats 4000000 in
set_option maxRecDepth 100000 in
theorem c_X6_text {l : Launch} {D : va_G} {κ : Nat → ClassId} {ζ : Nat → Nat} {L : List Nat} {F : Nat → va_E} {τ : MS} {B : Nat → Nat} (hI : MI κ ζ B τ L F) (x1 x2 : Int32) {zn : Int32} (hzn : f_X6_isNoTrack x1 = some zn) {res : Int32 × MS} (hz : f_X6_start τ zn 1 = some res) (hcc : res.1 = 0 → ∃ t, gtr x1 = some t ∧ (res.2.1 t).length ≤ 20 ∧ ∀ j, j < (res.2.1 t).length → ∃ v, v < 1000 ∧ (res.2.1 t).getD j 0 = nI v) : MtR l D cls (ty5 κ) ζ yX6_text cX6_text 3 (some (.object "java/lang/String")) 9 13 429 ([.ref (B 0), .int x1, .int x2] : List Value) L F (fun r L' F' => MI κ ζ B res.2 L' F' ∧ FrM L F L' F') := by
  refine MtR.of (by decide) (Nat.le_of_ble_eq_true rfl) ?_
  intro p e s m below meth c S hr hlk hini hK hW hST ls hl
  have hl : lv_has ls 3 [(0, .ref (B 0)), (1, .int x1), (2, .int x2)] := hl
  refine lv_aload_n S.1 S.2.1 dX6_text_0 rfl (lv_at hl 0 rfl) ?_
  refine lv_iload_n S.1 S.2.1 dX6_text_1 rfl (lv_at hl 1 rfl) ?_
  refine pk_cSI (As := [.int x1]) (rest := [.ref (B 0)]) S hK hST hW (c_X6_isNoTrack x1 hzn) mc_X6_isNoTrack wd_1182 wd_1183 np_X6_isNoTrack rfl hl.1 rfl (Nat.le_of_ble_eq_true rfl) dX6_text_2 ⟨Nat.le_of_ble_eq_true rfl, Nat.le_of_ble_eq_true rfl⟩ ⟨Nat.le_of_ble_eq_true rfl, Nat.le_of_ble_eq_true rfl⟩ (fun r L7 F7 H7 l7 hp hW => ?_)
  obtain ⟨rfl, rfl, rfl⟩ := hp
  refine lv_iconst (v := 1) S.1 S.2.1 dX6_text_5 (by decide) ?_
  refine pk_cVI (As := [.int zn, .int 1]) (rest := []) S hK hST hW (c_X6_start hI zn 1 hz) mc_X6_start wd_1188 wd_1190 wd_1701 rfl np_X6_start (hI.mem (by decide)) hI.this rfl rfl hl.1 rfl (Nat.le_of_ble_eq_true rfl) dX6_text_6 ⟨Nat.le_of_ble_eq_true rfl, Nat.le_of_ble_eq_true rfl⟩ ⟨Nat.le_of_ble_eq_true rfl, Nat.le_of_ble_eq_true rfl⟩ (fun r L8 F8 H8 l8 hp hW => ?_)
  obtain ⟨hr0, hI8, hFr8⟩ := hp
  refine lv_if_eq (tgt := 17) S.1 S.2.1 dX6_text_9 (by decide) (fun c1 => ?_) (fun c1 => ?_)
  · obtain ⟨t, ht, hk20, hcd⟩ := hcc (hr0.trans c1)
    refine lv_aload_n S.1 S.2.1 dX6_text_17 rfl (lv_at hl 0 rfl) ?_
    refine lv_iload_n S.1 S.2.1 dX6_text_18 rfl (lv_at hl 1 rfl) ?_
    refine lv_iload_n S.1 S.2.1 dX6_text_19 rfl (lv_at hl 2 rfl) ?_
    refine pk_cVR (As := [.int x1, .int x2]) (rest := []) S hK hST hW (c_X6_textOf hI8 x1 x2 ht rfl hk20 hcd) mc_X6_textOf wd_1554 wd_1556 wd_1727 rfl np_X6_textOf (hI8.mem (by decide)) hI8.this rfl rfl hl.1 rfl (Nat.le_of_ble_eq_true rfl) dX6_text_20 ⟨Nat.le_of_ble_eq_true rfl, Nat.le_of_ble_eq_true rfl⟩ ⟨Nat.le_of_ble_eq_true rfl, Nat.le_of_ble_eq_true rfl⟩ (fun r9 L9 F9 H9 l9 hp hW => ?_)
    obtain ⟨hs1, hr1, -, hf1⟩ := hp
    exact pk_rret S hr (Or.inl ⟨_, rfl⟩) hlk hW ⟨hI8.keep0 hs1 hf1 (noE hW hST), hFr8.tr ⟨hs1, fun x hx _ => hf1 x hx⟩⟩ (by decide) (by decide) dX6_text_23
  · refine va_ldcS S.1 S.2.1 S.2.2.2.1 hST.2.s0 dX6_text_12 ?_
    refine lv_goto (tgt := 23) S.1 S.2.1 dX6_text_14 (by decide) ?_
    exact pk_rret S hr (Or.inl ⟨_, rfl⟩) hlk hW ⟨hI8, hFr8⟩ (by decide) (by decide) dX6_text_23
