/-! isWhole(), isSound(), digest() -/
theorem MI.wk {κ : Nat → ClassId} {ζ : Nat → Nat} {B : Nat → Nat} {τ : MS} {L : List Nat} {F : Nat → va_E} (hI : MI κ ζ B τ L F) {w : Nat} (hw : w < 2) : ∃ f, F (B 7) = rfA (κ 4) 2 f ∧ f (nI w).toNatClampNeg = some (B (8 + w)) := by
  obtain ⟨-, f, e, f0, f1⟩ := hI.wks
  refine ⟨f, e, ?_⟩
  rw [nI_clamp (by omega)]
  match w, hw with
  | 0, _ => exact f0
  | 1, _ => exact f1
  | w + 2, hw => exact absurd hw (by omega)
theorem MI.keepT {κ : Nat → ClassId} {ζ : Nat → Nat} {B : Nat → Nat} {τ : MS} {L L' : List Nat} {F F' : Nat → va_E} (hI : MI κ ζ B τ L F) (hsub : ∀ x ∈ L, x ∈ L') (hfr : ∀ x ∈ L, ¬ isIt (F x) → F' x = F x) (hz : ζ 256 ∉ L') : MI κ ζ B τ L' F' := by
  obtain ⟨h1, h2, h3, ⟨md, h4⟩, ⟨f, h5, h5a, h5b⟩, ⟨g, h6, h6a, h6b⟩, h7, h8, ar, h9, h10, h11⟩ := hI
  have no : ∀ {e : va_E} {n : Nat} {w : List Value}, e = .inr (n, w) → n ≠ 3 → ¬ isIt e := by
    rintro e n w rfl hn ⟨w', hw⟩
    injection hw with h
    injection h with h _
    exact hn h
  have nr : ∀ {e : va_E} {a : ClassId × vp_A}, e = .inl a → ¬ isIt e := by
    rintro e a rfl ⟨w', hw⟩
    cases hw
  have hm : ∀ i, i < 10 → ¬ isIt (F (B i)) → F' (B i) = F (B i) := fun i hi h => hfr _ (h1 i hi) h
  refine ⟨fun i hi => hsub _ (h1 i hi), h2, (hm 0 (by omega) (no h3 (by decide))).trans h3, ⟨md, (hm 1 (by omega) (no h4 (by decide))).trans h4⟩, ⟨f, (hm 2 (by omega) (nr h5)).trans h5, h5a, h5b⟩, ⟨g, (hm 7 (by omega) (nr h6)).trans h6, h6a, h6b⟩, fun j hj => (hm (8 + j) (by omega) (no (h7 j hj) (by decide))).trans (h7 j hj), hz, ar, fun j hj => ?_, fun i j hi hj e ha => ?_, h11⟩
  · obtain ⟨mo, mdj, ej⟩ := (h9 j hj).obj
    refine (h9 j hj).keep hsub (hm (3 + j) (by omega) (no ej (by decide))) (fun ha => hfr _ ha ?_) (fun y v hb => ?_)
    · obtain ⟨n, f9, md9, a1, a2, a3, -⟩ := h9 j hj
      rcases a3 with ⟨a, b, c, d⟩ | ⟨a, -⟩
      · exact nr c
      · exact absurd (a ▸ ha) h8
    · rcases hb with ⟨b1, b2⟩ | hb
      · exact Or.inl ⟨hsub _ b1, (hfr _ b1 (no b2 (by decide))).trans b2⟩
      · exact Or.inr hb
  · by_cases hL : ar i ∈ L
    · exact h10 i j hi hj e hL
    · exfalso
      obtain ⟨n, f9, md9, a1, a2, a3, -⟩ := h9 i hi
      rcases a3 with ⟨a, -⟩ | ⟨a, -⟩
      · exact hL a
      · exact hz (a ▸ ha)
theorem size_nI {τ : MS} {t : Nat} (ht : t < 2) : f_X6_size τ (nI t) = some (nI (τ.1 t).length) := by
  unfold f_X6_size
  rw [gtr_nI ht]
  rfl
theorem get_nI {τ : MS} {t j : Nat} (ht : t < 2) (hj : j < (τ.1 t).length) (hl : (τ.1 t).length ≤ 20) : f_X6_get τ (nI t) (nI j) = some ((τ.1 t).getD j 0) := by
  unfold f_X6_get
  rw [gtr_nI ht]
  show (lget (τ.1 t) (nI j)).bind _ = _
  rw [lget_in hj (by omega)]
  rfl
theorem isBarred_any (x y : Int32) : ∃ z, f_X6_isBarred x y = some z := by
  unfold f_X6_isBarred
  split
  · split <;> exact ⟨_, rfl⟩
  · exact ⟨_, rfl⟩
theorem isIn_any (x y z : Int32) : ∃ r, f_X6_isIn x y z = some r := by
  unfold f_X6_isIn
  split
  · exact ⟨_, rfl⟩
  · split <;> exact ⟨_, rfl⟩
theorem one_any (x : Int32) : ∃ r, f_X6_one x = some r ∧ (r = 0 ∨ r = 1) := by
  unfold f_X6_one
  split
  · exact ⟨0, rfl, Or.inl rfl⟩
  · exact ⟨1, rfl, Or.inr rfl⟩
/-- what isWhole finds of all but the slips -/
def WHO (τ : MS) : Prop := (∀ t, t < 2 → ∀ i, i < (τ.1 t).length → f_X6_isBarred (nI t) ((τ.1 t).getD i 0) = some 0) ∧ (∀ w, w < 2 → τ.2 (5 + 3 * w) = 1 → f_X6_isIn (τ.2 (5 + 3 * w + 1)) 0 (nI (τ.1 1).length) = some 1) ∧ (τ.1 3).length ≤ 10
theorem ub_1 {b : Bool} (h : ¬ ub b = 0) : 1 = ub b := by
  unfold ub at h ⊢
  cases b with
  | false => exact absurd rfl h
  | true => rfl
theorem ub_01 (b : Bool) : ub b = 0 ∨ ub b = 1 := by
  cases b with
  | false => exact Or.inl rfl
  | true => exact Or.inr rfl
theorem mc_X6_isWhole : MCode yX6_isWhole cX6_isWhole 5 (some .boolean) := ⟨wd_1600, wd_5, by decide, by decide⟩
theorem np_X6_isWhole : (parseMethodDescriptor yX6_isWhole.desc).map (fun d => d.parameters.length) = some 0 := by decide +kernel
set_option maxHeartbeats 8000000 in
set_option maxRecDepth 100000 in
theorem c_X6_isWhole {l : Launch} {D : va_G} {κ : Nat → ClassId} {ζ : Nat → Nat} {L : List Nat} {F : Nat → va_E} {τ : MS} {B : Nat → Nat} (hI : MI κ ζ B τ L F) (hlen2 : ∀ k, k < 2 → (τ.1 k).length ≤ 20) (hs12 : (τ.1 2).length ≤ 12) (hsl : ∀ j, j < (τ.1 2).length → ∃ v, v < 8000 ∧ (τ.1 2).getD j 0 = nI v) (hw : WHO τ) : MtI l D cls (ty5 κ) ζ yX6_isWhole cX6_isWhole 5 (some .boolean) 9 112 3696 ([.ref (B 0)] : List Value) L F (fun r L' F' => r = ub (unR (svN (τ.1 2)) (τ.1 2).length τ.1) ∧ (∀ x ∈ L, x ∈ L') ∧ ∀ x ∈ L, F' x = F x) := by
  refine MtI.of (by decide) (Nat.le_of_ble_eq_true rfl) ?_
  intro p e s m below meth c S hr hlk hini hK hW hST ls hl
  have hl : lv_has ls 5 [(0, .ref (B 0))] := hl
  have B9 : ∀ (c9 s9 t : Nat), c9 = 0 → s9 = 0 → t < 2 → (∀ (ls : Array Slot) (H9 : Heap) (l9 : List Loc), HW D cls L s H9 l9 L F → lv_has ls 5 [(1, .int (nI t)), (0, .ref (B 0))] → W p l e (Rm 9 112 3696) s m ([.ref (B 0)] : List Value).toArray below meth c H9 l9 c9 s9 (EnI D cls s below ([.ref (B 0)] : List Value).toArray 112 3696 L (fun r L' F' => r = ub (unR (svN (τ.1 2)) (τ.1 2).length τ.1) ∧ (∀ x ∈ L, x ∈ L') ∧ ∀ x ∈ L, F' x = F x)) (F0 m 39 ls [])) → ∀ (N i : Nat), N + i = (τ.1 t).length → ∀ (ls : Array Slot) (H9 : Heap) (l9 : List Loc), HW D cls L s H9 l9 L F → lv_has ls 5 [(2, .int (nI i)), (1, .int (nI t)), (0, .ref (B 0))] → W p l e (Rm 9 112 3696) s m ([.ref (B 0)] : List Value).toArray below meth c H9 l9 c9 s9 (EnI D cls s below ([.ref (B 0)] : List Value).toArray 112 3696 L (fun r L' F' => r = ub (unR (svN (τ.1 2)) (τ.1 2).length τ.1) ∧ (∀ x ∈ L, x ∈ L') ∧ ∀ x ∈ L, F' x = F x)) (F0 m 9 ls []) := by
    intro c9 s9 t hc9 hs9 ht kont N
    have hlen := hlen2 t ht
    induction N with
    | zero =>
      intro i hN ls H9 l9 hW hl
      refine lv_iload_n S.1 S.2.1 dX6_isWhole_9 rfl (lv_at hl 0 rfl) ?_
      refine lv_aload_n S.1 S.2.1 dX6_isWhole_10 rfl (lv_at hl 2 rfl) ?_
      refine lv_iload_n S.1 S.2.1 dX6_isWhole_11 rfl (lv_at hl 1 rfl) ?_
      refine pk_cVI (As := [.int (nI t)]) (rest := [.int (nI i)]) S hK hST hW (c_X6_size hI (nI t) (size_nI ht)) mc_X6_size wd_1199 wd_1201 wd_1703 rfl np_X6_size (hI.mem (by decide)) hI.this rfl rfl hl.1 rfl (Nat.le_of_ble_eq_true rfl) dX6_isWhole_12 ⟨Nat.le_of_ble_eq_true rfl, Nat.le_of_ble_eq_true rfl⟩ ⟨by show c9 + 0 ≤ 112; omega, by show s9 + 0 ≤ 3696; omega⟩ (fun r L8 F8 H8 l8 hp hW => ?_)
      obtain ⟨rfl, rfl, rfl⟩ := hp
      rw [Nat.add_zero, Nat.add_zero]
      refine lv_icmp_ge (tgt := 39) S.1 S.2.1 dX6_isWhole_15 (by decide) (fun _ => kont _ _ _ hW (lv_sub hl [1, 2] rfl)) (fun c1 => absurd (nI_le (by omega) (by omega)) c1)
    | succ N ih =>
      intro i hN ls H9 l9 hW hl
      refine lv_iload_n S.1 S.2.1 dX6_isWhole_9 rfl (lv_at hl 0 rfl) ?_
      refine lv_aload_n S.1 S.2.1 dX6_isWhole_10 rfl (lv_at hl 2 rfl) ?_
      refine lv_iload_n S.1 S.2.1 dX6_isWhole_11 rfl (lv_at hl 1 rfl) ?_
      refine pk_cVI (As := [.int (nI t)]) (rest := [.int (nI i)]) S hK hST hW (c_X6_size hI (nI t) (size_nI ht)) mc_X6_size wd_1199 wd_1201 wd_1703 rfl np_X6_size (hI.mem (by decide)) hI.this rfl rfl hl.1 rfl (Nat.le_of_ble_eq_true rfl) dX6_isWhole_12 ⟨Nat.le_of_ble_eq_true rfl, Nat.le_of_ble_eq_true rfl⟩ ⟨by show c9 + 0 ≤ 112; omega, by show s9 + 0 ≤ 3696; omega⟩ (fun r L8 F8 H8 l8 hp hW => ?_)
      obtain ⟨rfl, rfl, rfl⟩ := hp
      rw [Nat.add_zero, Nat.add_zero]
      refine lv_icmp_ge (tgt := 39) S.1 S.2.1 dX6_isWhole_15 (by decide) (fun c1 => absurd c1 (nI_ge (by omega) (by omega))) (fun _ => ?_)
      have hzb := hw.1 t ht i (by omega)
      refine lv_iload_n S.1 S.2.1 dX6_isWhole_18 rfl (lv_at hl 1 rfl) ?_
      refine lv_aload_n S.1 S.2.1 dX6_isWhole_19 rfl (lv_at hl 2 rfl) ?_
      refine lv_iload_n S.1 S.2.1 dX6_isWhole_20 rfl (lv_at hl 1 rfl) ?_
      refine lv_iload_n S.1 S.2.1 dX6_isWhole_21 rfl (lv_at hl 0 rfl) ?_
      refine pk_cVI (As := [.int (nI t), .int (nI i)]) (rest := [.int (nI t)]) S hK hST hW (c_X6_get hI (nI t) (nI i) (get_nI ht (by omega) hlen)) mc_X6_get wd_1299 wd_1301 wd_1711 rfl np_X6_get (hI.mem (by decide)) hI.this rfl rfl hl.1 rfl (Nat.le_of_ble_eq_true rfl) dX6_isWhole_22 ⟨Nat.le_of_ble_eq_true rfl, Nat.le_of_ble_eq_true rfl⟩ ⟨by show c9 + 0 ≤ 112; omega, by show s9 + 0 ≤ 3696; omega⟩ (fun r L8 F8 H8 l8 hp hW => ?_)
      obtain ⟨rfl, rfl, rfl⟩ := hp
      rw [Nat.add_zero, Nat.add_zero]
      refine pk_cSI (As := [.int (nI t), .int ((τ.1 t).getD i 0)]) (rest := []) S hK hST hW (c_X6_isBarred (nI t) ((τ.1 t).getD i 0) hzb) mc_X6_isBarred wd_1222 wd_1223 np_X6_isBarred rfl hl.1 rfl (Nat.le_of_ble_eq_true rfl) dX6_isWhole_25 ⟨Nat.le_of_ble_eq_true rfl, Nat.le_of_ble_eq_true rfl⟩ ⟨by show c9 + 0 ≤ 112; omega, by show s9 + 0 ≤ 3696; omega⟩ (fun r L8 F8 H8 l8 hp hW => ?_)
      obtain ⟨rfl, rfl, rfl⟩ := hp
      rw [Nat.add_zero, Nat.add_zero]
      refine lv_if_eq (tgt := 33) S.1 S.2.1 dX6_isWhole_28 (by decide) (fun _ => ?_) (fun c1 => absurd rfl c1)
      · refine lv_iinc (lv' := [(2, .int (nI (i + 1))), (1, .int (nI t)), (0, .ref (B 0))]) S.1 S.2.1 dX6_isWhole_33 hl (k := 0) rfl (nI_1 i) (by decide) rfl (fun ls hl => ?_)
        refine lv_goto (tgt := 9) S.1 S.2.1 dX6_isWhole_36 (by decide) ?_
        exact ih (i + 1) (by omega) _ _ _ hW hl
  have T60 : ∀ (c9 s9 w : Nat), c9 = 0 → s9 = 0 → w < 2 → (∀ (ls : Array Slot) (H9 : Heap) (l9 : List Loc) , HW D cls L s H9 l9 L F → lv_has ls 5 [(3, .int (nI w)), (2, .int 2), (1, .ref (B 7)), (0, .ref (B 0))] → W p l e (Rm 9 112 3696) s m ([.ref (B 0)] : List Value).toArray below meth c H9 l9 c9 s9 (EnI D cls s below ([.ref (B 0)] : List Value).toArray 112 3696 L (fun r L' F' => r = ub (unR (svN (τ.1 2)) (τ.1 2).length τ.1) ∧ (∀ x ∈ L, x ∈ L') ∧ ∀ x ∈ L, F' x = F x)) (F0 m 93 ls [])) → ∀ (ls : Array Slot) (H9 : Heap) (l9 : List Loc), HW D cls L s H9 l9 L F → lv_has ls 5 [(3, .int (nI w)), (2, .int 2), (1, .ref (B 7)), (0, .ref (B 0))] → W p l e (Rm 9 112 3696) s m ([.ref (B 0)] : List Value).toArray below meth c H9 l9 c9 s9 (EnI D cls s below ([.ref (B 0)] : List Value).toArray 112 3696 L (fun r L' F' => r = ub (unR (svN (τ.1 2)) (τ.1 2).length τ.1) ∧ (∀ x ∈ L, x ∈ L') ∧ ∀ x ∈ L, F' x = F x)) (F0 m 60 ls []) := by
    intro c9 s9 w hc9 hs9 hw2 kont ls H9 l9 hW hl
    obtain ⟨f7, e7, hv7⟩ := hI.wk hw2
    refine lv_aload_n S.1 S.2.1 dX6_isWhole_60 rfl (lv_at hl 2 rfl) ?_
    refine lv_iload_n S.1 S.2.1 dX6_isWhole_61 rfl (lv_at hl 0 rfl) ?_
    refine pk_aald S hK hW 4 (hI.mem (by decide)) e7 rfl (vp_in_nI (by omega) (by omega)) hv7 dX6_isWhole_62 ?_
    refine lv_astore (lv' := [(4, .ref (B (8 + w))), (3, .int (nI w)), (2, .int 2), (1, .ref (B 7)), (0, .ref (B 0))]) S.1 S.2.1 dX6_isWhole_63 hl (Nat.le_of_ble_eq_true rfl) rfl (fun ls hl => ?_)
    refine lv_aload S.1 S.2.1 dX6_isWhole_65 (lv_at hl 0 rfl) ?_
    refine pk_get S hK hW 0 (hI.mem (by omega)) (hI.mkH hw2) rfl hinX5 (by decide) wd_1100 rfl dX6_isWhole_67 ?_
    refine lv_iconst (v := 1) S.1 S.2.1 dX6_isWhole_70 (by decide) ?_
    refine lv_icmp_ne (tgt := 93) S.1 S.2.1 dX6_isWhole_71 (by decide) (fun _ => kont _ _ _ hW (lv_sub hl [1, 2, 3, 4] rfl)) (fun c1 => ?_)
    have hzi := hw.2.1 w hw2 (Classical.byContradiction fun q => q c1)
    refine lv_aload S.1 S.2.1 dX6_isWhole_74 (lv_at hl 0 rfl) ?_
    refine pk_get S hK hW 1 (hI.mem (by omega)) (hI.mkH hw2) rfl hinX5 (by decide) wd_1101 rfl dX6_isWhole_76 ?_
    refine lv_iconst (v := 0) S.1 S.2.1 dX6_isWhole_79 (by decide) ?_
    refine lv_aload_n S.1 S.2.1 dX6_isWhole_80 rfl (lv_at hl 4 rfl) ?_
    refine lv_iconst (v := 1) S.1 S.2.1 dX6_isWhole_81 (by decide) ?_
    refine pk_cVI (As := [.int 1]) (rest := [.int 0, .int (τ.2 (5 + 3 * w + 1))]) S hK hST hW (c_X6_size hI 1 (size_nI (t := 1) (by decide))) mc_X6_size wd_1199 wd_1201 wd_1703 rfl np_X6_size (hI.mem (by decide)) hI.this rfl rfl hl.1 rfl (Nat.le_of_ble_eq_true rfl) dX6_isWhole_82 ⟨Nat.le_of_ble_eq_true rfl, Nat.le_of_ble_eq_true rfl⟩ ⟨by show c9 + 0 ≤ 112; omega, by show s9 + 0 ≤ 3696; omega⟩ (fun r L8 F8 H8 l8 hp hW => ?_)
    obtain ⟨rfl, rfl, rfl⟩ := hp
    rw [Nat.add_zero, Nat.add_zero]
    refine pk_cSI (As := [.int (τ.2 (5 + 3 * w + 1)), .int 0, .int (nI (τ.1 1).length)]) (rest := []) S hK hST hW (c_X6_isIn (τ.2 (5 + 3 * w + 1)) 0 (nI (τ.1 1).length) hzi) mc_X6_isIn wd_1185 wd_1186 np_X6_isIn rfl hl.1 rfl (Nat.le_of_ble_eq_true rfl) dX6_isWhole_85 ⟨Nat.le_of_ble_eq_true rfl, Nat.le_of_ble_eq_true rfl⟩ ⟨by show c9 + 0 ≤ 112; omega, by show s9 + 0 ≤ 3696; omega⟩ (fun r L8 F8 H8 l8 hp hW => ?_)
    obtain ⟨rfl, rfl, rfl⟩ := hp
    rw [Nat.add_zero, Nat.add_zero]
    exact lv_if_ne (tgt := 93) S.1 S.2.1 dX6_isWhole_88 (by decide) (fun _ => kont _ _ _ hW (lv_sub hl [1, 2, 3, 4] rfl)) (fun c2 => absurd c2 (by decide))
  have K : ∀ (c9 s9 : Nat), c9 = 0 → s9 = 0 → W p l e (Rm 9 112 3696) s m ([.ref (B 0)] : List Value).toArray below meth c s.heap [] c9 s9 (EnI D cls s below ([.ref (B 0)] : List Value).toArray 112 3696 L (fun r L' F' => r = ub (unR (svN (τ.1 2)) (τ.1 2).length τ.1) ∧ (∀ x ∈ L, x ∈ L') ∧ ∀ x ∈ L, F' x = F x)) (F0 m 0 ls []) := by
    intro c9 s9 hc9 hs9
    refine lv_iconst (v := 0) S.1 S.2.1 dX6_isWhole_0 (by decide) ?_
    refine lv_istore_n (lv' := [(1, .int 0), (0, .ref (B 0))]) S.1 S.2.1 dX6_isWhole_1 rfl hl (Nat.le_of_ble_eq_true rfl) rfl (fun ls hl => ?_)
    refine lv_iload_n S.1 S.2.1 dX6_isWhole_2 rfl (lv_at hl 0 rfl) ?_
    refine lv_iconst (v := 2) S.1 S.2.1 dX6_isWhole_3 (by decide) ?_
    refine lv_icmp_ge (tgt := 45) S.1 S.2.1 dX6_isWhole_4 (by decide) (fun c1 => absurd c1 (by decide)) (fun _ => ?_)
    refine lv_iconst (v := 0) S.1 S.2.1 dX6_isWhole_7 (by decide) ?_
    refine lv_istore_n (lv' := [(2, .int 0), (1, .int (nI 0)), (0, .ref (B 0))]) S.1 S.2.1 dX6_isWhole_8 rfl hl (Nat.le_of_ble_eq_true rfl) rfl (fun ls hl => ?_)
    refine B9 c9 s9 0 hc9 hs9 (by decide) ?_ _ 0 (Nat.add_zero _) _ _ _ hW hl
    intro ls H9 l9 hW hl
    refine lv_iinc (lv' := [(1, .int (nI 1)), (0, .ref (B 0))]) S.1 S.2.1 dX6_isWhole_39 hl (k := 0) rfl (nI_1 0) (by decide) rfl (fun ls hl => ?_)
    refine lv_goto (tgt := 2) S.1 S.2.1 dX6_isWhole_42 (by decide) ?_
    refine lv_iload_n S.1 S.2.1 dX6_isWhole_2 rfl (lv_at hl 0 rfl) ?_
    refine lv_iconst (v := 2) S.1 S.2.1 dX6_isWhole_3 (by decide) ?_
    refine lv_icmp_ge (tgt := 45) S.1 S.2.1 dX6_isWhole_4 (by decide) (fun c1 => absurd c1 (by decide)) (fun _ => ?_)
    refine lv_iconst (v := 0) S.1 S.2.1 dX6_isWhole_7 (by decide) ?_
    refine lv_istore_n (lv' := [(2, .int 0), (1, .int (nI 1)), (0, .ref (B 0))]) S.1 S.2.1 dX6_isWhole_8 rfl hl (Nat.le_of_ble_eq_true rfl) rfl (fun ls hl => ?_)
    refine B9 c9 s9 1 hc9 hs9 (by decide) ?_ _ 0 (Nat.add_zero _) _ _ _ hW hl
    intro ls H9 l9 hW hl
    refine lv_iinc (lv' := [(1, .int (nI 2)), (0, .ref (B 0))]) S.1 S.2.1 dX6_isWhole_39 hl (k := 0) rfl (nI_1 1) (by decide) rfl (fun ls hl => ?_)
    refine lv_goto (tgt := 2) S.1 S.2.1 dX6_isWhole_42 (by decide) ?_
    refine lv_iload_n S.1 S.2.1 dX6_isWhole_2 rfl (lv_at hl 0 rfl) ?_
    refine lv_iconst (v := 2) S.1 S.2.1 dX6_isWhole_3 (by decide) ?_
    refine lv_icmp_ge (tgt := 45) S.1 S.2.1 dX6_isWhole_4 (by decide) (fun _ => ?_) (fun c1 => absurd (by decide) c1)
    obtain ⟨f7, e7, -⟩ := hI.wk (w := 0) (by decide)
    refine lv_aload_n S.1 S.2.1 dX6_isWhole_45 rfl (lv_at hl 1 rfl) ?_
    refine pk_get S hK hW 4 (hI.mem (by decide)) hI.this rfl hinX6 (by decide) wd_1159 rfl dX6_isWhole_46 ?_
    refine lv_astore_n (lv' := [(1, .ref (B 7)), (0, .ref (B 0))]) S.1 S.2.1 dX6_isWhole_49 rfl hl (Nat.le_of_ble_eq_true rfl) rfl (fun ls hl => ?_)
    refine lv_aload_n S.1 S.2.1 dX6_isWhole_50 rfl (lv_at hl 0 rfl) ?_
    refine pk_alen S hK hW 4 (hI.mem (i := 7) (by decide)) e7 rfl (v := 2) rfl dX6_isWhole_51 ?_
    refine lv_istore_n (lv' := [(2, .int 2), (1, .ref (B 7)), (0, .ref (B 0))]) S.1 S.2.1 dX6_isWhole_52 rfl hl (Nat.le_of_ble_eq_true rfl) rfl (fun ls hl => ?_)
    refine lv_iconst (v := 0) S.1 S.2.1 dX6_isWhole_53 (by decide) ?_
    refine lv_istore_n (lv' := [(3, .int 0), (2, .int 2), (1, .ref (B 7)), (0, .ref (B 0))]) S.1 S.2.1 dX6_isWhole_54 rfl hl (Nat.le_of_ble_eq_true rfl) rfl (fun ls hl => ?_)
    refine lv_iload_n S.1 S.2.1 dX6_isWhole_55 rfl (lv_at hl 0 rfl) ?_
    refine lv_iload_n S.1 S.2.1 dX6_isWhole_56 rfl (lv_at hl 1 rfl) ?_
    refine lv_icmp_ge (tgt := 99) S.1 S.2.1 dX6_isWhole_57 (by decide) (fun c1 => absurd c1 (by decide)) (fun _ => ?_)
    refine T60 c9 s9 0 hc9 hs9 (by decide) ?_ _ _ _ hW hl
    intro ls H9 l9 hW hl
    refine lv_iinc (lv' := [(3, .int (nI 1)), (2, .int 2), (1, .ref (B 7)), (0, .ref (B 0))]) S.1 S.2.1 dX6_isWhole_93 hl (k := 0) rfl (nI_1 0) (by decide) rfl (fun ls hl => ?_)
    refine lv_goto (tgt := 55) S.1 S.2.1 dX6_isWhole_96 (by decide) ?_
    refine lv_iload_n S.1 S.2.1 dX6_isWhole_55 rfl (lv_at hl 0 rfl) ?_
    refine lv_iload_n S.1 S.2.1 dX6_isWhole_56 rfl (lv_at hl 1 rfl) ?_
    refine lv_icmp_ge (tgt := 99) S.1 S.2.1 dX6_isWhole_57 (by decide) (fun c1 => absurd c1 (by decide)) (fun _ => ?_)
    refine T60 c9 s9 1 hc9 hs9 (by decide) ?_ _ _ _ hW hl
    intro ls H9 l9 hW hl
    refine lv_iinc (lv' := [(3, .int (nI 2)), (2, .int 2), (1, .ref (B 7)), (0, .ref (B 0))]) S.1 S.2.1 dX6_isWhole_93 hl (k := 0) rfl (nI_1 1) (by decide) rfl (fun ls hl => ?_)
    refine lv_goto (tgt := 55) S.1 S.2.1 dX6_isWhole_96 (by decide) ?_
    refine lv_iload_n S.1 S.2.1 dX6_isWhole_55 rfl (lv_at hl 0 rfl) ?_
    refine lv_iload_n S.1 S.2.1 dX6_isWhole_56 rfl (lv_at hl 1 rfl) ?_
    refine lv_icmp_ge (tgt := 99) S.1 S.2.1 dX6_isWhole_57 (by decide) (fun _ => ?_) (fun c1 => absurd (by decide) c1)
    have ho10 := hw.2.2
    have hl0 := hlen2 0 (by omega)
    have hl1 := hlen2 1 (by omega)
    refine lv_aload_n S.1 S.2.1 dX6_isWhole_99 rfl (lv_at hl 3 rfl) ?_
    refine lv_iconst (v := 0) S.1 S.2.1 dX6_isWhole_100 (by decide) ?_
    refine pk_cVI (As := [.int 0]) (rest := []) S hK hST hW (c_X6_size hI 0 (size_nI (t := 0) (by decide))) mc_X6_size wd_1199 wd_1201 wd_1703 rfl np_X6_size (hI.mem (by decide)) hI.this rfl rfl hl.1 rfl (Nat.le_of_ble_eq_true rfl) dX6_isWhole_101 ⟨Nat.le_of_ble_eq_true rfl, Nat.le_of_ble_eq_true rfl⟩ ⟨by show c9 + 0 ≤ 112; omega, by show s9 + 0 ≤ 3696; omega⟩ (fun r L8 F8 H8 l8 hp hW => ?_)
    obtain ⟨rfl, rfl, rfl⟩ := hp
    rw [Nat.add_zero, Nat.add_zero]
    refine lv_bipush (v := 20) S.1 S.2.1 dX6_isWhole_104 (by decide) ?_
    refine lv_icmp_gt (tgt := 154) S.1 S.2.1 dX6_isWhole_106 (by decide) (fun c1 => absurd c1 (nI_nlt (a := 20) (b := (τ.1 0).length) (by omega) (by omega))) (fun _ => ?_)
    refine lv_aload_n S.1 S.2.1 dX6_isWhole_109 rfl (lv_at hl 3 rfl) ?_
    refine lv_iconst (v := 1) S.1 S.2.1 dX6_isWhole_110 (by decide) ?_
    refine pk_cVI (As := [.int 1]) (rest := []) S hK hST hW (c_X6_size hI 1 (size_nI (t := 1) (by decide))) mc_X6_size wd_1199 wd_1201 wd_1703 rfl np_X6_size (hI.mem (by decide)) hI.this rfl rfl hl.1 rfl (Nat.le_of_ble_eq_true rfl) dX6_isWhole_111 ⟨Nat.le_of_ble_eq_true rfl, Nat.le_of_ble_eq_true rfl⟩ ⟨by show c9 + 0 ≤ 112; omega, by show s9 + 0 ≤ 3696; omega⟩ (fun r L8 F8 H8 l8 hp hW => ?_)
    obtain ⟨rfl, rfl, rfl⟩ := hp
    rw [Nat.add_zero, Nat.add_zero]
    refine lv_bipush (v := 20) S.1 S.2.1 dX6_isWhole_114 (by decide) ?_
    refine lv_icmp_gt (tgt := 154) S.1 S.2.1 dX6_isWhole_116 (by decide) (fun c1 => absurd c1 (nI_nlt (a := 20) (b := (τ.1 1).length) (by omega) (by omega))) (fun _ => ?_)
    obtain ⟨ar2, hL2⟩ := hI.li (j := 2) (by decide)
    obtain ⟨ar3, hL3⟩ := hI.li (j := 3) (by decide)
    refine lv_aload_n S.1 S.2.1 dX6_isWhole_119 rfl (lv_at hl 3 rfl) ?_
    refine pk_get S hK hW 2 (hI.mem (by decide)) hI.this rfl hinX6 (by decide) wd_1157 rfl dX6_isWhole_120 ?_
    refine pk_cVI (As := []) (rest := []) S hK hST hW (c_lsize hL2) mc_Jx4a65c_size_8abf5 wd_1215 wd_1216 wd_1217 rfl np_Jx4a65c_size_8abf5 hL2.obj.1 hL2.obj.2.choose_spec rfl rfl hl.1 rfl (Nat.le_of_ble_eq_true rfl) dX6_isWhole_123 ⟨Nat.le_of_ble_eq_true rfl, Nat.le_of_ble_eq_true rfl⟩ ⟨by show c9 + 0 ≤ 112; omega, by show s9 + 0 ≤ 3696; omega⟩ (fun r L8 F8 H8 l8 hp hW => ?_)
    obtain ⟨rfl, rfl, rfl⟩ := hp
    rw [Nat.add_zero, Nat.add_zero]
    refine lv_bipush (v := 12) S.1 S.2.1 dX6_isWhole_126 (by decide) ?_
    refine lv_icmp_gt (tgt := 154) S.1 S.2.1 dX6_isWhole_128 (by decide) (fun c1 => absurd c1 (nI_nlt (a := 12) (b := (τ.1 2).length) (by omega) (by omega))) (fun _ => ?_)
    refine lv_aload_n S.1 S.2.1 dX6_isWhole_131 rfl (lv_at hl 3 rfl) ?_
    refine pk_get S hK hW 3 (hI.mem (by decide)) hI.this rfl hinX6 (by decide) wd_1158 rfl dX6_isWhole_132 ?_
    refine pk_cVI (As := []) (rest := []) S hK hST hW (c_lsize hL3) mc_Jx4a65c_size_8abf5 wd_1215 wd_1216 wd_1217 rfl np_Jx4a65c_size_8abf5 hL3.obj.1 hL3.obj.2.choose_spec rfl rfl hl.1 rfl (Nat.le_of_ble_eq_true rfl) dX6_isWhole_135 ⟨Nat.le_of_ble_eq_true rfl, Nat.le_of_ble_eq_true rfl⟩ ⟨by show c9 + 0 ≤ 112; omega, by show s9 + 0 ≤ 3696; omega⟩ (fun r L8 F8 H8 l8 hp hW => ?_)
    obtain ⟨rfl, rfl, rfl⟩ := hp
    rw [Nat.add_zero, Nat.add_zero]
    refine lv_bipush (v := 10) S.1 S.2.1 dX6_isWhole_138 (by decide) ?_
    refine lv_icmp_gt (tgt := 154) S.1 S.2.1 dX6_isWhole_140 (by decide) (fun c1 => absurd c1 (nI_nlt (a := 10) (b := (τ.1 3).length) (by omega) (by omega))) (fun _ => ?_)
    refine lv_aload_n S.1 S.2.1 dX6_isWhole_143 rfl (lv_at hl 3 rfl) ?_
    refine pk_cVI (As := []) (rest := []) S hK hST hW (c_X6_areSlips hI hlen2 hs12 hsl) mc_X6_areSlips wd_1601 wd_1603 wd_1731 rfl np_X6_areSlips (hI.mem (by decide)) hI.this rfl rfl hl.1 rfl (Nat.le_of_ble_eq_true rfl) dX6_isWhole_144 ⟨Nat.le_of_ble_eq_true rfl, Nat.le_of_ble_eq_true rfl⟩ ⟨by show c9 + 112 ≤ 112; omega, by show s9 + 3696 ≤ 3696; omega⟩ (fun r9 L8 F8 H8 l8 hp hW => ?_)
    obtain ⟨hr9, hs8, hf8⟩ := hp
    refine lv_if_eq (tgt := 154) S.1 S.2.1 dX6_isWhole_147 (by decide) (fun c1 => ?_) (fun c1 => ?_)
    · refine lv_iconst (v := 0) S.1 S.2.1 dX6_isWhole_154 (by decide) ?_
      exact pk_zret S hr hlk hW (by decide) ⟨c1.symm.trans hr9, hs8, hf8⟩ (by omega) (by omega) dX6_isWhole_155
    · refine lv_iconst (v := 1) S.1 S.2.1 dX6_isWhole_150 (by decide) ?_
      refine lv_goto (tgt := 155) S.1 S.2.1 dX6_isWhole_151 (by decide) ?_
      exact pk_zret S hr hlk hW (by decide) ⟨ub_1 (by rw [← hr9]; exact c1), hs8, hf8⟩ (by omega) (by omega) dX6_isWhole_155
  exact K 0 0 rfl rfl
theorem mc_X6_isSound : MCode yX6_isSound cX6_isSound 1 (some .boolean) := ⟨wd_1596, wd_5, by decide, by decide⟩
theorem np_X6_isSound : (parseMethodDescriptor yX6_isSound.desc).map (fun d => d.parameters.length) = some 0 := by decide +kernel
set_option maxHeartbeats 8000000 in
set_option maxRecDepth 100000 in
theorem c_X6_isSound {l : Launch} {D : va_G} {κ : Nat → ClassId} {ζ : Nat → Nat} {L : List Nat} {F : Nat → va_E} {τ : MS} {B : Nat → Nat} (hI : MI κ ζ B τ L F) (hlen2 : ∀ k, k < 2 → (τ.1 k).length ≤ 20) (hs12 : (τ.1 2).length ≤ 12) (hsl : ∀ j, j < (τ.1 2).length → ∃ v, v < 8000 ∧ (τ.1 2).getD j 0 = nI v) (hw : WHO (τ.1, va_up τ.2 0 0)) : MtI l D cls (ty5 κ) ζ yX6_isSound cX6_isSound 1 (some .boolean) 10 112 3696 ([.ref (B 0)] : List Value) L F (fun r L' F' => r = ub (unR (svN (τ.1 2)) (τ.1 2).length τ.1) ∧ MI κ ζ B (τ.1, va_up τ.2 0 0) L' F' ∧ FrM L F L' F') := by
  refine MtI.of (by decide) (Nat.le_of_ble_eq_true rfl) ?_
  intro p e s m below meth c S hr hlk hini hK hW hST ls hl
  have hl : lv_has ls 1 [(0, .ref (B 0))] := hl
  refine lv_aload_n S.1 S.2.1 dX6_isSound_0 rfl (lv_at hl 0 rfl) ?_
  refine lv_iconst (v := 0) S.1 S.2.1 dX6_isSound_1 (by decide) ?_
  have hI1 := hI.setSc 0 0 (by decide) 0 rfl
  have hF1 := FrM.cell (L := L) (w := ([.int (τ.2 0), .ref (B 1), .ref (B 5), .ref (B 6), .ref (B 7), .int (τ.2 1), .int (τ.2 2), .int (τ.2 3), .int (τ.2 4)] : List Value).set 0 (.int 0)) hI.this (Or.inr rfl)
  refine pk_put (v := .int 0) S hK hW 0 (hI.mem (by decide)) hI.this rfl hinX6 tyX6_ok nmX6 (by decide) wd_1155 rfl rfl rfl rfl (Nat.le_of_ble_eq_true rfl) dX6_isSound_2 (fun H1 l1 hW => ?_)
  generalize va_up F (B 0) (.inr (11, ([.int (τ.2 0), .ref (B 1), .ref (B 5), .ref (B 6), .ref (B 7), .int (τ.2 1), .int (τ.2 2), .int (τ.2 3), .int (τ.2 4)] : List Value).set 0 (.int 0))) = F1 at hW hI1 hF1
  refine lv_aload_n S.1 S.2.1 dX6_isSound_5 rfl (lv_at hl 0 rfl) ?_
  refine pk_cVI (As := []) (rest := []) S hK hST hW (c_X6_isWhole hI1 hlen2 hs12 hsl hw) mc_X6_isWhole wd_1597 wd_1599 wd_1730 rfl np_X6_isWhole (hI1.mem (by decide)) hI1.this rfl rfl hl.1 rfl (Nat.le_of_ble_eq_true rfl) dX6_isSound_6 ⟨Nat.le_of_ble_eq_true rfl, Nat.le_of_ble_eq_true rfl⟩ ⟨by show 0 + 112 ≤ 112; omega, by show 0 + 3696 ≤ 3696; omega⟩ (fun r9 L8 F8 H8 l8 hp hW => ?_)
  obtain ⟨hr9, hs8, hf8⟩ := hp
  exact pk_zret S hr hlk hW (by rw [hr9]; exact ub_01 _) ⟨hr9, hI1.keep0 hs8 hf8 (noE hW hST), hF1.tr ⟨hs8, fun x hx _ => hf8 x hx⟩⟩ (by decide) (by decide) dX6_isSound_9
def DH (τ : MS) : Prop := (∀ t w, t < 2 → w < 4 → ∃ v, f_X6_trackTold τ (nI t) (nI w) = some (v, τ)) ∧ (∀ t w, t < 2 → w < 6 → ∃ v, f_X6_asked τ (nI t) (nI w) = some v) ∧ (∀ t, t < 2 → ∃ v, f_X6_nestedNow τ (nI t) = some (v, τ)) ∧ (∀ k b, k < 10 → b < 2 → ∃ v, f_X6_found τ 1 (nI k) (nI b) = some v) ∧ (∀ w k, w < 2 → k < 5 → ∃ v, f_X6_whereNow τ (nI w) (nI k) = some (v, τ)) ∧ (∀ k, k < 8 → ∃ v, f_X6_yardTold τ (nI k) = some v) ∧ ∀ b, b < 2 → ∃ v, f_X6_compared τ (nI b) = some v
/-- what the digest is made of -/
def DV (τ : MS) (tt ak : Nat → Nat → Int32) (ne : Nat → Int32) (fo wh : Nat → Nat → Int32) (ya co : Nat → Int32) : Prop := (∀ t w, t < 2 → w < 4 → f_X6_trackTold τ (nI t) (nI w) = some (tt t w, τ)) ∧ (∀ t w, t < 2 → w < 6 → f_X6_asked τ (nI t) (nI w) = some (ak t w)) ∧ (∀ t, t < 2 → f_X6_nestedNow τ (nI t) = some (ne t, τ)) ∧ (∀ k b, k < 10 → b < 2 → f_X6_found τ 1 (nI k) (nI b) = some (fo k b)) ∧ (∀ w k, w < 2 → k < 5 → f_X6_whereNow τ (nI w) (nI k) = some (wh w k, τ)) ∧ (∀ k, k < 8 → f_X6_yardTold τ (nI k) = some (ya k)) ∧ ∀ b, b < 2 → f_X6_compared τ (nI b) = some (co b)
/-- numbers told into d -/
def dgS (v : Nat → Int32) (d : Int64) : Nat → Int64
  | 0 => d
  | i + 1 => dgS v d i * 31 + Int32.toInt64 (v i)
def dgP (v u : Nat → Int32) (d : Int64) : Nat → Int64
  | 0 => d
  | i + 1 => (dgP v u d i * 31 + Int32.toInt64 (v i)) * 31 + Int32.toInt64 (u i)
def dgT (tt ak : Nat → Nat → Int32) (ne : Nat → Int32) (X : Nat → List Int32) (d : Int64) : Nat → Int64
  | 0 => d
  | t + 1 => (dgS (fun i => (X t).getD i 0) (dgS (ak t) (dgS (tt t) (dgT tt ak ne X d t) 4) 6) (X t).length * 31 + Int32.toInt64 (nI (tlG (X t) 1 (X t).length))) * 31 + Int32.toInt64 (ne t)
def dgW (wh : Nat → Nat → Int32) (st : Nat → Int32) (d : Int64) : Nat → Int64
  | 0 => d
  | w + 1 => if st w = 1 then dgS (fun i => wh w (i + 1)) (dgW wh st d w * 31 + Int32.toInt64 (wh w 0)) 4 else dgW wh st d w * 31 + Int32.toInt64 (wh w 0)
def dgD (X : List Int32) (d : Int64) : Nat → Int64
  | 0 => d
  | i + 1 => dgD X d i * 31 + Int32.toInt64 (X.getD (X.length - 1 - i) 0)
def one1 (v : Int32) : Int32 := if v = 0 then 0 else 1
def dgA (tt ak : Nat → Nat → Int32) (ne : Nat → Int32) (fo wh : Nat → Nat → Int32) (st ya co : Nat → Int32) (X : Nat → List Int32) (u : Int32) : Int64 := ((dgS (fun i => (X 3).getD i 0) (dgD (X 2) (dgS ya (dgW wh st (dgP (fun k => fo k 0) (fun k => fo k 1) (dgT tt ak ne X 8317 2) 10) 2) 8) (X 2).length) (X 3).length * 31 + Int32.toInt64 (one1 (co 0))) * 31 + Int32.toInt64 (one1 (co 1))) * 31 + Int32.toInt64 u
theorem one_v (x : Int32) : f_X6_one x = some (one1 x) := by
  unfold f_X6_one one1
  split <;> rfl
theorem one_ub (b : Bool) : one1 (ub b) = ub b := by
  cases b <;> rfl
theorem mc_X6_digest : MCode yX6_digest cX6_digest 5 (some .long) := ⟨wd_1645, wd_5, by decide, by decide⟩
theorem np_X6_digest : (parseMethodDescriptor yX6_digest.desc).map (fun d => d.parameters.length) = some 0 := by decide +kernel
set_option maxHeartbeats 8000000 in
set_option maxRecDepth 100000 in
theorem c_X6_digest {l : Launch} {D : va_G} {κ : Nat → ClassId} {ζ : Nat → Nat} {L : List Nat} {F : Nat → va_E} {τ : MS} {B : Nat → Nat} (hI : MI κ ζ B τ L F) {τ1 : MS} (hτ1 : τ1 = (τ.1, va_up τ.2 0 0)) {tt ak : Nat → Nat → Int32} {ne : Nat → Int32} {fo wh : Nat → Nat → Int32} {ya co : Nat → Int32} (hD : DV τ1 tt ak ne fo wh ya co) (hw : WHO τ1) (hlen2 : ∀ k, k < 2 → (τ1.1 k).length ≤ 20) (hcd : ∀ t, t < 2 → ∀ j, j < (τ1.1 t).length → ∃ v, v < 1000 ∧ (τ1.1 t).getD j 0 = nI v) (hs12 : (τ1.1 2).length ≤ 12) (ho32 : (τ1.1 3).length ≤ 32) (hsl : ∀ j, j < (τ1.1 2).length → ∃ v, v < 8000 ∧ (τ1.1 2).getD j 0 = nI v) : MtJ l D cls (ty5 κ) ζ yX6_digest cX6_digest 5 (some .long) 11 160 5280 ([.ref (B 0)] : List Value) L F (fun r L' F' => r = dgA tt ak ne fo wh (fun w => τ1.2 (5 + 3 * w)) ya co τ1.1 (ub (unR (svN (τ1.1 2)) (τ1.1 2).length τ1.1)) ∧ MI κ ζ B τ1 L' F' ∧ FrM L F L' F') := by
  refine MtJ.of (by decide) (Nat.le_of_ble_eq_true rfl) ?_
  intro p e s m below meth c S hr hlk hini hK hW hST ls hl
  have hl : lv_has ls 5 [(0, .ref (B 0))] := hl
  have B19 : ∀ (M : Nat), M ≤ 160 → ∀ (d0 : Int64), ∀ (t : Nat), t < 2 → (∀ (L9 : List Nat) (F9 : Nat → va_E) (c9 s9 : Nat), MI κ ζ B τ1 L9 F9 → FrM L F L9 F9 → c9 ≤ M → s9 ≤ 33 * c9 → ∀ (H9 : Heap) (l9 : List Loc) (ls : Array Slot), HW D cls L s H9 l9 L9 F9 → lv_has ls 5 [(1, .long (dgS (tt t) d0 4)), (0, .ref (B 0)), (3, .int (nI t))] → W p l e (Rm 11 160 5280) s m ([.ref (B 0)] : List Value).toArray below meth c H9 l9 c9 s9 (EnJ D cls s below ([.ref (B 0)] : List Value).toArray 160 5280 L (fun r L' F' => r = dgA tt ak ne fo wh (fun w => τ1.2 (5 + 3 * w)) ya co τ1.1 (ub (unR (svN (τ1.1 2)) (τ1.1 2).length τ1.1)) ∧ MI κ ζ B τ1 L' F' ∧ FrM L F L' F')) (F0 m 44 ls [])) → ∀ (N i : Nat), N + i = 4 → ∀ (L9 : List Nat) (F9 : Nat → va_E) (c9 s9 : Nat), MI κ ζ B τ1 L9 F9 → FrM L F L9 F9 → c9 + 1 * N ≤ M → s9 ≤ 33 * c9 → ∀ (H9 : Heap) (l9 : List Loc) (ls : Array Slot) (d : Int64), d = dgS (tt t) d0 i → HW D cls L s H9 l9 L9 F9 → lv_has ls 5 [(4, .int (nI i)), (1, .long d), (0, .ref (B 0)), (3, .int (nI t))] → W p l e (Rm 11 160 5280) s m ([.ref (B 0)] : List Value).toArray below meth c H9 l9 c9 s9 (EnJ D cls s below ([.ref (B 0)] : List Value).toArray 160 5280 L (fun r L' F' => r = dgA tt ak ne fo wh (fun w => τ1.2 (5 + 3 * w)) ya co τ1.1 (ub (unR (svN (τ1.1 2)) (τ1.1 2).length τ1.1)) ∧ MI κ ζ B τ1 L' F' ∧ FrM L F L' F')) (F0 m 19 ls []) := by
    intro M hM d0 t ht kont N
    induction N with
    | zero =>
      intro i hN L9 F9 c9 s9 hI9 hF9 hc9 hs9 H9 l9 ls d hd hW hl
      have ei : i = 4 := by omega
      rw [ei] at hd
      rw [hd] at hl
      refine lv_iload S.1 S.2.1 dX6_digest_19 (lv_at hl 0 rfl) ?_
      refine lv_iconst (v := 4) S.1 S.2.1 dX6_digest_21 (by decide) ?_
      refine lv_icmp_ge (tgt := 44) S.1 S.2.1 dX6_digest_22 (by decide) (fun _ => kont _ _ _ _ hI9 hF9 (by omega) hs9 _ _ _ hW (lv_sub hl [1, 2, 3] rfl)) (fun c1 => absurd (nI_le (b := i) (a := 4) (by omega) (by omega)) c1)
    | succ N ih =>
      intro i hN L9 F9 c9 s9 hI9 hF9 hc9 hs9 H9 l9 ls d hd hW hl
      refine lv_iload S.1 S.2.1 dX6_digest_19 (lv_at hl 0 rfl) ?_
      refine lv_iconst (v := 4) S.1 S.2.1 dX6_digest_21 (by decide) ?_
      refine lv_icmp_ge (tgt := 44) S.1 S.2.1 dX6_digest_22 (by decide) (fun c1 => absurd c1 (nI_ge (a := i) (b := 4) (by omega) (by omega))) (fun _ => ?_)
      have hv := hD.1 t i ht (by omega)
      refine lv_lload_n S.1 S.2.1 dX6_digest_25 rfl (lv_at hl 1 rfl) ?_
      refine lv_aload_n S.1 S.2.1 dX6_digest_26 rfl (lv_at hl 2 rfl) ?_
      refine lv_iload_n S.1 S.2.1 dX6_digest_27 rfl (lv_at hl 3 rfl) ?_
      refine lv_iload S.1 S.2.1 dX6_digest_28 (lv_at hl 0 rfl) ?_
      refine pk_cVI (As := [.int (nI t), .int (nI i)]) (rest := [.long d]) S hK hST hW (c_X6_trackTold hI9 (nI t) (nI i) hv) mc_X6_trackTold wd_1533 wd_1535 wd_1725 rfl np_X6_trackTold (hI9.mem (by decide)) hI9.this rfl rfl hl.1 rfl (Nat.le_of_ble_eq_true rfl) dX6_digest_30 ⟨Nat.le_of_ble_eq_true rfl, Nat.le_of_ble_eq_true rfl⟩ ⟨by show c9 + 1 ≤ 160; omega, by show s9 + 33 ≤ 5280; omega⟩ (fun r9 L8 F8 H8 l8 hp hW => ?_)
      obtain ⟨rfl, hI8, hF8⟩ := hp
      have hF9 := hF9.tr hF8
      have hI9 := hI8
      refine lv_i2l (v := Int32.toInt64 ((tt t i))) S.1 S.2.1 dX6_digest_33 rfl ?_
      refine pk_cSJ (As := [.long d, .long (Int32.toInt64 ((tt t i)))]) (rest := []) S hK hST hW (c_X6_add (d) ((Int32.toInt64 ((tt t i)))) rfl) mc_X6_add wd_1647 wd_1648 np_X6_add rfl hl.1 rfl (Nat.le_of_ble_eq_true rfl) dX6_digest_34 ⟨Nat.le_of_ble_eq_true rfl, Nat.le_of_ble_eq_true rfl⟩ ⟨by show c9 + 1 + 0 ≤ 160; omega, by show s9 + 33 + 0 ≤ 5280; omega⟩ (fun q1 L7 F7 H7 l7 hp hW => ?_)
      obtain ⟨rfl, rfl, rfl⟩ := hp
      rw [Nat.add_zero, Nat.add_zero]
      refine lv_lstore_n (lv' := [(1, .long ((d) * 31 + ((Int32.toInt64 ((tt t i)))))), (4, .int (nI i)), (0, .ref (B 0)), (3, .int (nI t))]) S.1 S.2.1 dX6_digest_37 rfl hl (Nat.le_of_ble_eq_true rfl) rfl (fun ls hl => ?_)
      refine lv_iinc (lv' := [(4, .int (nI (i + 1))), (1, .long ((d) * 31 + ((Int32.toInt64 ((tt t i)))))), (0, .ref (B 0)), (3, .int (nI t))]) S.1 S.2.1 dX6_digest_38 hl (k := 1) rfl (nI_1 i) (by decide) rfl (fun ls hl => ?_)
      refine lv_goto (tgt := 19) S.1 S.2.1 dX6_digest_41 (by decide) ?_
      exact ih (i + 1) (by omega) _ _ _ _ hI9 hF9 (by omega) (by omega) _ _ _ ((d) * 31 + ((Int32.toInt64 ((tt t i))))) (by rw [hd]; rfl) hW (lv_sub hl [0, 1, 2, 3] rfl)
  have B47 : ∀ (M : Nat), M ≤ 160 → ∀ (d0 : Int64), ∀ (t : Nat), t < 2 → (∀ (L9 : List Nat) (F9 : Nat → va_E) (c9 s9 : Nat), MI κ ζ B τ1 L9 F9 → FrM L F L9 F9 → c9 ≤ M → s9 ≤ 33 * c9 → ∀ (H9 : Heap) (l9 : List Loc) (ls : Array Slot), HW D cls L s H9 l9 L9 F9 → lv_has ls 5 [(1, .long (dgS (ak t) d0 6)), (0, .ref (B 0)), (3, .int (nI t))] → W p l e (Rm 11 160 5280) s m ([.ref (B 0)] : List Value).toArray below meth c H9 l9 c9 s9 (EnJ D cls s below ([.ref (B 0)] : List Value).toArray 160 5280 L (fun r L' F' => r = dgA tt ak ne fo wh (fun w => τ1.2 (5 + 3 * w)) ya co τ1.1 (ub (unR (svN (τ1.1 2)) (τ1.1 2).length τ1.1)) ∧ MI κ ζ B τ1 L' F' ∧ FrM L F L' F')) (F0 m 73 ls [])) → ∀ (N i : Nat), N + i = 6 → ∀ (L9 : List Nat) (F9 : Nat → va_E) (c9 s9 : Nat), MI κ ζ B τ1 L9 F9 → FrM L F L9 F9 → c9 + 0 * N ≤ M → s9 ≤ 33 * c9 → ∀ (H9 : Heap) (l9 : List Loc) (ls : Array Slot) (d : Int64), d = dgS (ak t) d0 i → HW D cls L s H9 l9 L9 F9 → lv_has ls 5 [(4, .int (nI i)), (1, .long d), (0, .ref (B 0)), (3, .int (nI t))] → W p l e (Rm 11 160 5280) s m ([.ref (B 0)] : List Value).toArray below meth c H9 l9 c9 s9 (EnJ D cls s below ([.ref (B 0)] : List Value).toArray 160 5280 L (fun r L' F' => r = dgA tt ak ne fo wh (fun w => τ1.2 (5 + 3 * w)) ya co τ1.1 (ub (unR (svN (τ1.1 2)) (τ1.1 2).length τ1.1)) ∧ MI κ ζ B τ1 L' F' ∧ FrM L F L' F')) (F0 m 47 ls []) := by
    intro M hM d0 t ht kont N
    induction N with
    | zero =>
      intro i hN L9 F9 c9 s9 hI9 hF9 hc9 hs9 H9 l9 ls d hd hW hl
      have ei : i = 6 := by omega
      rw [ei] at hd
      rw [hd] at hl
      refine lv_iload S.1 S.2.1 dX6_digest_47 (lv_at hl 0 rfl) ?_
      refine lv_bipush (v := 6) S.1 S.2.1 dX6_digest_49 (by decide) ?_
      refine lv_icmp_ge (tgt := 73) S.1 S.2.1 dX6_digest_51 (by decide) (fun _ => kont _ _ _ _ hI9 hF9 (by omega) hs9 _ _ _ hW (lv_sub hl [1, 2, 3] rfl)) (fun c1 => absurd (nI_le (b := i) (a := 6) (by omega) (by omega)) c1)
    | succ N ih =>
      intro i hN L9 F9 c9 s9 hI9 hF9 hc9 hs9 H9 l9 ls d hd hW hl
      refine lv_iload S.1 S.2.1 dX6_digest_47 (lv_at hl 0 rfl) ?_
      refine lv_bipush (v := 6) S.1 S.2.1 dX6_digest_49 (by decide) ?_
      refine lv_icmp_ge (tgt := 73) S.1 S.2.1 dX6_digest_51 (by decide) (fun c1 => absurd c1 (nI_ge (a := i) (b := 6) (by omega) (by omega))) (fun _ => ?_)
      have hv := hD.2.1 t i ht (by omega)
      refine lv_lload_n S.1 S.2.1 dX6_digest_54 rfl (lv_at hl 1 rfl) ?_
      refine lv_aload_n S.1 S.2.1 dX6_digest_55 rfl (lv_at hl 2 rfl) ?_
      refine lv_iload_n S.1 S.2.1 dX6_digest_56 rfl (lv_at hl 3 rfl) ?_
      refine lv_iload S.1 S.2.1 dX6_digest_57 (lv_at hl 0 rfl) ?_
      refine pk_cVI (As := [.int (nI t), .int (nI i)]) (rest := [.long d]) S hK hST hW (c_X6_asked hI9 (nI t) (nI i) hv) mc_X6_asked wd_1525 wd_1527 wd_1724 rfl np_X6_asked (hI9.mem (by decide)) hI9.this rfl rfl hl.1 rfl (Nat.le_of_ble_eq_true rfl) dX6_digest_59 ⟨Nat.le_of_ble_eq_true rfl, Nat.le_of_ble_eq_true rfl⟩ ⟨by show c9 + 0 ≤ 160; omega, by show s9 + 0 ≤ 5280; omega⟩ (fun r9 L8 F8 H8 l8 hp hW => ?_)
      obtain ⟨rfl, rfl, rfl⟩ := hp
      rw [Nat.add_zero, Nat.add_zero]
      refine lv_i2l (v := Int32.toInt64 ((ak t i))) S.1 S.2.1 dX6_digest_62 rfl ?_
      refine pk_cSJ (As := [.long d, .long (Int32.toInt64 ((ak t i)))]) (rest := []) S hK hST hW (c_X6_add (d) ((Int32.toInt64 ((ak t i)))) rfl) mc_X6_add wd_1647 wd_1648 np_X6_add rfl hl.1 rfl (Nat.le_of_ble_eq_true rfl) dX6_digest_63 ⟨Nat.le_of_ble_eq_true rfl, Nat.le_of_ble_eq_true rfl⟩ ⟨by show c9 + 0 ≤ 160; omega, by show s9 + 0 ≤ 5280; omega⟩ (fun q2 L7 F7 H7 l7 hp hW => ?_)
      obtain ⟨rfl, rfl, rfl⟩ := hp
      rw [Nat.add_zero, Nat.add_zero]
      refine lv_lstore_n (lv' := [(1, .long ((d) * 31 + ((Int32.toInt64 ((ak t i)))))), (4, .int (nI i)), (0, .ref (B 0)), (3, .int (nI t))]) S.1 S.2.1 dX6_digest_66 rfl hl (Nat.le_of_ble_eq_true rfl) rfl (fun ls hl => ?_)
      refine lv_iinc (lv' := [(4, .int (nI (i + 1))), (1, .long ((d) * 31 + ((Int32.toInt64 ((ak t i)))))), (0, .ref (B 0)), (3, .int (nI t))]) S.1 S.2.1 dX6_digest_67 hl (k := 1) rfl (nI_1 i) (by decide) rfl (fun ls hl => ?_)
      refine lv_goto (tgt := 47) S.1 S.2.1 dX6_digest_70 (by decide) ?_
      exact ih (i + 1) (by omega) _ _ _ _ hI9 hF9 (by omega) (by omega) _ _ _ ((d) * 31 + ((Int32.toInt64 ((ak t i))))) (by rw [hd]; rfl) hW (lv_sub hl [0, 1, 2, 3] rfl)
  have B76 : ∀ (M : Nat), M ≤ 160 → ∀ (d0 : Int64), ∀ (t : Nat), t < 2 → (∀ (L9 : List Nat) (F9 : Nat → va_E) (c9 s9 : Nat), MI κ ζ B τ1 L9 F9 → FrM L F L9 F9 → c9 ≤ M → s9 ≤ 33 * c9 → ∀ (H9 : Heap) (l9 : List Loc) (ls : Array Slot), HW D cls L s H9 l9 L9 F9 → lv_has ls 5 [(1, .long (dgS (fun i => (τ1.1 t).getD i 0) d0 (τ1.1 t).length)), (0, .ref (B 0)), (3, .int (nI t))] → W p l e (Rm 11 160 5280) s m ([.ref (B 0)] : List Value).toArray below meth c H9 l9 c9 s9 (EnJ D cls s below ([.ref (B 0)] : List Value).toArray 160 5280 L (fun r L' F' => r = dgA tt ak ne fo wh (fun w => τ1.2 (5 + 3 * w)) ya co τ1.1 (ub (unR (svN (τ1.1 2)) (τ1.1 2).length τ1.1)) ∧ MI κ ζ B τ1 L' F' ∧ FrM L F L' F')) (F0 m 105 ls [])) → ∀ (N i : Nat), N + i = (τ1.1 t).length → ∀ (L9 : List Nat) (F9 : Nat → va_E) (c9 s9 : Nat), MI κ ζ B τ1 L9 F9 → FrM L F L9 F9 → c9 + 0 * N ≤ M → s9 ≤ 33 * c9 → ∀ (H9 : Heap) (l9 : List Loc) (ls : Array Slot) (d : Int64), d = dgS (fun i => (τ1.1 t).getD i 0) d0 i → HW D cls L s H9 l9 L9 F9 → lv_has ls 5 [(4, .int (nI i)), (1, .long d), (0, .ref (B 0)), (3, .int (nI t))] → W p l e (Rm 11 160 5280) s m ([.ref (B 0)] : List Value).toArray below meth c H9 l9 c9 s9 (EnJ D cls s below ([.ref (B 0)] : List Value).toArray 160 5280 L (fun r L' F' => r = dgA tt ak ne fo wh (fun w => τ1.2 (5 + 3 * w)) ya co τ1.1 (ub (unR (svN (τ1.1 2)) (τ1.1 2).length τ1.1)) ∧ MI κ ζ B τ1 L' F' ∧ FrM L F L' F')) (F0 m 76 ls []) := by
    intro M hM d0 t ht kont N
    have hlen := hlen2 t ht
    induction N with
    | zero =>
      intro i hN L9 F9 c9 s9 hI9 hF9 hc9 hs9 H9 l9 ls d hd hW hl
      have ei : i = (τ1.1 t).length := by omega
      rw [ei] at hd
      rw [hd] at hl
      refine lv_iload S.1 S.2.1 dX6_digest_76 (lv_at hl 0 rfl) ?_
      refine lv_aload_n S.1 S.2.1 dX6_digest_78 rfl (lv_at hl 2 rfl) ?_
      refine lv_iload_n S.1 S.2.1 dX6_digest_79 rfl (lv_at hl 3 rfl) ?_
      refine pk_cVI (As := [.int (nI t)]) (rest := [.int (nI i)]) S hK hST hW (c_X6_size hI9 (nI t) (size_nI ht)) mc_X6_size wd_1199 wd_1201 wd_1703 rfl np_X6_size (hI9.mem (by decide)) hI9.this rfl rfl hl.1 rfl (Nat.le_of_ble_eq_true rfl) dX6_digest_80 ⟨Nat.le_of_ble_eq_true rfl, Nat.le_of_ble_eq_true rfl⟩ ⟨by show c9 + 0 ≤ 160; omega, by show s9 + 0 ≤ 5280; omega⟩ (fun r L8 F8 H8 l8 hp hW => ?_)
      obtain ⟨rfl, rfl, rfl⟩ := hp
      rw [Nat.add_zero, Nat.add_zero]
      refine lv_icmp_ge (tgt := 105) S.1 S.2.1 dX6_digest_83 (by decide) (fun _ => kont _ _ _ _ hI9 hF9 (by omega) hs9 _ _ _ hW (lv_sub hl [1, 2, 3] rfl)) (fun c1 => absurd (nI_le (b := i) (a := (τ1.1 t).length) (by omega) (by omega)) c1)
    | succ N ih =>
      intro i hN L9 F9 c9 s9 hI9 hF9 hc9 hs9 H9 l9 ls d hd hW hl
      refine lv_iload S.1 S.2.1 dX6_digest_76 (lv_at hl 0 rfl) ?_
      refine lv_aload_n S.1 S.2.1 dX6_digest_78 rfl (lv_at hl 2 rfl) ?_
      refine lv_iload_n S.1 S.2.1 dX6_digest_79 rfl (lv_at hl 3 rfl) ?_
      refine pk_cVI (As := [.int (nI t)]) (rest := [.int (nI i)]) S hK hST hW (c_X6_size hI9 (nI t) (size_nI ht)) mc_X6_size wd_1199 wd_1201 wd_1703 rfl np_X6_size (hI9.mem (by decide)) hI9.this rfl rfl hl.1 rfl (Nat.le_of_ble_eq_true rfl) dX6_digest_80 ⟨Nat.le_of_ble_eq_true rfl, Nat.le_of_ble_eq_true rfl⟩ ⟨by show c9 + 0 ≤ 160; omega, by show s9 + 0 ≤ 5280; omega⟩ (fun r L8 F8 H8 l8 hp hW => ?_)
      obtain ⟨rfl, rfl, rfl⟩ := hp
      rw [Nat.add_zero, Nat.add_zero]
      refine lv_icmp_ge (tgt := 105) S.1 S.2.1 dX6_digest_83 (by decide) (fun c1 => absurd c1 (nI_ge (a := i) (b := (τ1.1 t).length) (by omega) (by omega))) (fun _ => ?_)
      refine lv_lload_n S.1 S.2.1 dX6_digest_86 rfl (lv_at hl 1 rfl) ?_
      refine lv_aload_n S.1 S.2.1 dX6_digest_87 rfl (lv_at hl 2 rfl) ?_
      refine lv_iload_n S.1 S.2.1 dX6_digest_88 rfl (lv_at hl 3 rfl) ?_
      refine lv_iload S.1 S.2.1 dX6_digest_89 (lv_at hl 0 rfl) ?_
      refine pk_cVI (As := [.int (nI t), .int (nI i)]) (rest := [.long d]) S hK hST hW (c_X6_get hI9 (nI t) (nI i) (get_nI ht (by omega) hlen)) mc_X6_get wd_1299 wd_1301 wd_1711 rfl np_X6_get (hI9.mem (by decide)) hI9.this rfl rfl hl.1 rfl (Nat.le_of_ble_eq_true rfl) dX6_digest_91 ⟨Nat.le_of_ble_eq_true rfl, Nat.le_of_ble_eq_true rfl⟩ ⟨by show c9 + 0 ≤ 160; omega, by show s9 + 0 ≤ 5280; omega⟩ (fun r9 L8 F8 H8 l8 hp hW => ?_)
      obtain ⟨rfl, rfl, rfl⟩ := hp
      rw [Nat.add_zero, Nat.add_zero]
      refine lv_i2l (v := Int32.toInt64 (((τ1.1 t).getD i 0))) S.1 S.2.1 dX6_digest_94 rfl ?_
      refine pk_cSJ (As := [.long d, .long (Int32.toInt64 (((τ1.1 t).getD i 0)))]) (rest := []) S hK hST hW (c_X6_add (d) ((Int32.toInt64 (((τ1.1 t).getD i 0)))) rfl) mc_X6_add wd_1647 wd_1648 np_X6_add rfl hl.1 rfl (Nat.le_of_ble_eq_true rfl) dX6_digest_95 ⟨Nat.le_of_ble_eq_true rfl, Nat.le_of_ble_eq_true rfl⟩ ⟨by show c9 + 0 ≤ 160; omega, by show s9 + 0 ≤ 5280; omega⟩ (fun q3 L7 F7 H7 l7 hp hW => ?_)
      obtain ⟨rfl, rfl, rfl⟩ := hp
      rw [Nat.add_zero, Nat.add_zero]
      refine lv_lstore_n (lv' := [(1, .long ((d) * 31 + ((Int32.toInt64 (((τ1.1 t).getD i 0)))))), (4, .int (nI i)), (0, .ref (B 0)), (3, .int (nI t))]) S.1 S.2.1 dX6_digest_98 rfl hl (Nat.le_of_ble_eq_true rfl) rfl (fun ls hl => ?_)
      refine lv_iinc (lv' := [(4, .int (nI (i + 1))), (1, .long ((d) * 31 + ((Int32.toInt64 (((τ1.1 t).getD i 0)))))), (0, .ref (B 0)), (3, .int (nI t))]) S.1 S.2.1 dX6_digest_99 hl (k := 1) rfl (nI_1 i) (by decide) rfl (fun ls hl => ?_)
      refine lv_goto (tgt := 76) S.1 S.2.1 dX6_digest_102 (by decide) ?_
      exact ih (i + 1) (by omega) _ _ _ _ hI9 hF9 (by omega) (by omega) _ _ _ ((d) * 31 + ((Int32.toInt64 (((τ1.1 t).getD i 0))))) (by rw [hd]; rfl) hW (lv_sub hl [0, 1, 2, 3] rfl)
  have B11 : ∀ (M : Nat), M ≤ 160 → ∀ (d0 : Int64),  (∀ (L9 : List Nat) (F9 : Nat → va_E) (c9 s9 : Nat), MI κ ζ B τ1 L9 F9 → FrM L F L9 F9 → c9 ≤ M → s9 ≤ 33 * c9 → ∀ (H9 : Heap) (l9 : List Loc) (ls : Array Slot), HW D cls L s H9 l9 L9 F9 → lv_has ls 5 [(1, .long (dgT tt ak ne τ1.1 d0 2)), (0, .ref (B 0))] → W p l e (Rm 11 160 5280) s m ([.ref (B 0)] : List Value).toArray below meth c H9 l9 c9 s9 (EnJ D cls s below ([.ref (B 0)] : List Value).toArray 160 5280 L (fun r L' F' => r = dgA tt ak ne fo wh (fun w => τ1.2 (5 + 3 * w)) ya co τ1.1 (ub (unR (svN (τ1.1 2)) (τ1.1 2).length τ1.1)) ∧ MI κ ζ B τ1 L' F' ∧ FrM L F L' F')) (F0 m 135 ls [])) → ∀ (N i : Nat), N + i = 2 → ∀ (L9 : List Nat) (F9 : Nat → va_E) (c9 s9 : Nat), MI κ ζ B τ1 L9 F9 → FrM L F L9 F9 → c9 + 18 * N ≤ M → s9 ≤ 33 * c9 → ∀ (H9 : Heap) (l9 : List Loc) (ls : Array Slot) (d : Int64), d = dgT tt ak ne τ1.1 d0 i → HW D cls L s H9 l9 L9 F9 → lv_has ls 5 [(3, .int (nI i)), (1, .long d), (0, .ref (B 0))] → W p l e (Rm 11 160 5280) s m ([.ref (B 0)] : List Value).toArray below meth c H9 l9 c9 s9 (EnJ D cls s below ([.ref (B 0)] : List Value).toArray 160 5280 L (fun r L' F' => r = dgA tt ak ne fo wh (fun w => τ1.2 (5 + 3 * w)) ya co τ1.1 (ub (unR (svN (τ1.1 2)) (τ1.1 2).length τ1.1)) ∧ MI κ ζ B τ1 L' F' ∧ FrM L F L' F')) (F0 m 11 ls []) := by
    intro M hM d0  kont N
    induction N with
    | zero =>
      intro i hN L9 F9 c9 s9 hI9 hF9 hc9 hs9 H9 l9 ls d hd hW hl
      have ei : i = 2 := by omega
      rw [ei] at hd
      rw [hd] at hl
      refine lv_iload_n S.1 S.2.1 dX6_digest_11 rfl (lv_at hl 0 rfl) ?_
      refine lv_iconst (v := 2) S.1 S.2.1 dX6_digest_12 (by decide) ?_
      refine lv_icmp_ge (tgt := 135) S.1 S.2.1 dX6_digest_13 (by decide) (fun _ => kont _ _ _ _ hI9 hF9 (by omega) hs9 _ _ _ hW (lv_sub hl [1, 2] rfl)) (fun c1 => absurd (nI_le (b := i) (a := 2) (by omega) (by omega)) c1)
    | succ N ih =>
      intro i hN L9 F9 c9 s9 hI9 hF9 hc9 hs9 H9 l9 ls d hd hW hl
      refine lv_iload_n S.1 S.2.1 dX6_digest_11 rfl (lv_at hl 0 rfl) ?_
      refine lv_iconst (v := 2) S.1 S.2.1 dX6_digest_12 (by decide) ?_
      refine lv_icmp_ge (tgt := 135) S.1 S.2.1 dX6_digest_13 (by decide) (fun c1 => absurd c1 (nI_ge (a := i) (b := 2) (by omega) (by omega))) (fun _ => ?_)
      have ht : i < 2 := by omega
      refine lv_iconst (v := 0) S.1 S.2.1 dX6_digest_16 (by decide) ?_
      refine lv_istore (lv' := [(4, .int 0), (3, .int (nI i)), (1, .long d), (0, .ref (B 0))]) S.1 S.2.1 dX6_digest_17 hl (Nat.le_of_ble_eq_true rfl) rfl (fun ls hl => ?_)
      refine B19 (c9 + 4) (by omega) d i ht ?_ 4 0 rfl _ _ _ _ hI9 hF9 (by omega) hs9 _ _ _ d rfl hW (lv_sub hl [0, 2, 3, 1] rfl)
      intro L9 F9 c8 s9 hI9 hF9 hc8 hs9 H9 l9 ls hW hl
      generalize ed1 : dgS (tt i) d 4 = d1 at hl
      refine lv_iconst (v := 0) S.1 S.2.1 dX6_digest_44 (by decide) ?_
      refine lv_istore (lv' := [(4, .int 0), (1, .long d1), (0, .ref (B 0)), (3, .int (nI i))]) S.1 S.2.1 dX6_digest_45 hl (Nat.le_of_ble_eq_true rfl) rfl (fun ls hl => ?_)
      refine B47 (c9 + 4) (by omega) d1 i ht ?_ 6 0 rfl _ _ _ _ hI9 hF9 (by omega) hs9 _ _ _ d1 rfl hW (lv_sub hl [0, 1, 2, 3] rfl)
      clear hc8
      intro L9 F9 c8 s9 hI9 hF9 hc8 hs9 H9 l9 ls hW hl
      generalize ed2 : dgS (ak i) d1 6 = d2 at hl
      refine lv_iconst (v := 0) S.1 S.2.1 dX6_digest_73 (by decide) ?_
      refine lv_istore (lv' := [(4, .int 0), (1, .long d2), (0, .ref (B 0)), (3, .int (nI i))]) S.1 S.2.1 dX6_digest_74 hl (Nat.le_of_ble_eq_true rfl) rfl (fun ls hl => ?_)
      refine B76 (c9 + 4) (by omega) d2 i ht ?_ _ 0 (Nat.add_zero _) _ _ _ _ hI9 hF9 (by omega) hs9 _ _ _ d2 rfl hW (lv_sub hl [0, 1, 2, 3] rfl)
      clear hc8
      intro L9 F9 c8 s9 hI9 hF9 hc8 hs9 H9 l9 ls hW hl
      generalize ed3 : dgS (fun j => (τ1.1 i).getD j 0) d2 (τ1.1 i).length = d3 at hl
      have hv := hD.2.2.1 i ht
      refine lv_lload_n S.1 S.2.1 dX6_digest_105 rfl (lv_at hl 0 rfl) ?_
      refine lv_aload_n S.1 S.2.1 dX6_digest_106 rfl (lv_at hl 1 rfl) ?_
      refine lv_iload_n S.1 S.2.1 dX6_digest_107 rfl (lv_at hl 2 rfl) ?_
      refine lv_iconst (v := 1) S.1 S.2.1 dX6_digest_108 (by decide) ?_
      refine pk_cVR (As := [.int (nI i), .int 1]) (rest := [.long d3]) S hK hST hW (c_X6_textOf hI9 (nI i) 1 (gtr_nI ht) rfl (hlen2 i ht) (hcd i ht)) mc_X6_textOf wd_1554 wd_1556 wd_1727 rfl np_X6_textOf (hI9.mem (by decide)) hI9.this rfl rfl hl.1 rfl (Nat.le_of_ble_eq_true rfl) dX6_digest_109 ⟨Nat.le_of_ble_eq_true rfl, Nat.le_of_ble_eq_true rfl⟩ ⟨by show c8 + 13 ≤ 160; omega, by show s9 + 429 ≤ 5280; omega⟩ (fun r9 L8 F8 H8 l8 hp hW => ?_)
      obtain ⟨hs8, -, hSS, hf8⟩ := hp
      have hI8 := hI9.keep0 hs8 hf8 (noE hW hST)
      have hF9 := hF9.tr ⟨hs8, fun x hx _ => hf8 x hx⟩
      have hI9 := hI8
      obtain ⟨qS, -, mS, mV, -, ⟨hS1, hS2, eS⟩, gS, -, eV⟩ := hSS
      refine pk_cVI (As := []) (rest := [.long d3]) S hK hST hW (c_J0_length_8abf5 mS mV eS eV) mc_J0_length_8abf5 wd_1651 wd_995 wd_996 rfl np_J0_length_8abf5 mS eS rfl rfl hl.1 rfl (Nat.le_of_ble_eq_true rfl) dX6_digest_112 ⟨Nat.le_of_ble_eq_true rfl, Nat.le_of_ble_eq_true rfl⟩ ⟨by show c8 + 13 + 0 ≤ 160; omega, by show s9 + 429 + 0 ≤ 5280; omega⟩ (fun r8 L8 F8 H8 l8 hp hW => ?_)
      obtain ⟨rfl, rfl, rfl⟩ := hp
      rw [Nat.add_zero, Nat.add_zero]
      refine lv_i2l (v := Int32.toInt64 ((nI (tlG (τ1.1 i) 1 (τ1.1 i).length)))) S.1 S.2.1 dX6_digest_115 rfl ?_
      refine pk_cSJ (As := [.long d3, .long (Int32.toInt64 ((nI (tlG (τ1.1 i) 1 (τ1.1 i).length))))]) (rest := []) S hK hST hW (c_X6_add (d3) ((Int32.toInt64 ((nI (tlG (τ1.1 i) 1 (τ1.1 i).length))))) rfl) mc_X6_add wd_1647 wd_1648 np_X6_add rfl hl.1 rfl (Nat.le_of_ble_eq_true rfl) dX6_digest_116 ⟨Nat.le_of_ble_eq_true rfl, Nat.le_of_ble_eq_true rfl⟩ ⟨by show c8 + 13 + 0 ≤ 160; omega, by show s9 + 429 + 0 ≤ 5280; omega⟩ (fun q4 L7 F7 H7 l7 hp hW => ?_)
      obtain ⟨rfl, rfl, rfl⟩ := hp
      rw [Nat.add_zero, Nat.add_zero]
      refine lv_aload_n S.1 S.2.1 dX6_digest_119 rfl (lv_at hl 1 rfl) ?_
      refine lv_iload_n S.1 S.2.1 dX6_digest_120 rfl (lv_at hl 2 rfl) ?_
      refine pk_cVI (As := [.int (nI i)]) (rest := [.long ((d3) * 31 + ((Int32.toInt64 ((nI (tlG (τ1.1 i) 1 (τ1.1 i).length))))))]) S hK hST hW (c_X6_nestedNow hI9 (nI i) hv) mc_X6_nestedNow wd_1568 wd_1570 wd_1728 rfl np_X6_nestedNow (hI9.mem (by decide)) hI9.this rfl rfl hl.1 rfl (Nat.le_of_ble_eq_true rfl) dX6_digest_121 ⟨Nat.le_of_ble_eq_true rfl, Nat.le_of_ble_eq_true rfl⟩ ⟨by show c8 + 13 + 1 ≤ 160; omega, by show s9 + 429 + 33 ≤ 5280; omega⟩ (fun r7 L8 F8 H8 l8 hp hW => ?_)
      obtain ⟨rfl, hI8, hF8⟩ := hp
      have hF9 := hF9.tr hF8
      have hI9 := hI8
      refine lv_i2l (v := Int32.toInt64 ((ne i))) S.1 S.2.1 dX6_digest_124 rfl ?_
      refine pk_cSJ (As := [.long ((d3) * 31 + ((Int32.toInt64 ((nI (tlG (τ1.1 i) 1 (τ1.1 i).length)))))), .long (Int32.toInt64 ((ne i)))]) (rest := []) S hK hST hW (c_X6_add (((d3) * 31 + ((Int32.toInt64 ((nI (tlG (τ1.1 i) 1 (τ1.1 i).length))))))) ((Int32.toInt64 ((ne i)))) rfl) mc_X6_add wd_1647 wd_1648 np_X6_add rfl hl.1 rfl (Nat.le_of_ble_eq_true rfl) dX6_digest_125 ⟨Nat.le_of_ble_eq_true rfl, Nat.le_of_ble_eq_true rfl⟩ ⟨by show c8 + 13 + 1 + 0 ≤ 160; omega, by show s9 + 429 + 33 + 0 ≤ 5280; omega⟩ (fun q5 L7 F7 H7 l7 hp hW => ?_)
      obtain ⟨rfl, rfl, rfl⟩ := hp
      rw [Nat.add_zero, Nat.add_zero]
      refine lv_lstore_n (lv' := [(1, .long ((((d3) * 31 + ((Int32.toInt64 ((nI (tlG (τ1.1 i) 1 (τ1.1 i).length))))))) * 31 + ((Int32.toInt64 ((ne i)))))), (0, .ref (B 0)), (3, .int (nI i))]) S.1 S.2.1 dX6_digest_128 rfl hl (Nat.le_of_ble_eq_true rfl) rfl (fun ls hl => ?_)
      refine lv_iinc (lv' := [(3, .int (nI (i + 1))), (1, .long ((((d3) * 31 + ((Int32.toInt64 ((nI (tlG (τ1.1 i) 1 (τ1.1 i).length))))))) * 31 + ((Int32.toInt64 ((ne i)))))), (0, .ref (B 0))]) S.1 S.2.1 dX6_digest_129 hl (k := 2) rfl (nI_1 i) (by decide) rfl (fun ls hl => ?_)
      refine lv_goto (tgt := 11) S.1 S.2.1 dX6_digest_132 (by decide) ?_
      exact ih (i + 1) (by omega) _ _ _ _ hI9 hF9 (by omega) (by omega) _ _ _ ((((d3) * 31 + ((Int32.toInt64 ((nI (tlG (τ1.1 i) 1 (τ1.1 i).length))))))) * 31 + ((Int32.toInt64 ((ne i))))) (by rw [← ed3, ← ed2, ← ed1, hd]; rfl) hW (lv_sub hl [0, 1, 2] rfl)
  have B137 : ∀ (M : Nat), M ≤ 160 → ∀ (d0 : Int64),  (∀ (L9 : List Nat) (F9 : Nat → va_E) (c9 s9 : Nat), MI κ ζ B τ1 L9 F9 → FrM L F L9 F9 → c9 ≤ M → s9 ≤ 33 * c9 → ∀ (H9 : Heap) (l9 : List Loc) (ls : Array Slot), HW D cls L s H9 l9 L9 F9 → lv_has ls 5 [(1, .long (dgP (fun k => fo k 0) (fun k => fo k 1) d0 10)), (0, .ref (B 0))] → W p l e (Rm 11 160 5280) s m ([.ref (B 0)] : List Value).toArray below meth c H9 l9 c9 s9 (EnJ D cls s below ([.ref (B 0)] : List Value).toArray 160 5280 L (fun r L' F' => r = dgA tt ak ne fo wh (fun w => τ1.2 (5 + 3 * w)) ya co τ1.1 (ub (unR (svN (τ1.1 2)) (τ1.1 2).length τ1.1)) ∧ MI κ ζ B τ1 L' F' ∧ FrM L F L' F')) (F0 m 173 ls [])) → ∀ (N i : Nat), N + i = 10 → ∀ (L9 : List Nat) (F9 : Nat → va_E) (c9 s9 : Nat), MI κ ζ B τ1 L9 F9 → FrM L F L9 F9 → c9 + 0 * N ≤ M → s9 ≤ 33 * c9 → ∀ (H9 : Heap) (l9 : List Loc) (ls : Array Slot) (d : Int64), d = dgP (fun k => fo k 0) (fun k => fo k 1) d0 i → HW D cls L s H9 l9 L9 F9 → lv_has ls 5 [(3, .int (nI i)), (1, .long d), (0, .ref (B 0))] → W p l e (Rm 11 160 5280) s m ([.ref (B 0)] : List Value).toArray below meth c H9 l9 c9 s9 (EnJ D cls s below ([.ref (B 0)] : List Value).toArray 160 5280 L (fun r L' F' => r = dgA tt ak ne fo wh (fun w => τ1.2 (5 + 3 * w)) ya co τ1.1 (ub (unR (svN (τ1.1 2)) (τ1.1 2).length τ1.1)) ∧ MI κ ζ B τ1 L' F' ∧ FrM L F L' F')) (F0 m 137 ls []) := by
    intro M hM d0  kont N
    induction N with
    | zero =>
      intro i hN L9 F9 c9 s9 hI9 hF9 hc9 hs9 H9 l9 ls d hd hW hl
      have ei : i = 10 := by omega
      rw [ei] at hd
      rw [hd] at hl
      refine lv_iload_n S.1 S.2.1 dX6_digest_137 rfl (lv_at hl 0 rfl) ?_
      refine lv_bipush (v := 9) S.1 S.2.1 dX6_digest_138 (by decide) ?_
      refine lv_icmp_gt (tgt := 173) S.1 S.2.1 dX6_digest_140 (by decide) (fun _ => kont _ _ _ _ hI9 hF9 (by omega) hs9 _ _ _ hW (lv_sub hl [1, 2] rfl)) (fun c1 => absurd (show (9 : Int32) < nI i from (nI_ltI (a := 9) (by omega) (by omega)).mpr (by omega)) c1)
    | succ N ih =>
      intro i hN L9 F9 c9 s9 hI9 hF9 hc9 hs9 H9 l9 ls d hd hW hl
      refine lv_iload_n S.1 S.2.1 dX6_digest_137 rfl (lv_at hl 0 rfl) ?_
      refine lv_bipush (v := 9) S.1 S.2.1 dX6_digest_138 (by decide) ?_
      refine lv_icmp_gt (tgt := 173) S.1 S.2.1 dX6_digest_140 (by decide) (fun c1 => absurd c1 (nI_nlt (a := 9) (b := i) (by omega) (by omega))) (fun _ => ?_)
      have hv0 := hD.2.2.2.1 i 0 (by omega) (by decide)
      have hv1 := hD.2.2.2.1 i 1 (by omega) (by decide)
      refine lv_lload_n S.1 S.2.1 dX6_digest_143 rfl (lv_at hl 1 rfl) ?_
      refine lv_aload_n S.1 S.2.1 dX6_digest_144 rfl (lv_at hl 2 rfl) ?_
      refine lv_iconst (v := 1) S.1 S.2.1 dX6_digest_145 (by decide) ?_
      refine lv_iload_n S.1 S.2.1 dX6_digest_146 rfl (lv_at hl 0 rfl) ?_
      refine lv_iconst (v := 0) S.1 S.2.1 dX6_digest_147 (by decide) ?_
      refine pk_cVI (As := [.int 1, .int (nI i), .int 0]) (rest := [.long d]) S hK hST hW (c_X6_found hI9 1 (nI i) (nI 0) hv0) mc_X6_found wd_1366 wd_1368 wd_1716 rfl np_X6_found (hI9.mem (by decide)) hI9.this rfl rfl hl.1 rfl (Nat.le_of_ble_eq_true rfl) dX6_digest_148 ⟨Nat.le_of_ble_eq_true rfl, Nat.le_of_ble_eq_true rfl⟩ ⟨by show c9 + 0 ≤ 160; omega, by show s9 + 0 ≤ 5280; omega⟩ (fun r9 L8 F8 H8 l8 hp hW => ?_)
      obtain ⟨rfl, rfl, rfl⟩ := hp
      rw [Nat.add_zero, Nat.add_zero]
      refine lv_i2l (v := Int32.toInt64 ((fo i 0))) S.1 S.2.1 dX6_digest_151 rfl ?_
      refine pk_cSJ (As := [.long d, .long (Int32.toInt64 ((fo i 0)))]) (rest := []) S hK hST hW (c_X6_add (d) ((Int32.toInt64 ((fo i 0)))) rfl) mc_X6_add wd_1647 wd_1648 np_X6_add rfl hl.1 rfl (Nat.le_of_ble_eq_true rfl) dX6_digest_152 ⟨Nat.le_of_ble_eq_true rfl, Nat.le_of_ble_eq_true rfl⟩ ⟨by show c9 + 0 ≤ 160; omega, by show s9 + 0 ≤ 5280; omega⟩ (fun q6 L7 F7 H7 l7 hp hW => ?_)
      obtain ⟨rfl, rfl, rfl⟩ := hp
      rw [Nat.add_zero, Nat.add_zero]
      refine lv_aload_n S.1 S.2.1 dX6_digest_155 rfl (lv_at hl 2 rfl) ?_
      refine lv_iconst (v := 1) S.1 S.2.1 dX6_digest_156 (by decide) ?_
      refine lv_iload_n S.1 S.2.1 dX6_digest_157 rfl (lv_at hl 0 rfl) ?_
      refine lv_iconst (v := 1) S.1 S.2.1 dX6_digest_158 (by decide) ?_
      refine pk_cVI (As := [.int 1, .int (nI i), .int 1]) (rest := [.long ((d) * 31 + ((Int32.toInt64 ((fo i 0)))))]) S hK hST hW (c_X6_found hI9 1 (nI i) (nI 1) hv1) mc_X6_found wd_1366 wd_1368 wd_1716 rfl np_X6_found (hI9.mem (by decide)) hI9.this rfl rfl hl.1 rfl (Nat.le_of_ble_eq_true rfl) dX6_digest_159 ⟨Nat.le_of_ble_eq_true rfl, Nat.le_of_ble_eq_true rfl⟩ ⟨by show c9 + 0 ≤ 160; omega, by show s9 + 0 ≤ 5280; omega⟩ (fun r8 L8 F8 H8 l8 hp hW => ?_)
      obtain ⟨rfl, rfl, rfl⟩ := hp
      rw [Nat.add_zero, Nat.add_zero]
      refine lv_i2l (v := Int32.toInt64 ((fo i 1))) S.1 S.2.1 dX6_digest_162 rfl ?_
      refine pk_cSJ (As := [.long ((d) * 31 + ((Int32.toInt64 ((fo i 0))))), .long (Int32.toInt64 ((fo i 1)))]) (rest := []) S hK hST hW (c_X6_add (((d) * 31 + ((Int32.toInt64 ((fo i 0)))))) ((Int32.toInt64 ((fo i 1)))) rfl) mc_X6_add wd_1647 wd_1648 np_X6_add rfl hl.1 rfl (Nat.le_of_ble_eq_true rfl) dX6_digest_163 ⟨Nat.le_of_ble_eq_true rfl, Nat.le_of_ble_eq_true rfl⟩ ⟨by show c9 + 0 ≤ 160; omega, by show s9 + 0 ≤ 5280; omega⟩ (fun q7 L7 F7 H7 l7 hp hW => ?_)
      obtain ⟨rfl, rfl, rfl⟩ := hp
      rw [Nat.add_zero, Nat.add_zero]
      refine lv_lstore_n (lv' := [(1, .long ((((d) * 31 + ((Int32.toInt64 ((fo i 0)))))) * 31 + ((Int32.toInt64 ((fo i 1)))))), (3, .int (nI i)), (0, .ref (B 0))]) S.1 S.2.1 dX6_digest_166 rfl hl (Nat.le_of_ble_eq_true rfl) rfl (fun ls hl => ?_)
      refine lv_iinc (lv' := [(3, .int (nI (i + 1))), (1, .long ((((d) * 31 + ((Int32.toInt64 ((fo i 0)))))) * 31 + ((Int32.toInt64 ((fo i 1)))))), (0, .ref (B 0))]) S.1 S.2.1 dX6_digest_167 hl (k := 1) rfl (nI_1 i) (by decide) rfl (fun ls hl => ?_)
      refine lv_goto (tgt := 137) S.1 S.2.1 dX6_digest_170 (by decide) ?_
      exact ih (i + 1) (by omega) _ _ _ _ hI9 hF9 (by omega) (by omega) _ _ _ ((((d) * 31 + ((Int32.toInt64 ((fo i 0)))))) * 31 + ((Int32.toInt64 ((fo i 1))))) (by rw [hd]; rfl) hW (lv_sub hl [0, 1, 2] rfl)
  have B195 : ∀ (M : Nat), M ≤ 160 → ∀ (d0 : Int64), ∀ (w : Nat), w < 2 → (∀ (L9 : List Nat) (F9 : Nat → va_E) (c9 s9 : Nat), MI κ ζ B τ1 L9 F9 → FrM L F L9 F9 → c9 ≤ M → s9 ≤ 33 * c9 → ∀ (H9 : Heap) (l9 : List Loc) (ls : Array Slot), HW D cls L s H9 l9 L9 F9 → lv_has ls 5 [(1, .long (if τ1.2 (5 + 3 * w) = 1 then dgS (fun i => wh w (i + 1)) d0 4 else d0)), (0, .ref (B 0)), (3, .int (nI w))] → W p l e (Rm 11 160 5280) s m ([.ref (B 0)] : List Value).toArray below meth c H9 l9 c9 s9 (EnJ D cls s below ([.ref (B 0)] : List Value).toArray 160 5280 L (fun r L' F' => r = dgA tt ak ne fo wh (fun w => τ1.2 (5 + 3 * w)) ya co τ1.1 (ub (unR (svN (τ1.1 2)) (τ1.1 2).length τ1.1)) ∧ MI κ ζ B τ1 L' F' ∧ FrM L F L' F')) (F0 m 233 ls [])) → ∀ (N i : Nat), N + i = 5 → ∀ (L9 : List Nat) (F9 : Nat → va_E) (c9 s9 : Nat), MI κ ζ B τ1 L9 F9 → FrM L F L9 F9 → c9 + 1 * N ≤ M → s9 ≤ 33 * c9 → ∀ (H9 : Heap) (l9 : List Loc) (ls : Array Slot) (d : Int64), d = (if τ1.2 (5 + 3 * w) = 1 then dgS (fun i => wh w (i + 1)) d0 (i - 1) else d0) → 1 ≤ i → HW D cls L s H9 l9 L9 F9 → lv_has ls 5 [(4, .int (nI i)), (1, .long d), (0, .ref (B 0)), (3, .int (nI w))] → W p l e (Rm 11 160 5280) s m ([.ref (B 0)] : List Value).toArray below meth c H9 l9 c9 s9 (EnJ D cls s below ([.ref (B 0)] : List Value).toArray 160 5280 L (fun r L' F' => r = dgA tt ak ne fo wh (fun w => τ1.2 (5 + 3 * w)) ya co τ1.1 (ub (unR (svN (τ1.1 2)) (τ1.1 2).length τ1.1)) ∧ MI κ ζ B τ1 L' F' ∧ FrM L F L' F')) (F0 m 195 ls []) := by
    intro M hM d0 w hw kont N
    induction N with
    | zero =>
      intro i hN L9 F9 c9 s9 hI9 hF9 hc9 hs9 H9 l9 ls d hd h1i hW hl
      have ei : i = 5 := by omega
      rw [ei] at hd
      rw [hd] at hl
      refine lv_iload S.1 S.2.1 dX6_digest_195 (lv_at hl 0 rfl) ?_
      refine lv_iconst (v := 5) S.1 S.2.1 dX6_digest_197 (by decide) ?_
      refine lv_icmp_ge (tgt := 233) S.1 S.2.1 dX6_digest_198 (by decide) (fun _ => kont _ _ _ _ hI9 hF9 (by omega) hs9 _ _ _ hW (lv_sub hl [1, 2, 3] rfl)) (fun c1 => absurd (nI_le (b := i) (a := 5) (by omega) (by omega)) c1)
    | succ N ih =>
      intro i hN L9 F9 c9 s9 hI9 hF9 hc9 hs9 H9 l9 ls d hd h1i hW hl
      refine lv_iload S.1 S.2.1 dX6_digest_195 (lv_at hl 0 rfl) ?_
      refine lv_iconst (v := 5) S.1 S.2.1 dX6_digest_197 (by decide) ?_
      refine lv_icmp_ge (tgt := 233) S.1 S.2.1 dX6_digest_198 (by decide) (fun c1 => absurd c1 (nI_ge (a := i) (b := 5) (by omega) (by omega))) (fun _ => ?_)
      have hv := hD.2.2.2.2.1 w i hw (by omega)
      obtain ⟨f7, e7, hv7⟩ := hI9.wk hw
      refine lv_aload_n S.1 S.2.1 dX6_digest_201 rfl (lv_at hl 2 rfl) ?_
      refine pk_get S hK hW 4 (hI9.mem (by decide)) hI9.this rfl hinX6 (by decide) wd_1159 rfl dX6_digest_202 ?_
      refine lv_iload_n S.1 S.2.1 dX6_digest_205 rfl (lv_at hl 3 rfl) ?_
      refine pk_aald S hK hW 4 (hI9.mem (by decide)) e7 rfl (vp_in_nI (by omega) (by omega)) hv7 dX6_digest_206 ?_
      refine pk_get S hK hW 0 (hI9.mem (by omega)) (hI9.mkH hw) rfl hinX5 (by decide) wd_1100 rfl dX6_digest_207 ?_
      refine lv_iconst (v := 1) S.1 S.2.1 dX6_digest_210 (by decide) ?_
      refine lv_icmp_ne (tgt := 233) S.1 S.2.1 dX6_digest_211 (by decide) (fun c7 => ?_) (fun c7 => ?_)
      · have es : ¬ τ1.2 (5 + 3 * w) = 1 := c7
        have hd1 : d = d0 := by rw [hd, if_neg es]
        rw [hd1] at hl
        have hfin : (if τ1.2 (5 + 3 * w) = 1 then dgS (fun i => wh w (i + 1)) d0 4 else d0) = d0 := if_neg es
        rw [hfin] at kont
        exact kont _ _ _ _ hI9 hF9 (by omega) hs9 _ _ _ hW (lv_sub hl [1, 2, 3] rfl)
      have es : τ1.2 (5 + 3 * w) = 1 := Classical.byContradiction fun q => q c7
      refine lv_lload_n S.1 S.2.1 dX6_digest_214 rfl (lv_at hl 1 rfl) ?_
      refine lv_aload_n S.1 S.2.1 dX6_digest_215 rfl (lv_at hl 2 rfl) ?_
      refine lv_iload_n S.1 S.2.1 dX6_digest_216 rfl (lv_at hl 3 rfl) ?_
      refine lv_iload S.1 S.2.1 dX6_digest_217 (lv_at hl 0 rfl) ?_
      refine pk_cVI (As := [.int (nI w), .int (nI i)]) (rest := [.long d]) S hK hST hW (c_X6_whereNow hI9 (nI w) (nI i) hv) mc_X6_whereNow wd_1501 wd_1503 wd_1722 rfl np_X6_whereNow (hI9.mem (by decide)) hI9.this rfl rfl hl.1 rfl (Nat.le_of_ble_eq_true rfl) dX6_digest_219 ⟨Nat.le_of_ble_eq_true rfl, Nat.le_of_ble_eq_true rfl⟩ ⟨by show c9 + 1 ≤ 160; omega, by show s9 + 33 ≤ 5280; omega⟩ (fun r9 L8 F8 H8 l8 hp hW => ?_)
      obtain ⟨rfl, hI8, hF8⟩ := hp
      have hF9 := hF9.tr hF8
      have hI9 := hI8
      refine lv_i2l (v := Int32.toInt64 ((wh w i))) S.1 S.2.1 dX6_digest_222 rfl ?_
      refine pk_cSJ (As := [.long d, .long (Int32.toInt64 ((wh w i)))]) (rest := []) S hK hST hW (c_X6_add (d) ((Int32.toInt64 ((wh w i)))) rfl) mc_X6_add wd_1647 wd_1648 np_X6_add rfl hl.1 rfl (Nat.le_of_ble_eq_true rfl) dX6_digest_223 ⟨Nat.le_of_ble_eq_true rfl, Nat.le_of_ble_eq_true rfl⟩ ⟨by show c9 + 1 + 0 ≤ 160; omega, by show s9 + 33 + 0 ≤ 5280; omega⟩ (fun q8 L7 F7 H7 l7 hp hW => ?_)
      obtain ⟨rfl, rfl, rfl⟩ := hp
      rw [Nat.add_zero, Nat.add_zero]
      refine lv_lstore_n (lv' := [(1, .long ((d) * 31 + ((Int32.toInt64 ((wh w i)))))), (4, .int (nI i)), (0, .ref (B 0)), (3, .int (nI w))]) S.1 S.2.1 dX6_digest_226 rfl hl (Nat.le_of_ble_eq_true rfl) rfl (fun ls hl => ?_)
      refine lv_iinc (lv' := [(4, .int (nI (i + 1))), (1, .long ((d) * 31 + ((Int32.toInt64 ((wh w i)))))), (0, .ref (B 0)), (3, .int (nI w))]) S.1 S.2.1 dX6_digest_227 hl (k := 1) rfl (nI_1 i) (by decide) rfl (fun ls hl => ?_)
      refine lv_goto (tgt := 195) S.1 S.2.1 dX6_digest_230 (by decide) ?_
      exact ih (i + 1) (by omega) _ _ _ _ hI9 hF9 (by omega) (by omega) _ _ _ ((d) * 31 + ((Int32.toInt64 ((wh w i))))) (by rw [if_pos es] at hd ⊢; obtain ⟨i0, rfl⟩ : ∃ i0, i = i0 + 1 := ⟨i - 1, by omega⟩; rw [hd]; rfl) (by omega) hW (lv_sub hl [0, 1, 2, 3] rfl)
  have B175 : ∀ (M : Nat), M ≤ 160 → ∀ (d0 : Int64),  (∀ (L9 : List Nat) (F9 : Nat → va_E) (c9 s9 : Nat), MI κ ζ B τ1 L9 F9 → FrM L F L9 F9 → c9 ≤ M → s9 ≤ 33 * c9 → ∀ (H9 : Heap) (l9 : List Loc) (ls : Array Slot), HW D cls L s H9 l9 L9 F9 → lv_has ls 5 [(1, .long (dgW wh (fun w => τ1.2 (5 + 3 * w)) d0 2)), (0, .ref (B 0))] → W p l e (Rm 11 160 5280) s m ([.ref (B 0)] : List Value).toArray below meth c H9 l9 c9 s9 (EnJ D cls s below ([.ref (B 0)] : List Value).toArray 160 5280 L (fun r L' F' => r = dgA tt ak ne fo wh (fun w => τ1.2 (5 + 3 * w)) ya co τ1.1 (ub (unR (svN (τ1.1 2)) (τ1.1 2).length τ1.1)) ∧ MI κ ζ B τ1 L' F' ∧ FrM L F L' F')) (F0 m 239 ls [])) → ∀ (N i : Nat), N + i = 2 → ∀ (L9 : List Nat) (F9 : Nat → va_E) (c9 s9 : Nat), MI κ ζ B τ1 L9 F9 → FrM L F L9 F9 → c9 + 5 * N ≤ M → s9 ≤ 33 * c9 → ∀ (H9 : Heap) (l9 : List Loc) (ls : Array Slot) (d : Int64), d = dgW wh (fun w => τ1.2 (5 + 3 * w)) d0 i → HW D cls L s H9 l9 L9 F9 → lv_has ls 5 [(3, .int (nI i)), (1, .long d), (0, .ref (B 0))] → W p l e (Rm 11 160 5280) s m ([.ref (B 0)] : List Value).toArray below meth c H9 l9 c9 s9 (EnJ D cls s below ([.ref (B 0)] : List Value).toArray 160 5280 L (fun r L' F' => r = dgA tt ak ne fo wh (fun w => τ1.2 (5 + 3 * w)) ya co τ1.1 (ub (unR (svN (τ1.1 2)) (τ1.1 2).length τ1.1)) ∧ MI κ ζ B τ1 L' F' ∧ FrM L F L' F')) (F0 m 175 ls []) := by
    intro M hM d0  kont N
    induction N with
    | zero =>
      intro i hN L9 F9 c9 s9 hI9 hF9 hc9 hs9 H9 l9 ls d hd hW hl
      have ei : i = 2 := by omega
      rw [ei] at hd
      rw [hd] at hl
      refine lv_iload_n S.1 S.2.1 dX6_digest_175 rfl (lv_at hl 0 rfl) ?_
      refine lv_iconst (v := 2) S.1 S.2.1 dX6_digest_176 (by decide) ?_
      refine lv_icmp_ge (tgt := 239) S.1 S.2.1 dX6_digest_177 (by decide) (fun _ => kont _ _ _ _ hI9 hF9 (by omega) hs9 _ _ _ hW (lv_sub hl [1, 2] rfl)) (fun c1 => absurd (nI_le (b := i) (a := 2) (by omega) (by omega)) c1)
    | succ N ih =>
      intro i hN L9 F9 c9 s9 hI9 hF9 hc9 hs9 H9 l9 ls d hd hW hl
      refine lv_iload_n S.1 S.2.1 dX6_digest_175 rfl (lv_at hl 0 rfl) ?_
      refine lv_iconst (v := 2) S.1 S.2.1 dX6_digest_176 (by decide) ?_
      refine lv_icmp_ge (tgt := 239) S.1 S.2.1 dX6_digest_177 (by decide) (fun c1 => absurd c1 (nI_ge (a := i) (b := 2) (by omega) (by omega))) (fun _ => ?_)
      have hw2 : i < 2 := by omega
      have hv := hD.2.2.2.2.1 i 0 hw2 (by decide)
      refine lv_lload_n S.1 S.2.1 dX6_digest_180 rfl (lv_at hl 1 rfl) ?_
      refine lv_aload_n S.1 S.2.1 dX6_digest_181 rfl (lv_at hl 2 rfl) ?_
      refine lv_iload_n S.1 S.2.1 dX6_digest_182 rfl (lv_at hl 0 rfl) ?_
      refine lv_iconst (v := 0) S.1 S.2.1 dX6_digest_183 (by decide) ?_
      refine pk_cVI (As := [.int (nI i), .int 0]) (rest := [.long d]) S hK hST hW (c_X6_whereNow hI9 (nI i) (nI 0) hv) mc_X6_whereNow wd_1501 wd_1503 wd_1722 rfl np_X6_whereNow (hI9.mem (by decide)) hI9.this rfl rfl hl.1 rfl (Nat.le_of_ble_eq_true rfl) dX6_digest_184 ⟨Nat.le_of_ble_eq_true rfl, Nat.le_of_ble_eq_true rfl⟩ ⟨by show c9 + 1 ≤ 160; omega, by show s9 + 33 ≤ 5280; omega⟩ (fun r9 L8 F8 H8 l8 hp hW => ?_)
      obtain ⟨rfl, hI8, hF8⟩ := hp
      have hF9 := hF9.tr hF8
      have hI9 := hI8
      refine lv_i2l (v := Int32.toInt64 ((wh i 0))) S.1 S.2.1 dX6_digest_187 rfl ?_
      refine pk_cSJ (As := [.long d, .long (Int32.toInt64 ((wh i 0)))]) (rest := []) S hK hST hW (c_X6_add (d) ((Int32.toInt64 ((wh i 0)))) rfl) mc_X6_add wd_1647 wd_1648 np_X6_add rfl hl.1 rfl (Nat.le_of_ble_eq_true rfl) dX6_digest_188 ⟨Nat.le_of_ble_eq_true rfl, Nat.le_of_ble_eq_true rfl⟩ ⟨by show c9 + 1 + 0 ≤ 160; omega, by show s9 + 33 + 0 ≤ 5280; omega⟩ (fun q9 L7 F7 H7 l7 hp hW => ?_)
      obtain ⟨rfl, rfl, rfl⟩ := hp
      rw [Nat.add_zero, Nat.add_zero]
      refine lv_lstore_n (lv' := [(1, .long ((d) * 31 + ((Int32.toInt64 ((wh i 0)))))), (3, .int (nI i)), (0, .ref (B 0))]) S.1 S.2.1 dX6_digest_191 rfl hl (Nat.le_of_ble_eq_true rfl) rfl (fun ls hl => ?_)
      refine lv_iconst (v := 1) S.1 S.2.1 dX6_digest_192 (by decide) ?_
      refine lv_istore (lv' := [(4, .int 1), (1, .long ((d) * 31 + ((Int32.toInt64 ((wh i 0)))))), (3, .int (nI i)), (0, .ref (B 0))]) S.1 S.2.1 dX6_digest_193 hl (Nat.le_of_ble_eq_true rfl) rfl (fun ls hl => ?_)
      refine B195 (c9 + 5) (by omega) ((d) * 31 + ((Int32.toInt64 ((wh i 0))))) i hw2 ?_ 4 1 rfl _ _ _ _ hI9 hF9 (by omega) (by omega) _ _ _ ((d) * 31 + ((Int32.toInt64 ((wh i 0))))) (by split <;> rfl) (by decide) hW (lv_sub hl [0, 1, 3, 2] rfl)
      intro L9 F9 c8 s9 hI9 hF9 hc8 hs9 H9 l9 ls hW hl
      generalize ed1 : (if τ1.2 (5 + 3 * i) = 1 then dgS (fun k => wh i (k + 1)) ((d) * 31 + ((Int32.toInt64 ((wh i 0))))) 4 else ((d) * 31 + ((Int32.toInt64 ((wh i 0)))))) = d1 at hl
      refine lv_iinc (lv' := [(3, .int (nI (i + 1))), (1, .long d1), (0, .ref (B 0))]) S.1 S.2.1 dX6_digest_233 hl (k := 2) rfl (nI_1 i) (by decide) rfl (fun ls hl => ?_)
      refine lv_goto (tgt := 175) S.1 S.2.1 dX6_digest_236 (by decide) ?_
      exact ih (i + 1) (by omega) _ _ _ _ hI9 hF9 (by omega) (by omega) _ _ _ d1 (by rw [← ed1, hd]; rfl) hW (lv_sub hl [0, 1, 2] rfl)
  have B241 : ∀ (M : Nat), M ≤ 160 → ∀ (d0 : Int64),  (∀ (L9 : List Nat) (F9 : Nat → va_E) (c9 s9 : Nat), MI κ ζ B τ1 L9 F9 → FrM L F L9 F9 → c9 ≤ M → s9 ≤ 33 * c9 → ∀ (H9 : Heap) (l9 : List Loc) (ls : Array Slot), HW D cls L s H9 l9 L9 F9 → lv_has ls 5 [(1, .long (dgS ya d0 8)), (0, .ref (B 0))] → W p l e (Rm 11 160 5280) s m ([.ref (B 0)] : List Value).toArray below meth c H9 l9 c9 s9 (EnJ D cls s below ([.ref (B 0)] : List Value).toArray 160 5280 L (fun r L' F' => r = dgA tt ak ne fo wh (fun w => τ1.2 (5 + 3 * w)) ya co τ1.1 (ub (unR (svN (τ1.1 2)) (τ1.1 2).length τ1.1)) ∧ MI κ ζ B τ1 L' F' ∧ FrM L F L' F')) (F0 m 264 ls [])) → ∀ (N i : Nat), N + i = 8 → ∀ (L9 : List Nat) (F9 : Nat → va_E) (c9 s9 : Nat), MI κ ζ B τ1 L9 F9 → FrM L F L9 F9 → c9 + 0 * N ≤ M → s9 ≤ 33 * c9 → ∀ (H9 : Heap) (l9 : List Loc) (ls : Array Slot) (d : Int64), d = dgS ya d0 i → HW D cls L s H9 l9 L9 F9 → lv_has ls 5 [(3, .int (nI i)), (1, .long d), (0, .ref (B 0))] → W p l e (Rm 11 160 5280) s m ([.ref (B 0)] : List Value).toArray below meth c H9 l9 c9 s9 (EnJ D cls s below ([.ref (B 0)] : List Value).toArray 160 5280 L (fun r L' F' => r = dgA tt ak ne fo wh (fun w => τ1.2 (5 + 3 * w)) ya co τ1.1 (ub (unR (svN (τ1.1 2)) (τ1.1 2).length τ1.1)) ∧ MI κ ζ B τ1 L' F' ∧ FrM L F L' F')) (F0 m 241 ls []) := by
    intro M hM d0  kont N
    induction N with
    | zero =>
      intro i hN L9 F9 c9 s9 hI9 hF9 hc9 hs9 H9 l9 ls d hd hW hl
      have ei : i = 8 := by omega
      rw [ei] at hd
      rw [hd] at hl
      refine lv_iload_n S.1 S.2.1 dX6_digest_241 rfl (lv_at hl 0 rfl) ?_
      refine lv_bipush (v := 8) S.1 S.2.1 dX6_digest_242 (by decide) ?_
      refine lv_icmp_ge (tgt := 264) S.1 S.2.1 dX6_digest_244 (by decide) (fun _ => kont _ _ _ _ hI9 hF9 (by omega) hs9 _ _ _ hW (lv_sub hl [1, 2] rfl)) (fun c1 => absurd (nI_le (b := i) (a := 8) (by omega) (by omega)) c1)
    | succ N ih =>
      intro i hN L9 F9 c9 s9 hI9 hF9 hc9 hs9 H9 l9 ls d hd hW hl
      refine lv_iload_n S.1 S.2.1 dX6_digest_241 rfl (lv_at hl 0 rfl) ?_
      refine lv_bipush (v := 8) S.1 S.2.1 dX6_digest_242 (by decide) ?_
      refine lv_icmp_ge (tgt := 264) S.1 S.2.1 dX6_digest_244 (by decide) (fun c1 => absurd c1 (nI_ge (a := i) (b := 8) (by omega) (by omega))) (fun _ => ?_)
      have hv := hD.2.2.2.2.2.1 i (by omega)
      refine lv_lload_n S.1 S.2.1 dX6_digest_247 rfl (lv_at hl 1 rfl) ?_
      refine lv_aload_n S.1 S.2.1 dX6_digest_248 rfl (lv_at hl 2 rfl) ?_
      refine lv_iload_n S.1 S.2.1 dX6_digest_249 rfl (lv_at hl 0 rfl) ?_
      refine pk_cVI (As := [.int (nI i)]) (rest := [.long d]) S hK hST hW (c_X6_yardTold hI9 (nI i) hv) mc_X6_yardTold wd_1585 wd_1587 wd_1729 rfl np_X6_yardTold (hI9.mem (by decide)) hI9.this rfl rfl hl.1 rfl (Nat.le_of_ble_eq_true rfl) dX6_digest_250 ⟨Nat.le_of_ble_eq_true rfl, Nat.le_of_ble_eq_true rfl⟩ ⟨by show c9 + 0 ≤ 160; omega, by show s9 + 0 ≤ 5280; omega⟩ (fun r9 L8 F8 H8 l8 hp hW => ?_)
      obtain ⟨rfl, rfl, rfl⟩ := hp
      rw [Nat.add_zero, Nat.add_zero]
      refine lv_i2l (v := Int32.toInt64 ((ya i))) S.1 S.2.1 dX6_digest_253 rfl ?_
      refine pk_cSJ (As := [.long d, .long (Int32.toInt64 ((ya i)))]) (rest := []) S hK hST hW (c_X6_add (d) ((Int32.toInt64 ((ya i)))) rfl) mc_X6_add wd_1647 wd_1648 np_X6_add rfl hl.1 rfl (Nat.le_of_ble_eq_true rfl) dX6_digest_254 ⟨Nat.le_of_ble_eq_true rfl, Nat.le_of_ble_eq_true rfl⟩ ⟨by show c9 + 0 ≤ 160; omega, by show s9 + 0 ≤ 5280; omega⟩ (fun q10 L7 F7 H7 l7 hp hW => ?_)
      obtain ⟨rfl, rfl, rfl⟩ := hp
      rw [Nat.add_zero, Nat.add_zero]
      refine lv_lstore_n (lv' := [(1, .long ((d) * 31 + ((Int32.toInt64 ((ya i)))))), (3, .int (nI i)), (0, .ref (B 0))]) S.1 S.2.1 dX6_digest_257 rfl hl (Nat.le_of_ble_eq_true rfl) rfl (fun ls hl => ?_)
      refine lv_iinc (lv' := [(3, .int (nI (i + 1))), (1, .long ((d) * 31 + ((Int32.toInt64 ((ya i)))))), (0, .ref (B 0))]) S.1 S.2.1 dX6_digest_258 hl (k := 1) rfl (nI_1 i) (by decide) rfl (fun ls hl => ?_)
      refine lv_goto (tgt := 241) S.1 S.2.1 dX6_digest_261 (by decide) ?_
      exact ih (i + 1) (by omega) _ _ _ _ hI9 hF9 (by omega) (by omega) _ _ _ ((d) * 31 + ((Int32.toInt64 ((ya i))))) (by rw [hd]; rfl) hW (lv_sub hl [0, 1, 2] rfl)
  have B274 : ∀ (M : Nat), M ≤ 160 → ∀ (d0 : Int64), (∀ (L9 : List Nat) (F9 : Nat → va_E) (c9 s9 : Nat), MI κ ζ B τ1 L9 F9 → FrM L F L9 F9 → c9 ≤ M → s9 ≤ 33 * c9 → ∀ (H9 : Heap) (l9 : List Loc) (ls : Array Slot), HW D cls L s H9 l9 L9 F9 → lv_has ls 5 [(1, .long (dgD (τ1.1 2) d0 (τ1.1 2).length)), (0, .ref (B 0))] → W p l e (Rm 11 160 5280) s m ([.ref (B 0)] : List Value).toArray below meth c H9 l9 c9 s9 (EnJ D cls s below ([.ref (B 0)] : List Value).toArray 160 5280 L (fun r L' F' => r = dgA tt ak ne fo wh (fun w => τ1.2 (5 + 3 * w)) ya co τ1.1 (ub (unR (svN (τ1.1 2)) (τ1.1 2).length τ1.1)) ∧ MI κ ζ B τ1 L' F' ∧ FrM L F L' F')) (F0 m 304 ls [])) → ∀ (r : Nat), r ≤ (τ1.1 2).length → ∀ (L9 : List Nat) (F9 : Nat → va_E) (c9 s9 : Nat), MI κ ζ B τ1 L9 F9 → FrM L F L9 F9 → c9 ≤ M → s9 ≤ 33 * c9 → ∀ (H9 : Heap) (l9 : List Loc) (ls : Array Slot) (d : Int64), d = dgD (τ1.1 2) d0 ((τ1.1 2).length - r) → HW D cls L s H9 l9 L9 F9 → lv_has ls 5 [(3, .int (dn r)), (1, .long d), (0, .ref (B 0))] → W p l e (Rm 11 160 5280) s m ([.ref (B 0)] : List Value).toArray below meth c H9 l9 c9 s9 (EnJ D cls s below ([.ref (B 0)] : List Value).toArray 160 5280 L (fun r L' F' => r = dgA tt ak ne fo wh (fun w => τ1.2 (5 + 3 * w)) ya co τ1.1 (ub (unR (svN (τ1.1 2)) (τ1.1 2).length τ1.1)) ∧ MI κ ζ B τ1 L' F' ∧ FrM L F L' F')) (F0 m 274 ls []) := by
    intro M hM d0 kont r
    induction r with
    | zero =>
      intro hr9 L9 F9 c9 s9 hI9 hF9 hc9 hs9 H9 l9 ls d hd hW hl
      rw [Nat.sub_zero] at hd
      rw [hd] at hl
      refine lv_iload_n S.1 S.2.1 dX6_digest_274 rfl (lv_at hl 0 rfl) ?_
      refine lv_if_lt (tgt := 304) S.1 S.2.1 dX6_digest_275 (by decide) (fun _ => kont _ _ _ _ hI9 hF9 hc9 hs9 _ _ _ hW (lv_sub hl [1, 2] rfl)) (fun c1 => absurd dn_0 c1)
    | succ r ih =>
      intro hr9 L9 F9 c9 s9 hI9 hF9 hc9 hs9 H9 l9 ls d hd hW hl
      rw [dn_s] at hl
      obtain ⟨ar2, hL2⟩ := hI9.li (j := 2) (by decide)
      have hget : lget (τ1.1 2) (nI r) = some ((τ1.1 2).getD r 0) := lget_in (by omega) (by omega)
      refine lv_iload_n S.1 S.2.1 dX6_digest_274 rfl (lv_at hl 0 rfl) ?_
      refine lv_if_lt (tgt := 304) S.1 S.2.1 dX6_digest_275 (by decide) (fun c1 => absurd c1 (nI_pos (by omega))) (fun _ => ?_)
      refine lv_lload_n S.1 S.2.1 dX6_digest_278 rfl (lv_at hl 1 rfl) ?_
      refine lv_aload_n S.1 S.2.1 dX6_digest_279 rfl (lv_at hl 2 rfl) ?_
      refine pk_get S hK hW 2 (hI9.mem (by decide)) hI9.this rfl hinX6 (by decide) wd_1157 rfl dX6_digest_280 ?_
      refine lv_iload_n S.1 S.2.1 dX6_digest_283 rfl (lv_at hl 0 rfl) ?_
      refine pk_cVR (As := [.int (nI r)]) (rest := [.long d]) S hK hST hW (c_mget hL2 hget) mc_Jx4a65c_get_915e3 wd_1203 wd_1204 wd_1205 rfl np_Jx4a65c_get_915e3 hL2.obj.1 hL2.obj.2.choose_spec rfl rfl hl.1 rfl (Nat.le_of_ble_eq_true rfl) dX6_digest_284 ⟨Nat.le_of_ble_eq_true rfl, Nat.le_of_ble_eq_true rfl⟩ ⟨by show c9 + 0 ≤ 160; omega, by show s9 + 0 ≤ 5280; omega⟩ (fun y8 L8 F8 H8 l8 hp hW => ?_)
      obtain ⟨rfl, rfl, hby⟩ := hp
      rw [Nat.add_zero, Nat.add_zero]
      refine va_castS S.1 S.2.1 S.2.2.2.1 (S.2.2.2.2 _ wd_1303) (hK.1 2 _ rfl).2 (bx_cell hK hW hST hby) dX6_digest_287 ?_
      refine pk_cVIr (As := []) (rest := [.long d]) S hK hST hW (c_J6_intValue_8abf5 hby) mc_J6_intValue_8abf5 wd_1304 wd_1305 wd_1306 rfl np_J6_intValue_8abf5 (bx_cell hK hW hST hby) rfl hl.1 rfl (Nat.le_of_ble_eq_true rfl) dX6_digest_290 ⟨Nat.le_of_ble_eq_true rfl, Nat.le_of_ble_eq_true rfl⟩ ⟨by show c9 + 0 ≤ 160; omega, by show s9 + 0 ≤ 5280; omega⟩ (fun r L7 F7 H7 l7 hp hW => ?_)
      obtain ⟨rfl, rfl, rfl⟩ := hp
      rw [Nat.add_zero, Nat.add_zero]
      refine lv_i2l (v := Int32.toInt64 (((τ1.1 2).getD r 0))) S.1 S.2.1 dX6_digest_293 rfl ?_
      refine pk_cSJ (As := [.long d, .long (Int32.toInt64 (((τ1.1 2).getD r 0)))]) (rest := []) S hK hST hW (c_X6_add (d) ((Int32.toInt64 (((τ1.1 2).getD r 0)))) rfl) mc_X6_add wd_1647 wd_1648 np_X6_add rfl hl.1 rfl (Nat.le_of_ble_eq_true rfl) dX6_digest_294 ⟨Nat.le_of_ble_eq_true rfl, Nat.le_of_ble_eq_true rfl⟩ ⟨by show c9 + 0 ≤ 160; omega, by show s9 + 0 ≤ 5280; omega⟩ (fun q11 L7 F7 H7 l7 hp hW => ?_)
      obtain ⟨rfl, rfl, rfl⟩ := hp
      rw [Nat.add_zero, Nat.add_zero]
      refine lv_lstore_n (lv' := [(1, .long ((d) * 31 + ((Int32.toInt64 (((τ1.1 2).getD r 0)))))), (3, .int (nI r)), (0, .ref (B 0))]) S.1 S.2.1 dX6_digest_297 rfl hl (Nat.le_of_ble_eq_true rfl) rfl (fun ls hl => ?_)
      refine lv_iinc (lv' := [(3, .int (dn r)), (1, .long ((d) * 31 + ((Int32.toInt64 (((τ1.1 2).getD r 0)))))), (0, .ref (B 0))]) S.1 S.2.1 dX6_digest_298 hl (k := 1) rfl (dn_m r) (by decide) rfl (fun ls hl => ?_)
      refine lv_goto (tgt := 274) S.1 S.2.1 dX6_digest_301 (by decide) ?_
      exact ih (by omega) _ _ _ _ hI9 hF9 hc9 hs9 _ _ _ _ (by rw [hd, show (τ1.1 2).length - r = (τ1.1 2).length - (r + 1) + 1 by omega]; show _ = dgD (τ1.1 2) d0 ((τ1.1 2).length - (r + 1)) * 31 + Int32.toInt64 ((τ1.1 2).getD ((τ1.1 2).length - 1 - ((τ1.1 2).length - (r + 1))) 0); rw [show (τ1.1 2).length - 1 - ((τ1.1 2).length - (r + 1)) = r by omega]) hW (lv_sub hl [0, 1, 2] rfl)
  have B312 : ∀ (d0 : Int64) (L9 : List Nat) (t : Nat) (md : Int32) (c9 s9 : Nat), t ∈ L9 → t ∉ L → c9 ≤ 160 → s9 ≤ 33 * c9 → (∀ F9, MI κ ζ B τ1 L9 F9 → F9 t = F9 t) → (∀ (F9 : Nat → va_E), MI κ ζ B τ1 L9 F9 → FrM L F L9 F9 → ∀ (H9 : Heap) (l9 : List Loc) (ls : Array Slot), HW D cls L s H9 l9 L9 F9 → lv_has ls 5 [(1, .long (dgS (fun i => (τ1.1 3).getD i 0) d0 (τ1.1 3).length)), (0, .ref (B 0))] → W p l e (Rm 11 160 5280) s m ([.ref (B 0)] : List Value).toArray below meth c H9 l9 c9 s9 (EnJ D cls s below ([.ref (B 0)] : List Value).toArray 160 5280 L (fun r L' F' => r = dgA tt ak ne fo wh (fun w => τ1.2 (5 + 3 * w)) ya co τ1.1 (ub (unR (svN (τ1.1 2)) (τ1.1 2).length τ1.1)) ∧ MI κ ζ B τ1 L' F' ∧ FrM L F L' F')) (F0 m 346 ls [])) → ∀ (N i : Nat), N + i = (τ1.1 3).length → ∀ (la : Int32) (F9 : Nat → va_E) (ar : Nat), MI κ ζ B τ1 L9 F9 → FrM L F L9 F9 → LI κ ζ (B 6) ar (τ1.1 3) L9 F9 → F9 (B 6) = .inr (4, [.int md, .ref ar, .int (nI (τ1.1 3).length)]) → F9 t = .inr (3, [.int (nI i), .int la, .int md, .ref (B 6)]) → ∀ (H9 : Heap) (l9 : List Loc) (ls : Array Slot) (d : Int64), d = dgS (fun i => (τ1.1 3).getD i 0) d0 i → HW D cls L s H9 l9 L9 F9 → lv_has ls 5 [(3, .ref t), (1, .long d), (0, .ref (B 0))] → W p l e (Rm 11 160 5280) s m ([.ref (B 0)] : List Value).toArray below meth c H9 l9 c9 s9 (EnJ D cls s below ([.ref (B 0)] : List Value).toArray 160 5280 L (fun r L' F' => r = dgA tt ak ne fo wh (fun w => τ1.2 (5 + 3 * w)) ya co τ1.1 (ub (unR (svN (τ1.1 2)) (τ1.1 2).length τ1.1)) ∧ MI κ ζ B τ1 L' F' ∧ FrM L F L' F')) (F0 m 312 ls []) := by
    intro d0 L9 t md c9 s9 m_t ntL hc9 hs9 _ kont N
    induction N with
    | zero =>
      intro i hN la F9 ar hI9 hF9 hL6 e6 e_t H9 l9 ls d hd hW hl
      refine lv_aload_n S.1 S.2.1 dX6_digest_312 rfl (lv_at hl 0 rfl) ?_
      refine pk_cFI (As := []) (rest := []) S hK hST hW (c_Jx35411_hasNext_aae02 m_t e_t (hI9.mem (by decide)) e6) mc_Jx35411_hasNext_aae02 wd_1624 wd_1628 wd_1626 hST.2.fwHas (by decide) (np := 0) (by decide +kernel) m_t e_t rfl rfl hl.1 rfl (Nat.le_of_ble_eq_true rfl) dX6_digest_313 ⟨Nat.le_of_ble_eq_true rfl, Nat.le_of_ble_eq_true rfl⟩ ⟨by show c9 + 0 ≤ 160; omega, by show s9 + 0 ≤ 5280; omega⟩ (fun r L8 F8 H8 l8 hp hW => ?_)
      obtain ⟨rfl, rfl, rfl⟩ := hp
      rw [Nat.add_zero, Nat.add_zero]
      rw [if_pos (by rw [show i = (τ1.1 3).length by omega])]
      rw [hd, show i = (τ1.1 3).length by omega] at hl
      exact lv_if_eq (tgt := 346) S.1 S.2.1 dX6_digest_318 (by decide) (fun _ => kont _ hI9 hF9 _ _ _ hW (lv_sub hl [1, 2] rfl)) (fun c1 => absurd rfl c1)
    | succ N ih =>
      intro i hN la F9 ar hI9 hF9 hL6 e6 e_t H9 l9 ls d hd hW hl
      refine lv_aload_n S.1 S.2.1 dX6_digest_312 rfl (lv_at hl 0 rfl) ?_
      refine pk_cFI (As := []) (rest := []) S hK hST hW (c_Jx35411_hasNext_aae02 m_t e_t (hI9.mem (by decide)) e6) mc_Jx35411_hasNext_aae02 wd_1624 wd_1628 wd_1626 hST.2.fwHas (by decide) (np := 0) (by decide +kernel) m_t e_t rfl rfl hl.1 rfl (Nat.le_of_ble_eq_true rfl) dX6_digest_313 ⟨Nat.le_of_ble_eq_true rfl, Nat.le_of_ble_eq_true rfl⟩ ⟨by show c9 + 0 ≤ 160; omega, by show s9 + 0 ≤ 5280; omega⟩ (fun r L8 F8 H8 l8 hp hW => ?_)
      obtain ⟨rfl, rfl, rfl⟩ := hp
      rw [Nat.add_zero, Nat.add_zero]
      rw [if_neg (fun q => by have := (nI_eq (by omega) (by omega)).mp q; omega)]
      refine lv_if_eq (tgt := 346) S.1 S.2.1 dX6_digest_318 (by decide) (fun c1 => absurd c1 (by decide)) (fun _ => ?_)
      obtain ⟨md2, e62, hel⟩ := hL6.elem
      have emd : md2 = md := by rw [e6] at e62; injection e62 with q; injection q with _ q; injection q with q _; injection q with q; exact q.symm
      subst emd
      obtain ⟨n, f, y, hR, hn1, hn2, hfy, hby⟩ := hel i (by omega)
      refine lv_aload_n S.1 S.2.1 dX6_digest_321 rfl (lv_at hl 0 rfl) ?_
      refine pk_cFR (As := []) (rest := []) S hK hST hW (c_Jx35411_next_0502b m_t e_t hR (by omega) hn1 hn2 hfy) mc_Jx35411_next_0502b wd_1631 wd_1635 wd_1633 hST.2.fwNext (by decide) (np := 0) (by decide +kernel) m_t e_t rfl rfl hl.1 rfl (Nat.le_of_ble_eq_true rfl) dX6_digest_322 ⟨Nat.le_of_ble_eq_true rfl, Nat.le_of_ble_eq_true rfl⟩ ⟨by show c9 + 0 ≤ 160; omega, by show s9 + 0 ≤ 5280; omega⟩ (fun r L8 F8 H8 l8 hp hW => ?_)
      obtain ⟨rfl, rfl, e_t8, hf8⟩ := hp
      rw [Nat.add_zero, Nat.add_zero]
      have hfT : ∀ x ∈ L9, ¬ isIt (F9 x) → F8 x = F9 x := fun x hx hn => hf8 x (fun ee => hn ⟨_, ee ▸ e_t⟩)
      have hI8 := hI9.keepT (fun _ h => h) hfT (noE hW hST)
      have hF8 : FrM L F L9 F8 := ⟨hF9.1, fun x hx hm => (hf8 x (fun ee => ntL (ee ▸ hx))).trans (hF9.2 x hx hm)⟩
      have n6t : B 6 ≠ t := fun ee => by rw [ee, e_t] at e6; cases e6
      have hby8 : bx ζ L9 F8 y ((τ1.1 3).getD i 0) := by
        rcases hby with ⟨b1, b2⟩ | hb
        · exact Or.inl ⟨b1, (hf8 y (fun ee => by rw [ee, e_t] at b2; cases b2)).trans b2⟩
        · exact Or.inr hb
      have hL8 : LI κ ζ (B 6) ar (τ1.1 3) L9 F8 := by
        have hL6b := hL6
        obtain ⟨n9, f9, md9, c1, c2, c3, -⟩ := hL6
        refine hL6b.keep (fun _ h => h) (hf8 _ n6t) (fun ha => hf8 _ (fun ee => ?_)) (fun y v hb => ?_)
        · rcases c3 with ⟨_, _, c, _⟩ | ⟨a, _⟩
          · rw [ee, e_t] at c; cases c
          · exact noE hW hST (a ▸ ha)
        · rcases hb with ⟨b1, b2⟩ | hb
          · exact Or.inl ⟨b1, (hf8 y (fun ee => by rw [ee, e_t] at b2; cases b2)).trans b2⟩
          · exact Or.inr hb
      refine va_castS S.1 S.2.1 S.2.2.2.1 (S.2.2.2.2 _ wd_1303) (hK.1 2 _ rfl).2 (bx_cell hK hW hST hby8) dX6_digest_327 ?_
      refine pk_cVIr (As := []) (rest := []) S hK hST hW (c_J6_intValue_8abf5 hby8) mc_J6_intValue_8abf5 wd_1304 wd_1305 wd_1306 rfl np_J6_intValue_8abf5 (bx_cell hK hW hST hby8) rfl hl.1 rfl (Nat.le_of_ble_eq_true rfl) dX6_digest_330 ⟨Nat.le_of_ble_eq_true rfl, Nat.le_of_ble_eq_true rfl⟩ ⟨by show c9 + 0 ≤ 160; omega, by show s9 + 0 ≤ 5280; omega⟩ (fun r L7 F7 H7 l7 hp hW => ?_)
      obtain ⟨rfl, rfl, rfl⟩ := hp
      rw [Nat.add_zero, Nat.add_zero]
      refine lv_istore (lv' := [(4, .int ((τ1.1 3).getD i 0)), (3, .ref t), (1, .long d), (0, .ref (B 0))]) S.1 S.2.1 dX6_digest_333 hl (Nat.le_of_ble_eq_true rfl) rfl (fun ls hl => ?_)
      refine lv_lload_n S.1 S.2.1 dX6_digest_335 rfl (lv_at hl 2 rfl) ?_
      refine lv_iload S.1 S.2.1 dX6_digest_336 (lv_at hl 0 rfl) ?_
      refine lv_i2l (v := Int32.toInt64 (((τ1.1 3).getD i 0))) S.1 S.2.1 dX6_digest_338 rfl ?_
      refine pk_cSJ (As := [.long d, .long (Int32.toInt64 (((τ1.1 3).getD i 0)))]) (rest := []) S hK hST hW (c_X6_add (d) ((Int32.toInt64 (((τ1.1 3).getD i 0)))) rfl) mc_X6_add wd_1647 wd_1648 np_X6_add rfl hl.1 rfl (Nat.le_of_ble_eq_true rfl) dX6_digest_339 ⟨Nat.le_of_ble_eq_true rfl, Nat.le_of_ble_eq_true rfl⟩ ⟨by show c9 + 0 ≤ 160; omega, by show s9 + 0 ≤ 5280; omega⟩ (fun q12 L7 F7 H7 l7 hp hW => ?_)
      obtain ⟨rfl, rfl, rfl⟩ := hp
      rw [Nat.add_zero, Nat.add_zero]
      refine lv_lstore_n (lv' := [(1, .long ((d) * 31 + ((Int32.toInt64 (((τ1.1 3).getD i 0)))))), (4, .int ((τ1.1 3).getD i 0)), (3, .ref t), (0, .ref (B 0))]) S.1 S.2.1 dX6_digest_342 rfl hl (Nat.le_of_ble_eq_true rfl) rfl (fun ls hl => ?_)
      refine lv_goto (tgt := 312) S.1 S.2.1 dX6_digest_343 (by decide) ?_
      exact ih (i + 1) (by omega) _ _ ar hI8 hF8 hL8 ((hf8 _ n6t).trans e6) e_t8 _ _ _ _ (by rw [hd]; rfl) hW (lv_sub hl [2, 0, 3] rfl)
  have K : ∀ (c9 s9 : Nat), c9 = 0 → s9 = 0 → W p l e (Rm 11 160 5280) s m ([.ref (B 0)] : List Value).toArray below meth c s.heap [] c9 s9 (EnJ D cls s below ([.ref (B 0)] : List Value).toArray 160 5280 L (fun r L' F' => r = dgA tt ak ne fo wh (fun w => τ1.2 (5 + 3 * w)) ya co τ1.1 (ub (unR (svN (τ1.1 2)) (τ1.1 2).length τ1.1)) ∧ MI κ ζ B τ1 L' F' ∧ FrM L F L' F')) (F0 m 0 ls []) := by
    intro c9 s9 hc9 hs9
    refine lv_aload_n S.1 S.2.1 dX6_digest_0 rfl (lv_at hl 0 rfl) ?_
    refine lv_iconst (v := 0) S.1 S.2.1 dX6_digest_1 (by decide) ?_
    have hI9 := hI.setSc 0 0 (by decide) 0 rfl
    rw [← hτ1] at hI9
    have hF9 := FrM.cell (L := L) (w := ([.int (τ.2 0), .ref (B 1), .ref (B 5), .ref (B 6), .ref (B 7), .int (τ.2 1), .int (τ.2 2), .int (τ.2 3), .int (τ.2 4)] : List Value).set 0 (.int 0)) hI.this (Or.inr rfl)
    refine pk_put (v := .int 0) S hK hW 0 (hI.mem (by decide)) hI.this rfl hinX6 tyX6_ok nmX6 (by decide) wd_1155 rfl rfl rfl rfl (Nat.le_of_ble_eq_true rfl) dX6_digest_2 (fun H1 l1 hW => ?_)
    generalize va_up F (B 0) (.inr (11, ([.int (τ.2 0), .ref (B 1), .ref (B 5), .ref (B 6), .ref (B 7), .int (τ.2 1), .int (τ.2 2), .int (τ.2 3), .int (τ.2 4)] : List Value).set 0 (.int 0))) = F1 at hW hI9 hF9
    refine lv_ldc2 (v := 8317) S.1 S.2.1 S.2.2.2.1 (S.2.2.2.2 _ wd_1646) dX6_digest_5 ?_
    refine lv_lstore_n (lv' := [(1, .long 8317), (0, .ref (B 0))]) S.1 S.2.1 dX6_digest_8 rfl hl (Nat.le_of_ble_eq_true rfl) rfl (fun ls hl => ?_)
    refine lv_iconst (v := 0) S.1 S.2.1 dX6_digest_9 (by decide) ?_
    refine lv_istore_n (lv' := [(3, .int 0), (1, .long 8317), (0, .ref (B 0))]) S.1 S.2.1 dX6_digest_10 rfl hl (Nat.le_of_ble_eq_true rfl) rfl (fun ls hl => ?_)
    refine B11 36 (by omega) (8317) ?_ 2 0 rfl _ _ _ _ hI9 hF9 (by omega) (by omega) _ _ _ (8317) rfl hW (lv_sub hl [0, 1, 2] rfl)
    clear hc9 hs9
    intro L9 F9 c9 s9 hI9 hF9 hc9 hs9 H9 l9 ls hW hl
    generalize ea1 : dgT tt ak ne τ1.1 8317 2 = a1 at hl
    refine lv_iconst (v := 0) S.1 S.2.1 dX6_digest_135 (by decide) ?_
    refine lv_istore_n (lv' := [(3, .int 0), (1, .long a1), (0, .ref (B 0))]) S.1 S.2.1 dX6_digest_136 rfl hl (Nat.le_of_ble_eq_true rfl) rfl (fun ls hl => ?_)
    refine B137 36 (by omega) (a1) ?_ 10 0 rfl _ _ _ _ hI9 hF9 (by omega) (by omega) _ _ _ (a1) rfl hW (lv_sub hl [0, 1, 2] rfl)
    clear hc9 hs9
    intro L9 F9 c9 s9 hI9 hF9 hc9 hs9 H9 l9 ls hW hl
    generalize ea2 : dgP (fun k => fo k 0) (fun k => fo k 1) a1 10 = a2 at hl
    refine lv_iconst (v := 0) S.1 S.2.1 dX6_digest_173 (by decide) ?_
    refine lv_istore_n (lv' := [(3, .int 0), (1, .long a2), (0, .ref (B 0))]) S.1 S.2.1 dX6_digest_174 rfl hl (Nat.le_of_ble_eq_true rfl) rfl (fun ls hl => ?_)
    refine B175 46 (by omega) (a2) ?_ 2 0 rfl _ _ _ _ hI9 hF9 (by omega) (by omega) _ _ _ (a2) rfl hW (lv_sub hl [0, 1, 2] rfl)
    clear hc9 hs9
    intro L9 F9 c9 s9 hI9 hF9 hc9 hs9 H9 l9 ls hW hl
    generalize ea3 : dgW wh (fun w => τ1.2 (5 + 3 * w)) a2 2 = a3 at hl
    refine lv_iconst (v := 0) S.1 S.2.1 dX6_digest_239 (by decide) ?_
    refine lv_istore_n (lv' := [(3, .int 0), (1, .long a3), (0, .ref (B 0))]) S.1 S.2.1 dX6_digest_240 rfl hl (Nat.le_of_ble_eq_true rfl) rfl (fun ls hl => ?_)
    refine B241 46 (by omega) (a3) ?_ 8 0 rfl _ _ _ _ hI9 hF9 (by omega) (by omega) _ _ _ (a3) rfl hW (lv_sub hl [0, 1, 2] rfl)
    clear hc9 hs9
    intro L9 F9 c9 s9 hI9 hF9 hc9 hs9 H9 l9 ls hW hl
    generalize ea4 : dgS ya a3 8 = a4 at hl
    obtain ⟨ar2, hL2⟩ := hI9.li (j := 2) (by decide)
    refine lv_aload_n S.1 S.2.1 dX6_digest_264 rfl (lv_at hl 1 rfl) ?_
    refine pk_get S hK hW 2 (hI9.mem (by decide)) hI9.this rfl hinX6 (by decide) wd_1157 rfl dX6_digest_265 ?_
    refine pk_cVI (As := []) (rest := []) S hK hST hW (c_lsize hL2) mc_Jx4a65c_size_8abf5 wd_1215 wd_1216 wd_1217 rfl np_Jx4a65c_size_8abf5 hL2.obj.1 hL2.obj.2.choose_spec rfl rfl hl.1 rfl (Nat.le_of_ble_eq_true rfl) dX6_digest_268 ⟨Nat.le_of_ble_eq_true rfl, Nat.le_of_ble_eq_true rfl⟩ ⟨by show c9 + 0 ≤ 160; omega, by show s9 + 0 ≤ 5280; omega⟩ (fun r L8 F8 H8 l8 hp hW => ?_)
    obtain ⟨rfl, rfl, rfl⟩ := hp
    rw [Nat.add_zero, Nat.add_zero]
    refine lv_iconst (v := 1) S.1 S.2.1 dX6_digest_271 (by decide) ?_
    refine lv_isub S.1 S.2.1 dX6_digest_272 ?_
    refine lv_istore_n (lv' := [(3, .int (dn (τ1.1 2).length)), (1, .long a4), (0, .ref (B 0))]) S.1 S.2.1 dX6_digest_273 rfl hl (Nat.le_of_ble_eq_true rfl) rfl (fun ls hl => ?_)
    refine B274 46 (by omega) a4 ?_ _ (Nat.le_refl _) _ _ _ _ hI9 hF9 (by omega) (by omega) _ _ _ a4 (by rw [Nat.sub_self]; rfl) hW (lv_sub hl [0, 1, 2] rfl)
    clear hc9 hs9
    intro L9 F9 c9 s9 hI9 hF9 hc9 hs9 H9 l9 ls hW hl
    generalize ea5 : dgD (τ1.1 2) a4 (τ1.1 2).length = a5 at hl
    obtain ⟨ar3, hL3⟩ := hI9.li (j := 3) (by decide)
    obtain ⟨md, e6, -⟩ := hL3.elem
    refine lv_aload_n S.1 S.2.1 dX6_digest_304 rfl (lv_at hl 1 rfl) ?_
    refine pk_get S hK hW 3 (hI9.mem (by decide)) hI9.this rfl hinX6 (by decide) wd_1158 rfl dX6_digest_305 ?_
    refine pk_cVR (As := []) (rest := []) S hK hST hW (c_Jx4a65c_iterator_32c93 (hI9.mem (i := 6) (by decide)) e6) mc_Jx4a65c_iterator_32c93 wd_1605 wd_1606 wd_1607 rfl np_Jx4a65c_iterator_32c93 (hI9.mem (i := 6) (by decide)) e6 rfl rfl hl.1 rfl (Nat.le_of_ble_eq_true rfl) dX6_digest_308 ⟨Nat.le_of_ble_eq_true rfl, Nat.le_of_ble_eq_true rfl⟩ ⟨by show c9 + 1 ≤ 160; omega, by show s9 + 4 ≤ 5280; omega⟩ (fun t L8 F8 H8 l8 hp hW => ?_)
    obtain ⟨hs8, m_t, ntL9, e_t, hf8⟩ := hp
    refine lv_astore_n (lv' := [(3, .ref t), (1, .long a5), (0, .ref (B 0))]) S.1 S.2.1 dX6_digest_311 rfl hl (Nat.le_of_ble_eq_true rfl) rfl (fun ls hl => ?_)
    refine B312 a5 L8 t md _ _ m_t (fun ee => ntL9 (hF9.1 _ ee)) (by omega) (by omega) (fun _ _ => rfl) ?_ _ 0 (Nat.add_zero _) _ F8 ar3 (hI9.keep0 hs8 hf8 (noE hW hST)) (hF9.tr ⟨hs8, fun x hx _ => hf8 x hx⟩) (hL3.keep0 hs8 hf8) ((hf8 _ (hI9.mem (i := 6) (by decide))).trans e6) e_t _ _ _ a5 rfl hW (lv_sub hl [0, 1, 2] rfl)
    clear hI9 hF9 hL2 hL3 e6
    intro F9 hI9 hF9 H9 l9 ls hW hl
    generalize ea6 : dgS (fun i => (τ1.1 3).getD i 0) a5 (τ1.1 3).length = a6 at hl
    have hv0 := hD.2.2.2.2.2.2 0 (by decide)
    have hv1 := hD.2.2.2.2.2.2 1 (by decide)
    refine lv_lload_n S.1 S.2.1 dX6_digest_346 rfl (lv_at hl 0 rfl) ?_
    refine lv_aload_n S.1 S.2.1 dX6_digest_347 rfl (lv_at hl 1 rfl) ?_
    refine lv_iconst (v := 0) S.1 S.2.1 dX6_digest_348 (by decide) ?_
    refine pk_cVI (As := [.int 0]) (rest := [.long a6]) S hK hST hW (c_X6_compared hI9 (nI 0) hv0) mc_X6_compared wd_1545 wd_1547 wd_1726 rfl np_X6_compared (hI9.mem (by decide)) hI9.this rfl rfl hl.1 rfl (Nat.le_of_ble_eq_true rfl) dX6_digest_349 ⟨Nat.le_of_ble_eq_true rfl, Nat.le_of_ble_eq_true rfl⟩ ⟨by show c9 + 1 + 0 ≤ 160; omega, by show s9 + 4 + 0 ≤ 5280; omega⟩ (fun r L8 F8 H8 l8 hp hW => ?_)
    obtain ⟨rfl, rfl, rfl⟩ := hp
    rw [Nat.add_zero, Nat.add_zero]
    refine pk_cSI (As := [.int (co 0)]) (rest := [.long a6]) S hK hST hW (c_X6_one (co 0) (one_v (co 0))) mc_X6_one wd_1288 wd_1289 np_X6_one rfl hl.1 rfl (Nat.le_of_ble_eq_true rfl) dX6_digest_352 ⟨Nat.le_of_ble_eq_true rfl, Nat.le_of_ble_eq_true rfl⟩ ⟨by show c9 + 1 + 0 ≤ 160; omega, by show s9 + 4 + 0 ≤ 5280; omega⟩ (fun r L8 F8 H8 l8 hp hW => ?_)
    obtain ⟨rfl, rfl, rfl⟩ := hp
    rw [Nat.add_zero, Nat.add_zero]
    refine lv_i2l (v := Int32.toInt64 ((one1 (co 0)))) S.1 S.2.1 dX6_digest_355 rfl ?_
    refine pk_cSJ (As := [.long a6, .long (Int32.toInt64 ((one1 (co 0))))]) (rest := []) S hK hST hW (c_X6_add (a6) ((Int32.toInt64 ((one1 (co 0))))) rfl) mc_X6_add wd_1647 wd_1648 np_X6_add rfl hl.1 rfl (Nat.le_of_ble_eq_true rfl) dX6_digest_356 ⟨Nat.le_of_ble_eq_true rfl, Nat.le_of_ble_eq_true rfl⟩ ⟨by show c9 + 1 + 0 ≤ 160; omega, by show s9 + 4 + 0 ≤ 5280; omega⟩ (fun q13 L7 F7 H7 l7 hp hW => ?_)
    obtain ⟨rfl, rfl, rfl⟩ := hp
    rw [Nat.add_zero, Nat.add_zero]
    refine lv_aload_n S.1 S.2.1 dX6_digest_359 rfl (lv_at hl 1 rfl) ?_
    refine lv_iconst (v := 1) S.1 S.2.1 dX6_digest_360 (by decide) ?_
    refine pk_cVI (As := [.int 1]) (rest := [.long ((a6) * 31 + ((Int32.toInt64 ((one1 (co 0))))))]) S hK hST hW (c_X6_compared hI9 (nI 1) hv1) mc_X6_compared wd_1545 wd_1547 wd_1726 rfl np_X6_compared (hI9.mem (by decide)) hI9.this rfl rfl hl.1 rfl (Nat.le_of_ble_eq_true rfl) dX6_digest_361 ⟨Nat.le_of_ble_eq_true rfl, Nat.le_of_ble_eq_true rfl⟩ ⟨by show c9 + 1 + 0 ≤ 160; omega, by show s9 + 4 + 0 ≤ 5280; omega⟩ (fun r L8 F8 H8 l8 hp hW => ?_)
    obtain ⟨rfl, rfl, rfl⟩ := hp
    rw [Nat.add_zero, Nat.add_zero]
    refine pk_cSI (As := [.int (co 1)]) (rest := [.long ((a6) * 31 + ((Int32.toInt64 ((one1 (co 0))))))]) S hK hST hW (c_X6_one (co 1) (one_v (co 1))) mc_X6_one wd_1288 wd_1289 np_X6_one rfl hl.1 rfl (Nat.le_of_ble_eq_true rfl) dX6_digest_364 ⟨Nat.le_of_ble_eq_true rfl, Nat.le_of_ble_eq_true rfl⟩ ⟨by show c9 + 1 + 0 ≤ 160; omega, by show s9 + 4 + 0 ≤ 5280; omega⟩ (fun r L8 F8 H8 l8 hp hW => ?_)
    obtain ⟨rfl, rfl, rfl⟩ := hp
    rw [Nat.add_zero, Nat.add_zero]
    refine lv_i2l (v := Int32.toInt64 ((one1 (co 1)))) S.1 S.2.1 dX6_digest_367 rfl ?_
    refine pk_cSJ (As := [.long ((a6) * 31 + ((Int32.toInt64 ((one1 (co 0)))))), .long (Int32.toInt64 ((one1 (co 1))))]) (rest := []) S hK hST hW (c_X6_add (((a6) * 31 + ((Int32.toInt64 ((one1 (co 0))))))) ((Int32.toInt64 ((one1 (co 1))))) rfl) mc_X6_add wd_1647 wd_1648 np_X6_add rfl hl.1 rfl (Nat.le_of_ble_eq_true rfl) dX6_digest_368 ⟨Nat.le_of_ble_eq_true rfl, Nat.le_of_ble_eq_true rfl⟩ ⟨by show c9 + 1 + 0 ≤ 160; omega, by show s9 + 4 + 0 ≤ 5280; omega⟩ (fun q14 L7 F7 H7 l7 hp hW => ?_)
    obtain ⟨rfl, rfl, rfl⟩ := hp
    rw [Nat.add_zero, Nat.add_zero]
    refine lv_aload_n S.1 S.2.1 dX6_digest_371 rfl (lv_at hl 1 rfl) ?_
    refine pk_cVI (As := []) (rest := [.long ((((a6) * 31 + ((Int32.toInt64 ((one1 (co 0))))))) * 31 + ((Int32.toInt64 ((one1 (co 1))))))]) S hK hST hW (c_X6_isWhole hI9 hlen2 hs12 hsl hw) mc_X6_isWhole wd_1597 wd_1599 wd_1730 rfl np_X6_isWhole (hI9.mem (by decide)) hI9.this rfl rfl hl.1 rfl (Nat.le_of_ble_eq_true rfl) dX6_digest_372 ⟨Nat.le_of_ble_eq_true rfl, Nat.le_of_ble_eq_true rfl⟩ ⟨by show c9 + 1 + 112 ≤ 160; omega, by show s9 + 4 + 3696 ≤ 5280; omega⟩ (fun r9 L6 F8 H8 l8 hp hW => ?_)
    obtain ⟨hr9, hs8, hf8⟩ := hp
    have hI8 := hI9.keep0 hs8 hf8 (noE hW hST)
    have hF9 := hF9.tr ⟨hs8, fun x hx _ => hf8 x hx⟩
    have hI9 := hI8
    refine pk_cSI (As := [.int r9]) (rest := [.long ((((a6) * 31 + ((Int32.toInt64 ((one1 (co 0))))))) * 31 + ((Int32.toInt64 ((one1 (co 1))))))]) S hK hST hW (c_X6_one r9 (one_v r9)) mc_X6_one wd_1288 wd_1289 np_X6_one rfl hl.1 rfl (Nat.le_of_ble_eq_true rfl) dX6_digest_375 ⟨Nat.le_of_ble_eq_true rfl, Nat.le_of_ble_eq_true rfl⟩ ⟨by show c9 + 1 + 112 + 0 ≤ 160; omega, by show s9 + 4 + 3696 + 0 ≤ 5280; omega⟩ (fun r L8 F8 H8 l8 hp hW => ?_)
    obtain ⟨rfl, rfl, rfl⟩ := hp
    rw [Nat.add_zero, Nat.add_zero]
    refine lv_i2l (v := Int32.toInt64 ((one1 r9))) S.1 S.2.1 dX6_digest_378 rfl ?_
    refine pk_cSJ (As := [.long ((((a6) * 31 + ((Int32.toInt64 ((one1 (co 0))))))) * 31 + ((Int32.toInt64 ((one1 (co 1)))))), .long (Int32.toInt64 ((one1 r9)))]) (rest := []) S hK hST hW (c_X6_add (((((a6) * 31 + ((Int32.toInt64 ((one1 (co 0))))))) * 31 + ((Int32.toInt64 ((one1 (co 1))))))) ((Int32.toInt64 ((one1 r9)))) rfl) mc_X6_add wd_1647 wd_1648 np_X6_add rfl hl.1 rfl (Nat.le_of_ble_eq_true rfl) dX6_digest_379 ⟨Nat.le_of_ble_eq_true rfl, Nat.le_of_ble_eq_true rfl⟩ ⟨by show c9 + 1 + 112 + 0 ≤ 160; omega, by show s9 + 4 + 3696 + 0 ≤ 5280; omega⟩ (fun q15 L7 F7 H7 l7 hp hW => ?_)
    obtain ⟨rfl, rfl, rfl⟩ := hp
    rw [Nat.add_zero, Nat.add_zero]
    exact pk_lret S hr hlk hW ⟨by rw [hr9, one_ub, ← ea6, ← ea5, ← ea4, ← ea3, ← ea2, ← ea1]; rfl, hI9, hF9⟩ (by omega) (by omega) dX6_digest_382
  exact K 0 0 rfl rfl
