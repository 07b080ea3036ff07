/-! level 3: the digest, on the class's side -/
section L4B
variable {σ : CS} {τ : MS}
def dsum : List Int32 → Nat
  | [] => 0
  | v :: r => (if v / 100 = 0 then 1 else 3) + dsum r
theorem dsum_c {v : Int32} {r : List Int32} : dsum (v :: r) = (if v / 100 = 0 then 1 else 3) + dsum r := rfl
theorem dsum_app (b : List Int32) : ∀ a : List Int32, dsum (a ++ b) = dsum a + dsum b := by
  intro a
  induction a with
  | nil => exact (Nat.zero_add _).symm
  | cons v r ih => rw [List.cons_append, dsum_c, dsum_c, ih]; omega
theorem dsum_le : ∀ a : List Int32, dsum a ≤ 3 * a.length := by
  intro a
  induction a with
  | nil => exact Nat.le_refl _
  | cons v r ih =>
    rw [dsum_c, List.length_cons]
    split <;> omega
theorem sdg_v {v : Int32} (h : VT v) : sdg v.toNatClampNeg = if v / 100 = 0 then 1 else 3 := by
  obtain ⟨a, ha, e⟩ := nIof (b := 999) (by omega) h.rng.1 h.rng.2
  by_cases c : v = 0
  · rw [if_pos ((vt_kind h).mpr c), c]
    rfl
  · rw [if_neg (mt (vt_kind h).mp c)]
    rcases h with q | q
    · exact absurd q c
    · rw [e, nI_c (by omega)]
      have q1 : 100 ≤ a := by
        have := q.1
        rw [e] at this
        exact (nI_lei (a := 100) (by omega) (by omega)).mp this
      unfold sdg
      rw [if_neg (by omega), if_neg (by omega)]
theorem tlG_s {xs : List Int32} {i : Nat} : tlG xs 1 (i + 1) = tlG xs 1 i + (if i = 0 then 0 else 1) + sdg ((xs.getD (xs.length - 1 - i) 0).toNatClampNeg) := rfl
theorem tlG_v {xs : List Int32} (hv : ∀ v ∈ xs, VT v) : ∀ i, i ≤ xs.length → tlG xs 1 i = (i - 1) + dsum (xs.drop (xs.length - i)) := by
  intro i
  induction i with
  | zero =>
    intro _
    rw [Nat.sub_zero, List.drop_eq_nil_of_le (Nat.le_refl _)]
    rfl
  | succ i ih =>
    intro h
    have e := drop_cons (xs := xs) (m := xs.length - 1 - i) (by omega)
    rw [show xs.length - 1 - i + 1 = xs.length - i by omega] at e
    rw [tlG_s, ih (by omega), sdg_v (hv _ (mem_getD (by omega))), show xs.length - (i + 1) = xs.length - 1 - i by omega, e, dsum_c]
    split <;> omega
theorem cl_written (h : RX σ τ) {j : Nat} (hj : j < 2) : f_X3_writtenLength σ j = some (nI (tlG (τ.1 j) 1 (τ.1 j).length)) := by
  have hr := h.row (i := j) (by omega)
  have hl := len20 h.1 hj
  have ds := dsum_le (τ.1 j)
  have et : tlG (τ.1 j) 1 (τ.1 j).length = ((τ.1 j).length - 1) + dsum (τ.1 j) := by
    rw [tlG_v (fun v hv => (h.1.2.2.2.tv hj hv).1) _ (Nat.le_refl _), Nat.sub_self, List.drop_zero]
  have key : Ok (f_X3_writtenLength σ j) fun r => r = nI (tlG (τ.1 j) 1 (τ.1 j).length) := by
    unfold f_X3_writtenLength
    refine ok_ev (rw_size hr) (ok_nme fun y hy => ?_)
    have hy : y = nI ((τ.1 j).length - 1) := by
      rw [hy]
      by_cases c : (τ.1 j).length = 0
      · rw [c]; rfl
      · rw [nI_prd (by omega) (by omega)]
        by_cases c1 : (τ.1 j).length - 1 = 0
        · rw [c1]; rfl
        · rw [if_pos (show (0 : Int32) < nI ((τ.1 j).length - 1) from (nI_lti (a := 0) (b := (τ.1 j).length - 1) (by omega) (by omega)).mpr (by omega))]
    refine up_loop (fun m t => t = (j, nI ((τ.1 j).length - 1 + dsum ((τ.1 j).take m)), nI m)) (τ.1 j).length ?_ (τ.1 j).length 0 _ (by omega) (by rw [hy]; rfl) 64 (by omega)
    rintro kk _ m hm rfl hk
    unfold f_X3_writtenLength_13
    dsimp only
    refine ok_ev (rw_size hr) (ok_if (fun c => ok_some ?_) fun c => ?_)
    · have c2 := (nI_lei (by omega) (by omega)).mp c
      rw [et, List.take_of_length_le (by omega)]
    · have c2 : m < (τ.1 j).length := Nat.lt_of_not_le (mt (nI_lei (by omega) (by omega)).mpr c)
      have dt := dsum_le ((τ.1 j).take m)
      have lt : ((τ.1 j).take m).length = m := by rw [List.length_take]; omega
      have es : dsum ((τ.1 j).take (m + 1)) = dsum ((τ.1 j).take m) + (if (τ.1 j).getD m 0 / 100 = 0 then 1 else 3) := by
        rw [take_snoc c2, dsum_app]
        rfl
      refine ok_ev (rw_read hr c2) (ok_ev (v := (τ.1 j).getD m 0 / 100) rfl ?_)
      unfold f_X3_writtenLength_38
      refine ok_if (fun q => ok_nme fun y1 h1 => ok_nme fun y2 h2 => hk _ c2 ?_) fun q => ok_nme fun y1 h1 => ok_nme fun y2 h2 => hk _ c2 ?_
      · rw [if_pos q] at es
        rw [h1, h2, nI_suc (by omega), nI_suc (by omega), es]
        rfl
      · rw [if_neg q] at es
        rw [h1, h2, nI_suc (by omega), es]
        have e3 : nI ((τ.1 j).length - 1 + dsum ((τ.1 j).take m)) + 3 = nI ((τ.1 j).length - 1 + (dsum ((τ.1 j).take m) + 3)) := by
          rw [← Nat.add_assoc]
          exact nI_sum (b := 3) (by omega)
        rw [e3]
  obtain ⟨r, e, hr⟩ := key
  rw [e, hr]
/-! the values -/
def neV (τ : MS) (t : Nat) : Int32 := ((f_X6_nestedNow τ (nI t)).map Prod.fst).getD 0
def yaV (τ : MS) (k : Nat) : Int32 := (f_X6_yardTold τ (nI k)).getD 0
def coV (τ : MS) (b : Nat) : Int32 := (f_X6_compared τ (nI b)).getD 0
def ttV (τ : MS) (t w : Nat) : Int32 := tval (τ.1 t) w
def akV (τ : MS) (t w : Nat) : Int32 := aval (τ.1 t) w
def foV (τ : MS) (k b : Nat) : Int32 := fnG (tKind (nI k)) (nI b) (τ.1 1) 0 (-1)
def whV (τ : MS) (w k : Nat) : Int32 := wval τ w k
theorem hx_of {t : Nat} (ht : t < 2) : nI t = 0 ∧ t = 0 ∨ nI t = 1 ∧ t = 1 := by
  rcases (by omega : t = 0 ∨ t = 1) with e | e <;> subst e
  · exact Or.inl ⟨rfl, rfl⟩
  · exact Or.inr ⟨rfl, rfl⟩
theorem dv_of (h : RX σ τ) (hD : DH τ) : DV τ (ttV τ) (akV τ) (neV τ) (foV τ) (whV τ) (yaV τ) (coV τ) := by
  refine ⟨fun t w ht hw => mo_told (len20 h.1 ht) (hx_of ht) hw, fun t w ht hw => mo_asked (len20 h.1 ht) (hx_of ht) hw, fun t ht => ?_, fun k b _ _ => mo_found (j := 1) rfl (len20 h.1 (by omega)) _ _, fun w k hw hk => mo_whereNow (hx_of hw) hk, fun k hk => ?_, fun b hb => ?_⟩
  · obtain ⟨v, e⟩ := hD.2.2.1 t ht
    unfold neV
    rw [e]; rfl
  · obtain ⟨v, e⟩ := hD.2.2.2.2.2.1 k hk
    unfold yaV
    rw [e]; rfl
  · obtain ⟨v, e⟩ := hD.2.2.2.2.2.2 b hb
    unfold coV
    rw [e]; rfl
theorem cl_mostV (h : RX σ τ) (hD : DH τ) {t : Nat} (ht : t < 2) : Ok (f_X3_mostOpen σ (nI t)) fun r => r.1 = neV τ t ∧ RX r.2 τ := by
  obtain ⟨v, e⟩ := hD.2.2.1 t ht
  obtain ⟨r, er, q1, q2, q3, q4⟩ := ne_most h ht (hx_of ht) _ e
  refine ⟨r, er, ?_, h.same (fun i hi => q2 i (by omega)) q3⟩
  rw [q1]
  unfold neV
  rw [e]; rfl
def trS (τ : MS) (t : Nat) (d : Int64) : Int64 := (dgS (fun i => (τ.1 t).getD i 0) (dgS (akV τ t) (dgS (ttV τ t) d 4) 6) (τ.1 t).length * 31 + Int32.toInt64 (nI (tlG (τ.1 t) 1 (τ.1 t).length))) * 31 + Int32.toInt64 (neV τ t)
theorem cl_trackV (h : RX σ τ) (hD : DH τ) {t : Nat} (ht : t < 2) (d : Int64) : Ok (f_X3_withTrack σ d (nI t)) fun r => r.1 = trS τ t d ∧ RX r.2 τ := by
  have hr := h.row (i := t) (by omega)
  have hl := len20 h.1 ht
  unfold f_X3_withTrack
  refine up_loop (fun m a => a = (nI t, dgS (ttV τ t) d m, nI m)) 4 ?_ 4 0 _ (by omega) rfl 64 (by omega)
  rintro k1 _ m hm rfl hk
  unfold f_X3_withTrack_6
  dsimp only
  refine ok_if (fun c => ?_) fun c => ?_
  · have e4 : m = 4 := by
      have := (nI_lti (a := 3) (by omega) (by omega)).mp c
      omega
    subst e4
    refine up_loop (fun m a => a = (nI t, dgS (akV τ t) (dgS (ttV τ t) d 4) m, nI m)) 6 ?_ 6 0 _ (by omega) rfl 64 (by omega)
    rintro k2 _ m hm rfl hk
    unfold f_X3_withTrack_35
    dsimp only
    refine ok_if (fun c => ?_) fun c => ?_
    · have e6 : m = 6 := by
        have := (nI_lti (a := 5) (by omega) (by omega)).mp c
        omega
      subst e6
      refine ok_ev (trackOf_ok (hx_of ht)) ?_
      refine up_loop (fun m a => a = (nI t, dgS (fun i => (τ.1 t).getD i 0) (dgS (akV τ t) (dgS (ttV τ t) d 4) 6) m, t, nI m)) (τ.1 t).length ?_ (τ.1 t).length 0 _ (by omega) rfl 64 (by omega)
      rintro k3 _ m hm rfl hk
      unfold f_X3_withTrack_71
      dsimp only
      refine ok_ev (rw_size hr) (ok_if (fun c => ?_) fun c => ?_)
      · have c2 := (nI_lei (by omega) (by omega)).mp c
        have em : m = (τ.1 t).length := by omega
        subst em
        exact ok_ev (cl_written h ht) (ok_ev rfl (ok_bind (cl_mostV h hD ht) fun z hz => ok_ev rfl (ok_some ⟨by rw [hz.1]; rfl, hz.2⟩)))
      · have c2 : m < (τ.1 t).length := Nat.lt_of_not_le (mt (nI_lei (by omega) (by omega)).mpr c)
        exact ok_ev (rw_read hr c2) (ok_ev rfl (ok_nme fun y hy => hk _ c2 (by rw [hy, nI_suc (by omega)]; rfl)))
    · have c2 : m < 6 := by
        have := mt (nI_lti (a := 5) (b := m) (by omega) (by omega)).mpr c
        omega
      exact ok_ev (cl_atEnd h ht (hx_of ht) c2) (ok_ev rfl (ok_nme fun y hy => hk _ c2 (by rw [hy, nI_suc (by omega)]; rfl)))
  · have c2 : m < 4 := by
      have := mt (nI_lti (a := 3) (b := m) (by omega) (by omega)).mpr c
      omega
    exact ok_ev (cl_factTrack h ht (hx_of ht) c2) (ok_ev rfl (ok_nme fun y hy => hk _ c2 (by rw [hy, nI_suc (by omega)]; rfl)))
def wkS (τ : MS) (w : Nat) (d : Int64) : Int64 := if τ.2 (5 + 3 * w) = 1 then dgS (fun i => whV τ w (i + 1)) (d * 31 + Int32.toInt64 (whV τ w 0)) 4 else d * 31 + Int32.toInt64 (whV τ w 0)
theorem cl_walkerV (h : RX σ τ) {j : Nat} (hj : j < 2) (d : Int64) : f_X3_withWalker σ d (nI j) = some (wkS τ j d) := by
  have e5 : σ.2 (5 + 3 * j) = τ.2 (5 + 3 * j) := h.1.2.1 _ (by omega) (by omega)
  have key : Ok (f_X3_withWalker σ d (nI j)) fun r => r = wkS τ j d := by
    unfold f_X3_withWalker wkS
    refine ok_ev (cl_ofWalker h hj (hx_of hj) (w := 0) (by omega)) (ok_ev rfl (ok_ev (walkerOf_ok (hx_of hj)) ?_))
    unfold f_X2_isFresh f_X3_withWalker_52
    show Ok ((if σ.2 (5 + 3 * j + 0) = 1 then some 1 else some 0).bind _) _
    rw [show 5 + 3 * j + 0 = 5 + 3 * j from rfl, e5]
    by_cases c : τ.2 (5 + 3 * j) = 1
    · rw [if_pos c, if_pos c, bsm]
      refine ok_f ne10 ?_
      refine up_loop (fun m a => a = (nI j, dgS (fun i => whV τ j (i + 1)) (d * 31 + Int32.toInt64 (whV τ j 0)) m, nI (m + 1))) 4 ?_ 4 0 _ (by omega) rfl 64 (by omega)
      rintro k1 _ m hm rfl hk
      unfold f_X3_withWalker_26 f_X3_withWalker_52
      dsimp only
      refine ok_if (fun q => ?_) fun q => ?_
      · have e4 : m = 4 := by
          have := (nI_lti (a := 4) (by omega) (by omega)).mp q
          omega
        subst e4
        exact ok_some rfl
      · have c2 : m < 4 := by
          have := mt (nI_lti (a := 4) (b := m + 1) (by omega) (by omega)).mpr q
          omega
        exact ok_ev (cl_ofWalker h hj (hx_of hj) (w := m + 1) (by omega)) (ok_ev rfl (ok_nme fun y hy => hk _ c2 (by rw [hy, nI_suc (by omega)]; rfl)))
    · rw [if_neg c, if_neg c, bsm]
      exact ok_t rfl (ok_some rfl)
  obtain ⟨r, e, hr⟩ := key
  rw [e, hr]
theorem cl_yardV (h : RX σ τ) (hD : DH τ) {k : Nat} (hk : k < 8) : f_X3_factOfYard σ (nI k) = some (yaV τ k) := by
  obtain ⟨v, e⟩ := hD.2.2.2.2.2.1 k hk
  obtain ⟨r, er, q⟩ := ri_told h (nI k) v e
  rw [er, q]
  unfold yaV
  rw [e]; rfl
theorem al_among : Al (f_X3_isSidingAmongLine σ) fun r => r = 0 ∨ r = 1 := by
  unfold f_X3_isSidingAmongLine
  refine al_lpn (fun _ => True) (fun kk a _ hk => ?_) 64 _ trivial
  unfold f_X3_isSidingAmongLine_2
  exact al_bind al_any fun z _ => al_if (fun _ => al_some (Or.inr rfl)) fun _ => al_bind al_any fun z _ => al_bind al_any fun z _ => al_if (fun _ => al_some (Or.inl rfl)) fun _ => al_nme fun y _ => hk _ trivial
theorem al_along : Al (f_X3_isSameAllAlong σ) fun r => r = 0 ∨ r = 1 := by
  unfold f_X3_isSameAllAlong
  refine al_bind al_any fun z _ => al_bind al_any fun z _ => al_if (fun _ => ?_) fun _ => al_some (Or.inl rfl)
  refine al_lpn (fun _ => True) (fun kk a _ hk => ?_) 64 _ trivial
  unfold f_X3_isSameAllAlong_21
  exact al_bind al_any fun z _ => al_if (fun _ => al_some (Or.inr rfl)) fun _ => al_bind al_any fun z _ => al_bind al_any fun z _ => al_bind al_any fun z _ => al_bind al_any fun z _ => al_if (fun _ => al_nme fun y _ => hk _ trivial) fun _ => al_some (Or.inl rfl)
theorem cl_cmpV (h : RX σ τ) (hD : DH τ) {b : Nat} (hb : b < 2) : f_X3_compare σ (nI b) = some (coV τ b) := by
  obtain ⟨v, e⟩ := hD.2.2.2.2.2.2 b hb
  have ev : coV τ b = v := by
    unfold coV
    rw [e]; rfl
  rw [ev]
  unfold f_X3_compare
  rcases (by omega : b = 0 ∨ b = 1) with c | c <;> subst c
  · obtain ⟨r, er, q⟩ := ri_cmp0 h v e
    subst q
    rw [if_pos (show nI 0 = (0 : Int32) from rfl), er, bsm, if_pos (al_among r er)]
  · obtain ⟨r, er, q⟩ := ri_cmp1 h (x := nI 1) ne10 v e
    subst q
    rw [if_neg (show ¬ nI 1 = (0 : Int32) from ne10), er, bsm, if_pos (al_along r er)]
theorem cl_d133 (h : RX σ τ) (hw : WK τ) (hD : DH τ) (hs : ∀ j, j < (τ.1 2).length → ∃ v, v < 8000 ∧ (τ.1 2).getD j 0 = nI v) (d : Int64) : Ok (lpn f_X3_digest_133 64 (σ, d, 0)) fun r => r.1 = ((dgS (fun i => (τ.1 3).getD i 0) d (τ.1 3).length * 31 + Int32.toInt64 (one1 (coV τ 0))) * 31 + Int32.toInt64 (one1 (coV τ 1))) * 31 + Int32.toInt64 (ub (unR (svN (τ.1 2)) (τ.1 2).length τ.1)) := by
  have hr3 := h.row (i := 3) (by omega)
  have l3 := hr3.len
  refine up_loop (fun m a => a = (σ, dgS (fun i => (τ.1 3).getD i 0) d m, nI m)) (τ.1 3).length ?_ (τ.1 3).length 0 _ (by omega) rfl 64 (by omega)
  rintro kk _ m hm rfl hk
  unfold f_X3_digest_133
  dsimp only
  refine ok_ev (rw_size hr3) (ok_if (fun c => ?_) fun c => ?_)
  · have c2 := (nI_lei (by omega) (by omega)).mp c
    have em : m = (τ.1 3).length := by omega
    subst em
    have e1 : ∀ v : Int32, f_X3_oneIf v = some (one1 v) := fun v => by
      unfold f_X3_oneIf one1
      split <;> rfl
    refine ok_ev (cl_cmpV h hD (b := 0) (by omega)) (ok_ev (e1 _) (ok_ev rfl (ok_ev (cl_cmpV h hD (b := 1) (by omega)) (ok_ev (e1 _) (ok_ev rfl (ok_bind (cl_sound h hw hs) fun z hz => ok_ev (e1 _) (ok_ev rfl (ok_some ?_))))))))
    show _ * 31 + Int32.toInt64 (one1 z.1) = _
    rw [hz, one_ub]
  · have c2 : m < (τ.1 3).length := Nat.lt_of_not_le (mt (nI_lei (by omega) (by omega)).mpr c)
    exact ok_ev (rw_read hr3 c2) (ok_ev rfl (ok_nme fun y hy => hk _ c2 (by rw [hy, nI_suc (by omega)]; rfl)))
theorem cl_d108 {P : Int64 × CS → Prop} (h : RX σ τ) (d : Int64) (fin : Ok (lpn f_X3_digest_133 64 (σ, dgD (τ.1 2) d (τ.1 2).length, 0)) P) : Ok (lpn f_X3_digest_108 64 (σ, d, nI (τ.1 2).length - 1)) P := by
  have hr2 := h.row (i := 2) (by omega)
  have l2 := hr2.len
  refine up_loop (fun m a => a = (σ, dgD (τ.1 2) d m, nI ((τ.1 2).length - m) - 1)) (τ.1 2).length ?_ (τ.1 2).length 0 _ (by omega) rfl 64 (by omega)
  rintro kk _ m hm rfl hk
  unfold f_X3_digest_108
  dsimp only
  by_cases e : (τ.1 2).length - m = 0
  · have em : m = (τ.1 2).length := by omega
    subst em
    exact ok_t (by rw [e]; decide) fin
  · obtain ⟨p, hp⟩ : ∃ p, (τ.1 2).length - m = p + 1 := ⟨(τ.1 2).length - m - 1, by omega⟩
    rw [hp, nI_dec (by omega)]
    refine ok_f (nI_nn (by omega)) (ok_ev (rw_read hr2 (j := p) (by omega)) (ok_ev rfl (ok_nme fun y hy => hk _ (by omega) ?_)))
    rw [hy, am1, show (τ.1 2).length - (m + 1) = p by omega]
    show (σ, dgD (τ.1 2) d m * 31 + Int32.toInt64 ((τ.1 2).getD p 0), nI p - 1) = (σ, dgD (τ.1 2) d m * 31 + Int32.toInt64 ((τ.1 2).getD ((τ.1 2).length - 1 - m) 0), nI p - 1)
    rw [show (τ.1 2).length - 1 - m = p by omega]
theorem cl_d76 {P : Int64 × CS → Prop} (h : RX σ τ) (hD : DH τ) (d : Int64) (fin : Ok (lpn f_X3_digest_108 64 (σ, dgS (yaV τ) d 8, nI (τ.1 2).length - 1)) P) : Ok (lpn f_X3_digest_76 64 (σ, d, 0)) P := by
  have hr2 := h.row (i := 2) (by omega)
  refine up_loop (fun m a => a = (σ, dgS (yaV τ) d m, nI m)) 8 ?_ 8 0 _ (by omega) rfl 64 (by omega)
  rintro kk _ m hm rfl hk
  unfold f_X3_digest_76
  dsimp only
  refine ok_if (fun c => ?_) fun c => ?_
  · have em : m = 8 := by
      have := (nI_lti (a := 7) (by omega) (by omega)).mp c
      omega
    subst em
    exact ok_ev (rw_size hr2) (ok_nme fun y hy => by rw [hy]; exact fin)
  · have c2 : m < 8 := by
      have := mt (nI_lti (a := 7) (b := m) (by omega) (by omega)).mpr c
      omega
    exact ok_ev (cl_yardV h hD c2) (ok_ev rfl (ok_nme fun y hy => hk _ c2 (by rw [hy, nI_suc (by omega)]; rfl)))
theorem cl_d20 {P : Int64 × CS → Prop} (h : RX σ τ) (d : Int64) (fin : Ok (lpn f_X3_digest_76 64 (σ, wkS τ 1 (wkS τ 0 (dgP (fun k => foV τ k 0) (fun k => foV τ k 1) d 10)), 0)) P) : Ok (lpn f_X3_digest_20 64 (σ, d, 0)) P := by
  have hr1 := h.row (i := 1) (by omega)
  refine up_loop (fun m a => a = (σ, dgP (fun k => foV τ k 0) (fun k => foV τ k 1) d m, nI m)) 10 ?_ 10 0 _ (by omega) rfl 64 (by omega)
  rintro kk _ m hm rfl hk
  unfold f_X3_digest_20
  dsimp only
  refine ok_if (fun c => ?_) fun c => ?_
  · have em : m = 10 := by
      have := (nI_lti (a := 9) (by omega) (by omega)).mp c
      omega
    subst em
    exact ok_ev (cl_walkerV h (j := 0) (by omega) _) (ok_ev (cl_walkerV h (j := 1) (by omega) _) fin)
  · have c2 : m < 10 := by
      have := mt (nI_lti (a := 9) (b := m) (by omega) (by omega)).mpr c
      omega
    exact ok_ev (rw_placeOfKind hr1 (nI m) 0) (ok_ev rfl (ok_ev (rw_placeOfKind hr1 (nI m) 1) (ok_ev rfl (ok_nme fun y hy => hk _ c2 (by rw [hy, nI_suc (by omega)]; rfl)))))
theorem cl_digestV (h : RX σ τ) (hw : WK τ) (hD : DH τ) (hs : ∀ j, j < (τ.1 2).length → ∃ v, v < 8000 ∧ (τ.1 2).getD j 0 = nI v) : Ok (f_X3_digest σ) fun r => r.1 = dgA (ttV τ) (akV τ) (neV τ) (foV τ) (whV τ) (fun w => τ.2 (5 + 3 * w)) (yaV τ) (coV τ) τ.1 (ub (unR (svN (τ.1 2)) (τ.1 2).length τ.1)) := by
  unfold f_X3_digest
  refine ok_bind (cl_trackV h hD (t := 0) (by omega) 8317) fun z1 h1 => ok_bind (cl_trackV h1.2 hD (t := 1) (by omega) z1.1) fun z2 h2 => ?_
  have ed : z2.1 = dgT (ttV τ) (akV τ) (neV τ) τ.1 8317 2 := by
    rw [h2.1, h1.1]; rfl
  rw [ed]
  refine cl_d20 h2.2 _ (cl_d76 h2.2 hD _ (cl_d108 h2.2 _ (ok_mono (cl_d133 h2.2 hw hD hs _) fun r hr => ?_)))
  rw [hr]
  rfl
end L4B
