/-! the model: what is marked, what is told -/
section OKP
variable {k : Int32} {τ : MS}
theorem ne10 : ¬ (1 : Int32) = 0 := by decide
/-- a row of marks as long as the track -/
theorem ok_offAll (hb : IB k τ) (hw : WK τ) (hu : UT τ) {x1 : Int32} {j n : Nat} (hj : j < 2) (hx : x1 = 0 ∧ j = 0 ∨ x1 = 1 ∧ j = 1) (hn : n ≤ (τ.1 j).length) (g : Nat → Int32) : Ok (f_X6_offAll τ x1 n g) (KQ k) := by
  have hl := hb.lenj hj
  unfold f_X6_offAll
  refine ok_nme fun y hy => ?_
  refine up24 (fun m t => (IB k t.1 ∧ WK t.1) ∧ (t.2.1 = x1 ∧ t.2.2.1 = n ∧ t.2.2.2.1 = g) ∧ (∃ c, c ≤ m ∧ t.2.2.2.2.1 = nI c ∧ (c = 0 → UT t.1)) ∧ t.2.2.2.2.2 = nI (n - m) - 1 ∧ n - m ≤ (t.1.1 j).length) n (by omega) ?_ ⟨⟨hb, hw⟩, ⟨rfl, rfl, rfl⟩, ⟨0, Nat.le_refl _, rfl, fun _ => hu⟩, hy, hn⟩
  rintro kk ⟨s, v1, v2, v3, v4, v5⟩ m hm ⟨⟨b, w⟩, ⟨a1, a2, a3⟩, ⟨c, hc, a4, a5⟩, a6, a7⟩ hk
  dsimp only at b w a1 a2 a3 a4 a5 a6 a7
  subst a1 a2 a3 a4
  unfold f_X6_offAll_8
  dsimp only
  refine ok_if (fun c1 => ?_) fun c1 => ?_
  · have m45 : ∀ s3, IB k s3 → WK s3 → UT s3 → Ok (f_X6_offAll_45 s3 (nI c)) (KQ k) := fun s3 b3 w3 u3 => kq b3 w3 u3
    refine ok_if (fun c2 => ?_) fun c2 => ok_tear b w fun s3 b3 w3 u3 _ _ _ => m45 s3 b3 w3 u3
    have : c = 0 := by
      have := (nI_lei (a := c) (b := 0) (by omega) (by omega)).mp c2
      omega
    exact m45 s b w (a5 this)
  · have hmn : m < v2 := by
      rcases Nat.lt_or_ge m v2 with h | h
      · exact h
      · exfalso
        apply c1
        rw [a6, show v2 - m = 0 by omega]
        decide
    have e5 : v5 = nI (v2 - m - 1) := by rw [a6]; exact nI_prd (by omega) (by omega)
    clear a6
    subst e5
    have c31 : ∀ s3 c3, IB k s3 → WK s3 → c3 ≤ m + 1 → (c3 = 0 → UT s3) → v2 - m ≤ (s3.1 j).length + 1 → Ok (f_X6_offAll_31 kk s3 v1 v2 v3 (nI c3) (nI (v2 - m - 1))) (KQ k) := by
      intro s3 c3 b3 w3 h3 u3 l3
      unfold f_X6_offAll_31
      refine ok_nme fun y2 hy2 => hk _ hmn ⟨⟨b3, w3⟩, ⟨rfl, rfl, rfl⟩, ⟨c3, h3, rfl, u3⟩, ?_, ?_⟩
      · show y2 = _
        rw [hy2, show v2 - (m + 1) = v2 - m - 1 by omega]
        exact (Int32.sub_eq_add_neg _ _).symm
      · show v2 - (m + 1) ≤ (s3.1 j).length
        omega
    refine ok_f (arr_in (nI_bnd (b := 20) (by omega) (by omega)).1 ((nI_lti (by omega) (by omega)).mpr (by omega)) (by omega)) ?_
    refine ok_if (fun _ => c31 s c b w (by omega) a5 (by omega)) fun _ => ?_
    refine ok_bind (goN b w hj hx (by omega)) fun z hz => ok_nme fun y3 hy3 => ?_
    obtain ⟨⟨b3, w3, -, -⟩, l3, -⟩ := hz
    rw [hy3, nI_suc (by omega)]
    exact c31 z.2 (c + 1) b3 w3 (by omega) (fun h => absurd h (by omega)) (by omega)
theorem arr_nN {n : Nat} (h : n ≤ 20) : ¬ (nI n < 0 ∨ 32 < (nI n).toNatClampNeg) := arr_new (nI_bnd (b := 20) h (by omega)).1 ((nI_bnd (b := 32) (by omega) (by omega)).2)
theorem nI_cn {n : Nat} (h : n ≤ 20) : (nI n).toNatClampNeg = n := by
  have := nI_toInt (n := n) (by omega)
  show (nI n).toInt.toNat = n
  omega
theorem arr_iN {n i : Nat} (h : i < n) (hn : n ≤ 32) : ¬ (nI i < 0 ∨ n ≤ (nI i).toNatClampNeg) := arr_in (nI_bnd (b := 32) (by omega) (by omega)).1 ((nI_lti (by omega) (by omega)).mpr h) hn
theorem ok_X6_dropAll (hb : IB k τ) (hw : WK τ) (hu : UT τ) (x1 x2 : Int32) : Ok (f_X6_dropAll τ x1 x2) (KQ k) := by
  unfold f_X6_dropAll
  refine ok_isNoKind hb hw hu (fun s p e b w u => ok_t rfl ?_) fun s b w u => ok_f ne10 (kq b w u)
  obtain ⟨j, hj, hx, hg⟩ := trk_ok p
  have hl := b.lenj hj
  refine ok_ev (sizeN hg) (ok_f (arr_nN hl) (ok_nme fun n hn => ok_nme fun g hgg => ?_))
  rw [nI_cn hl] at hn
  subst hn
  clear hgg
  refine up24 (fun m t => t.1 = s ∧ t.2.1 = x1 ∧ t.2.2.2.1 = (s.1 j).length ∧ t.2.2.2.2.2 = nI m) (s.1 j).length (by omega) ?_ ⟨rfl, rfl, rfl, rfl⟩
  rintro kk ⟨s2, v1, v2, v3, v4, v5⟩ m hm ⟨a1, a2, a3, a4⟩ hk
  dsimp only at a1 a2 a3 a4
  subst a1 a2 a3 a4
  unfold f_X6_dropAll_22
  dsimp only
  refine ok_if (fun _ => ok_bind (ok_offAll b w u hj hx (Nat.le_refl _) _) fun z hz => ok_some hz) fun c => ?_
  have hml : m < (s2.1 j).length := Nat.lt_of_not_le (mt (nI_lei (by omega) (by omega)).mpr c)
  have c51 : ∀ v w0, Ok (f_X6_dropAll_51 kk s2 v1 w0 (s2.1 j).length v4 (nI m) (nI m) v) (KQ k) := by
    intro v w0
    unfold f_X6_dropAll_51
    exact ok_f (arr_iN hml (by omega)) (ok_nme fun g1 _ => ok_nme fun y hy => hk _ hml ⟨rfl, rfl, rfl, by rw [hy]; exact nI_suc (by omega)⟩)
  refine ok_ev (getN hg hml hl) (ok_bind (P := fun _ => True) (ok_some trivial) fun z _ => ?_)
  exact ok_if (fun _ => c51 _ _) fun _ => c51 _ _
theorem ok_X6_clear (hb : IB k τ) (hw : WK τ) (hu : UT τ) (x1 : Int32) : Ok (f_X6_clear τ x1) (KQ k) := by
  unfold f_X6_clear
  refine ok_bind (ok_X6_isNoTrack _) fun z hz => ok_start hb hw hu (by decide) (fun s i e e0 en b w u => ok_t rfl ?_) fun s b w u => ok_f ne10 (kq b w u)
  obtain ⟨j, hj, hx, hg⟩ := trk_ok (hz i)
  have hl := b.lenj hj
  refine ok_ev (sizeN hg) (ok_f (arr_nN hl) (ok_nme fun n hn => ok_nme fun g hgg => ?_))
  rw [nI_cn hl] at hn
  subst hn
  clear hgg
  refine up24 (fun m t => t.1 = s ∧ t.2.1 = x1 ∧ t.2.2.1 = (s.1 j).length ∧ t.2.2.2.2 = nI m) (s.1 j).length (by omega) ?_ ⟨rfl, rfl, rfl, rfl⟩
  rintro kk ⟨s2, v1, v3, v4, v5⟩ m hm ⟨a1, a2, a3, a4⟩ hk
  dsimp only at a1 a2 a3 a4
  subst a1 a2 a3 a4
  unfold f_X6_clear_24
  dsimp only
  refine ok_if (fun _ => ok_bind (ok_offAll b w u hj hx (Nat.le_refl _) _) fun z hz => ok_some hz) fun c => ?_
  have hml : m < (s2.1 j).length := Nat.lt_of_not_le (mt (nI_lei (by omega) (by omega)).mpr c)
  exact ok_f (arr_iN hml (by omega)) (ok_nme fun g1 _ => ok_nme fun y hy => hk _ hml ⟨rfl, rfl, rfl, by rw [hy]; exact nI_suc (by omega)⟩)
theorem ok_X6_purge (hb : IB k τ) (hw : WK τ) (hu : UT τ) (x1 : Int32) : Ok (f_X6_purge τ x1) (KQ k) := by
  unfold f_X6_purge
  refine ok_nme fun s hs => ?_
  have b : IB k s := by rw [hs]; exact hb.sc (by omega)
  have w : WK s := by rw [hs]; exact hw.sc (by omega)
  have u : UT s := by rw [hs]; exact hu.sc
  clear hs
  have hg : gtr 1 = some 1 := rfl
  have hl := b.lenj (j := 1) (by omega)
  refine ok_ev (sizeN hg) (ok_f (arr_nN hl) (ok_nme fun n hn => ok_nme fun g hgg => ?_))
  rw [nI_cn hl] at hn
  subst hn
  clear hgg
  refine up24 (fun m t => t.1 = s ∧ t.2.2.1 = (s.1 1).length ∧ t.2.2.2.2 = nI m) (s.1 1).length (by omega) ?_ ⟨rfl, rfl, rfl⟩
  rintro kk ⟨s2, v1, v3, v4, v5⟩ m hm ⟨a1, a3, a4⟩ hk
  dsimp only at a1 a3 a4
  subst a1 a3 a4
  unfold f_X6_purge_15
  dsimp only
  refine ok_if (fun _ => ok_bind (ok_offAll b w u (j := 1) (by omega) (Or.inr ⟨rfl, rfl⟩) (Nat.le_refl _) _) fun z hz => ok_some hz) fun c => ?_
  have hml : m < (s2.1 1).length := Nat.lt_of_not_le (mt (nI_lei (by omega) (by omega)).mpr c)
  have c56 : ∀ v, Ok (f_X6_purge_56 kk s2 v1 (s2.1 1).length v4 (nI m) (nI m) v) (KQ k) := by
    intro v
    unfold f_X6_purge_56
    exact ok_f (arr_iN hml (by omega)) (ok_nme fun g1 _ => ok_nme fun y hy => hk _ hml ⟨rfl, rfl, by rw [hy]; exact nI_suc (by omega)⟩)
  have c47 : ∀ v, Ok (f_X6_purge_47 kk s2 v1 (s2.1 1).length v4 (nI m) (nI m) v) (KQ k) := by
    intro v
    unfold f_X6_purge_47
    exact ok_if (fun _ => c56 _) fun _ => c56 _
  refine ok_ev (getN hg hml hl) (ok_bind (P := fun _ => True) (ok_some trivial) fun z _ => ok_bind (ok_X6_found b _ _ _ (Or.inl rfl)) fun z2 _ => ?_)
  exact ok_if (fun _ => c47 _) fun _ => c47 _
theorem ok_shed39 (hb : IB k τ) (hw : WK τ) (hu : UT τ) (x1 x2 x3 x4 u1 : Int32) (h0 : τ.2 0 = 0) (p : x1 = 0 ∨ x1 = 1) : Ok (f_X6_shed_39 τ x1 x2 x3 x4 u1) (KQ k) := by
  unfold f_X6_shed_39
  refine ok_refuse hb hw hu h0 (by decide) (fun s i e e0 en b w u => ok_t rfl ?_) fun s b w u => ok_f ne10 (kq b w u)
  obtain ⟨j, hj, hx, hg⟩ := trk_ok p
  have hl := b.lenj hj
  refine ok_ev (sizeN hg) (ok_f (arr_nN hl) (ok_nme fun n hn => ok_nme fun g hgg => ?_))
  rw [nI_cn hl] at hn
  subst hn
  clear hgg
  refine up24 (fun m t => t.1 = s ∧ t.2.1 = x1 ∧ t.2.2.2.2.1 = (s.1 j).length ∧ t.2.2.2.2.2.2.2.2 = nI m) (s.1 j).length (by omega) ?_ ⟨rfl, rfl, rfl, rfl⟩
  rintro kk ⟨s2, v1, v2, v3, n5, g5, v6, v7, v8⟩ m hm ⟨a1, a2, a3, a4⟩ hk
  dsimp only at a1 a2 a3 a4
  subst a1 a2 a3 a4
  unfold f_X6_shed_67
  dsimp only
  refine ok_if (fun _ => ok_bind (ok_offAll b w u hj hx (Nat.le_refl _) _) fun z hz => ok_some ⟨hz.1, hz.2.1, hz.2.2⟩) fun c => ?_
  have hml : m < (s2.1 j).length := Nat.lt_of_not_le (mt (nI_lei (by omega) (by omega)).mpr c)
  have c140 : ∀ g v6 v7, Ok (f_X6_shed_140 kk s2 v1 v2 v3 (s2.1 j).length g v6 v7 (nI m)) (KQ k) := by
    intro g v6 v7
    unfold f_X6_shed_140
    exact ok_nme fun y hy => hk _ hml ⟨rfl, rfl, rfl, by rw [hy]; exact nI_suc (by omega)⟩
  have c92 : ∀ i, i < (s2.1 j).length → Ok (f_X6_shed_92 kk s2 v1 v2 v3 (s2.1 j).length g5 v6 v7 (nI m) (nI i)) (KQ k) := by
    intro i hi
    unfold f_X6_shed_92
    refine ok_if (fun _ => c140 _ _ _) fun _ => ok_ev (getN hg hi hl) (ok_bind (P := fun _ => True) (ok_some trivial) fun z _ => ok_if (fun _ => ok_f (arr_iN hi (by omega)) (ok_nme fun g1 _ => ok_ev (getN hg hi hl) (ok_bind (P := fun _ => True) (ok_some trivial) fun z3 _ => ok_nme fun y1 _ => ok_nme fun y2 _ => c140 _ _ _))) fun _ => c140 _ _ _)
  refine ok_if (fun _ => c92 m hml) fun _ => ?_
  rw [nI_prd (by omega) (by omega), nI_dif (by omega) (by omega)]
  exact c92 _ (by omega)
theorem ok_X6_shed (hb : IB k τ) (hw : WK τ) (hu : UT τ) (x1 x2 x3 x4 : Int32) : Ok (f_X6_shed τ x1 x2 x3 x4) (KQ k) := by
  unfold f_X6_shed
  refine ok_bind (ok_X6_isNoTrack _) fun z hz => ok_start hb hw hu (by decide) (fun s i e e0 en b w u => ok_t rfl ?_) fun s b w u => ok_f ne10 (kq b w u)
  have m : ∀ u1, Ok (f_X6_shed_39 s x1 x2 x3 x4 u1) (KQ k) := fun u1 => ok_shed39 b w u _ _ _ _ _ e0 (hz i)
  exact ok_bind (ok_X6_isIn _ _ _) fun z1 _ => ok_if (fun _ => m _) fun _ => ok_bind (ok_X6_isIn _ _ _) fun z2 _ => ok_if (fun _ => m _) fun _ => m _
theorem ok_X6_thin (hb : IB k τ) (hw : WK τ) (hu : UT τ) (x1 x2 x3 : Int32) : Ok (f_X6_thin τ x1 x2 x3) (KQ k) := by
  unfold f_X6_thin
  refine ok_bind (ok_X6_isNoTrack _) fun z hz => ok_start hb hw hu (by decide) (fun s i e e0 en b w u => ok_t rfl ?_) fun s b w u => ok_f ne10 (kq b w u)
  have m27 : ∀ u1, (u1 = 0 → ¬ x3 = 0) → Ok (f_X6_thin_27 s x1 x2 x3 u1) (KQ k) := by
    intro u1 h3
    unfold f_X6_thin_27
    refine ok_refuse b w u e0 (by decide) (fun s i2 e e0 en b w u => ok_t rfl ?_) fun s b w u => ok_f ne10 (kq b w u)
    have h3 := h3 i2
    obtain ⟨j, hj, hx, hg⟩ := trk_ok (hz i)
    have hl := b.lenj hj
    refine ok_ev (sizeN hg) (ok_f (arr_nN hl) (ok_nme fun n hn => ok_nme fun g hgg => ?_))
    rw [nI_cn hl] at hn
    subst hn
    clear hgg
    refine up24 (fun m t => t.1 = s ∧ t.2.1 = x1 ∧ t.2.2.2.1 = x3 ∧ t.2.2.2.2.1 = (s.1 j).length ∧ t.2.2.2.2.2.2 = nI (m + 1)) (s.1 j).length (by omega) ?_ ⟨rfl, rfl, rfl, rfl, rfl⟩
    rintro kk ⟨s2, v1, v2, v3, n4, g4, v5⟩ m hm ⟨a1, a2, a2b, a3, a4⟩ hk
    dsimp only at a1 a2 a2b a3 a4
    subst a1 a2 a2b a3 a4
    unfold f_X6_thin_48
    dsimp only
    refine ok_if (fun _ => ok_bind (ok_offAll b w u hj hx (Nat.le_refl _) _) fun z hz => ok_some hz) fun c => ?_
    have hml : m < (s2.1 j).length := by
      have := mt (nI_lti (a := (s2.1 j).length) (b := m + 1) (by omega) (by omega)).mpr c
      omega
    have c87 : ∀ i v, i < (s2.1 j).length → Ok (f_X6_thin_87 kk s2 v1 v2 v3 (s2.1 j).length g4 (nI (m + 1)) (nI i) v) (KQ k) := by
      intro i v hi
      unfold f_X6_thin_87
      exact ok_f (arr_iN hi (by omega)) (ok_nme fun g1 _ => ok_nme fun y hy => hk _ hml ⟨rfl, rfl, rfl, rfl, by rw [hy]; exact nI_suc (by omega)⟩)
    have c75 : ∀ i, i < (s2.1 j).length → Ok (f_X6_thin_75 kk s2 v1 v2 v3 (s2.1 j).length g4 (nI (m + 1)) (nI i)) (KQ k) := by
      intro i hi
      unfold f_X6_thin_75
      exact ok_f h3 (ok_if (fun _ => c87 _ _ hi) fun _ => c87 _ _ hi)
    refine ok_if (fun _ => ?_) fun _ => ?_
    · rw [nI_prd (by omega) (by omega)]
      exact c75 _ (by omega)
    · rw [nI_dif (by omega) (by omega)]
      exact c75 _ (by omega)
  refine ok_bind (ok_X6_isIn _ _ _) fun z1 hz1 => ok_if (fun _ => m27 _ fun h => absurd h ne10) fun c => m27 _ fun _ h => ?_
  have := (hz1.2 c).1
  rw [h] at this
  exact absurd this (by decide)
/-! the line by its places -/
theorem ok_X6_insert (hb : IB k τ) (hw : WK τ) (hu : UT τ) (x1 x2 x3 : Int32) : Ok (f_X6_insert τ x1 x2 x3) (KQ k) := by
  have m52 : ∀ s u1, s.2 0 = 0 → IB k s → WK s → UT s → 0 ≤ x1 → ((0 ≤ x2 ∧ x2 ≤ 9) ∧ 0 ≤ x3 ∧ x3 ≤ 99) → (u1 = 0 → (s.1 1).length < 20) → Ok (f_X6_insert_52 s x1 x2 x3 u1) (KQ k) := by
    intro s u1 e0 b w u h0 hp hl
    unfold f_X6_insert_52
    refine ok_refuse b w u e0 (by decide) (fun s2 i2 e _ en b w u => ok_t rfl ?_) fun s b w u => ok_f ne10 (kq b w u)
    have hl := hl i2
    rw [← e] at hl
    have hg : gtr 1 = some 1 := rfl
    refine ok_ev (sizeN hg) (ok_if (fun c => ?_) fun _ => kq b w u)
    have c : x1 ≤ nI (s2.1 1).length := c
    obtain ⟨i, hi, rfl⟩ := nIof (by omega) h0 c
    refine ok_bind (ok_X6_code _ _ hp) fun z hz => ok_bind (comeN b w (j := 1) (by omega) (Or.inr ⟨rfl, rfl⟩) hi hl hz) fun z2 hz2 => ?_
    refine ok_tear hz2.1.1 hz2.1.2.1 fun s3 b3 w3 u3 _ _ _ => ok_ev (sizeN hg) (kq b3 w3 u3)
  have m16 : ∀ u1, (u1 = 0 → 0 ≤ x1) → Ok (f_X6_insert_16 τ x1 x2 x3 u1) (KQ k) := by
    intro u1 h1
    unfold f_X6_insert_16
    refine ok_start hb hw hu (by decide) (fun s i e e0 en b w u => ok_t rfl ?_) fun s b w u => ok_f ne10 (kq b w u)
    have h1 := h1 i
    refine ok_bind (ok_X6_isNoPiece _ _) fun z hz => ok_refuse b w u e0 (by decide) (fun s i2 e e0 en b w u => ok_t rfl ?_) fun s b w u => ok_f ne10 (kq b w u)
    have hz := hz i2
    refine ok_ev (sizeN (j := 1) rfl) (ok_if (fun _ => m52 _ _ e0 b w u h1 hz fun h => absurd h ne10) fun c => m52 _ _ e0 b w u h1 hz fun _ => ?_)
    have hl := b.lenj (j := 1) (by omega)
    rcases Nat.lt_or_ge (s.1 1).length 20 with h | h
    · exact h
    · exfalso
      apply c
      rw [show (s.1 1).length = 20 by omega]
      rfl
  unfold f_X6_insert
  exact ok_bind (ok_X6_isIn _ _ _) fun z hz => ok_if (fun _ => m16 _ fun h => absurd h ne10) fun c => m16 _ fun _ => (hz.2 c).1
theorem ok_tearN {f : MS → Option (Int32 × MS)} (hb : IB k τ) (hw : WK τ) (h : ∀ s, IB k s → WK s → UT s → s.1 0 = τ.1 0 → s.1 1 = τ.1 1 → s.1 2 = [] → s.2 = τ.2 → Ok (f s) (KQ k)) : Ok ((f_X6_tear τ).bind f) (KQ k) := by
  have e : f_X6_tear τ = some (va_up τ.1 2 [], τ.2) := rfl
  obtain ⟨r, e2, b, w, u, e3, e0, e1⟩ := ok_X6_tear hb hw
  rw [e] at e2
  cases e2
  exact ok_ev e (h _ b w u e0 e1 l_eq rfl)
theorem ok_X6_cut (hb : IB k τ) (hw : WK τ) (hu : UT τ) (x1 : Int32) : Ok (f_X6_cut τ x1) (KQ k) := by
  unfold f_X6_cut
  refine ok_bind (ok_X6_isNoPlace _) fun z hz => ok_start hb hw hu (by decide) (fun s i e e0 en b w u => ok_t rfl ?_) fun s b w u => ok_f ne10 (kq b w u)
  have h0 := (hz i).1
  have hl := b.lenj (j := 1) (by omega)
  refine ok_ev (sizeN (j := 1) rfl) (ok_if (fun c => ?_) fun _ => kq b w u)
  have c : x1 < nI (s.1 1).length := c
  obtain ⟨i, hi, rfl⟩ := nIof (b := (s.1 1).length) (by omega) h0 (Int32.le_of_lt c)
  have hi2 := (nI_lti (by omega) (by omega)).mp c
  refine ok_tearN b w fun s3 b3 w3 u3 l0 l1 l2 _ => ?_
  refine ok_bind (goN b3 w3 (j := 1) (x := 1) (by omega) (Or.inr ⟨rfl, rfl⟩) (by rw [l1]; exact hi2)) fun z2 hz2 => ok_some ⟨hz2.1.1, hz2.1.2.1, ?_⟩
  show UD (z2.2.1 2).reverse _ _
  rw [hz2.2.2 2 (by omega), l2]
  trivial
theorem ok_X6_at (hb : IB k τ) (hw : WK τ) (hu : UT τ) (x1 : Int32) : Ok (f_X6_at τ x1) (KQ k) := by
  unfold f_X6_at
  refine ok_bind (ok_X6_isNoPlace _) fun z hz => ok_start hb hw hu (by decide) (fun s i e e0 en b w u => ok_t rfl ?_) fun s b w u => ok_f ne10 (kq b w u)
  have h0 := (hz i).1
  have hl := b.lenj (j := 1) (by omega)
  refine ok_ev (sizeN (j := 1) rfl) (ok_if (fun c => ?_) fun _ => kq b w u)
  have c : x1 < nI (s.1 1).length := c
  obtain ⟨i, hi, rfl⟩ := nIof (b := (s.1 1).length) (by omega) h0 (Int32.le_of_lt c)
  have c2 := (nI_lti (a := i) (b := (s.1 1).length) (by omega) (by omega)).mp c
  exact ok_ev (getN (j := 1) (τ := s) rfl c2 hl) (kq b w u)
theorem ok_X6_find (hb : IB k τ) (hw : WK τ) (hu : UT τ) (x1 x2 : Int32) : Ok (f_X6_find τ x1 x2) (KQ k) := by
  have m16 : ∀ u1, Ok (f_X6_find_16 τ x1 x2 u1) (KQ k) := by
    intro u1
    unfold f_X6_find_16
    refine ok_start hb hw hu (by decide) (fun s i e e0 en b w u => ok_t rfl ?_) fun s b w u => ok_f ne10 (kq b w u)
    exact ok_bind (ok_X6_found b _ _ _ (Or.inr rfl)) fun z _ => kq b w u
  unfold f_X6_find
  exact ok_bind (ok_X6_isIn _ _ _) fun z hz => ok_if (fun _ => m16 _) fun c => m16 _
end OKP
