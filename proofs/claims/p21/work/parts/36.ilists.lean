/-! LISTS OF INTEGERS as lists of numbers -/
def insAt (xs : List Int32) (i : Nat) (v : Int32) : List Int32 := xs.take i ++ v :: xs.drop i
def delAt (xs : List Int32) (i : Nat) : List Int32 := xs.take i ++ xs.drop (i + 1)
theorem insAt_len {xs : List Int32} {i : Nat} {v : Int32} (h : i ≤ xs.length) : (insAt xs i v).length = xs.length + 1 := by
  simp only [insAt, List.length_append, List.length_take, List.length_cons, List.length_drop]; omega
theorem delAt_len {xs : List Int32} {i : Nat} (h : i < xs.length) : (delAt xs i).length = xs.length - 1 := by
  simp only [delAt, List.length_append, List.length_take, List.length_drop]; omega
theorem insAt_get {xs : List Int32} {i : Nat} {v : Int32} (h : i ≤ xs.length) (j : Nat) : (insAt xs i v).getD j 0 = if j < i then xs.getD j 0 else if j = i then v else xs.getD (j - 1) 0 := by
  simp only [insAt, List.getD_eq_getElem?_getD]
  by_cases h1 : j < i
  · rw [if_pos h1, List.getElem?_append_left (by rw [List.length_take]; omega), List.getElem?_take_of_lt h1]
  · rw [if_neg h1, List.getElem?_append_right (by rw [List.length_take]; omega), List.length_take, Nat.min_eq_left h]
    by_cases h2 : j = i
    · subst h2
      rw [if_pos rfl, Nat.sub_self]; rfl
    · rw [if_neg h2]
      obtain ⟨m, hm⟩ : ∃ m, j - i = m + 1 := ⟨j - i - 1, by omega⟩
      rw [hm, List.getElem?_cons_succ, List.getElem?_drop, show i + m = j - 1 by omega]
theorem delAt_get {xs : List Int32} {i : Nat} (h : i < xs.length) (j : Nat) : (delAt xs i).getD j 0 = if j < i then xs.getD j 0 else xs.getD (j + 1) 0 := by
  simp only [delAt, List.getD_eq_getElem?_getD]
  by_cases h1 : j < i
  · rw [if_pos h1, List.getElem?_append_left (by rw [List.length_take]; omega), List.getElem?_take_of_lt h1]
  · rw [if_neg h1, List.getElem?_append_right (by rw [List.length_take]; omega), List.length_take, Nat.min_eq_left (by omega), List.getElem?_drop, show i + 1 + (j - i) = j + 1 by omega]
theorem app_get {xs : List Int32} {v : Int32} (j : Nat) (hj : j < xs.length + 1) : (xs ++ [v]).getD j 0 = if j < xs.length then xs.getD j 0 else v := by
  simp only [List.getD_eq_getElem?_getD]
  by_cases h1 : j < xs.length
  · rw [if_pos h1, List.getElem?_append_left h1]
  · rw [if_neg h1, List.getElem?_append_right (by omega), show j - xs.length = 0 by omega]; rfl
theorem set_get {xs : List Int32} {k : Nat} {v : Int32} (hk : k < xs.length) (j : Nat) : (xs.set k v).getD j 0 = if j = k then v else xs.getD j 0 := by
  simp only [List.getD_eq_getElem?_getD, List.getElem?_set]
  by_cases h : k = j
  · subst h; simp [hk]
  · rw [if_neg h, if_neg (fun e => h e.symm)]
/-- a list object h with its array ar (own, or the common empty one) holds the numbers xs -/
def LI (κ : Nat → ClassId) (ζ : Nat → Nat) (h ar : Nat) (xs : List Int32) (L : List Nat) (F : Nat → va_E) : Prop :=
  ∃ (n : Nat) (f : Nat → Option Nat) (md : Int32), h ∈ L ∧ F h = .inr (4, [.int md, .ref ar, .int (nI xs.length)]) ∧ ((ar ∈ L ∧ h ≠ ar ∧ F ar = rfA (κ 3) n f ∧ 0 < n) ∨ (ar = ζ 256 ∧ n = 0)) ∧ xs.length ≤ n ∧ n ≤ 32 ∧ ∀ j, j < xs.length → ∃ y, f j = some y ∧ bx ζ L F y (xs.getD j 0)
def FrN (h ar ar' : Nat) (L : List Nat) (F : Nat → va_E) (L' : List Nat) (F' : Nat → va_E) : Prop := (∀ x ∈ L, x ∈ L') ∧ (∀ x ∈ L, x ≠ h → x ≠ ar → F' x = F x) ∧ (ar' = ar ∨ (ar' ∉ L ∧ ar' ∈ L'))
section LIS
variable {l : Launch} {D : va_G} {κ : Nat → ClassId} {ζ : Nat → Nat} {L L' : List Nat} {F F' : Nat → va_E} {h ar : Nat} {xs : List Int32}
theorem LI.obj (hI : LI κ ζ h ar xs L F) : h ∈ L ∧ ∃ md : Int32, F h = .inr (4, [.int md, .ref ar, .int (nI xs.length)]) := by
  obtain ⟨n, f, md, h1, h2, -⟩ := hI
  exact ⟨h1, md, h2⟩
theorem LI.le (hI : LI κ ζ h ar xs L F) : xs.length ≤ 32 := by
  obtain ⟨n, f, md, -, -, -, h1, h2, -⟩ := hI
  omega
/-- own array, when there is something in it -/
theorem LI.own (hI : LI κ ζ h ar xs L F) (h0 : 0 < xs.length) : ∃ (n : Nat) (f : Nat → Option Nat) (md : Int32), RA κ h ar n f md (nI xs.length) L F ∧ xs.length ≤ n ∧ n ≤ 32 ∧ ∀ j, j < xs.length → ∃ y, f j = some y ∧ bx ζ L F y (xs.getD j 0) := by
  obtain ⟨n, f, md, h1, h2, h3, h4, h5, h6⟩ := hI
  rcases h3 with ⟨a, b, c, hn0⟩ | ⟨a, b⟩
  · exact ⟨n, f, md, ⟨h1, h2, a, b, c⟩, h4, h5, h6⟩
  · omega
theorem bx.keepA {y : Nat} {v : Int32} (hb : bx ζ L F y v) {w : List Value} {c : ClassId} {n : Nat} {f : Nat → Option Nat} (hh : F h = .inr (4, w)) (ha : F ar = rfA c n f) (hsub : ∀ x ∈ L, x ∈ L') (hfr : ∀ x ∈ L, x ≠ h → x ≠ ar → F' x = F x) : bx ζ L' F' y v := by
  rcases hb with ⟨h1, h2⟩ | h
  · have n1 : y ≠ h := fun e => by rw [e, hh] at h2; cases h2
    have n2 : y ≠ ar := fun e => by rw [e, ha] at h2; cases h2
    exact Or.inl ⟨hsub y h1, (hfr y h1 n1 n2).trans h2⟩
  · exact Or.inr h
theorem c_lsize (hI : LI κ ζ h ar xs L F) : MtI l D cls (ty5 κ) ζ yJx4a65c_size_8abf5 cJx4a65c_size_8abf5 1 (some .int) 1 0 0 [.ref h] L F (fun r L' F' => L = L' ∧ F = F' ∧ nI xs.length = r) := by
  obtain ⟨n, f, md, h1, h2, -⟩ := hI
  exact c_Jx4a65c_size_8abf5 h1 h2
theorem c_lempty (hI : LI κ ζ h ar xs L F) : MtI l D cls (ty5 κ) ζ yJx4a65c_isEmpty_aae02 cJx4a65c_isEmpty_aae02 1 (some .boolean) 1 0 0 [.ref h] L F (fun r L' F' => L = L' ∧ F = F' ∧ (if xs.length = 0 then (1 : Int32) else 0) = r) := by
  have hle := hI.le
  obtain ⟨n, f, md, h1, h2, -⟩ := hI
  refine (c_Jx4a65c_isEmpty_aae02 h1 h2).imp (fun r L' F' hp => ⟨hp.1, hp.2.1, ?_⟩)
  rw [← hp.2.2]
  by_cases e : xs.length = 0
  · rw [if_pos e, if_pos (by rw [e]; rfl)]
  · rw [if_neg e, if_neg (nI_ne0 (by omega) (by omega))]
theorem c_lget (hI : LI κ ζ h ar xs L F) {k : Nat} (hk : k < xs.length) : MtR l D cls (ty5 κ) ζ yJx4a65c_get_915e3 cJx4a65c_get_915e3 2 (some (.object "java/lang/Object")) 3 0 0 [.ref h, .int (nI k)] L F (fun r L' F' => L = L' ∧ F = F' ∧ bx ζ L F r (xs.getD k 0)) := by
  have hle := hI.le
  obtain ⟨n, f, md, hR, h4, h5, h6⟩ := hI.own (by omega)
  obtain ⟨y, hy, hb⟩ := h6 k hk
  exact (c_Jx4a65c_get_915e3 (y := y) hR (nI_pos (by omega)) (nI_lt hk (by omega)) (vp_in_nI (by omega) (by omega)) (by rw [nI_clamp (by omega)]; exact hy)).imp (fun r L' F' hp => ⟨hp.1, hp.2.1, hp.2.2 ▸ hb⟩)
theorem c_lset (hI : LI κ ζ h ar xs L F) {k : Nat} (hk : k < xs.length) {y2 : Nat} {v2 : Int32} (hb2 : bx ζ L F y2 v2) : MtR l D cls (ty5 κ) ζ yJx4a65c_set_bcc79 cJx4a65c_set_bcc79 4 (some (.object "java/lang/Object")) 3 0 0 [.ref h, .int (nI k), .ref y2] L F (fun r L' F' => bx ζ L' F' r (xs.getD k 0) ∧ LI κ ζ h ar (xs.set k v2) L' F' ∧ FrN h ar ar L F L' F') := by
  have hle := hI.le
  obtain ⟨n, f, md, hR, h4, h5, h6⟩ := hI.own (by omega)
  obtain ⟨y, hy, hb⟩ := h6 k hk
  refine (c_Jx4a65c_set_bcc79 (y := y) hR (nI_pos (by omega)) (nI_lt hk (by omega)) (vp_in_nI (by omega) (by omega)) (by rw [nI_clamp (by omega)]; exact hy) hb2).imp (fun r L' F' hp => ?_)
  obtain ⟨rfl, rfl, hR', hf⟩ := hp
  have hk1 : ∀ {y v}, bx ζ L F y v → bx ζ L F' y v := fun hb => hb.keepA hR.2.1 hR.2.2.2.2 (fun x hx => hx) (fun x _ a b => hf x a b)
  refine ⟨hk1 hb, ⟨n, _, md, hR'.1, ?_, Or.inl ⟨hR'.2.2.1, hR'.2.2.2.1, hR'.2.2.2.2, by omega⟩, by rw [List.length_set]; exact h4, h5, ?_⟩, fun x hx => hx, fun x _ a b => hf x a b, Or.inl rfl⟩
  · rw [List.length_set]; exact hR'.2.1
  · intro j hj
    rw [List.length_set] at hj
    rw [nI_clamp (by omega), set_get hk]
    by_cases e : j = k
    · subst e; exact ⟨y2, up_eq, by rw [if_pos rfl]; exact hk1 hb2⟩
    · obtain ⟨z, hz, hbz⟩ := h6 j hj
      exact ⟨z, (up_ne e).trans hz, by rw [if_neg e]; exact hk1 hbz⟩
theorem va_cpy0 {f : Nat → Option Nat} {n j : Nat} (h : j < n) : va_cpy f (fun _ => none) 0 0 n j = f j := by
  simp only [va_cpy]
  rw [if_pos (by omega)]
  congr 1
  omega
theorem LI.mk (n : Nat) (f : Nat → Option Nat) (md : Int32) {k : Nat} (hk : k = xs.length) (hR : RA κ h ar n f md (nI k) L F) (hn0 : 0 < n) (h4 : xs.length ≤ n) (h5 : n ≤ 32) (h6 : ∀ j, j < xs.length → ∃ y, f j = some y ∧ bx ζ L F y (xs.getD j 0)) : LI κ ζ h ar xs L F := by
  subst hk
  exact ⟨n, f, md, hR.1, hR.2.1, Or.inl ⟨hR.2.2.1, hR.2.2.2.1, hR.2.2.2.2, hn0⟩, h4, h5, h6⟩
/-- the list's three conditions: nothing yet, full, or a place left -/
theorem LI.cases (hI : LI κ ζ h ar xs L F) : (xs = [] ∧ ar = ζ 256 ∧ ∃ md : Int32, RE ζ h md 0 L F) ∨ ∃ (n : Nat) (f : Nat → Option Nat) (md : Int32), RA κ h ar n f md (nI xs.length) L F ∧ 0 < n ∧ xs.length ≤ n ∧ n ≤ 32 ∧ ∀ j, j < xs.length → ∃ y, f j = some y ∧ bx ζ L F y (xs.getD j 0) := by
  obtain ⟨n, f, md, h1, h2, h3, h4, h5, h6⟩ := hI
  rcases h3 with ⟨a, b, c, hn0⟩ | ⟨a, b⟩
  · exact Or.inr ⟨n, f, md, ⟨h1, h2, a, b, c⟩, hn0, h4, h5, h6⟩
  · have h0 : xs.length = 0 := by omega
    have hx : xs = [] := List.length_eq_zero_iff.mp h0
    subst hx
    refine Or.inl ⟨rfl, a, md, h1, ?_⟩
    rw [← a]; exact h2
theorem bx.of_elem {n : Nat} {f : Nat → Option Nat} (h6 : ∀ j, j < xs.length → ∃ y, f j = some y ∧ bx ζ L F y (xs.getD j 0)) : ∀ i, i < xs.length → ∀ y, f i = some y → ∃ v, bx ζ L F y v := by
  intro i hi y hy
  obtain ⟨z, hz, hb⟩ := h6 i hi
  rw [hz] at hy
  cases hy
  exact ⟨_, hb⟩
theorem c_ladd (hI : LI κ ζ h ar xs L F) (hlen : xs.length ≤ 21) {y : Nat} {v : Int32} (hb : bx ζ L F y v) : MtI l D cls (ty5 κ) ζ yJx4a65c_add_9ea2d cJx4a65c_add_9ea2d 2 (some .boolean) 7 1 32 [.ref h, .ref y] L F (fun r L' F' => ∃ ar', LI κ ζ h ar' (xs ++ [v]) L' F' ∧ FrN h ar ar' L F L' F') := by
  have hl1 : (xs ++ [v]).length = xs.length + 1 := by simp
  rcases hI.cases with ⟨rfl, ha, md, hE⟩ | ⟨n, f, md, hR, hn0, h4, h5, h6⟩
  · refine (c_Jx4a65c_add_9ea2d_newI hE hb).imp (fun r L' F' hp => ?_)
    obtain ⟨hsub, q, hq, hR', hf⟩ := hp
    refine ⟨q, LI.mk 10 _ _ (k := 0 + 1) rfl hR' (by omega) (by rw [hl1]; decide) (by decide) ?_, hsub, fun x hx a _ => hf x hx a, Or.inr ⟨hq, hR'.2.2.1⟩⟩
    intro j hj
    have e : j = 0 := by simp at hj; omega
    subst e
    exact ⟨y, up_eq, hb.keep hE.2 hsub hf⟩
  · by_cases hfull : xs.length = n
    · subst hfull
      refine (c_Jx4a65c_add_9ea2d_full hR hn0 hlen (bx.of_elem (n := 0) h6) hb).imp (fun r L' F' hp => ?_)
      obtain ⟨hsub, q, hq, hR', hf⟩ := hp
      refine ⟨q, LI.mk _ _ _ hl1.symm hR' (by omega) (by rw [hl1]; omega) (by omega) ?_, hsub, fun x hx a _ => hf x hx a, Or.inr ⟨hq, hR'.2.2.1⟩⟩
      intro j hj
      rw [hl1] at hj
      rw [app_get j hj]
      by_cases e : j < xs.length
      · obtain ⟨z, hz, hbz⟩ := h6 j e
        exact ⟨z, (up_ne (by omega)).trans ((va_cpy0 e).trans hz), by rw [if_pos e]; exact hbz.keep hR.2.1 hsub hf⟩
      · have e2 : j = xs.length := by omega
        subst e2
        exact ⟨y, up_eq, by rw [if_neg e]; exact hb.keep hR.2.1 hsub hf⟩
    · refine (c_Jx4a65c_add_9ea2d_fitI hR (by omega) h5 hb).imp (fun r L' F' hp => ?_)
      obtain ⟨rfl, hR', hf⟩ := hp
      have hk1 : ∀ {y v}, bx ζ L F y v → bx ζ L F' y v := fun hb => hb.keepA hR.2.1 hR.2.2.2.2 (fun x hx => hx) (fun x _ a b => hf x a b)
      refine ⟨ar, LI.mk n _ _ hl1.symm hR' hn0 (by omega) h5 ?_, fun x hx => hx, fun x _ a b => hf x a b, Or.inl rfl⟩
      intro j hj
      rw [hl1] at hj
      rw [app_get j hj]
      by_cases e : j < xs.length
      · obtain ⟨z, hz, hbz⟩ := h6 j e
        exact ⟨z, (up_ne (by omega)).trans hz, by rw [if_pos e]; exact hk1 hbz⟩
      · have e2 : j = xs.length := by omega
        subst e2
        exact ⟨y, up_eq, by rw [if_neg e]; exact hk1 hb⟩
theorem c_lins (hI : LI κ ζ h ar xs L F) (hlen : xs.length ≤ 21) {i : Nat} (hi : i ≤ xs.length) {y : Nat} {v : Int32} (hb : bx ζ L F y v) : MtV l D cls (ty5 κ) ζ yJx4a65c_add_7a177 cJx4a65c_add_7a177 5 none 6 1 32 [.ref h, .int (nI i), .ref y] L F (fun L' F' => ∃ ar', LI κ ζ h ar' (insAt xs i v) L' F' ∧ FrN h ar ar' L F L' F') := by
  have hl1 := insAt_len (v := v) hi
  rcases hI.cases with ⟨rfl, ha, md, hE⟩ | ⟨n, f, md, hR, hn0, h4, h5, h6⟩
  · have e0 : i = 0 := by simp at hi; exact hi
    subst e0
    refine (c_Jx4a65c_add_7a177_new hE hb).imp (fun L' F' hp => ?_)
    obtain ⟨hsub, q, hq, hR', hf⟩ := hp
    refine ⟨q, LI.mk 10 _ _ (k := 0 + 1) rfl hR' (by omega) (by rw [hl1]; decide) (by decide) ?_, hsub, fun x hx a _ => hf x hx a, Or.inr ⟨hq, hR'.2.2.1⟩⟩
    intro j hj
    have e : j = 0 := by rw [hl1] at hj; simp at hj; omega
    subst e
    exact ⟨y, up_eq, hb.keep hE.2 hsub hf⟩
  · by_cases hfull : xs.length = n
    · subst hfull
      refine (c_Jx4a65c_add_7a177_full hR hi hn0 hlen (bx.of_elem (n := 0) h6) hb).imp (fun L' F' hp => ?_)
      obtain ⟨hsub, q, hq, hR', hf⟩ := hp
      refine ⟨q, LI.mk _ _ _ hl1.symm hR' (by omega) (by rw [hl1]; omega) (by omega) ?_, hsub, fun x hx a _ => hf x hx a, Or.inr ⟨hq, hR'.2.2.1⟩⟩
      intro j hj
      rw [hl1] at hj
      rw [insAt_get hi]
      by_cases e1 : j < i
      · obtain ⟨z, hz, hbz⟩ := h6 j (by omega)
        refine ⟨z, ?_, by rw [if_pos e1]; exact hbz.keep hR.2.1 hsub hf⟩
        rw [up_ne (by omega), pk_cpy_out (Or.inl (by omega)), va_cpy0 (by omega)]; exact hz
      · by_cases e2 : j = i
        · subst e2
          exact ⟨y, up_eq, by rw [if_neg e1, if_pos rfl]; exact hb.keep hR.2.1 hsub hf⟩
        · obtain ⟨z, hz, hbz⟩ := h6 (j - 1) (by omega)
          refine ⟨z, ?_, by rw [if_neg e1, if_neg e2]; exact hbz.keep hR.2.1 hsub hf⟩
          rw [up_ne e2, pk_cpy_in (by omega) (by omega), va_cpy0 (by omega), show i + (j - (i + 1)) = j - 1 by omega]; exact hz
    · refine (c_Jx4a65c_add_7a177_fit hR hi (by omega) h5 (bx.of_elem (n := 0) h6) hb).imp (fun L' F' hp => ?_)
      obtain ⟨rfl, hR', hf⟩ := hp
      have hk1 : ∀ {y v}, bx ζ L F y v → bx ζ L F' y v := fun hb => hb.keepA hR.2.1 hR.2.2.2.2 (fun x hx => hx) (fun x _ a b => hf x a b)
      refine ⟨ar, LI.mk n _ _ hl1.symm hR' hn0 (by omega) h5 ?_, fun x hx => hx, fun x _ a b => hf x a b, Or.inl rfl⟩
      intro j hj
      rw [hl1] at hj
      rw [insAt_get hi]
      by_cases e1 : j < i
      · obtain ⟨z, hz, hbz⟩ := h6 j (by omega)
        refine ⟨z, ?_, by rw [if_pos e1]; exact hk1 hbz⟩
        rw [up_ne (by omega), pk_cpy_out (Or.inl (by omega))]; exact hz
      · by_cases e2 : j = i
        · subst e2
          exact ⟨y, up_eq, by rw [if_neg e1, if_pos rfl]; exact hk1 hb⟩
        · obtain ⟨z, hz, hbz⟩ := h6 (j - 1) (by omega)
          refine ⟨z, ?_, by rw [if_neg e1, if_neg e2]; exact hk1 hbz⟩
          rw [up_ne e2, pk_cpy_in (by omega) (by omega), show i + (j - (i + 1)) = j - 1 by omega]; exact hz
theorem c_ldel (hI : LI κ ζ h ar xs L F) {i : Nat} (hi : i < xs.length) : MtR l D cls (ty5 κ) ζ yJx4a65c_remove_915e3 cJx4a65c_remove_915e3 4 (some (.object "java/lang/Object")) 3 0 0 [.ref h, .int (nI i)] L F (fun r L' F' => bx ζ L' F' r (xs.getD i 0) ∧ LI κ ζ h ar (delAt xs i) L' F' ∧ FrN h ar ar L F L' F') := by
  have hl1 := delAt_len hi
  obtain ⟨n, f, md, hR, h4, h5, h6⟩ := hI.own (by omega)
  obtain ⟨y, hy, hb⟩ := h6 i hi
  refine (c_Jx4a65c_remove_915e3 hR hi h4 h5 (bx.of_elem (n := 0) h6) hy).imp (fun r L' F' hp => ?_)
  obtain ⟨rfl, rfl, ⟨f', hR', hf'⟩, hf⟩ := hp
  have hk1 : ∀ {y v}, bx ζ L F y v → bx ζ L F' y v := fun hb => hb.keepA hR.2.1 hR.2.2.2.2 (fun x hx => hx) (fun x _ a b => hf x a b)
  refine ⟨hk1 hb, LI.mk n _ _ hl1.symm hR' (by omega) (by omega) h5 ?_, fun x hx => hx, fun x _ a b => hf x a b, Or.inl rfl⟩
  intro j hj
  rw [hl1] at hj
  rw [delAt_get hi, hf' j hj]
  by_cases e1 : j < i
  · obtain ⟨z, hz, hbz⟩ := h6 j (by omega)
    exact ⟨z, by rw [if_pos e1]; exact hz, by rw [if_pos e1]; exact hk1 hbz⟩
  · obtain ⟨z, hz, hbz⟩ := h6 (j + 1) (by omega)
    exact ⟨z, by rw [if_neg e1]; exact hz, by rw [if_neg e1]; exact hk1 hbz⟩
theorem c_lclear (hI : LI κ ζ h ar xs L F) : MtV l D cls (ty5 κ) ζ yJx4a65c_clear_da8c8 cJx4a65c_clear_da8c8 4 none 1 0 0 [.ref h] L F (fun L' F' => LI κ ζ h ar [] L' F' ∧ FrN h ar ar L F L' F') := by
  rcases hI.cases with ⟨rfl, ha, md, hE⟩ | ⟨n, f, md, hR, hn0, h4, h5, h6⟩
  · refine (c_Jx4a65c_clear_da8c8_new hE).imp (fun L' F' hp => ?_)
    obtain ⟨rfl, hE', hf⟩ := hp
    exact ⟨⟨0, fun _ => none, _, hE'.1, by rw [ha]; exact hE'.2, Or.inr ⟨ha, rfl⟩, Nat.le_refl _, by decide, fun j hj => absurd hj (Nat.not_lt_zero j)⟩, fun x hx => hx, fun x _ a _ => hf x a, Or.inl rfl⟩
  · refine (c_Jx4a65c_clear_da8c8_own hR h4 h5).imp (fun L' F' hp => ?_)
    obtain ⟨rfl, ⟨f', hR'⟩, hf⟩ := hp
    exact ⟨LI.mk n f' _ (k := 0) rfl hR' hn0 (Nat.zero_le _) h5 (fun j hj => absurd hj (Nat.not_lt_zero j)), fun x hx => hx, fun x _ a b => hf x a b, Or.inl rfl⟩
end LIS
