/-! level 3: places by turns, from the front or from the back -/
section L3U
variable {g g' : Nat → Int32} {P : Nat → Nat} {xs : List Int32} {b : Int32} {k : Nat}
def PP (b : Int32) (n k : Nat) : Nat := if b = 0 then k else n - 1 - k
theorem pp_0 {n : Nat} : PP 0 n k = k := if_pos rfl
theorem pp_1 (hb : ¬ b = 0) {n : Nat} : PP b n k = n - 1 - k := if_neg hb
theorem pp_lt {n : Nat} (h : k < n) : PP b n k < n := by
  unfold PP
  split
  · exact h
  · omega
theorem pp_ne {n i : Nat} (h : k < n) (h2 : i < n) (e : i ≠ k) : PP b n i ≠ PP b n k := by
  unfold PP
  split
  · exact e
  · omega
def cntP (g : Nat → Int32) (P : Nat → Nat) : Nat → Nat
  | 0 => 0
  | k + 1 => if g (P k) = 0 then cntP g P k else cntP g P k + 1
def sumP (g : Nat → Int32) (P : Nat → Nat) (xs : List Int32) : Nat → Int32
  | 0 => 0
  | k + 1 => if g (P k) = 0 then sumP g P xs k else sumP g P xs k + jrem (xs.getD (P k) 0) 100
theorem cntP_s : cntP g P (k + 1) = if g (P k) = 0 then cntP g P k else cntP g P k + 1 := rfl
theorem sumP_s : sumP g P xs (k + 1) = if g (P k) = 0 then sumP g P xs k else sumP g P xs k + jrem (xs.getD (P k) 0) 100 := rfl
theorem cntP_le (g : Nat → Int32) (P : Nat → Nat) : ∀ k, cntP g P k ≤ k := by
  intro k
  induction k with
  | zero => exact Nat.le_refl _
  | succ k ih =>
    rw [cntP_s]
    split <;> omega
theorem cntP_mono : ∀ (d k : Nat), cntP g P k ≤ cntP g P (k + d) := by
  intro d
  induction d with
  | zero => intro k; exact Nat.le_refl _
  | succ d ih =>
    intro k
    have := ih k
    rw [show k + (d + 1) = (k + d) + 1 by omega, cntP_s]
    split <;> omega
theorem cntP_cg : ∀ k, (∀ i, i < k → (g (P i) = 0 ↔ g' (P i) = 0)) → cntP g P k = cntP g' P k := by
  intro k
  induction k with
  | zero => intro _; rfl
  | succ k ih =>
    intro h
    have e := ih fun i hi => h i (by omega)
    have h0 := h k (by omega)
    rw [cntP_s, cntP_s, e]
    by_cases c : g (P k) = 0
    · rw [if_pos c, if_pos (h0.mp c)]
    · rw [if_neg c, if_neg (fun q => c (h0.mpr q))]
theorem sumP_cg : ∀ k, (∀ i, i < k → (g (P i) = 0 ↔ g' (P i) = 0)) → sumP g P xs k = sumP g' P xs k := by
  intro k
  induction k with
  | zero => intro _; rfl
  | succ k ih =>
    intro h
    have e := ih fun i hi => h i (by omega)
    have h0 := h k (by omega)
    rw [sumP_s, sumP_s, e]
    by_cases c : g (P k) = 0
    · rw [if_pos c, if_pos (h0.mp c)]
    · rw [if_neg c, if_neg (fun q => c (h0.mpr q))]
def ZZ (b : Int32) (g : Nat → Int32) (xs : List Int32) (k : Nat) : List Int32 := if b = 0 then KF g xs k else LG g xs (xs.length - k)
theorem zz_f : ZZ 0 g xs k = KF g xs k := if_pos rfl
theorem zz_l (hb : ¬ b = 0) : ZZ b g xs k = LG g xs (xs.length - k) := if_neg hb
theorem zz_0 : ZZ b g xs 0 = xs := by
  unfold ZZ
  split
  · exact KF_0
  · rw [Nat.sub_zero, LG_n]
theorem zz_n : ZZ b g xs xs.length = keepG g 0 xs := by
  unfold ZZ
  split
  · exact KF_n
  · rw [Nat.sub_self, LG_0]
theorem kf_cnt : ∀ k, k ≤ xs.length → (keepG g 0 (xs.take k)).length + cntP g (PP 0 xs.length) k = k := by
  intro k
  induction k with
  | zero => intro _; rw [List.take_zero]; rfl
  | succ k ih =>
    intro h
    obtain ⟨-, -, -, a4, a5⟩ := KF_s (g := g) (xs := xs) (k := k) (by omega)
    have := ih (by omega)
    rw [cntP_s, pp_0]
    by_cases c : g k = 0
    · rw [if_pos c, (a4 c).2]; omega
    · rw [if_neg c, (a5 c).2]; omega
theorem lg_len (hb : ¬ b = 0) : ∀ k, k ≤ xs.length → (LG g xs (xs.length - k)).length + cntP g (PP b xs.length) k = xs.length := by
  intro k
  induction k with
  | zero =>
    intro _
    rw [Nat.sub_zero, LG_n]
    rfl
  | succ k ih =>
    intro h
    obtain ⟨a1, a2, a3⟩ := LG_s (g := g) (xs := xs) (p := xs.length - 1 - k) (by omega)
    rw [show xs.length - 1 - k + 1 = xs.length - k by omega] at a1 a2 a3
    have := ih (by omega)
    rw [cntP_s, pp_1 hb, show xs.length - (k + 1) = xs.length - 1 - k by omega]
    by_cases c : g (xs.length - 1 - k) = 0
    · rw [if_pos c, a1 c]; exact this
    · rw [if_neg c, a2 c, delAt_len a3]; omega
theorem LG_get {p : Nat} (h : p < xs.length) : (LG g xs (p + 1)).getD p 0 = xs.getD p 0 := by
  have hA : (xs.take p).length = p := by rw [List.length_take]; omega
  have e : LG g xs (p + 1) = xs.take p ++ xs.getD p 0 :: keepG g (p + 1) (xs.drop (p + 1)) := by
    unfold LG
    rw [take_snoc h, List.append_assoc]
    rfl
  have d := get_mid (xs.take p) (xs.getD p 0) (keepG g (p + 1) (xs.drop (p + 1)))
  rw [hA] at d
  rw [e]; exact d
theorem zz_len (h : k ≤ xs.length) : (ZZ b g xs k).length + cntP g (PP b xs.length) k = xs.length := by
  by_cases hb : b = 0
  · subst hb
    have := kf_cnt (g := g) (xs := xs) k h
    rw [zz_f]
    unfold KF
    rw [List.length_append, List.length_drop]
    omega
  · rw [zz_l hb]; exact lg_len hb k h
theorem zz_s (h : k < xs.length) : ∃ q, q < (ZZ b g xs k).length ∧ (b = 0 → q + cntP g (PP b xs.length) k = k) ∧ (¬ b = 0 → q = xs.length - 1 - k) ∧ (ZZ b g xs k).getD q 0 = xs.getD (PP b xs.length k) 0 ∧ (g (PP b xs.length k) = 0 → ZZ b g xs (k + 1) = ZZ b g xs k) ∧ (¬ g (PP b xs.length k) = 0 → ZZ b g xs (k + 1) = delAt (ZZ b g xs k) q) := by
  by_cases hb : b = 0
  · subst hb
    obtain ⟨a1, a2, a3, a4, a5⟩ := KF_s (g := g) h
    have kc := kf_cnt (g := g) (xs := xs) k (by omega)
    refine ⟨(keepG g 0 (xs.take k)).length, ?_, fun _ => kc, fun c => absurd rfl c, ?_, fun c => ?_, fun c => ?_⟩
    · rw [zz_f]; exact a3
    · rw [zz_f, pp_0]; exact a2
    · rw [pp_0] at c
      rw [zz_f, zz_f]; exact (a4 c).1
    · rw [pp_0] at c
      rw [zz_f, zz_f]; exact (a5 c).1
  · obtain ⟨a1, a2, a3⟩ := LG_s (g := g) (xs := xs) (p := xs.length - 1 - k) (by omega)
    have a4 := LG_get (g := g) (xs := xs) (p := xs.length - 1 - k) (by omega)
    rw [show xs.length - 1 - k + 1 = xs.length - k by omega] at a1 a2 a3 a4
    refine ⟨xs.length - 1 - k, ?_, fun c => absurd c hb, fun _ => rfl, ?_, fun c => ?_, fun c => ?_⟩
    · rw [zz_l hb]; exact a3
    · rw [zz_l hb, pp_1 hb]; exact a4
    · rw [pp_1 hb] at c
      rw [zz_l hb, zz_l hb, show xs.length - (k + 1) = xs.length - 1 - k by omega]; exact a1 c
    · rw [pp_1 hb] at c
      rw [zz_l hb, zz_l hb, show xs.length - (k + 1) = xs.length - 1 - k by omega]; exact a2 c
theorem zz_stop : ∀ (d k : Nat), k + d = xs.length → (∀ i, k ≤ i → i < xs.length → g (PP b xs.length i) = 0) → ZZ b g xs k = keepG g 0 xs ∧ cntP g (PP b xs.length) k = cntP g (PP b xs.length) xs.length ∧ sumP g (PP b xs.length) xs k = sumP g (PP b xs.length) xs xs.length := by
  intro d
  induction d with
  | zero =>
    intro k hk _
    have e : k = xs.length := by omega
    subst e
    exact ⟨zz_n, rfl, rfl⟩
  | succ d ih =>
    intro k hk h
    have c := h k (by omega) (by omega)
    obtain ⟨q, -, -, -, -, a5, -⟩ := zz_s (b := b) (g := g) (xs := xs) (k := k) (by omega)
    obtain ⟨i1, i2, i3⟩ := ih (k + 1) (by omega) fun i h1 h2 => h i (by omega) h2
    rw [a5 c] at i1
    rw [cntP_s, if_pos c] at i2
    rw [sumP_s, if_pos c] at i3
    exact ⟨i1, i2, i3⟩
end L3U
/-! remainders, by numbers -/
theorem jrem_e {x : Int32} {b : Nat} (hb : 0 < b) (hb2 : b < 2147483648) (h : 0 ≤ x) : (jrem x (nI b)).toInt = x.toInt % (b : Int) := by
  have h0 : 0 ≤ x.toInt := Int32.le_iff_toInt_le.mp h
  have h1 := nI_toInt (n := b) (by omega)
  have h2 := div_b hb hb2 h
  have h3 := x.toInt_lt
  have hd : (x.toInt / (b : Int)) * b ≤ x.toInt := Int.ediv_mul_le _ (by omega)
  have hd0 : 0 ≤ x.toInt / (b : Int) := Int.ediv_nonneg h0 (by omega)
  have hd1 : 0 ≤ (x.toInt / (b : Int)) * b := Int.mul_nonneg hd0 (by omega)
  have hm := Int.emod_def x.toInt (b : Int)
  have hc : (b : Int) * (x.toInt / (b : Int)) = (x.toInt / (b : Int)) * b := Int.mul_comm _ _
  unfold jrem
  rw [Int32.toInt_sub, Int32.toInt_mul, h2, h1, Int.bmod_eq_of_le (n := x.toInt / (b : Int) * b) (by omega) (by omega), Int.bmod_eq_of_le (by omega) (by omega)]
  omega
theorem jremN {a b : Nat} (hb : 0 < b) (hb2 : b < 2147483648) (ha : a < 2147483648) : jrem (nI a) (nI b) = nI (a % b) := by
  apply Int32.toInt_inj.mp
  have hlt : a % b < b := Nat.mod_lt _ hb
  rw [jrem_e hb hb2 (nI_bnd (b := a) (Nat.le_refl _) ha).1, nI_toInt (by omega), nI_toInt (by omega)]
  rfl
