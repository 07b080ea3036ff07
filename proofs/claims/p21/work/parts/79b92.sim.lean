/-! level 3: what the states have in common; pieces come and go, slips -/
def grw (v : Int32) : Int32 := if v = 0 then 0 else 2
def VT (v : Int32) : Prop := v = 0 ∨ (100 ≤ v ∧ v ≤ 999)
def SV (s : Int32) : Prop := (0 ≤ s ∧ s ≤ 7999) ∧ VT (jrem s 1000) ∧ (s / 4000 = 0 → ¬ jrem s 1000 = 0)
def VC (τ : MS) : Prop := (∀ v ∈ τ.1 0, VT v ∧ ¬ v = 0) ∧ (∀ v ∈ τ.1 1, VT v) ∧ (∀ s ∈ τ.1 2, SV s) ∧ ∀ o ∈ τ.1 3, 0 ≤ o ∧ o ≤ 7
def WRel (on fb nx hd w n h : Int32) : Prop := (on = 0 ∧ w = 0 ∧ hd = -1 ∧ h = -1) ∨ (on = 1 ∧ (fb = 0 ∧ w = 1 ∨ fb = 1 ∧ w = 2) ∧ nx = n ∧ hd = h ∧ (w = 1 → h ≠ -1 → n = h + 1))
def WR (σ : CS) (τ : MS) : Prop := WRel (σ.2 1) (σ.2 2) (σ.2 3) (σ.2 4) (τ.2 1) (τ.2 2) (τ.2 3)
def RY (σ : CS) (τ : MS) : Prop := (∀ i, i < 4 → RW i (σ.1 i) (τ.1 i)) ∧ (∀ q, 5 ≤ q → q ≤ 10 → σ.2 q = τ.2 q) ∧ σ.2 0 = τ.2 4 ∧ VC τ
def RX (σ : CS) (τ : MS) : Prop := RY σ τ ∧ WR σ τ
theorem scU_i {g w : Nat → Int32} {b n q : Nat} (h : b ≤ q ∧ q < b + n) : scUp g b n w q = w (q - b) := by
  show (if b ≤ q ∧ q < b + n then w (q - b) else g q) = _
  rw [if_pos h]
theorem scU_o {g w : Nat → Int32} {b n q : Nat} (h : ¬ (b ≤ q ∧ q < b + n)) : scUp g b n w q = g q := by
  show (if b ≤ q ∧ q < b + n then w (q - b) else g q) = _
  rw [if_neg h]
section L3A
variable {σ : CS} {τ : MS}
theorem RY.row (h : RY σ τ) {i : Nat} (hi : i < 4) : RW i (σ.1 i) (τ.1 i) := h.1 i hi
theorem RX.row (h : RX σ τ) {i : Nat} (hi : i < 4) : RW i (σ.1 i) (τ.1 i) := h.1.1 i hi
/-- a row and its list anew -/
theorem RY.up (h : RY σ τ) {i : Nat} (hi : i < 4) {ρ : RS} {xs : List Int32} (hr : RW i ρ xs) (hv : VC (va_up τ.1 i xs, τ.2)) : RY (va_up σ.1 i ρ, σ.2) (va_up τ.1 i xs, τ.2) := by
  refine ⟨fun j hj => ?_, h.2.1, h.2.2.1, hv⟩
  by_cases e : j = i
  · subst e
    show RW j (va_up σ.1 j ρ j) (va_up τ.1 j xs j)
    rw [up_eq, up_eq]; exact hr
  · show RW j (va_up σ.1 i ρ j) (va_up τ.1 i xs j)
    rw [up_ne e, up_ne e]; exact h.1 j hj
theorem RX.up (h : RX σ τ) {i : Nat} (hi : i < 4) {ρ : RS} {xs : List Int32} (hr : RW i ρ xs) (hv : VC (va_up τ.1 i xs, τ.2)) : RX (va_up σ.1 i ρ, σ.2) (va_up τ.1 i xs, τ.2) := ⟨h.1.up hi hr hv, h.2⟩
/-- states that look alike -/
theorem RY.cg {σ' : CS} {τ' : MS} (h : RY σ τ) (e1 : ∀ i, i < 4 → σ'.1 i = σ.1 i) (e2 : τ'.1 = τ.1) (e3 : ∀ q, 5 ≤ q → q ≤ 10 → σ'.2 q = τ'.2 q) (e4 : σ'.2 0 = τ'.2 4) : RY σ' τ' := by
  refine ⟨fun i hi => ?_, e3, e4, ?_⟩
  · rw [e1 i hi, e2]; exact h.1 i hi
  · unfold VC
    rw [e2]; exact h.2.2.2
theorem RX.th (h : RX σ τ) {s : MS} (e : s.1 = τ.1) (e2 : ∀ j, j ≠ 0 → s.2 j = τ.2 j) : RX σ s := by
  refine ⟨h.1.cg (fun _ _ => rfl) e (fun q h1 h2 => ?_) ?_, ?_⟩
  · rw [e2 q (by omega)]; exact h.1.2.1 q h1 h2
  · rw [e2 4 (by omega)]; exact h.1.2.2.1
  · unfold WR
    rw [e2 1 (by omega), e2 2 (by omega), e2 3 (by omega)]; exact h.2
/-! members of lists -/
theorem mem_ins {xs : List Int32} {j : Nat} {v w : Int32} (h : w ∈ insAt xs j v) : w ∈ xs ∨ w = v := by
  unfold insAt at h
  rcases List.mem_append.mp h with q | q
  · exact Or.inl (List.mem_of_mem_take q)
  · rcases List.mem_cons.mp q with q | q
    · exact Or.inr q
    · exact Or.inl (List.mem_of_mem_drop q)
theorem mem_del {xs : List Int32} {j : Nat} {w : Int32} (h : w ∈ delAt xs j) : w ∈ xs := by
  unfold delAt at h
  rcases List.mem_append.mp h with q | q
  · exact List.mem_of_mem_take q
  · exact List.mem_of_mem_drop q
theorem mem_getD {xs : List Int32} {j : Nat} (h : j < xs.length) : xs.getD j 0 ∈ xs := by
  rw [List.getD_eq_getElem?_getD, List.getElem?_eq_getElem h]
  exact List.getElem_mem h
/-- what may lie on track j -/
def TV (j : Nat) (v : Int32) : Prop := VT v ∧ (j = 0 → ¬ v = 0)
theorem VC.tv (h : VC τ) {j : Nat} (hj : j < 2) {v : Int32} (hv : v ∈ τ.1 j) : TV j v := by
  rcases (by omega : j = 0 ∨ j = 1) with e | e <;> subst e
  · exact ⟨(h.1 v hv).1, fun _ => (h.1 v hv).2⟩
  · exact ⟨h.2.1 v hv, fun e => absurd e (by omega)⟩
theorem VC.track (h : VC τ) {j : Nat} (hj : j < 2) {xs : List Int32} (hx : ∀ v ∈ xs, TV j v) : VC (va_up τ.1 j xs, τ.2) := by
  rcases (by omega : j = 0 ∨ j = 1) with e | e <;> subst e
  · refine ⟨?_, ?_, ?_, ?_⟩
    · show ∀ v ∈ va_up τ.1 0 xs 0, VT v ∧ ¬ v = 0
      rw [up_eq]; exact fun v hv => ⟨(hx v hv).1, (hx v hv).2 rfl⟩
    · show ∀ v ∈ va_up τ.1 0 xs 1, VT v
      rw [up_ne (by omega)]; exact h.2.1
    · show ∀ v ∈ va_up τ.1 0 xs 2, SV v
      rw [up_ne (by omega)]; exact h.2.2.1
    · show ∀ v ∈ va_up τ.1 0 xs 3, 0 ≤ v ∧ v ≤ 7
      rw [up_ne (by omega)]; exact h.2.2.2
  · refine ⟨?_, ?_, ?_, ?_⟩
    · show ∀ v ∈ va_up τ.1 1 xs 0, VT v ∧ ¬ v = 0
      rw [up_ne (by omega)]; exact h.1
    · show ∀ v ∈ va_up τ.1 1 xs 1, VT v
      rw [up_eq]; exact fun v hv => (hx v hv).1
    · show ∀ v ∈ va_up τ.1 1 xs 2, SV v
      rw [up_ne (by omega)]; exact h.2.2.1
    · show ∀ v ∈ va_up τ.1 1 xs 3, 0 ≤ v ∧ v ≤ 7
      rw [up_ne (by omega)]; exact h.2.2.2
theorem VC.slips (h : VC τ) {xs : List Int32} (hx : ∀ v ∈ xs, SV v) : VC (va_up τ.1 2 xs, τ.2) := by
  refine ⟨?_, ?_, ?_, ?_⟩
  · show ∀ v ∈ va_up τ.1 2 xs 0, VT v ∧ ¬ v = 0
    rw [up_ne (by omega)]; exact h.1
  · show ∀ v ∈ va_up τ.1 2 xs 1, VT v
    rw [up_ne (by omega)]; exact h.2.1
  · show ∀ v ∈ va_up τ.1 2 xs 2, SV v
    rw [up_eq]; exact hx
  · show ∀ v ∈ va_up τ.1 2 xs 3, 0 ≤ v ∧ v ≤ 7
    rw [up_ne (by omega)]; exact h.2.2.2
theorem VC.orders (h : VC τ) {xs : List Int32} (hx : ∀ v ∈ xs, 0 ≤ v ∧ v ≤ 7) : VC (va_up τ.1 3 xs, τ.2) := by
  refine ⟨?_, ?_, ?_, ?_⟩
  · show ∀ v ∈ va_up τ.1 3 xs 0, VT v ∧ ¬ v = 0
    rw [up_ne (by omega)]; exact h.1
  · show ∀ v ∈ va_up τ.1 3 xs 1, VT v
    rw [up_ne (by omega)]; exact h.2.1
  · show ∀ v ∈ va_up τ.1 3 xs 2, SV v
    rw [up_ne (by omega)]; exact h.2.2.1
  · show ∀ v ∈ va_up τ.1 3 xs 3, 0 ≤ v ∧ v ≤ 7
    rw [up_eq]; exact hx
theorem VC.ins (h : VC τ) {j i : Nat} (hj : j < 2) {v : Int32} (hv : TV j v) : VC (va_up τ.1 j (insAt (τ.1 j) i v), τ.2) := h.track hj fun w hw => by
  rcases mem_ins hw with q | q
  · exact h.tv hj q
  · rw [q]; exact hv
theorem VC.del (h : VC τ) {j i : Nat} (hj : j < 2) : VC (va_up τ.1 j (delAt (τ.1 j) i), τ.2) := h.track hj fun w hw => h.tv hj (mem_del hw)
theorem VC.set (h : VC τ) {j i : Nat} (hj : j < 2) {v : Int32} (hv : TV j v) : VC (va_up τ.1 j ((τ.1 j).set i v), τ.2) := h.track hj fun w hw => by
  rcases List.mem_or_eq_of_mem_set hw with q | q
  · exact h.tv hj q
  · rw [q]; exact hv
/-! the class: what a track that changed brings about -/
theorem cl_grow (ω : Nat → Int32) : ∃ w, f_X2_growStale ω = some w ∧ w 0 = grw (ω 0) ∧ ∀ q, q ≠ 0 → w q = ω q := by
  unfold f_X2_growStale grw
  by_cases c : ω 0 = 0
  · rw [if_pos c, if_pos c]
    exact ⟨ω, rfl, c, fun _ _ => rfl⟩
  · rw [if_neg c, if_neg c]
    exact ⟨va_up ω 0 2, rfl, up_eq, fun q hq => up_ne hq⟩
theorem cl_ker {w : Nat → Int32} {b : Nat} (hw : w 0 = grw (σ.2 b)) (ho : ∀ q, q ≠ 0 → w q = σ.2 (b + q)) : (σ.1, scUp σ.2 b 3 w).2 b = grw (σ.2 b) ∧ ∀ q, q ≠ b → (σ.1, scUp σ.2 b 3 w).2 q = σ.2 q := by
  refine ⟨?_, fun q hq => ?_⟩
  · show scUp σ.2 b 3 w b = _
    rw [scU_i (by omega), Nat.sub_self]; exact hw
  · show scUp σ.2 b 3 w q = _
    by_cases c : b ≤ q ∧ q < b + 3
    · rw [scU_i c, ho _ (by omega), show b + (q - b) = q by omega]
    · rw [scU_o c]
theorem cl_disturb (x : Int32) : Ok (f_X3_disturb σ x) fun r => r.1 = σ.1 ∧ (x = 0 → r.2 1 = 0 ∧ r.2 4 = -1 ∧ ∀ q, q ≠ 1 → q ≠ 4 → r.2 q = σ.2 q) ∧ (¬ x = 0 → r.2 5 = grw (σ.2 5) ∧ r.2 8 = grw (σ.2 8) ∧ ∀ q, q ≠ 5 → q ≠ 8 → r.2 q = σ.2 q) := by
  unfold f_X3_disturb
  refine ok_if (fun c => ?_) fun c => ?_
  · refine ok_ev (v := va_up (va_up (fun k => σ.2 (1 + k)) 0 0) 3 (-1)) rfl (ok_nme fun t ht => ok_some ?_)
    subst ht
    refine ⟨rfl, fun _ => ⟨?_, ?_, fun q h1 h4 => ?_⟩, fun h => absurd c h⟩
    · show scUp σ.2 1 4 (va_up (va_up (fun k => σ.2 (1 + k)) 0 0) 3 (-1)) 1 = 0
      rw [scU_i (by omega)]; rfl
    · show scUp σ.2 1 4 (va_up (va_up (fun k => σ.2 (1 + k)) 0 0) 3 (-1)) 4 = -1
      rw [scU_i (by omega)]; rfl
    · show scUp σ.2 1 4 _ q = _
      by_cases d : 1 ≤ q ∧ q < 1 + 4
      · rw [scU_i d, up_ne (by omega), up_ne (by omega), show 1 + (q - 1) = q by omega]
      · rw [scU_o d]
  · obtain ⟨w, e, w0, wq⟩ := cl_grow (fun k => σ.2 (5 + 3 * 0 + k))
    refine ok_ev e (ok_nme fun t ht => ?_)
    obtain ⟨t5, tq⟩ := cl_ker (σ := σ) (b := 5) w0 wq
    have t1 : t.1 = σ.1 := by rw [ht]
    have t5 : t.2 5 = grw (σ.2 5) := by rw [ht]; exact t5
    have tq : ∀ q, q ≠ 5 → t.2 q = σ.2 q := fun q hq => by rw [ht]; exact tq q hq
    clear ht
    obtain ⟨w', e', w0', wq'⟩ := cl_grow (fun k => t.2 (5 + 3 * 1 + k))
    refine ok_ev e' (ok_nme fun t2 ht2 => ok_some ?_)
    obtain ⟨u8, uq⟩ := cl_ker (σ := t) (b := 8) w0' wq'
    subst ht2
    refine ⟨t1, fun h => absurd h c, fun _ => ⟨?_, ?_, fun q h5 h8 => ?_⟩⟩
    · exact (uq 5 (by omega)).trans t5
    · refine u8.trans ?_
      rw [tq 8 (by omega)]
    · exact (uq q h8).trans (tq q h5)
/-! the model: the same -/
theorem mo_chg0 (x2 : Int32) : ∃ r, f_X6_changed τ 0 x2 = some r ∧ r.1 = τ.1 ∧ r.2 1 = 0 ∧ r.2 2 = 0 ∧ r.2 3 = -1 ∧ ∀ q, q ≠ 1 → q ≠ 2 → q ≠ 3 → r.2 q = τ.2 q := by
  refine ⟨(τ.1, va_up (va_up (va_up τ.2 1 0) 2 0) 3 (-1)), rfl, rfl, ?_, ?_, ?_, fun q h1 h2 h3 => ?_⟩
  · show va_up (va_up (va_up τ.2 1 0) 2 0) 3 (-1) 1 = 0
    rw [up_ne (by omega), up_ne (by omega), up_eq]
  · show va_up (va_up (va_up τ.2 1 0) 2 0) 3 (-1) 2 = 0
    rw [up_ne (by omega), up_eq]
  · show va_up (va_up (va_up τ.2 1 0) 2 0) 3 (-1) 3 = -1
    rw [up_eq]
  · show va_up (va_up (va_up τ.2 1 0) 2 0) 3 (-1) q = _
    rw [up_ne h3, up_ne h2, up_ne h1]
theorem mo_chg1 (x2 : Int32) : ∃ r, f_X6_changed τ 1 x2 = some r ∧ r.1 = τ.1 ∧ r.2 5 = (if x2 = 0 then τ.2 5 else grw (τ.2 5)) ∧ r.2 8 = (if x2 = 1 then τ.2 8 else grw (τ.2 8)) ∧ ∀ q, q ≠ 5 → q ≠ 8 → r.2 q = τ.2 q := by
  have key : Ok (f_X6_changed τ 1 x2) fun r => r.1 = τ.1 ∧ r.2 5 = (if x2 = 0 then τ.2 5 else grw (τ.2 5)) ∧ r.2 8 = (if x2 = 1 then τ.2 8 else grw (τ.2 8)) ∧ ∀ q, q ≠ 5 → q ≠ 8 → r.2 q = τ.2 q := by
    unfold f_X6_changed
    refine ok_f (by decide) (up24 (fun m t => t.1.1 = τ.1 ∧ t.2.1 = x2 ∧ t.2.2 = nI m ∧ t.1.2 5 = (if 1 ≤ m ∧ ¬ x2 = 0 then grw (τ.2 5) else τ.2 5) ∧ t.1.2 8 = (if 2 ≤ m ∧ ¬ x2 = 1 then grw (τ.2 8) else τ.2 8) ∧ ∀ q, q ≠ 5 → q ≠ 8 → t.1.2 q = τ.2 q) 2 (by omega) ?_ ⟨rfl, rfl, rfl, rfl, rfl, fun _ _ _ => rfl⟩)
    rintro kk ⟨t, v2, v3⟩ m hm ⟨a1, a2, a3, a4, a5, a6⟩ hk
    dsimp only at a1 a2 a3 a4 a5 a6
    subst a2 a3
    unfold f_X6_changed_22
    dsimp only
    rcases (by omega : m = 0 ∨ m = 1 ∨ m = 2) with e | e | e <;> subst e
    · refine ok_f (by decide) (ok_if (fun c => ?_) fun c => ?_)
      · have c : v2 = 0 := c.symm
        unfold f_X6_changed_54
        refine ok_nme fun y hy => hk _ (by omega) ⟨a1, rfl, by rw [hy]; rfl, ?_, ?_, a6⟩
        · show t.2 5 = _
          rw [a4, if_neg (by omega), if_neg (fun h => h.2 c)]
        · show t.2 8 = _
          rw [a5, if_neg (by omega), if_neg (by omega)]
      · have c : ¬ v2 = 0 := fun h => c h.symm
        refine ok_ev (v := 0) rfl (ok_if (fun d => ?_) fun d => ok_ev (v := 0) rfl (ok_nme fun t2 ht2 => ?_))
        · have d : t.2 5 = 0 := d
          unfold f_X6_changed_54
          refine ok_nme fun y hy => hk _ (by omega) ⟨a1, rfl, by rw [hy]; rfl, ?_, ?_, a6⟩
          · show t.2 5 = _
            rw [if_pos ⟨by omega, c⟩]
            rw [if_neg (by omega)] at a4
            rw [← a4, d]; rfl
          · show t.2 8 = _
            rw [a5, if_neg (by omega), if_neg (by omega)]
        · have d : ¬ t.2 5 = 0 := d
          obtain ⟨l2, e2, n2⟩ := up_sc ht2
          unfold f_X6_changed_54
          refine ok_nme fun y hy => hk _ (by omega) ⟨l2.trans a1, rfl, by rw [hy]; rfl, ?_, ?_, fun q h5 h8 => ?_⟩
          · show t2.2 5 = _
            rw [if_pos ⟨by omega, c⟩]
            rw [if_neg (by omega)] at a4
            rw [← a4]
            unfold grw
            rw [if_neg d]; exact e2
          · show t2.2 8 = _
            rw [n2 8 (by omega), a5, if_neg (by omega), if_neg (by omega)]
          · show t2.2 q = _
            rw [n2 q (by omega)]; exact a6 q h5 h8
    · refine ok_f (by decide) (ok_if (fun c => ?_) fun c => ?_)
      · have c : v2 = 1 := c.symm
        unfold f_X6_changed_54
        refine ok_nme fun y hy => hk _ (by omega) ⟨a1, rfl, by rw [hy]; rfl, ?_, ?_, a6⟩
        · show t.2 5 = _
          rw [a4, if_pos ⟨by omega, by rw [c]; decide⟩, if_pos ⟨by omega, by rw [c]; decide⟩]
        · show t.2 8 = _
          rw [a5, if_neg (by omega), if_neg (fun h => h.2 c)]
      · have c : ¬ v2 = 1 := fun h => c h.symm
        refine ok_ev (v := 1) rfl (ok_if (fun d => ?_) fun d => ok_ev (v := 1) rfl (ok_nme fun t2 ht2 => ?_))
        · have d : t.2 8 = 0 := d
          unfold f_X6_changed_54
          refine ok_nme fun y hy => hk _ (by omega) ⟨a1, rfl, by rw [hy]; rfl, ?_, ?_, a6⟩
          · show t.2 5 = _
            rw [a4]
            by_cases g : v2 = 0
            · rw [if_neg (fun h => h.2 g), if_neg (fun h => h.2 g)]
            · rw [if_pos ⟨by omega, g⟩, if_pos ⟨by omega, g⟩]
          · show t.2 8 = _
            rw [if_pos ⟨by omega, c⟩]
            rw [if_neg (by omega)] at a5
            rw [← a5, d]; rfl
        · have d : ¬ t.2 8 = 0 := d
          obtain ⟨l2, e2, n2⟩ := up_sc ht2
          unfold f_X6_changed_54
          refine ok_nme fun y hy => hk _ (by omega) ⟨l2.trans a1, rfl, by rw [hy]; rfl, ?_, ?_, fun q h5 h8 => ?_⟩
          · show t2.2 5 = _
            rw [n2 5 (by omega), a4]
            by_cases g : v2 = 0
            · rw [if_neg (fun h => h.2 g), if_neg (fun h => h.2 g)]
            · rw [if_pos ⟨by omega, g⟩, if_pos ⟨by omega, g⟩]
          · show t2.2 8 = _
            rw [if_pos ⟨by omega, c⟩]
            rw [if_neg (by omega)] at a5
            rw [← a5]
            unfold grw
            rw [if_neg d]; exact e2
          · show t2.2 q = _
            rw [n2 q (by omega)]; exact a6 q h5 h8
    · refine ok_t (by decide) (ok_some ⟨a1, ?_, ?_, a6⟩)
      · rw [a4]
        by_cases g : v2 = 0
        · rw [if_neg (fun h => h.2 g), if_pos g]
        · rw [if_pos ⟨by omega, g⟩, if_neg g]
      · rw [a5]
        by_cases g : v2 = 1
        · rw [if_neg (fun h => h.2 g), if_pos g]
        · rw [if_pos ⟨by omega, g⟩, if_neg g]
  exact key
/-- a change of track j: what of the scalars is told anew, on both sides -/
def DS (j : Nat) (σ : CS) (r : CS) : Prop := r.1 = σ.1 ∧ (j = 0 → r.2 1 = 0 ∧ r.2 4 = -1 ∧ ∀ q, q ≠ 1 → q ≠ 4 → r.2 q = σ.2 q) ∧ (j = 1 → r.2 5 = grw (σ.2 5) ∧ r.2 8 = grw (σ.2 8) ∧ ∀ q, q ≠ 5 → q ≠ 8 → r.2 q = σ.2 q)
def DM (j : Nat) (τ : MS) (r : MS) : Prop := r.1 = τ.1 ∧ (j = 0 → r.2 1 = 0 ∧ r.2 2 = 0 ∧ r.2 3 = -1 ∧ ∀ q, q ≠ 1 → q ≠ 2 → q ≠ 3 → r.2 q = τ.2 q) ∧ (j = 1 → r.2 5 = grw (τ.2 5) ∧ r.2 8 = grw (τ.2 8) ∧ ∀ q, q ≠ 5 → q ≠ 8 → r.2 q = τ.2 q)
theorem cl_dist {x : Int32} {j : Nat} (hx : x = 0 ∧ j = 0 ∨ x = 1 ∧ j = 1) : Ok (f_X3_disturb σ x) (DS j σ) := by
  refine ok_mono (cl_disturb x) fun r h => ⟨h.1, fun e => ?_, fun e => ?_⟩
  · rcases hx with ⟨a, b⟩ | ⟨a, b⟩
    · exact h.2.1 a
    · omega
  · rcases hx with ⟨a, b⟩ | ⟨a, b⟩
    · omega
    · exact h.2.2 (by rw [a]; decide)
theorem mo_chg {x : Int32} {j : Nat} (hx : x = 0 ∧ j = 0 ∨ x = 1 ∧ j = 1) : Ok (f_X6_changed τ x (-1)) (DM j τ) := by
  rcases hx with ⟨a, b⟩ | ⟨a, b⟩ <;> subst a b
  · obtain ⟨r, e, h1, h2, h3, h4, h5⟩ := mo_chg0 (τ := τ) (-1)
    exact ⟨r, e, h1, fun _ => ⟨h2, h3, h4, h5⟩, fun e => absurd e (by omega)⟩
  · obtain ⟨r, e, h1, h2, h3, h4⟩ := mo_chg1 (τ := τ) (-1)
    rw [if_neg (by decide)] at h2 h3
    exact ⟨r, e, h1, fun e => absurd e (by omega), fun _ => ⟨h2, h3, h4⟩⟩
theorem RY.dist {r : CS} {r2 : MS} (h : RY σ τ) {j : Nat} (hj : j < 2) (hw : j = 1 → WR σ τ) (h1 : DS j σ r) (h2 : DM j τ r2) : RX r r2 := by
  rcases (by omega : j = 0 ∨ j = 1) with e | e <;> subst e
  · obtain ⟨a1, a2, -⟩ := h1
    obtain ⟨b1, b2, -⟩ := h2
    obtain ⟨a2, a3, a4⟩ := a2 rfl
    obtain ⟨b2, b3, b4, b5⟩ := b2 rfl
    refine ⟨h.cg (fun i _ => by rw [a1]) b1 (fun q p1 p2 => ?_) ?_, ?_⟩
    · rw [a4 q (by omega) (by omega), b5 q (by omega) (by omega) (by omega)]; exact h.2.1 q p1 p2
    · rw [a4 0 (by omega) (by omega), b5 4 (by omega) (by omega) (by omega)]; exact h.2.2.1
    · unfold WR
      rw [a2, a3, b2, b4]
      exact Or.inl ⟨rfl, rfl, rfl, rfl⟩
  · obtain ⟨a1, -, a2⟩ := h1
    obtain ⟨b1, -, b2⟩ := h2
    obtain ⟨a2, a3, a4⟩ := a2 rfl
    obtain ⟨b2, b3, b5⟩ := b2 rfl
    have hw := hw rfl
    refine ⟨h.cg (fun i _ => by rw [a1]) b1 (fun q p1 p2 => ?_) ?_, ?_⟩
    · by_cases e5 : q = 5
      · rw [e5, a2, b2, h.2.1 5 (by omega) (by omega)]
      · by_cases e8 : q = 8
        · rw [e8, a3, b3, h.2.1 8 (by omega) (by omega)]
        · rw [a4 q e5 e8, b5 q e5 e8]; exact h.2.1 q p1 p2
    · rw [a4 0 (by omega) (by omega), b5 4 (by omega) (by omega)]; exact h.2.2.1
    · unfold WR
      rw [a4 1 (by omega) (by omega), a4 2 (by omega) (by omega), a4 3 (by omega) (by omega), a4 4 (by omega) (by omega), b5 1 (by omega) (by omega), b5 2 (by omega) (by omega), b5 3 (by omega) (by omega)]
      exact hw
theorem trackOf_ok {x : Int32} {j : Nat} (hx : x = 0 ∧ j = 0 ∨ x = 1 ∧ j = 1) : f_X3_trackOf σ x = some j := by
  rcases hx with ⟨a, b⟩ | ⟨a, b⟩ <;> subst a b <;> rfl
/-! slips -/
def slipNo (x b p c : Int32) : Int32 := 1000 * (4 * x + (if b = 0 then 0 else 2) + (if p = 0 then 0 else 1)) + c
theorem cl_slipOf (x b p c : Int32) : f_X3_slipOf x b p c = some (slipNo x b p c) := by
  unfold f_X3_slipOf f_X3_slipOf_15 f_X3_slipOf_25 slipNo
  by_cases h1 : b = 0 <;> by_cases h2 : p = 0 <;> simp only [if_pos, if_neg, h1, h2, not_false_eq_true, if_true, if_false]
theorem mo_one (x : Int32) : f_X6_one x = some (if x = 0 then 0 else 1) := by
  unfold f_X6_one
  split <;> rfl
def slipL (xs : List Int32) (n : Int32) : List Int32 := (if xs.length = 12 then delAt xs 0 else xs) ++ [n]
theorem mo_slip (hl : (τ.1 2).length ≤ 12) (x b p c : Int32) : f_X6_slip τ x b p c = some (va_up τ.1 2 (slipL (τ.1 2) (slipNo x b p c)), τ.2) := by
  have e2 : ∀ b : Int32, 2 * (if b = 0 then (0 : Int32) else 1) = if b = 0 then 0 else 2 := by
    intro b
    split <;> rfl
  have main : ∀ t : MS, (t.1 2).length ≤ 12 → f_X6_slip_21 t x b p c = some (va_up t.1 2 (t.1 2 ++ [slipNo x b p c]), t.2) := by
    intro t ht
    unfold f_X6_slip_21
    rw [mo_one, mo_one]
    show (ladd (t.1 2) _).bind _ = _
    unfold ladd
    rw [if_neg (by omega), e2]
    rfl
  unfold f_X6_slip slipL
  by_cases q : (τ.1 2).length = 12
  · rw [if_pos (by rw [q]; rfl), if_pos q]
    have hd : ldel (τ.1 2) 0 = some (delAt (τ.1 2) 0) := ldelN (i := 0) (by omega) (by omega)
    rw [hd]
    show f_X6_slip_21 (va_up τ.1 2 (delAt (τ.1 2) 0), τ.2) x b p c = _
    rw [main _ (by rw [l_eq, delAt_len (by omega)]; omega), l_eq]
    show some (va_up (va_up τ.1 2 (delAt (τ.1 2) 0)) 2 _, τ.2) = _
    congr 2
    funext i
    by_cases e : i = 2
    · subst e; rw [up_eq, up_eq]
    · rw [up_ne e, up_ne e, up_ne e]
  · have q2 : ¬ nI (τ.1 2).length = 12 := fun h => q ((nI_eqi (b := 12) (by omega) (by omega)).mp h)
    rw [if_neg q2, if_neg q]
    exact main τ hl
theorem cl_laySlip {xs : List Int32} (h : RW 2 (σ.1 2) xs) (n : Int32) : Ok (f_X3_laySlip σ n) fun r => r.2 = σ.2 ∧ RW 2 (r.1 2) (slipL xs n) ∧ ∀ i, i ≠ 2 → r.1 i = σ.1 i := by
  have hc : cap 2 = 12 := rfl
  have hl := h.2.1
  have main : ∀ (s : CS) (ys : List Int32), RW 2 (s.1 2) ys → ys.length < 12 → Ok (f_X3_laySlip_19 s n) fun r => r.2 = s.2 ∧ RW 2 (r.1 2) (ys ++ [n]) ∧ ∀ i, i ≠ 2 → r.1 i = s.1 i := by
    intro s ys hs hy
    unfold f_X3_laySlip_19
    refine ok_bind (rw_enterLast hs (v := n) (by rw [hc]; exact hy)) fun z hz => ok_nme fun t ht => ok_some ?_
    subst ht
    refine ⟨rfl, ?_, fun i hi => up_ne hi⟩
    show RW 2 (va_up s.1 2 z 2) _
    rw [up_eq]; exact hz
  unfold f_X3_laySlip slipL
  refine ok_ev (rw_isFull h) ?_
  by_cases q : xs.length < cap 2
  · rw [if_pos q, if_neg (show ¬ xs.length = 12 by omega)]
    exact ok_t rfl (main σ xs h (by omega))
  · rw [if_neg q, if_pos (show xs.length = 12 by omega)]
    refine ok_f (by decide) (ok_bind (rw_leave h (j := 0) (by omega)) fun z hz => ok_nme fun t ht => ?_)
    have t2 : t.1 2 = z.2 := by rw [ht]; show va_up σ.1 2 z.2 2 = _; exact up_eq
    refine ok_mono (main t (delAt xs 0) (by rw [t2]; exact hz.2) (by rw [delAt_len (by omega)]; omega)) fun r hr => ?_
    refine ⟨hr.1.trans (by rw [ht]), hr.2.1, fun i hi => (hr.2.2 i hi).trans ?_⟩
    rw [ht]; exact up_ne hi
end L3A
