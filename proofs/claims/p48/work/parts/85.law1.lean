/-! THE CLAIM OUT OF ONE WALK OF THE LAW'S BODY. Your part is whole_start (and what it stands on); all else here is the same for every law, but numbers. -/
def R_law : String := "TwoendsLaw"
def lw_P (b : Addr) (xs : List Int32) (args : Array Value) (s : State) : Prop := args = #[.ref b] ∧ s.IntsAt b xs ∧ xs.length ≤ 2560 ∧ (Jvm.Cond.and given_1 narrow_1).before args s = true
def lw_Q (_ : Array Value) (s : State) (o : Outcome) (t : State) : Prop := o = .returned (some (.int 1)) ∧ Framed s o t [] 697565 7003408
def lw_Z (below : List Frame) (a : Array Value) (s : State) : State → Prop := fun t => ∃ o, t.status = .running ∧ Ended t below o ∧ lw_Q a s o t
/-- the law's own end, with 1 on the stack, nothing written that was there before, its room as the claim has it -/
theorem lw_ret {p : Program} {l : Launch} {e : Env} {s : State} {m : MethodId} {below : List Frame} {meth : Method} {c : Code} {b : Nat} (hx : p.tables.exec = Jvm.exec) (hb : c.code = code) (hr : meth.sig.returnType = ret) (hlocks : meth.locks = false) {pc : Nat} {H : Heap} {ls : Array Slot} (hdg : decode code pc = .ok (.ireturn, 1)) : W p l e room_1 s m #[Value.ref b] below meth c H [] 697565 7003408 (lw_Z below #[Value.ref b] s) (F0 m pc ls [.int 1]) := by
  intro T hT X
  obtain ⟨fs, hret, hrun, hended, hW, hframe⟩ := X.leave (v := some (.int 1)) (hlocks := hlocks) (fun h => by rw [hr] at h; cases h)
  have hmeth' : T.vm.method? m = some meth := X.method'
  refine ⟨T.setFrames fs, ?_, .returned (some (.int 1)), hrun, hended, rfl, ⟨_, rfl⟩, hW, hframe⟩
  jvm_step X.here [X.here.top, hx, hb, hdg, hmeth', hr, ret, narrow_b1]
  (try refine ⟨rfl, ?_⟩); (try refine ⟨rfl, ?_⟩)
  first | (intro acts; rw [hret _ acts rfl rfl rfl]) | rw [hret _ _ rfl rfl rfl]
  exact Steps.refl _
/-- what holds at the law's entry: the machine, the code, the tables' words (any of lw_tbl by 'hts w (by decide +kernel)'), the script of L ints xs at the cell b, what the Statement gives of the start (any of its parts by flat_of_before) -/
def lw_At (p : Program) (s : State) (m : MethodId) (meth : Method) (c : Code) (b L : Nat) (xs : Nat → Int32) : Prop :=
  p.tables.exec = Jvm.exec ∧ c.code = code ∧ meth.sig.returnType = ret ∧ c.maxLocals = 7 ∧ s.vm.findClass R_law = some m.cls ∧ (∀ w ∈ lw_tbl, w.before #[Value.ref b] s = true) ∧ va_X b L xs s s.heap ∧ b < s.heap.size ∧ meth.locks = false ∧ (Jvm.Cond.and given_1 narrow_1).before #[Value.ref b] s = true
-- the loop's own words
theorem pk_nz {p : Program} {l : Launch} {e : Env} {R : Room} {s : State} {m : MethodId} {args : Array Value} {below : List Frame} {meth : Method} {c : Code} {H : Heap} {locs : List Loc} {cells slots : Nat} {Q : State → Prop} {cc : ByteArray} {pc : Nat} {ls : Array Slot} {rest : List Value} (hexec : p.tables.exec = Jvm.exec) (hb : c.code = cc) {x v : Int32} (hv : (if x = 0 then (0 : Int32) else 1) = v) (d1 : decode cc pc = .ok (.ifCond .eq 7, 3)) (d2 : decode cc (pc + 3) = .ok (.iconst 1, 1)) (d3 : decode cc (pc + 4) = .ok (.goto 4, 3)) (d4 : decode cc (pc + 7) = .ok (.iconst 0, 1)) (kk : W p l e R s m args below meth c H locs cells slots Q (F0 m (pc + 8) ls (.int v :: rest))) : W p l e R s m args below meth c H locs cells slots Q (F0 m pc ls (.int x :: rest)) := by
  refine lv_if_eq (tgt := pc + 7) hexec hb d1 (by omega) (fun c1 => ?_) (fun c1 => ?_)
  · rw [if_pos c1] at hv
    subst hv
    exact lv_iconst (v := 0) hexec hb d4 (by decide) kk
  · rw [if_neg c1] at hv
    subst hv
    refine lv_iconst (v := 1) hexec hb d2 (by decide) ?_
    exact lv_goto (tgt := pc + 8) hexec hb d3 (by omega) kk
theorem nz01 {x v : Int32} (hv : (if x = 0 then (0 : Int32) else 1) = v) : v = 0 ∨ v = 1 := by
  subst hv
  split
  · exact Or.inl rfl
  · exact Or.inr rfl
theorem sc_in {LL x k : Nat} (hx : 5 * x + 5 ≤ LL) (hL : LL ≤ 2560) (hk : k < 5) : vp_in (nI (5 * x) + nI k) LL := by
  have e : nI (5 * x) + nI k = nI (5 * x + k) := by
    apply Int32.toInt_inj.mp
    rw [Int32.toInt_add, nI_toInt (by omega), nI_toInt (by omega), nI_toInt (by omega), Int.bmod_eq_of_le (by omega) (by omega)]
    omega
  rw [e]
  exact vp_in_nI (by omega) (by omega)
theorem sc_5 (x : Nat) : nI (5 * x) + 5 = nI (5 * (x + 1)) := by
  show Int32.ofNat (5 * x) + Int32.ofNat 5 = Int32.ofNat (5 * (x + 1))
  rw [← Int32.ofNat_add]
  congr 1
theorem sc_go {LL x : Nat} (hL : LL ≤ 2560) (hx : 5 * x ≤ LL) (c1 : ¬ Int32.ofNat LL - 5 < nI (5 * x)) : 5 * x + 5 ≤ LL := by
  have h1 : (Int32.ofNat LL - 5).toInt = (LL : Int) - 5 := by
    have h2 : (Int32.ofNat LL).toInt = (LL : Int) := nI_toInt (n := LL) (by omega)
    have h3 : (5 : Int32).toInt = 5 := rfl
    rw [Int32.toInt_sub, h2, h3, Int.bmod_eq_of_le (by omega) (by omega)]
  have h4 := nI_toInt (n := 5 * x) (by omega)
  have h5 : ¬ (Int32.ofNat LL - 5).toInt < (nI (5 * x)).toInt := fun q => c1 (Int32.lt_iff_toInt_lt.mpr q)
  omega
theorem pk_sld {p : Program} {l : Launch} {e : Env} {R : Room} {s : State} {m : MethodId} {args : Array Value} {below : List Frame} {meth : Method} {c : Code} {H : Heap} {locs : List Loc} {cells slots : Nat} {Q : State → Prop} {cc : ByteArray} {nL : Nat} {Ts : List Cond} {own : String} {pc : Nat} {ls : Array Slot} {rest : List Value} {D : va_G} {cl : List vw_C} {L : List Nat} {F : Nat → va_E} (S : CallFix p m c cc nL s args Ts own) {b LL : Nat} {xs : Nat → Int32} (hX : va_X b LL xs s s.heap) (hbl : b < s.heap.size) (hW : HW D cl [] s H locs L F) {i v : Int32} (hin : vp_in i LL) (hv : xs i.toNatClampNeg = v) (hdg : decode cc pc = .ok (.iaload, 1))
    (kk : W p l e R s m args below meth c H locs cells slots Q (F0 m (pc + 1) ls (.int v :: rest))) : W p l e R s m args below meth c H locs cells slots Q (F0 m pc ls (.int i :: .ref b :: rest)) := by
  subst hv
  exact va_sld S.1 S.2.1 hX hbl (fun q => q.elim (fun q => absurd q List.not_mem_nil) (fun q => absurd hbl (by omega))) hW.2.2 hin hdg kk
/-! what a call of the one side leaves of the other -/
def KP (e : va_E) : Prop := (∀ n w, e = .inr (n, w) → n < 5 ∨ 9 < n) ∧ ∀ c n g, e ≠ .inl (c, n, .inl g)
theorem KP.o {e : va_E} {k : Nat} {v : List Value} (h : e = .inr (k, v)) (hk : k < 5 ∨ 9 < k) : KP e := by
  subst h
  exact ⟨fun n w h => (by cases h; exact hk), fun c n g h => (by cases h)⟩
theorem KP.r {e : va_E} {c : ClassId} {n : Nat} {f : Nat → Option Nat} (h : e = rfA c n f) : KP e := by
  subst h
  exact ⟨fun n w h => (by cases h), fun c n g h => (by cases h)⟩
section KEEP
variable {κ : Nat → ClassId} {ζ : Nat → Nat} {A B : Nat → Nat} {σ : CS} {τ : MS} {q : Nat} {L L' : List Nat} {F F' : Nat → va_E}
theorem MI.keepK (hI : MI κ ζ B τ L F) (hsub : ∀ x ∈ L, x ∈ L') (hfr : ∀ x ∈ L, KP (F x) → F' x = F x) (hz : ζ 256 ∉ L') : MI κ ζ B τ L' F' := by
  obtain ⟨h1, h2, h3, ⟨md, h4⟩, ⟨f, h5, h5a, h5b⟩, ⟨g, h6, h6a, h6b⟩, h7, h8, ar, h9, h10, h11⟩ := hI
  have hm : ∀ i, i < 10 → KP (F (B i)) → F' (B i) = F (B i) := fun i hi h => hfr _ (h1 i hi) h
  refine ⟨fun i hi => hsub _ (h1 i hi), h2, (hm 0 (by omega) (KP.o h3 (by decide))).trans h3, ⟨md, (hm 1 (by omega) (KP.o h4 (by decide))).trans h4⟩, ⟨f, (hm 2 (by omega) (KP.r h5)).trans h5, h5a, h5b⟩, ⟨g, (hm 7 (by omega) (KP.r h6)).trans h6, h6a, h6b⟩, fun j hj => (hm (8 + j) (by omega) (KP.o (h7 j hj) (by decide))).trans (h7 j hj), hz, ar, fun j hj => ?_, fun i j hi hj e ha => ?_, h11⟩
  · obtain ⟨mo, mdj, ej⟩ := (h9 j hj).obj
    refine (h9 j hj).keep hsub (hm (3 + j) (by omega) (KP.o ej (by decide))) (fun ha => hfr _ ha ?_) (fun y v hb => ?_)
    · obtain ⟨n, f9, md9, a1, a2, a3, -⟩ := h9 j hj
      rcases a3 with ⟨a, b, c, d⟩ | ⟨a, -⟩
      · exact KP.r c
      · exact absurd (a ▸ ha) h8
    · rcases hb with ⟨b1, b2⟩ | hb
      · exact Or.inl ⟨hsub _ b1, (hfr _ b1 (KP.o b2 (by decide))).trans b2⟩
      · exact Or.inr hb
  · by_cases hL : ar i ∈ L
    · exact h10 i j hi hj e hL
    · exfalso
      obtain ⟨n, f9, md9, a1, a2, a3, -⟩ := h9 i hi
      rcases a3 with ⟨a, -⟩ | ⟨a, -⟩
      · exact hL a
      · exact hz (a ▸ ha)
theorem CI.kinds (hI : CI κ A σ L F) : ∀ i, i < 18 → (∃ n w, F (A i) = .inr (n, w) ∧ 5 ≤ n ∧ n ≤ 8) ∨ ∃ n g, F (A i) = .inl (κ 0, n, .inl g) := by
  obtain ⟨h1, h2, h3, h4, h5, h6⟩ := hI
  intro i hi
  by_cases h0 : i = 0
  · subst h0; exact Or.inl ⟨_, _, h3, by decide, by decide⟩
  by_cases h15 : i = 15
  · subst h15; exact Or.inl ⟨_, _, h5, by decide, by decide⟩
  by_cases hk : 16 ≤ i
  · have := h6 (i - 16) (by omega)
    rw [show 16 + (i - 16) = i by omega] at this
    exact Or.inl ⟨_, _, this, by decide, by decide⟩
  have hr := h4 ((i - 1) / 2) (by omega)
  by_cases hodd : i % 2 = 1
  · rw [show 1 + 2 * ((i - 1) / 2) = i by omega] at hr
    exact Or.inl ⟨_, _, hr.1, by decide, by decide⟩
  · have he : 2 + 2 * ((i - 1) / 2) = i := by omega
    rw [he] at hr
    exact Or.inr ⟨_, _, hr.2⟩
theorem KP.ne (hI : CI κ A σ L F) {x : Nat} (h : KP (F x)) : ∀ i, i < 18 → x ≠ A i := by
  intro i hi e
  rw [e] at h
  rcases hI.kinds i hi with ⟨n, w, e1, e2, e3⟩ | ⟨n, g, e1⟩
  · rcases h.1 n w e1 with h | h <;> omega
  · exact h.2 _ _ _ e1
theorem KP.nq (hO : OUT q L F) {x : Nat} (h : KP (F x)) : x ≠ q := by
  intro e
  rw [e] at h
  obtain ⟨-, w0, w1, e1⟩ := hO
  rcases h.1 _ _ e1 with h | h <;> omega
/-- the class was called: the model stands -/
theorem MI.keepC (hJ : MI κ ζ B τ L F) (hI : CI κ A σ L F) (hO : OUT q L F) (hsub : ∀ x ∈ L, x ∈ L') (hfr : ∀ x ∈ L, (∀ i, i < 18 → x ≠ A i) → x ≠ q → F' x = F x) (hz : ζ 256 ∉ L') : MI κ ζ B τ L' F' :=
  hJ.keepK hsub (fun x hx hk => hfr x hx (KP.ne hI hk) (KP.nq hO hk)) hz
theorem OUT.keepA (hO : OUT q L F) (hI : CI κ A σ L F) (hf : FrA A F F') : OUT q L F' := by
  obtain ⟨m, w0, w1, e⟩ := hO
  exact ⟨m, w0, w1, (hf q (fun i hi ee => hI.notO e i hi ee.symm)).trans e⟩
theorem OUT.keepM (hO : OUT q L F) (hM : FrM L F L' F') : OUT q L' F' := by
  obtain ⟨m, w0, w1, e⟩ := hO
  refine ⟨hM.1 _ m, w0, w1, (hM.2 _ m ?_).trans e⟩
  rw [e]
  rintro (h | h | h) <;> cases h
theorem CI.keepM (hI : CI κ A σ L F) (hM : FrM L F L' F') : CI κ A σ L' F' := by
  refine hI.keepA hM.1 (fun i hi => hM.2 _ (hI.mem i hi) ?_)
  rcases hI.kinds i hi with ⟨n, w, e1, e2, e3⟩ | ⟨n, g, e1⟩
  · rw [e1]
    rintro (h | h | h)
    · have h : n = 4 := h
      omega
    · have h : n = 10 := h
      omega
    · have h : n = 11 := h
      omega
  · rw [e1]
    rintro ⟨f, h⟩
    cases h
theorem CI.notD (hI : CI κ A σ L F) {d : Nat} {w : List Value} (h : F d = .inr (11, w)) : ∀ i, i < 18 → A i ≠ d := by
  intro i hi e
  rcases hI.kinds i hi with ⟨n, w, e1, e2, e3⟩ | ⟨n, g, e1⟩
  · rw [e, h] at e1
    cases e1
    omega
  · rw [e, h] at e1
    cases e1
end KEEP
/-! what is compared -/
theorem pk_lceq {p : Program} {l : Launch} {e : Env} {R : Room} {s : State} {m : MethodId} {args : Array Value} {below : List Frame} {meth : Method} {c : Code} {H : Heap} {locs : List Loc} {cells slots : Nat} {Q : State → Prop} {cc : ByteArray} {pc : Nat} {ls : Array Slot} {rest : List Value} (hexec : p.tables.exec = Jvm.exec) (hb : c.code = cc) {x y : Int64} (hxy : x = y) (hdg : decode cc pc = .ok (.lcmp, 1)) (kk : W p l e R s m args below meth c H locs cells slots Q (F0 m (pc + 1) ls (.int 0 :: rest))) : W p l e R s m args below meth c H locs cells slots Q (F0 m pc ls (.long y :: .long x :: rest)) := by
  subst hxy
  have e0 : lg_cmp x x = 0 := by simp [lg_cmp]
  exact W.lcmp hexec hb hdg (by rw [e0]; exact kk)
theorem pk_nzl {p : Program} {l : Launch} {e : Env} {R : Room} {s : State} {m : MethodId} {args : Array Value} {below : List Frame} {meth : Method} {c : Code} {H : Heap} {locs : List Loc} {cells slots : Nat} {Q : State → Prop} {cc : ByteArray} {pc : Nat} {ls : Array Slot} {rest : List Value} (hexec : p.tables.exec = Jvm.exec) (hb : c.code = cc) {x : Int32} {v : Int64} (hv : (if x = 0 then (0 : Int64) else 1) = v) (d1 : decode cc pc = .ok (.ifCond .eq 7, 3)) (d2 : decode cc (pc + 3) = .ok (.lconst 1, 1)) (d3 : decode cc (pc + 4) = .ok (.goto 4, 3)) (d4 : decode cc (pc + 7) = .ok (.lconst 0, 1)) (kk : W p l e R s m args below meth c H locs cells slots Q (F0 m (pc + 8) ls (.long v :: rest))) : W p l e R s m args below meth c H locs cells slots Q (F0 m pc ls (.int x :: rest)) := by
  refine lv_if_eq (tgt := pc + 7) hexec hb d1 (by omega) (fun c1 => ?_) (fun c1 => ?_)
  · rw [if_pos c1] at hv
    subst hv
    exact lv_lconst (v := 0) hexec hb d4 rfl kk
  · rw [if_neg c1] at hv
    subst hv
    refine lv_lconst (v := 1) hexec hb d2 rfl ?_
    exact lv_goto (tgt := pc + 8) hexec hb d3 (by omega) kk
theorem rk_C3 (k : Nat) (h : ¬ C3 k = 0) : (if k = 0 then 1 else if k = 1 then 2 else 3 : Int32) = C3 k := by
  rcases ks_C3 h with e | e | e <;> subst e <;> rfl
theorem rk_C2 (k : Nat) (h : ¬ C2 k = 0) : (if k = 0 then 1 else 2 : Int32) = C2 k := by
  rcases ks_C2 h with e | e <;> subst e <;> rfl
theorem rk_C02 (k : Nat) (h : ¬ C02 k = 0) : (if k = 0 then 1 else 2 : Int32) = C02 k := by
  rcases ks_C02 h with e | e <;> subst e <;> rfl
theorem rk_C12 (k : Nat) (h : ¬ C12 k = 0) : (if k = 1 then 1 else 2 : Int32) = C12 k := by
  rcases ks_C12 h with e | e <;> subst e <;> rfl
theorem rk_C1 (k : Nat) (h : ¬ C1 k = 0) : (1 : Int32) = C1 k := by
  have e := ks_C1 h
  subst e
  rfl
theorem rk_C11 (k : Nat) (h : ¬ C11 k = 0) : (1 : Int32) = C11 k := by
  have e := ks_C11 h
  subst e
  rfl
theorem rk_C22 (k : Nat) (h : ¬ C22 k = 0) : (1 : Int32) = C22 k := by
  have e := ks_C22 h
  subst e
  rfl
theorem cmp_thr {C RK : Nat → Int32} {σ : CS} {res : Nat ⊕ (Int32 × CS)} {r2 : Int32 × MS} {r : Int32} (hr : ∀ k, ¬ C k = 0 → RK k = C k) (h : TQ C σ res r2) (h1 : ∀ k, res = .inl k → r = RK k) (h2 : ∀ z, res = .inr z → r = 0) : r2.2.2 0 = r := by
  cases res with
  | inl k => rw [(h.1 k rfl).2.1, h1 k rfl, hr k (h.1 k rfl).2.2]
  | inr z => rw [(h.2 z rfl).2.1, h2 z rfl]
theorem cmp_val {V : Int32 → Value} {C RK : Nat → Int32} {σ : CS} {res : Nat ⊕ (Int32 × CS)} {r2 : Int32 × MS} {r : Int32} {w0 : Value} (hr : ∀ k, ¬ C k = 0 → RK k = C k) (h : TQ C σ res r2) (h1 : ∀ k, res = .inl k → r = RK k) (h2 : ∀ z, res = .inr z → r = 0 ∧ w0 = V z.1) (h0 : r = 0) : w0 = V r2.1 := by
  cases res with
  | inl k => exact absurd ((hr k (h.1 k rfl).2.2).symm.trans ((h1 k rfl).symm.trans h0)) (h.1 k rfl).2.2
  | inr z => rw [(h2 z rfl).2, (h.2 z rfl).2.2]
theorem cmp_thrN {C RK : Nat → Int32} {σ : CS} {res : Nat ⊕ Int32} {r2 : Int32 × MS} {r : Int32} (hr : ∀ k, ¬ C k = 0 → RK k = C k) (h : TN C σ res r2) (h1 : ∀ k, res = .inl k → r = RK k) (h2 : ∀ z, res = .inr z → r = 0) : r2.2.2 0 = r := by
  cases res with
  | inl k => rw [(h.1 k rfl).2.1, h1 k rfl, hr k (h.1 k rfl).2.2]
  | inr z => rw [(h.2 z rfl).2.1, h2 z rfl]
theorem cmp_valN {V : Int32 → Value} {C RK : Nat → Int32} {σ : CS} {res : Nat ⊕ Int32} {r2 : Int32 × MS} {r : Int32} {w0 : Value} (hr : ∀ k, ¬ C k = 0 → RK k = C k) (h : TN C σ res r2) (h1 : ∀ k, res = .inl k → r = RK k) (h2 : ∀ z, res = .inr z → r = 0 ∧ w0 = V z) (h0 : r = 0) : w0 = V r2.1 := by
  cases res with
  | inl k => exact absurd ((hr k (h.1 k rfl).2.2).symm.trans ((h1 k rfl).symm.trans h0)) (h.1 k rfl).2.2
  | inr z => rw [(h2 z rfl).2, (h.2 z rfl).2.2]
theorem outM {q : Nat} {w : List Value} {L L' : List Nat} {F F' : Nat → va_E} (m : q ∈ L) (e : F q = .inr (9, w)) (hM : FrM L F L' F') : F' q = .inr (9, w) := by
  refine (hM.2 _ m ?_).trans e
  rw [e]
  rintro (h | h | h) <;> cases h
/-- what stands through the law's loop -/
def LWE (p : Program) (l : Launch) (e : Env) (s : State) (m : MethodId) (b : Nat) (below : List Frame) (meth : Method) (c : Code) (D : va_G) (κ : Nat → ClassId) (ζ : Nat → Nat) (LL : Nat) (xs : Nat → Int32) : Prop := l.stackTraces = false ∧ CallFix p m c code 7 s #[Value.ref b] Gw R_law ∧ meth.sig.returnType = ret ∧ meth.locks = false ∧ NCX s ∧ va_K D cls (ty5 κ) s ∧ ST ζ (AL [] s.heap.size) s s.heap ∧ va_X b LL xs s s.heap ∧ b < s.heap.size
def LST (D : va_G) (κ : Nat → ClassId) (ζ : Nat → Nat) (A B : Nat → Nat) (q : Nat) (s : State) (H : Heap) (locs : List Loc) (L : List Nat) (F : Nat → va_E) (σ : CS) (τ : MS) : Prop := HW D cls [] s H locs L F ∧ CI κ A σ L F ∧ MI κ ζ B τ L F ∧ OUT q L F ∧ INVX σ τ
/-- the loop's tail, after one order -/
def TL (p : Program) (l : Launch) (e : Env) (s : State) (m : MethodId) (b : Nat) (below : List Frame) (meth : Method) (c : Code) (D : va_G) (κ : Nat → ClassId) (ζ : Nat → Nat) (A B : Nat → Nat) (q x cells slots : Nat) : Prop := ∀ (H : Heap) (locs : List Loc) (L : List Nat) (F : Nat → va_E) (σ : CS) (τ : MS) (ls : Array Slot), LST D κ ζ A B q s H locs L F σ τ → lv_has ls 7 [(4, .int (nI (5 * x))), (0, .ref b), (1, .ref (A 0)), (2, .ref (B 0)), (3, .ref q)] → W p l e room_1 s m #[Value.ref b] below meth c H locs cells slots (lw_Z below #[Value.ref b] s) (F0 m 2356 ls [])
