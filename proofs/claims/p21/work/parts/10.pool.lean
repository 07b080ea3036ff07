/-! THE POOL: the objects that a walk knows, by their addresses (a list L), and what each holds (F). -/
/-- the addresses that may be written: the pool's own, and all that is new -/
def AL (L : List Nat) (n : Nat) : Nat → Prop := fun q => q ∈ L ∨ n ≤ q
/-- the pool at a point inside a method that began in s with the pool L0 -/
def HW (D : va_G) (cl : List vw_C) (L0 : List Nat) (s : State) (H : Heap) (locs : List Loc) (L : List Nat) (F : Nat → va_E) : Prop :=
  va_P D cl (va_pl L F) H ∧ va_D (AL L0 s.heap.size) (va_pl L F) ∧ va_S (AL L0 s.heap.size) s.heap H locs
theorem pl_mem {L : List Nat} {F : Nat → va_E} {k : Nat} {q : Nat × va_E} (h : (va_pl L F)[k]? = some q) : q.1 ∈ L := by
  have h1 := List.mem_of_getElem? h
  obtain ⟨a, ha, rfl⟩ := List.mem_map.mp h1
  exact ha
theorem pl_get {L : List Nat} {F : Nat → va_E} {a : Nat} {e : va_E} (h : a ∈ L) (he : F a = e) : ∃ k : Nat, (va_pl L F)[k]? = some (a, e) := by
  obtain ⟨k, hk⟩ := va_pl_get (X := []) (f := F) h
  exact ⟨k, by rw [← he]; exact hk⟩
theorem HW.sz {D : va_G} {cl : List vw_C} {L0 : List Nat} {s : State} {H : Heap} {locs : List Loc} {L : List Nat} {F : Nat → va_E} (h : HW D cl L0 s H locs L F) : s.heap.size ≤ H.size := h.2.2.1
theorem HW.lt {D : va_G} {cl : List vw_C} {L0 : List Nat} {s : State} {H : Heap} {locs : List Loc} {L : List Nat} {F : Nat → va_E} (h : HW D cl L0 s H locs L F) {a : Nat} (ha : a ∈ L) : a < H.size := va_pl_lt (X := []) (f := F) h.1 ha
theorem HW.inA {D : va_G} {cl : List vw_C} {L0 : List Nat} {s : State} {H : Heap} {locs : List Loc} {L : List Nat} {F : Nat → va_E} (h : HW D cl L0 s H locs L F) {a : Nat} (ha : a ∈ L) : AL L0 s.heap.size a := by
  obtain ⟨k, hk⟩ := pl_get (F := F) ha rfl
  exact h.2.1.2 k _ hk
theorem HW.sub {D : va_G} {cl : List vw_C} {L0 : List Nat} {s : State} {H : Heap} {locs : List Loc} {L : List Nat} {F : Nat → va_E} (h : HW D cl L0 s H locs L F) : ∀ q, AL L H.size q → AL L0 s.heap.size q := by
  intro q hq
  rcases hq with hq | hq
  · exact h.inA hq
  · exact Or.inr (Nat.le_trans h.sz hq)
theorem HW.nodup {D : va_G} {cl : List vw_C} {L0 : List Nat} {s : State} {H : Heap} {locs : List Loc} {L : List Nat} {F : Nat → va_E} (h : HW D cl L0 s H locs L F) {q : Nat} (hq : H.size ≤ q) : q ∉ L := va_pl_fresh (X := []) (f := F) h.1 hq
section PK
variable {p : Program} {l : Launch} {e : Env} {R : Room} {s : State} {m : MethodId} {args : Array Value} {below : List Frame} {meth : Method} {c : Code} {cc : ByteArray} {nL : Nat} {Ts : List Cond} {own : String} {H : Heap} {locs : List Loc} {cells slots : Nat} {Q : State → Prop} {D : va_G} {cl : List vw_C} {tys : List (ClassId × FieldType)} {pc : Nat} {ls : Array Slot} {rest : List Value} {L0 L : List Nat} {F : Nat → va_E}
theorem pk_get (S : CallFix p m c cc nL s args Ts own) (hK : va_K D cl tys s) (hW : HW D cl L0 s H locs L F) {a ci index N : Nat} {fs : List Value} {C : String} {T : u_T} {v : Value} (k : Nat) (ha : a ∈ L) (he : F a = .inr (ci, fs)) (hc : cl[ci]? = some (C, T, N)) (hin : ∀ w ∈ u_ws C T N, w ∈ Ts) (hk : k < N) (hlink : Cond.fieldLink own index (T k).1 (T k).2.1 (T k).2.2.1 ∈ Ts) (hv : fs[k]? = some v) (hdg : decode cc pc = .ok (.getfield index, 3))
    (kk : W p l e R s m args below meth c H locs cells slots Q (F0 m (pc + 3) ls (v :: rest))) : W p l e R s m args below meth c H locs cells slots Q (F0 m pc ls (.ref a :: rest)) := by
  obtain ⟨k0, hk0⟩ := pl_get ha he
  exact va_get S.1 S.2.1 S.2.2.2.2 hin S.2.2.2.1 hK hW.1 k0 hk0 hc k hk (S.2.2.2.2 _ hlink) (fun _ h => h) hv hdg kk
theorem pk_getN (S : CallFix p m c cc nL s args Ts own) (hK : va_K D cl tys s) (hW : HW D cl L0 s H locs L F) {a ci index N : Nat} {fs : List Value} {C host : String} {T : u_T} {v : Value} (k : Nat) (ha : a ∈ L) (he : F a = .inr (ci, fs)) (hc : cl[ci]? = some (C, T, N)) (hin : ∀ w ∈ u_ws C T N, w ∈ Ts) (hk : k < N) (hlink : (Cond.fieldLinkNest own index (T k).1 (T k).2.1 (T k).2.2.1 host).before args s = true) (hv : fs[k]? = some v) (hdg : decode cc pc = .ok (.getfield index, 3))
    (kk : W p l e R s m args below meth c H locs cells slots Q (F0 m (pc + 3) ls (v :: rest))) : W p l e R s m args below meth c H locs cells slots Q (F0 m pc ls (.ref a :: rest)) := by
  obtain ⟨k0, hk0⟩ := pl_get ha he
  exact va_getN S.1 S.2.1 S.2.2.2.2 hin S.2.2.2.1 hK hW.1 k0 hk0 hc k hk hlink (fun _ h => h) hv hdg kk
theorem HW.set {k0 : Nat} {a : Nat} {e0 : va_E} {H1 : Heap} {locs1 : List Loc} (hW : HW D cl L0 s H locs L F) (ha : a ∈ L) (e1 : va_E) (hk0 : (va_pl L F)[k0]? = some (a, F a)) (hP : va_P D cl ((va_pl L F).set k0 (a, e1)) H1) (hD : va_D (AL L0 s.heap.size) ((va_pl L F).set k0 (a, e1))) (hS : va_S (AL L0 s.heap.size) s.heap H1 locs1) : HW D cl L0 s H1 locs1 L (va_up F a e1) := by
  have h := va_pl_set (X := []) (e := e1) hW.2.1 ha hk0
  have h' : (va_pl L F).set k0 (a, e1) = va_pl L (va_up F a e1) := h
  rw [h'] at hP hD
  exact ⟨hP, hD, hS⟩
theorem pk_put (S : CallFix p m c cc nL s args Ts own) (hK : va_K D cl tys s) (hW : HW D cl L0 s H locs L F) {a ci index N : Nat} {fs : List Value} {C : String} {T : u_T} {v : Value} {ty0 : Nat → FieldType} {ty : FieldType} (k : Nat) (ha : a ∈ L) (he : F a = .inr (ci, fs)) (hc : cl[ci]? = some (C, T, N)) (hin : ∀ w ∈ u_ws C T N, w ∈ Ts) (hty : ∀ k, k < N → parseFieldDescriptor (T k).2.2.1 = some (ty0 k)) (hnm : ∀ a, a < N → ∀ b, b < N → a ≠ b → (T a).2.1 ≠ (T b).2.1) (hk : k < N) (hlink : Cond.fieldLink own index (T k).1 (T k).2.1 (T k).2.2.1 ∈ Ts) (hfin : (T k).2.2.2 = false) (hd : parseFieldDescriptor (T k).2.2.1 = some ty) (hn : narrow ty v = v) (hfit : fits ty v = true) (hl : k < fs.length) (hdg : decode cc pc = .ok (.putfield index, 3))
    (kk : ∀ (H1 : Heap) (locs1 : List Loc), HW D cl L0 s H1 locs1 L (va_up F a (.inr (ci, fs.set k v))) → W p l e R s m args below meth c H1 locs1 cells slots Q (F0 m (pc + 3) ls rest)) : W p l e R s m args below meth c H locs cells slots Q (F0 m pc ls (v :: .ref a :: rest)) := by
  obtain ⟨k0, hk0⟩ := pl_get (F := F) ha rfl
  exact va_put S.1 S.2.1 S.2.2.2.2 hin ty0 hty hnm S.2.2.2.1 hK hW.1 hW.2.1 hW.2.2 k0 (by rw [← he]; exact hk0) hc k hk (S.2.2.2.2 _ hlink) (fun _ h => h) hfin hd hn hfit hl hdg
    (fun H1 locs1 h1 h2 h3 => kk H1 locs1 (hW.set (e0 := F a) ha _ hk0 h1 h2 h3))
theorem pk_iald (S : CallFix p m c cc nL s args Ts own) (hK : va_K D cl tys s) (hW : HW D cl L0 s H locs L F) {a n : Nat} {cA : ClassId} {f : Nat → Int32} (t0 : Nat) (ha : a ∈ L) (he : F a = .inl (cA, n, .inl f)) (ht : tys[t0]? = some (cA, .int)) {i : Int32} (hin : vp_in i n) (hdg : decode cc pc = .ok (.iaload, 1))
    (kk : W p l e R s m args below meth c H locs cells slots Q (F0 m (pc + 1) ls (.int (f i.toNatClampNeg) :: rest))) : W p l e R s m args below meth c H locs cells slots Q (F0 m pc ls (.int i :: .ref a :: rest)) := by
  obtain ⟨k0, hk0⟩ := pl_get ha he
  exact va_iald S.1 S.2.1 hK hW.1 k0 t0 hk0 ht hin hdg kk
theorem pk_iast (S : CallFix p m c cc nL s args Ts own) (hK : va_K D cl tys s) (hW : HW D cl L0 s H locs L F) {a n : Nat} {cA : ClassId} {f : Nat → Int32} (t0 : Nat) (ha : a ∈ L) (he : F a = .inl (cA, n, .inl f)) (ht : tys[t0]? = some (cA, .int)) {i x : Int32} (hin : vp_in i n) (hdg : decode cc pc = .ok (.iastore, 1))
    (kk : ∀ (H1 : Heap) (locs1 : List Loc), HW D cl L0 s H1 locs1 L (va_up F a (.inl (cA, n, .inl (upd f i.toNatClampNeg x)))) → W p l e R s m args below meth c H1 locs1 cells slots Q (F0 m (pc + 1) ls rest)) : W p l e R s m args below meth c H locs cells slots Q (F0 m pc ls (.int x :: .int i :: .ref a :: rest)) := by
  obtain ⟨k0, hk0⟩ := pl_get (F := F) ha rfl
  exact va_iast S.1 S.2.1 hK hW.1 hW.2.1 hW.2.2 k0 t0 (by rw [← he]; exact hk0) ht hin hdg
    (fun H1 locs1 h1 h2 h3 => kk H1 locs1 (hW.set (e0 := F a) ha _ hk0 h1 h2 h3))
theorem pk_alen (S : CallFix p m c cc nL s args Ts own) (hK : va_K D cl tys s) (hW : HW D cl L0 s H locs L F) {a : Nat} {cA : ClassId} {x : vp_A} {ty : FieldType} {v : Int32} (t0 : Nat) (ha : a ∈ L) (he : F a = .inl (cA, x)) (ht : tys[t0]? = some (cA, ty)) (hv : Int32.ofNat x.1 = v) (hdg : decode cc pc = .ok (.arraylength, 1))
    (kk : W p l e R s m args below meth c H locs cells slots Q (F0 m (pc + 1) ls (.int v :: rest))) : W p l e R s m args below meth c H locs cells slots Q (F0 m pc ls (.ref a :: rest)) := by
  obtain ⟨k0, hk0⟩ := pl_get ha he
  exact va_alen S.1 S.2.1 hK hW.1 k0 t0 hk0 ht hv hdg kk
theorem pk_recv (hK : va_K D cl tys s) (hW : HW D cl L0 s H locs L F) {a ci : Nat} {fs : List Value} {r : vw_C} (ha : a ∈ L) (he : F a = .inr (ci, fs)) (hc : cl[ci]? = some r) : ∃ cell : Cell, H[a]? = some cell ∧ cell.vm.isStatics = false ∧ s.vm.findClass r.1 = some cell.cls := by
  obtain ⟨k0, hk0⟩ := pl_get ha he
  exact va_recv hK hW.1 hc hk0
def jrem (x y : Int32) : Int32 := x - x / y * y
theorem pk_irem (S : CallFix p m c cc nL s args Ts own) {x y : Int32} (hdg : decode cc pc = .ok (.irem, 1)) (hne : ¬ y = 0)
    (kk : W p l e R s m args below meth c H locs cells slots Q (F0 m (pc + 1) ls (.int (jrem x y) :: rest))) : W p l e R s m args below meth c H locs cells slots Q (F0 m pc ls (.int y :: .int x :: rest)) := lv_irem S.1 S.2.1 hdg hne kk
end PK
