section
/-! what the reference reads of statics: their addresses and the like are ζ: 0 to 255 the small Integers, 256 the empty array of lists, 257 the cache, 258 and 259 the digits, 260 the class of Object[], 261 and 262 two texts, 263 and 264 their bytes -/
def dgOnes (j : Nat) : Int32 := nI (48 + j % 10)
def dgTens (j : Nat) : Int32 := nI (48 + j / 10)
def STR (ζ : Nat → Nat) (A : Nat → Prop) (U : State) (H : Heap) : Prop :=
  vb_C ζ A U H ∧
  va_Z "java/lang/Integer$IntegerCache" "cache" "[Ljava/lang/Integer;" (.ref (ζ 257)) A U H ∧
  va_T (.object "java/lang/Integer") (ζ 257) 256 (fun j => .ref (ζ j)) A U H ∧
  va_Z "java/lang/Integer$IntegerCache" "high" "I" (.int 127) A U H ∧
  va_Z "java/util/ArrayList" "DEFAULTCAPACITY_EMPTY_ELEMENTDATA" "[Ljava/lang/Object;" (.ref (ζ 256)) A U H ∧
  va_T (.object "java/lang/Object") (ζ 256) 0 (fun _ => .null) A U H ∧
  va_Z "java/lang/String" "COMPACT_STRINGS" "Z" (.int 1) A U H ∧
  va_Z "java/lang/Integer" "DigitOnes" "[B" (.ref (ζ 258)) A U H ∧
  va_T .byte (ζ 258) 100 (fun j => .int (dgOnes j)) A U H ∧
  va_Z "java/lang/Integer" "DigitTens" "[B" (.ref (ζ 259)) A U H ∧
  va_T .byte (ζ 259) 100 (fun j => .int (dgTens j)) A U H ∧
  vk_S 2 [0, 1] [[], [32]] (fun i => ζ (261 + i)) (fun i => ζ (263 + i)) A U H ∧
  va_Mi "[Ljava/lang/Object;" (ζ 260) U ∧
  va_Dc U ∧
  va_AO "java/lang/Object" U ∧
  va_AO "TwoendsModel$Walker" U ∧
  va_Fw "java/util/ArrayList$Itr" ⟨"java/util/Iterator", "hasNext", "()Z"⟩ ⟨"java/util/ArrayList$Itr", "hasNext", "()Z"⟩ U ∧
  va_Fw "java/util/ArrayList$Itr" ⟨"java/util/Iterator", "next", "()Ljava/lang/Object;"⟩ ⟨"java/util/ArrayList$Itr", "next", "()Ljava/lang/Object;"⟩ U ∧
  vk_R "TwoendsModel" 216 "" (ζ 261) U ∧
  vk_R "TwoendsModel" 218 " " (ζ 262) U
theorem STR.go {ζ : Nat → Nat} {A B : Nat → Prop} {s U : State} {H : Heap} (h : STR ζ A s s.heap) (hW : s.WarmedH U.vm) (hS : ∀ a : Nat, a < s.heap.size → ¬ A a → H[a]? = s.heap[a]?) (hB : ∀ q, B q → A q) : STR ζ B U H :=
  ⟨(((h.1).kept hS).moved hW.alike).narrow hB, (((h.2.1).kept hS).moved hW.alike).narrow hB, (((h.2.2.1).kept hS).moved hW.alike).narrow hB, (((h.2.2.2.1).kept hS).moved hW.alike).narrow hB, (((h.2.2.2.2.1).kept hS).moved hW.alike).narrow hB, (((h.2.2.2.2.2.1).kept hS).moved hW.alike).narrow hB, (((h.2.2.2.2.2.2.1).kept hS).moved hW.alike).narrow hB, (((h.2.2.2.2.2.2.2.1).kept hS).moved hW.alike).narrow hB, (((h.2.2.2.2.2.2.2.2.1).kept hS).moved hW.alike).narrow hB, (((h.2.2.2.2.2.2.2.2.2.1).kept hS).moved hW.alike).narrow hB, (((h.2.2.2.2.2.2.2.2.2.2.1).kept hS).moved hW.alike).narrow hB, (((h.2.2.2.2.2.2.2.2.2.2.2.1).kept hS).moved hW.alike).narrow hB, (h.2.2.2.2.2.2.2.2.2.2.2.2.1).moved hW.alike, (h.2.2.2.2.2.2.2.2.2.2.2.2.2.1).moved hW.alike, (h.2.2.2.2.2.2.2.2.2.2.2.2.2.2.1).moved hW.alike, (h.2.2.2.2.2.2.2.2.2.2.2.2.2.2.2.1).moved hW.alike, va_Fw.moved ⟨by decide, by decide⟩ hW.alike (h.2.2.2.2.2.2.2.2.2.2.2.2.2.2.2.2.1), va_Fw.moved ⟨by decide, by decide⟩ hW.alike (h.2.2.2.2.2.2.2.2.2.2.2.2.2.2.2.2.2.1), vk_R.warm hW (h.2.2.2.2.2.2.2.2.2.2.2.2.2.2.2.2.2.2.1), vk_R.warm hW (h.2.2.2.2.2.2.2.2.2.2.2.2.2.2.2.2.2.2.2)⟩
theorem STR.calling {ζ : Nat → Nat} {A : Nat → Prop} {U : State} {H : Heap} {g : JFrame} {mk : MethodId} {a : Array Value} (h : STR ζ A U H) : STR ζ A (U.calling g mk a) H :=
  ⟨(h.1).moved (Vm.Alike.refl U.vm), (h.2.1).moved (Vm.Alike.refl U.vm), (h.2.2.1).moved (Vm.Alike.refl U.vm), (h.2.2.2.1).moved (Vm.Alike.refl U.vm), (h.2.2.2.2.1).moved (Vm.Alike.refl U.vm), (h.2.2.2.2.2.1).moved (Vm.Alike.refl U.vm), (h.2.2.2.2.2.2.1).moved (Vm.Alike.refl U.vm), (h.2.2.2.2.2.2.2.1).moved (Vm.Alike.refl U.vm), (h.2.2.2.2.2.2.2.2.1).moved (Vm.Alike.refl U.vm), (h.2.2.2.2.2.2.2.2.2.1).moved (Vm.Alike.refl U.vm), (h.2.2.2.2.2.2.2.2.2.2.1).moved (Vm.Alike.refl U.vm), (h.2.2.2.2.2.2.2.2.2.2.2.1).moved (Vm.Alike.refl U.vm), (h.2.2.2.2.2.2.2.2.2.2.2.2.1).moved (Vm.Alike.refl U.vm), (h.2.2.2.2.2.2.2.2.2.2.2.2.2.1).moved (Vm.Alike.refl U.vm), (h.2.2.2.2.2.2.2.2.2.2.2.2.2.2.1).moved (Vm.Alike.refl U.vm), (h.2.2.2.2.2.2.2.2.2.2.2.2.2.2.2.1).moved (Vm.Alike.refl U.vm), va_Fw.moved ⟨by decide, by decide⟩ (Vm.Alike.refl U.vm) (h.2.2.2.2.2.2.2.2.2.2.2.2.2.2.2.2.1), va_Fw.moved ⟨by decide, by decide⟩ (Vm.Alike.refl U.vm) (h.2.2.2.2.2.2.2.2.2.2.2.2.2.2.2.2.2.1), vk_R.same rfl (h.2.2.2.2.2.2.2.2.2.2.2.2.2.2.2.2.2.2.1), vk_R.same rfl (h.2.2.2.2.2.2.2.2.2.2.2.2.2.2.2.2.2.2.2)⟩
theorem STR.cache {ζ : Nat → Nat} {A : Nat → Prop} {U : State} {H : Heap} (h : STR ζ A U H) : vb_C ζ A U H := h.1
theorem STR.zCache {ζ : Nat → Nat} {A : Nat → Prop} {U : State} {H : Heap} (h : STR ζ A U H) : va_Z "java/lang/Integer$IntegerCache" "cache" "[Ljava/lang/Integer;" (.ref (ζ 257)) A U H := h.2.1
theorem STR.tCache {ζ : Nat → Nat} {A : Nat → Prop} {U : State} {H : Heap} (h : STR ζ A U H) : va_T (.object "java/lang/Integer") (ζ 257) 256 (fun j => .ref (ζ j)) A U H := h.2.2.1
theorem STR.zHigh {ζ : Nat → Nat} {A : Nat → Prop} {U : State} {H : Heap} (h : STR ζ A U H) : va_Z "java/lang/Integer$IntegerCache" "high" "I" (.int 127) A U H := h.2.2.2.1
theorem STR.zEmpty {ζ : Nat → Nat} {A : Nat → Prop} {U : State} {H : Heap} (h : STR ζ A U H) : va_Z "java/util/ArrayList" "DEFAULTCAPACITY_EMPTY_ELEMENTDATA" "[Ljava/lang/Object;" (.ref (ζ 256)) A U H := h.2.2.2.2.1
theorem STR.tEmpty {ζ : Nat → Nat} {A : Nat → Prop} {U : State} {H : Heap} (h : STR ζ A U H) : va_T (.object "java/lang/Object") (ζ 256) 0 (fun _ => .null) A U H := h.2.2.2.2.2.1
theorem STR.zCompact {ζ : Nat → Nat} {A : Nat → Prop} {U : State} {H : Heap} (h : STR ζ A U H) : va_Z "java/lang/String" "COMPACT_STRINGS" "Z" (.int 1) A U H := h.2.2.2.2.2.2.1
theorem STR.zOnes {ζ : Nat → Nat} {A : Nat → Prop} {U : State} {H : Heap} (h : STR ζ A U H) : va_Z "java/lang/Integer" "DigitOnes" "[B" (.ref (ζ 258)) A U H := h.2.2.2.2.2.2.2.1
theorem STR.tOnes {ζ : Nat → Nat} {A : Nat → Prop} {U : State} {H : Heap} (h : STR ζ A U H) : va_T .byte (ζ 258) 100 (fun j => .int (dgOnes j)) A U H := h.2.2.2.2.2.2.2.2.1
theorem STR.zTens {ζ : Nat → Nat} {A : Nat → Prop} {U : State} {H : Heap} (h : STR ζ A U H) : va_Z "java/lang/Integer" "DigitTens" "[B" (.ref (ζ 259)) A U H := h.2.2.2.2.2.2.2.2.2.1
theorem STR.tTens {ζ : Nat → Nat} {A : Nat → Prop} {U : State} {H : Heap} (h : STR ζ A U H) : va_T .byte (ζ 259) 100 (fun j => .int (dgTens j)) A U H := h.2.2.2.2.2.2.2.2.2.2.1
theorem STR.strs {ζ : Nat → Nat} {A : Nat → Prop} {U : State} {H : Heap} (h : STR ζ A U H) : vk_S 2 [0, 1] [[], [32]] (fun i => ζ (261 + i)) (fun i => ζ (263 + i)) A U H := h.2.2.2.2.2.2.2.2.2.2.2.1
theorem STR.mirror {ζ : Nat → Nat} {A : Nat → Prop} {U : State} {H : Heap} (h : STR ζ A U H) : va_Mi "[Ljava/lang/Object;" (ζ 260) U := h.2.2.2.2.2.2.2.2.2.2.2.2.1
theorem STR.decl {ζ : Nat → Nat} {A : Nat → Prop} {U : State} {H : Heap} (h : STR ζ A U H) : va_Dc U := h.2.2.2.2.2.2.2.2.2.2.2.2.2.1
theorem STR.aoObj {ζ : Nat → Nat} {A : Nat → Prop} {U : State} {H : Heap} (h : STR ζ A U H) : va_AO "java/lang/Object" U := h.2.2.2.2.2.2.2.2.2.2.2.2.2.2.1
theorem STR.aoWk {ζ : Nat → Nat} {A : Nat → Prop} {U : State} {H : Heap} (h : STR ζ A U H) : va_AO "TwoendsModel$Walker" U := h.2.2.2.2.2.2.2.2.2.2.2.2.2.2.2.1
theorem STR.fwHas {ζ : Nat → Nat} {A : Nat → Prop} {U : State} {H : Heap} (h : STR ζ A U H) : va_Fw "java/util/ArrayList$Itr" ⟨"java/util/Iterator", "hasNext", "()Z"⟩ ⟨"java/util/ArrayList$Itr", "hasNext", "()Z"⟩ U := h.2.2.2.2.2.2.2.2.2.2.2.2.2.2.2.2.1
theorem STR.fwNext {ζ : Nat → Nat} {A : Nat → Prop} {U : State} {H : Heap} (h : STR ζ A U H) : va_Fw "java/util/ArrayList$Itr" ⟨"java/util/Iterator", "next", "()Ljava/lang/Object;"⟩ ⟨"java/util/ArrayList$Itr", "next", "()Ljava/lang/Object;"⟩ U := h.2.2.2.2.2.2.2.2.2.2.2.2.2.2.2.2.2.1
theorem STR.s0 {ζ : Nat → Nat} {A : Nat → Prop} {U : State} {H : Heap} (h : STR ζ A U H) : vk_R "TwoendsModel" 216 "" (ζ 261) U := h.2.2.2.2.2.2.2.2.2.2.2.2.2.2.2.2.2.2.1
theorem STR.s1 {ζ : Nat → Nat} {A : Nat → Prop} {U : State} {H : Heap} (h : STR ζ A U H) : vk_R "TwoendsModel" 218 " " (ζ 262) U := h.2.2.2.2.2.2.2.2.2.2.2.2.2.2.2.2.2.2.2
end
section
/-! THE POOL: the objects that a walk knows, by their addresses (a list L), and what each holds (F). -/
/-- the addresses that may be written: the pool's own, and all that is new -/
def AL (L : List Nat) (n : Nat) : Nat → Prop := fun q => q ∈ L ∨ n ≤ q
/-- the pool at a point inside a method that began in s with the pool L0 -/
def HW (D : va_G) (cl : List vw_C) (L0 : List Nat) (s : State) (H : Heap) (locs : List Loc) (L : List Nat) (F : Nat → va_E) : Prop :=
  va_P D cl (va_pl L F) H ∧ va_D (AL L0 s.heap.size) (va_pl L F) ∧ va_S (AL L0 s.heap.size) s.heap H locs
theorem pl_mem {L : List Nat} {F : Nat → va_E} {k : Nat} {q : Nat × va_E} (h : (va_pl L F)[k]? = some q) : q.1 ∈ L := by
  have h1 := List.mem_of_getElem? h
  obtain ⟨a, ha, rfl⟩ := List.mem_map.mp h1
  exact ha
theorem pl_get {L : List Nat} {F : Nat → va_E} {a : Nat} {e : va_E} (h : a ∈ L) (he : F a = e) : ∃ k : Nat, (va_pl L F)[k]? = some (a, e) := by
  obtain ⟨k, hk⟩ := va_pl_get (X := []) (f := F) h
  exact ⟨k, by rw [← he]; exact hk⟩
theorem HW.sz {D : va_G} {cl : List vw_C} {L0 : List Nat} {s : State} {H : Heap} {locs : List Loc} {L : List Nat} {F : Nat → va_E} (h : HW D cl L0 s H locs L F) : s.heap.size ≤ H.size := h.2.2.1
theorem HW.lt {D : va_G} {cl : List vw_C} {L0 : List Nat} {s : State} {H : Heap} {locs : List Loc} {L : List Nat} {F : Nat → va_E} (h : HW D cl L0 s H locs L F) {a : Nat} (ha : a ∈ L) : a < H.size := va_pl_lt (X := []) (f := F) h.1 ha
theorem HW.inA {D : va_G} {cl : List vw_C} {L0 : List Nat} {s : State} {H : Heap} {locs : List Loc} {L : List Nat} {F : Nat → va_E} (h : HW D cl L0 s H locs L F) {a : Nat} (ha : a ∈ L) : AL L0 s.heap.size a := by
  obtain ⟨k, hk⟩ := pl_get (F := F) ha rfl
  exact h.2.1.2 k _ hk
theorem HW.sub {D : va_G} {cl : List vw_C} {L0 : List Nat} {s : State} {H : Heap} {locs : List Loc} {L : List Nat} {F : Nat → va_E} (h : HW D cl L0 s H locs L F) : ∀ q, AL L H.size q → AL L0 s.heap.size q := by
  intro q hq
  rcases hq with hq | hq
  · exact h.inA hq
  · exact Or.inr (Nat.le_trans h.sz hq)
theorem HW.nodup {D : va_G} {cl : List vw_C} {L0 : List Nat} {s : State} {H : Heap} {locs : List Loc} {L : List Nat} {F : Nat → va_E} (h : HW D cl L0 s H locs L F) {q : Nat} (hq : H.size ≤ q) : q ∉ L := va_pl_fresh (X := []) (f := F) h.1 hq
section PK
variable {p : Program} {l : Launch} {e : Env} {R : Room} {s : State} {m : MethodId} {args : Array Value} {below : List Frame} {meth : Method} {c : Code} {cc : ByteArray} {nL : Nat} {Ts : List Cond} {own : String} {H : Heap} {locs : List Loc} {cells slots : Nat} {Q : State → Prop} {D : va_G} {cl : List vw_C} {tys : List (ClassId × FieldType)} {pc : Nat} {ls : Array Slot} {rest : List Value} {L0 L : List Nat} {F : Nat → va_E}
theorem pk_get (S : CallFix p m c cc nL s args Ts own) (hK : va_K D cl tys s) (hW : HW D cl L0 s H locs L F) {a ci index N : Nat} {fs : List Value} {C : String} {T : u_T} {v : Value} (k : Nat) (ha : a ∈ L) (he : F a = .inr (ci, fs)) (hc : cl[ci]? = some (C, T, N)) (hin : ∀ w ∈ u_ws C T N, w ∈ Ts) (hk : k < N) (hlink : Cond.fieldLink own index (T k).1 (T k).2.1 (T k).2.2.1 ∈ Ts) (hv : fs[k]? = some v) (hdg : decode cc pc = .ok (.getfield index, 3))
    (kk : W p l e R s m args below meth c H locs cells slots Q (F0 m (pc + 3) ls (v :: rest))) : W p l e R s m args below meth c H locs cells slots Q (F0 m pc ls (.ref a :: rest)) := by
  obtain ⟨k0, hk0⟩ := pl_get ha he
  exact va_get S.1 S.2.1 S.2.2.2.2 hin S.2.2.2.1 hK hW.1 k0 hk0 hc k hk (S.2.2.2.2 _ hlink) (fun _ h => h) hv hdg kk
theorem pk_getN (S : CallFix p m c cc nL s args Ts own) (hK : va_K D cl tys s) (hW : HW D cl L0 s H locs L F) {a ci index N : Nat} {fs : List Value} {C host : String} {T : u_T} {v : Value} (k : Nat) (ha : a ∈ L) (he : F a = .inr (ci, fs)) (hc : cl[ci]? = some (C, T, N)) (hin : ∀ w ∈ u_ws C T N, w ∈ Ts) (hk : k < N) (hlink : (Cond.fieldLinkNest own index (T k).1 (T k).2.1 (T k).2.2.1 host).before args s = true) (hv : fs[k]? = some v) (hdg : decode cc pc = .ok (.getfield index, 3))
    (kk : W p l e R s m args below meth c H locs cells slots Q (F0 m (pc + 3) ls (v :: rest))) : W p l e R s m args below meth c H locs cells slots Q (F0 m pc ls (.ref a :: rest)) := by
  obtain ⟨k0, hk0⟩ := pl_get ha he
  exact va_getN S.1 S.2.1 S.2.2.2.2 hin S.2.2.2.1 hK hW.1 k0 hk0 hc k hk hlink (fun _ h => h) hv hdg kk
theorem HW.set {k0 : Nat} {a : Nat} {e0 : va_E} {H1 : Heap} {locs1 : List Loc} (hW : HW D cl L0 s H locs L F) (ha : a ∈ L) (e1 : va_E) (hk0 : (va_pl L F)[k0]? = some (a, F a)) (hP : va_P D cl ((va_pl L F).set k0 (a, e1)) H1) (hD : va_D (AL L0 s.heap.size) ((va_pl L F).set k0 (a, e1))) (hS : va_S (AL L0 s.heap.size) s.heap H1 locs1) : HW D cl L0 s H1 locs1 L (va_up F a e1) := by
  have h := va_pl_set (X := []) (e := e1) hW.2.1 ha hk0
  have h' : (va_pl L F).set k0 (a, e1) = va_pl L (va_up F a e1) := h
  rw [h'] at hP hD
  exact ⟨hP, hD, hS⟩
theorem pk_put (S : CallFix p m c cc nL s args Ts own) (hK : va_K D cl tys s) (hW : HW D cl L0 s H locs L F) {a ci index N : Nat} {fs : List Value} {C : String} {T : u_T} {v : Value} {ty0 : Nat → FieldType} {ty : FieldType} (k : Nat) (ha : a ∈ L) (he : F a = .inr (ci, fs)) (hc : cl[ci]? = some (C, T, N)) (hin : ∀ w ∈ u_ws C T N, w ∈ Ts) (hty : ∀ k, k < N → parseFieldDescriptor (T k).2.2.1 = some (ty0 k)) (hnm : ∀ a, a < N → ∀ b, b < N → a ≠ b → (T a).2.1 ≠ (T b).2.1) (hk : k < N) (hlink : Cond.fieldLink own index (T k).1 (T k).2.1 (T k).2.2.1 ∈ Ts) (hfin : (T k).2.2.2 = false) (hd : parseFieldDescriptor (T k).2.2.1 = some ty) (hn : narrow ty v = v) (hfit : fits ty v = true) (hl : k < fs.length) (hdg : decode cc pc = .ok (.putfield index, 3))
    (kk : ∀ (H1 : Heap) (locs1 : List Loc), HW D cl L0 s H1 locs1 L (va_up F a (.inr (ci, fs.set k v))) → W p l e R s m args below meth c H1 locs1 cells slots Q (F0 m (pc + 3) ls rest)) : W p l e R s m args below meth c H locs cells slots Q (F0 m pc ls (v :: .ref a :: rest)) := by
  obtain ⟨k0, hk0⟩ := pl_get (F := F) ha rfl
  exact va_put S.1 S.2.1 S.2.2.2.2 hin ty0 hty hnm S.2.2.2.1 hK hW.1 hW.2.1 hW.2.2 k0 (by rw [← he]; exact hk0) hc k hk (S.2.2.2.2 _ hlink) (fun _ h => h) hfin hd hn hfit hl hdg
    (fun H1 locs1 h1 h2 h3 => kk H1 locs1 (hW.set (e0 := F a) ha _ hk0 h1 h2 h3))
theorem pk_iald (S : CallFix p m c cc nL s args Ts own) (hK : va_K D cl tys s) (hW : HW D cl L0 s H locs L F) {a n : Nat} {cA : ClassId} {f : Nat → Int32} (t0 : Nat) (ha : a ∈ L) (he : F a = .inl (cA, n, .inl f)) (ht : tys[t0]? = some (cA, .int)) {i : Int32} (hin : vp_in i n) (hdg : decode cc pc = .ok (.iaload, 1))
    (kk : W p l e R s m args below meth c H locs cells slots Q (F0 m (pc + 1) ls (.int (f i.toNatClampNeg) :: rest))) : W p l e R s m args below meth c H locs cells slots Q (F0 m pc ls (.int i :: .ref a :: rest)) := by
  obtain ⟨k0, hk0⟩ := pl_get ha he
  exact va_iald S.1 S.2.1 hK hW.1 k0 t0 hk0 ht hin hdg kk
theorem pk_iast (S : CallFix p m c cc nL s args Ts own) (hK : va_K D cl tys s) (hW : HW D cl L0 s H locs L F) {a n : Nat} {cA : ClassId} {f : Nat → Int32} (t0 : Nat) (ha : a ∈ L) (he : F a = .inl (cA, n, .inl f)) (ht : tys[t0]? = some (cA, .int)) {i x : Int32} (hin : vp_in i n) (hdg : decode cc pc = .ok (.iastore, 1))
    (kk : ∀ (H1 : Heap) (locs1 : List Loc), HW D cl L0 s H1 locs1 L (va_up F a (.inl (cA, n, .inl (upd f i.toNatClampNeg x)))) → W p l e R s m args below meth c H1 locs1 cells slots Q (F0 m (pc + 1) ls rest)) : W p l e R s m args below meth c H locs cells slots Q (F0 m pc ls (.int x :: .int i :: .ref a :: rest)) := by
  obtain ⟨k0, hk0⟩ := pl_get (F := F) ha rfl
  exact va_iast S.1 S.2.1 hK hW.1 hW.2.1 hW.2.2 k0 t0 (by rw [← he]; exact hk0) ht hin hdg
    (fun H1 locs1 h1 h2 h3 => kk H1 locs1 (hW.set (e0 := F a) ha _ hk0 h1 h2 h3))
theorem pk_alen (S : CallFix p m c cc nL s args Ts own) (hK : va_K D cl tys s) (hW : HW D cl L0 s H locs L F) {a : Nat} {cA : ClassId} {x : vp_A} {ty : FieldType} {v : Int32} (t0 : Nat) (ha : a ∈ L) (he : F a = .inl (cA, x)) (ht : tys[t0]? = some (cA, ty)) (hv : Int32.ofNat x.1 = v) (hdg : decode cc pc = .ok (.arraylength, 1))
    (kk : W p l e R s m args below meth c H locs cells slots Q (F0 m (pc + 1) ls (.int v :: rest))) : W p l e R s m args below meth c H locs cells slots Q (F0 m pc ls (.ref a :: rest)) := by
  obtain ⟨k0, hk0⟩ := pl_get ha he
  exact va_alen S.1 S.2.1 hK hW.1 k0 t0 hk0 ht hv hdg kk
theorem pk_recv (hK : va_K D cl tys s) (hW : HW D cl L0 s H locs L F) {a ci : Nat} {fs : List Value} {r : vw_C} (ha : a ∈ L) (he : F a = .inr (ci, fs)) (hc : cl[ci]? = some r) : ∃ cell : Cell, H[a]? = some cell ∧ cell.vm.isStatics = false ∧ s.vm.findClass r.1 = some cell.cls := by
  obtain ⟨k0, hk0⟩ := pl_get ha he
  exact va_recv hK hW.1 hc hk0
def jrem (x y : Int32) : Int32 := x - x / y * y
theorem pk_irem (S : CallFix p m c cc nL s args Ts own) {x y : Int32} (hdg : decode cc pc = .ok (.irem, 1)) (hne : ¬ y = 0)
    (kk : W p l e R s m args below meth c H locs cells slots Q (F0 m (pc + 1) ls (.int (jrem x y) :: rest))) : W p l e R s m args below meth c H locs cells slots Q (F0 m pc ls (.int y :: .int x :: rest)) := lv_irem S.1 S.2.1 hdg hne kk
end PK
end
section
/-! CONTRACTS OVER THE POOL -/
/-- what is read of the statics and constants when an exception is thrown -/
def STX (A : Nat → Prop) (U : State) (H : Heap) : Prop := (∀ w ∈ NwL, va_Nw w U) ∧ vx_Zq Bundle.tN "UNASSIGNED_STACK" Bundle.steD A U H ∧ vx_Zq Bundle.tN "SUPPRESSED_SENTINEL" Bundle.listD A U H ∧ ∀ q ∈ XsL, ∃ a : Nat, vk_R q.1 q.2.1 q.2.2 a U
theorem STX.go {A B : Nat → Prop} {s U : State} {H : Heap} (h : STX A s s.heap) (hW : s.WarmedH U.vm) (hS : ∀ a : Nat, a < s.heap.size → ¬ A a → H[a]? = s.heap[a]?) (hB : ∀ q, B q → A q) : STX B U H :=
  ⟨nw_keep hW h.1, ((h.2.1.kept hS).moved hW.alike).narrow hB, ((h.2.2.1.kept hS).moved hW.alike).narrow hB, fun q hq => by obtain ⟨a, ha⟩ := h.2.2.2 q hq; exact ⟨a, vk_R.warm hW ha⟩⟩
theorem STX.calling {A : Nat → Prop} {U : State} {H : Heap} {g : JFrame} {mk : MethodId} {a : Array Value} (h : STX A U H) : STX A (U.calling g mk a) H :=
  ⟨fun w hw => va_Nw.same (u := U) (U := U.calling g mk a) (nw_ot w hw) rfl (h.1 w hw), h.2.1.moved (Vm.Alike.refl U.vm), h.2.2.1.moved (Vm.Alike.refl U.vm), fun q hq => by obtain ⟨b, hb⟩ := h.2.2.2 q hq; exact ⟨b, vk_R.same rfl hb⟩⟩
def ST (ζ : Nat → Nat) (A : Nat → Prop) (U : State) (H : Heap) : Prop := STX A U H ∧ STR ζ A U H
theorem ST.go {ζ : Nat → Nat} {A B : Nat → Prop} {s U : State} {H : Heap} (h : ST ζ A s s.heap) (hW : s.WarmedH U.vm) (hS : ∀ a : Nat, a < s.heap.size → ¬ A a → H[a]? = s.heap[a]?) (hB : ∀ q, B q → A q) : ST ζ B U H := ⟨h.1.go hW hS hB, h.2.go hW hS hB⟩
theorem ST.calling {ζ : Nat → Nat} {A : Nat → Prop} {U : State} {H : Heap} {g : JFrame} {mk : MethodId} {a : Array Value} (h : ST ζ A U H) : ST ζ A (U.calling g mk a) H := ⟨h.1.calling, h.2.calling⟩
def Rm (d mc ms : Nat) : Room := { frames := d, cells := mc, slots := ms, locals := 40 * d }
def PrC (D : va_G) (cl : List vw_C) (tys : List (ClassId × FieldType)) (ζ : Nat → Nat) (sz : Nat) (L : List Nat) (F : Nat → va_E) : State → Prop := fun U => U.heap.size = sz ∧ va_P D cl (va_pl L F) U.heap ∧ va_D (fun _ => True) (va_pl L F) ∧ va_K D cl tys U ∧ ST ζ (AL L sz) U U.heap
theorem PrC.blind {D : va_G} {cl : List vw_C} {tys : List (ClassId × FieldType)} {ζ : Nat → Nat} {sz : Nat} {L : List Nat} {F : Nat → va_E} {av : List Value} : FrameBlind (va_Pc av (PrC D cl tys ζ sz L F)) := by
  intro a U g mk h
  obtain ⟨h1, h2, h3, h4, h5, h6⟩ := h
  exact ⟨h1, h2, h3, h4, va_K.moved (u := U) (U := U.calling g mk a) (Vm.Alike.refl U.vm) h5, ST.calling h6⟩
theorem PrC.of {D : va_G} {cl : List vw_C} {tys : List (ClassId × FieldType)} {ζ : Nat → Nat} {s U : State} {H : Heap} {locs : List Loc} {L0 L : List Nat} {F : Nat → va_E} (hK : va_K D cl tys s) (hW : HW D cl L0 s H locs L F) (hST : ST ζ (AL L0 s.heap.size) s s.heap) (hU : U.heap = H) (hWm : s.WarmedH U.vm) : PrC D cl tys ζ H.size L F U := by
  subst hU
  exact ⟨rfl, hW.1, hW.2.1.weaken (fun _ _ _ _ => trivial), va_K.moved hWm.alike hK, hST.go hWm hW.2.2.2.1 hW.sub⟩
def PoW (D : va_G) (cl : List vw_C) (sz : Nat) (L : List Nat) (u : List Nat × (Nat → va_E)) (t : State) : Prop := va_P D cl (va_pl u.1 u.2) t.heap ∧ va_D (AL L sz) (va_pl u.1 u.2)
/-- a thrown exception: nothing that was there before has changed -/
def XcW (D : va_G) (cl : List vw_C) (sz : Nat) (L : List Nat) (F : Nat → va_E) (xp : String → Prop) : String → State → State → Prop := vx_X (S := Unit) (fun _ => True) (fun E _ t => xp E ∧ va_P D cl (va_pl L F) t.heap) (AL L sz)
def MCode (y : MethodName) (cc : ByteArray) (n : Nat) (rt : Option FieldType) : Prop := Cond.code y cc n rt ∈ Gw ∧ Cond.initialized y.cls ∈ Gw ∧ y.cls ≠ "java/lang/invoke/MethodHandle" ∧ y.cls ≠ "java/lang/invoke/VarHandle"
theorem gw_cons {y : MethodName} {cc : ByteArray} {n : Nat} {rt : Option FieldType} (h : MCode y cc n rt) {pre : List Cond} (hp : ∀ w ∈ pre, w ∈ Gw) : GoodIn Gw (pre ++ (Cond.code y cc n rt :: Gw)) := by
  have key : ∀ w ∈ pre ++ (Cond.code y cc n rt :: Gw), w ∈ Gw := by
    intro w hw
    rcases List.mem_append.mp hw with q | q
    · exact hp w q
    · rcases List.mem_cons.mp q with rfl | q
      · exact h.1
      · exact q
  exact fun w hw => ⟨key w hw, good_of_word (gw_good w (key w hw))⟩

def MtI (l : Launch) (D : va_G) (cl : List vw_C) (tys : List (ClassId × FieldType)) (ζ : Nat → Nat) (y : MethodName) (bytes : ByteArray) (n : Nat) (rt : Option FieldType) (d mc ms : Nat) (av : List Value) (L : List Nat) (F : Nat → va_E) (post : Int32 → List Nat → (Nat → va_E) → Prop) : Prop := ∀ sz : Nat, Met l y (Cond.code y bytes n rt :: Gw) (Rm d mc ms) (va_Pc av (PrC D cl tys ζ sz L F)) (va_Qi (S := List Nat × (Nat → va_E)) (fun r u => post r u.1 u.2) (PoW D cl sz L) (AL L sz)) mc ms (AL L sz)
def EnI (D : va_G) (cl : List vw_C) (s : State) (below : List Frame) (args : Array Value) (mc ms : Nat) (L : List Nat) (post : Int32 → List Nat → (Nat → va_E) → Prop) : State → Prop := MQ below (va_Qi (S := List Nat × (Nat → va_E)) (fun r u => post r u.1 u.2) (PoW D cl s.heap.size L) (AL L s.heap.size)) args s mc ms (AL L s.heap.size)
theorem MtI.of {l : Launch} {D : va_G} {cl : List vw_C} {tys : List (ClassId × FieldType)} {ζ : Nat → Nat} {y : MethodName} {bytes : ByteArray} {n d mc ms : Nat} {rt : Option FieldType} {av : List Value} {L : List Nat} {F : Nat → va_E} {post : Int32 → List Nat → (Nat → va_E) → Prop} (hy : plainName y.cls = true) (hlen : (lg_sl av).length ≤ n) (body : ∀ (p : Program) (e : Env) (s : State) (m : MethodId) (below : List Frame) (meth : Method) (c : Code), CallFix p m c bytes n s av.toArray Gw y.cls → meth.sig.returnType = rt → meth.locks = false → (y.name = "<init>" → meth.name = "<init>") → va_K D cl tys s → HW D cl L s s.heap [] L F → ST ζ (AL L s.heap.size) s s.heap → ∀ ls : Array Slot, lv_has ls n (lv_args 0 av) → W p l e (Rm d mc ms) s m av.toArray below meth c s.heap [] 0 0 (EnI D cl s below av.toArray mc ms L post) (F0 m 0 ls [])) : MtI l D cl tys ζ y bytes n rt d mc ms av L F post := by
  intro sz
  refine Met.ofW (cc := bytes) (maxL := n) (ret := rt) hy rfl ?_
  intro p e s m args below meth c s₁ B hml hv
  obtain ⟨rfl, hsz, hP, hD, hK, hST⟩ := hv
  subst hsz
  have hts := atoms_spec (ws := Cond.code y bytes n rt :: Gw) B.pre
  have hl := lv_entry av (n := n) hlen
  rw [lg_entry_eq]
  generalize (lg_sl av ++ List.replicate (n - (lg_sl av).length) Slot.unset).toArray = ls at hl ⊢
  exact body p e s m below meth c ⟨B.exec, B.bytes, hml, findClass_of_methodNamed B.named, fun w hw => hts w (List.mem_cons_of_mem _ hw)⟩ B.returns B.notSynchronized (fun hn => (name_of_methodNamed B.named B.method).1.trans hn) hK ⟨hP, ⟨hD.1, fun k q hk => Or.inl (pl_mem hk)⟩, va_S.rf⟩ hST ls hl
def MxI (l : Launch) (D : va_G) (cl : List vw_C) (tys : List (ClassId × FieldType)) (ζ : Nat → Nat) (y : MethodName) (bytes : ByteArray) (n : Nat) (rt : Option FieldType) (d mc ms : Nat) (av : List Value) (L : List Nat) (F : Nat → va_E) (post : Int32 → List Nat → (Nat → va_E) → Prop) (xp : String → Prop) : Prop := ∀ sz : Nat, vx_Met l y (Cond.code y bytes n rt :: Gw) (Rm d mc ms) (va_Pc av (PrC D cl tys ζ sz L F)) (va_Qi (S := List Nat × (Nat → va_E)) (fun r u => post r u.1 u.2) (PoW D cl sz L) (AL L sz)) (XcW D cl sz L F xp) mc ms (AL L sz)
def ExI (D : va_G) (cl : List vw_C) (s : State) (below : List Frame) (args : Array Value) (mc ms : Nat) (L : List Nat) (F : Nat → va_E) (post : Int32 → List Nat → (Nat → va_E) → Prop) (xp : String → Prop) : State → Prop := vx_MQ below (va_Qi (S := List Nat × (Nat → va_E)) (fun r u => post r u.1 u.2) (PoW D cl s.heap.size L) (AL L s.heap.size)) (XcW D cl s.heap.size L F xp) args s mc ms (AL L s.heap.size)
theorem MxI.of {l : Launch} {D : va_G} {cl : List vw_C} {tys : List (ClassId × FieldType)} {ζ : Nat → Nat} {y : MethodName} {bytes : ByteArray} {n d mc ms : Nat} {rt : Option FieldType} {av : List Value} {L : List Nat} {F : Nat → va_E} {post : Int32 → List Nat → (Nat → va_E) → Prop} {xp : String → Prop} (hy : plainName y.cls = true) (hlen : (lg_sl av).length ≤ n) (body : ∀ (p : Program) (e : Env) (s : State) (m : MethodId) (below : List Frame) (meth : Method) (c : Code), CallFix p m c bytes n s av.toArray Gw y.cls → meth.sig.returnType = rt → meth.locks = false → (∀ x ∈ c.exceptionTable.toList, False) → va_K D cl tys s → HW D cl L s s.heap [] L F → ST ζ (AL L s.heap.size) s s.heap → ∀ ls : Array Slot, lv_has ls n (lv_args 0 av) → W p l e (Rm d mc ms) s m av.toArray below meth c s.heap [] 0 0 (ExI D cl s below av.toArray mc ms L F post xp) (F0 m 0 ls [])) : MxI l D cl tys ζ y bytes n rt d mc ms av L F post xp := by
  intro sz
  refine vx_ofW (cc := bytes) (maxL := n) (ret := rt) hy rfl ?_
  intro p e s m args below meth c s₁ B hml hxt hv
  obtain ⟨rfl, hsz, hP, hD, hK, hST⟩ := hv
  subst hsz
  have hts := atoms_spec (ws := Cond.code y bytes n rt :: Gw) B.pre
  have hl := lv_entry av (n := n) hlen
  rw [lg_entry_eq]
  generalize (lg_sl av ++ List.replicate (n - (lg_sl av).length) Slot.unset).toArray = ls at hl ⊢
  exact body p e s m below meth c ⟨B.exec, B.bytes, hml, findClass_of_methodNamed B.named, fun w hw => hts w (List.mem_cons_of_mem _ hw)⟩ B.returns B.notSynchronized hxt hK ⟨hP, ⟨hD.1, fun k q hk => Or.inl (pl_mem hk)⟩, va_S.rf⟩ hST ls hl
def MtJ (l : Launch) (D : va_G) (cl : List vw_C) (tys : List (ClassId × FieldType)) (ζ : Nat → Nat) (y : MethodName) (bytes : ByteArray) (n : Nat) (rt : Option FieldType) (d mc ms : Nat) (av : List Value) (L : List Nat) (F : Nat → va_E) (post : Int64 → List Nat → (Nat → va_E) → Prop) : Prop := ∀ sz : Nat, Met l y (Cond.code y bytes n rt :: Gw) (Rm d mc ms) (va_Pc av (PrC D cl tys ζ sz L F)) (va_Ql (S := List Nat × (Nat → va_E)) (fun r u => post r u.1 u.2) (PoW D cl sz L) (AL L sz)) mc ms (AL L sz)
def EnJ (D : va_G) (cl : List vw_C) (s : State) (below : List Frame) (args : Array Value) (mc ms : Nat) (L : List Nat) (post : Int64 → List Nat → (Nat → va_E) → Prop) : State → Prop := MQ below (va_Ql (S := List Nat × (Nat → va_E)) (fun r u => post r u.1 u.2) (PoW D cl s.heap.size L) (AL L s.heap.size)) args s mc ms (AL L s.heap.size)
theorem MtJ.of {l : Launch} {D : va_G} {cl : List vw_C} {tys : List (ClassId × FieldType)} {ζ : Nat → Nat} {y : MethodName} {bytes : ByteArray} {n d mc ms : Nat} {rt : Option FieldType} {av : List Value} {L : List Nat} {F : Nat → va_E} {post : Int64 → List Nat → (Nat → va_E) → Prop} (hy : plainName y.cls = true) (hlen : (lg_sl av).length ≤ n) (body : ∀ (p : Program) (e : Env) (s : State) (m : MethodId) (below : List Frame) (meth : Method) (c : Code), CallFix p m c bytes n s av.toArray Gw y.cls → meth.sig.returnType = rt → meth.locks = false → (y.name = "<init>" → meth.name = "<init>") → va_K D cl tys s → HW D cl L s s.heap [] L F → ST ζ (AL L s.heap.size) s s.heap → ∀ ls : Array Slot, lv_has ls n (lv_args 0 av) → W p l e (Rm d mc ms) s m av.toArray below meth c s.heap [] 0 0 (EnJ D cl s below av.toArray mc ms L post) (F0 m 0 ls [])) : MtJ l D cl tys ζ y bytes n rt d mc ms av L F post := by
  intro sz
  refine Met.ofW (cc := bytes) (maxL := n) (ret := rt) hy rfl ?_
  intro p e s m args below meth c s₁ B hml hv
  obtain ⟨rfl, hsz, hP, hD, hK, hST⟩ := hv
  subst hsz
  have hts := atoms_spec (ws := Cond.code y bytes n rt :: Gw) B.pre
  have hl := lv_entry av (n := n) hlen
  rw [lg_entry_eq]
  generalize (lg_sl av ++ List.replicate (n - (lg_sl av).length) Slot.unset).toArray = ls at hl ⊢
  exact body p e s m below meth c ⟨B.exec, B.bytes, hml, findClass_of_methodNamed B.named, fun w hw => hts w (List.mem_cons_of_mem _ hw)⟩ B.returns B.notSynchronized (fun hn => (name_of_methodNamed B.named B.method).1.trans hn) hK ⟨hP, ⟨hD.1, fun k q hk => Or.inl (pl_mem hk)⟩, va_S.rf⟩ hST ls hl
def MxJ (l : Launch) (D : va_G) (cl : List vw_C) (tys : List (ClassId × FieldType)) (ζ : Nat → Nat) (y : MethodName) (bytes : ByteArray) (n : Nat) (rt : Option FieldType) (d mc ms : Nat) (av : List Value) (L : List Nat) (F : Nat → va_E) (post : Int64 → List Nat → (Nat → va_E) → Prop) (xp : String → Prop) : Prop := ∀ sz : Nat, vx_Met l y (Cond.code y bytes n rt :: Gw) (Rm d mc ms) (va_Pc av (PrC D cl tys ζ sz L F)) (va_Ql (S := List Nat × (Nat → va_E)) (fun r u => post r u.1 u.2) (PoW D cl sz L) (AL L sz)) (XcW D cl sz L F xp) mc ms (AL L sz)
def ExJ (D : va_G) (cl : List vw_C) (s : State) (below : List Frame) (args : Array Value) (mc ms : Nat) (L : List Nat) (F : Nat → va_E) (post : Int64 → List Nat → (Nat → va_E) → Prop) (xp : String → Prop) : State → Prop := vx_MQ below (va_Ql (S := List Nat × (Nat → va_E)) (fun r u => post r u.1 u.2) (PoW D cl s.heap.size L) (AL L s.heap.size)) (XcW D cl s.heap.size L F xp) args s mc ms (AL L s.heap.size)
theorem MxJ.of {l : Launch} {D : va_G} {cl : List vw_C} {tys : List (ClassId × FieldType)} {ζ : Nat → Nat} {y : MethodName} {bytes : ByteArray} {n d mc ms : Nat} {rt : Option FieldType} {av : List Value} {L : List Nat} {F : Nat → va_E} {post : Int64 → List Nat → (Nat → va_E) → Prop} {xp : String → Prop} (hy : plainName y.cls = true) (hlen : (lg_sl av).length ≤ n) (body : ∀ (p : Program) (e : Env) (s : State) (m : MethodId) (below : List Frame) (meth : Method) (c : Code), CallFix p m c bytes n s av.toArray Gw y.cls → meth.sig.returnType = rt → meth.locks = false → (∀ x ∈ c.exceptionTable.toList, False) → va_K D cl tys s → HW D cl L s s.heap [] L F → ST ζ (AL L s.heap.size) s s.heap → ∀ ls : Array Slot, lv_has ls n (lv_args 0 av) → W p l e (Rm d mc ms) s m av.toArray below meth c s.heap [] 0 0 (ExJ D cl s below av.toArray mc ms L F post xp) (F0 m 0 ls [])) : MxJ l D cl tys ζ y bytes n rt d mc ms av L F post xp := by
  intro sz
  refine vx_ofW (cc := bytes) (maxL := n) (ret := rt) hy rfl ?_
  intro p e s m args below meth c s₁ B hml hxt hv
  obtain ⟨rfl, hsz, hP, hD, hK, hST⟩ := hv
  subst hsz
  have hts := atoms_spec (ws := Cond.code y bytes n rt :: Gw) B.pre
  have hl := lv_entry av (n := n) hlen
  rw [lg_entry_eq]
  generalize (lg_sl av ++ List.replicate (n - (lg_sl av).length) Slot.unset).toArray = ls at hl ⊢
  exact body p e s m below meth c ⟨B.exec, B.bytes, hml, findClass_of_methodNamed B.named, fun w hw => hts w (List.mem_cons_of_mem _ hw)⟩ B.returns B.notSynchronized hxt hK ⟨hP, ⟨hD.1, fun k q hk => Or.inl (pl_mem hk)⟩, va_S.rf⟩ hST ls hl
def MtV (l : Launch) (D : va_G) (cl : List vw_C) (tys : List (ClassId × FieldType)) (ζ : Nat → Nat) (y : MethodName) (bytes : ByteArray) (n : Nat) (rt : Option FieldType) (d mc ms : Nat) (av : List Value) (L : List Nat) (F : Nat → va_E) (post : List Nat → (Nat → va_E) → Prop) : Prop := ∀ sz : Nat, Met l y (Cond.code y bytes n rt :: Gw) (Rm d mc ms) (va_Pc av (PrC D cl tys ζ sz L F)) (va_Qv (S := List Nat × (Nat → va_E)) (fun u => post u.1 u.2) (PoW D cl sz L) (AL L sz)) mc ms (AL L sz)
def EnV (D : va_G) (cl : List vw_C) (s : State) (below : List Frame) (args : Array Value) (mc ms : Nat) (L : List Nat) (post : List Nat → (Nat → va_E) → Prop) : State → Prop := MQ below (va_Qv (S := List Nat × (Nat → va_E)) (fun u => post u.1 u.2) (PoW D cl s.heap.size L) (AL L s.heap.size)) args s mc ms (AL L s.heap.size)
theorem MtV.of {l : Launch} {D : va_G} {cl : List vw_C} {tys : List (ClassId × FieldType)} {ζ : Nat → Nat} {y : MethodName} {bytes : ByteArray} {n d mc ms : Nat} {rt : Option FieldType} {av : List Value} {L : List Nat} {F : Nat → va_E} {post : List Nat → (Nat → va_E) → Prop} (hy : plainName y.cls = true) (hlen : (lg_sl av).length ≤ n) (body : ∀ (p : Program) (e : Env) (s : State) (m : MethodId) (below : List Frame) (meth : Method) (c : Code), CallFix p m c bytes n s av.toArray Gw y.cls → meth.sig.returnType = rt → meth.locks = false → (y.name = "<init>" → meth.name = "<init>") → va_K D cl tys s → HW D cl L s s.heap [] L F → ST ζ (AL L s.heap.size) s s.heap → ∀ ls : Array Slot, lv_has ls n (lv_args 0 av) → W p l e (Rm d mc ms) s m av.toArray below meth c s.heap [] 0 0 (EnV D cl s below av.toArray mc ms L post) (F0 m 0 ls [])) : MtV l D cl tys ζ y bytes n rt d mc ms av L F post := by
  intro sz
  refine Met.ofW (cc := bytes) (maxL := n) (ret := rt) hy rfl ?_
  intro p e s m args below meth c s₁ B hml hv
  obtain ⟨rfl, hsz, hP, hD, hK, hST⟩ := hv
  subst hsz
  have hts := atoms_spec (ws := Cond.code y bytes n rt :: Gw) B.pre
  have hl := lv_entry av (n := n) hlen
  rw [lg_entry_eq]
  generalize (lg_sl av ++ List.replicate (n - (lg_sl av).length) Slot.unset).toArray = ls at hl ⊢
  exact body p e s m below meth c ⟨B.exec, B.bytes, hml, findClass_of_methodNamed B.named, fun w hw => hts w (List.mem_cons_of_mem _ hw)⟩ B.returns B.notSynchronized (fun hn => (name_of_methodNamed B.named B.method).1.trans hn) hK ⟨hP, ⟨hD.1, fun k q hk => Or.inl (pl_mem hk)⟩, va_S.rf⟩ hST ls hl
def MxV (l : Launch) (D : va_G) (cl : List vw_C) (tys : List (ClassId × FieldType)) (ζ : Nat → Nat) (y : MethodName) (bytes : ByteArray) (n : Nat) (rt : Option FieldType) (d mc ms : Nat) (av : List Value) (L : List Nat) (F : Nat → va_E) (post : List Nat → (Nat → va_E) → Prop) (xp : String → Prop) : Prop := ∀ sz : Nat, vx_Met l y (Cond.code y bytes n rt :: Gw) (Rm d mc ms) (va_Pc av (PrC D cl tys ζ sz L F)) (va_Qv (S := List Nat × (Nat → va_E)) (fun u => post u.1 u.2) (PoW D cl sz L) (AL L sz)) (XcW D cl sz L F xp) mc ms (AL L sz)
def ExV (D : va_G) (cl : List vw_C) (s : State) (below : List Frame) (args : Array Value) (mc ms : Nat) (L : List Nat) (F : Nat → va_E) (post : List Nat → (Nat → va_E) → Prop) (xp : String → Prop) : State → Prop := vx_MQ below (va_Qv (S := List Nat × (Nat → va_E)) (fun u => post u.1 u.2) (PoW D cl s.heap.size L) (AL L s.heap.size)) (XcW D cl s.heap.size L F xp) args s mc ms (AL L s.heap.size)
theorem MxV.of {l : Launch} {D : va_G} {cl : List vw_C} {tys : List (ClassId × FieldType)} {ζ : Nat → Nat} {y : MethodName} {bytes : ByteArray} {n d mc ms : Nat} {rt : Option FieldType} {av : List Value} {L : List Nat} {F : Nat → va_E} {post : List Nat → (Nat → va_E) → Prop} {xp : String → Prop} (hy : plainName y.cls = true) (hlen : (lg_sl av).length ≤ n) (body : ∀ (p : Program) (e : Env) (s : State) (m : MethodId) (below : List Frame) (meth : Method) (c : Code), CallFix p m c bytes n s av.toArray Gw y.cls → meth.sig.returnType = rt → meth.locks = false → (∀ x ∈ c.exceptionTable.toList, False) → va_K D cl tys s → HW D cl L s s.heap [] L F → ST ζ (AL L s.heap.size) s s.heap → ∀ ls : Array Slot, lv_has ls n (lv_args 0 av) → W p l e (Rm d mc ms) s m av.toArray below meth c s.heap [] 0 0 (ExV D cl s below av.toArray mc ms L F post xp) (F0 m 0 ls [])) : MxV l D cl tys ζ y bytes n rt d mc ms av L F post xp := by
  intro sz
  refine vx_ofW (cc := bytes) (maxL := n) (ret := rt) hy rfl ?_
  intro p e s m args below meth c s₁ B hml hxt hv
  obtain ⟨rfl, hsz, hP, hD, hK, hST⟩ := hv
  subst hsz
  have hts := atoms_spec (ws := Cond.code y bytes n rt :: Gw) B.pre
  have hl := lv_entry av (n := n) hlen
  rw [lg_entry_eq]
  generalize (lg_sl av ++ List.replicate (n - (lg_sl av).length) Slot.unset).toArray = ls at hl ⊢
  exact body p e s m below meth c ⟨B.exec, B.bytes, hml, findClass_of_methodNamed B.named, fun w hw => hts w (List.mem_cons_of_mem _ hw)⟩ B.returns B.notSynchronized hxt hK ⟨hP, ⟨hD.1, fun k q hk => Or.inl (pl_mem hk)⟩, va_S.rf⟩ hST ls hl
def MtR (l : Launch) (D : va_G) (cl : List vw_C) (tys : List (ClassId × FieldType)) (ζ : Nat → Nat) (y : MethodName) (bytes : ByteArray) (n : Nat) (rt : Option FieldType) (d mc ms : Nat) (av : List Value) (L : List Nat) (F : Nat → va_E) (post : Nat → List Nat → (Nat → va_E) → Prop) : Prop := ∀ sz : Nat, Met l y (Cond.code y bytes n rt :: Gw) (Rm d mc ms) (va_Pc av (PrC D cl tys ζ sz L F)) (va_Qr (S := List Nat × (Nat → va_E)) (fun _ => True) (fun u ra t => post ra u.1 u.2 ∧ PoW D cl sz L u t) (AL L sz)) mc ms (AL L sz)
def EnR (D : va_G) (cl : List vw_C) (s : State) (below : List Frame) (args : Array Value) (mc ms : Nat) (L : List Nat) (post : Nat → List Nat → (Nat → va_E) → Prop) : State → Prop := MQ below (va_Qr (S := List Nat × (Nat → va_E)) (fun _ => True) (fun u ra t => post ra u.1 u.2 ∧ PoW D cl s.heap.size L u t) (AL L s.heap.size)) args s mc ms (AL L s.heap.size)
theorem MtR.of {l : Launch} {D : va_G} {cl : List vw_C} {tys : List (ClassId × FieldType)} {ζ : Nat → Nat} {y : MethodName} {bytes : ByteArray} {n d mc ms : Nat} {rt : Option FieldType} {av : List Value} {L : List Nat} {F : Nat → va_E} {post : Nat → List Nat → (Nat → va_E) → Prop} (hy : plainName y.cls = true) (hlen : (lg_sl av).length ≤ n) (body : ∀ (p : Program) (e : Env) (s : State) (m : MethodId) (below : List Frame) (meth : Method) (c : Code), CallFix p m c bytes n s av.toArray Gw y.cls → meth.sig.returnType = rt → meth.locks = false → (y.name = "<init>" → meth.name = "<init>") → va_K D cl tys s → HW D cl L s s.heap [] L F → ST ζ (AL L s.heap.size) s s.heap → ∀ ls : Array Slot, lv_has ls n (lv_args 0 av) → W p l e (Rm d mc ms) s m av.toArray below meth c s.heap [] 0 0 (EnR D cl s below av.toArray mc ms L post) (F0 m 0 ls [])) : MtR l D cl tys ζ y bytes n rt d mc ms av L F post := by
  intro sz
  refine Met.ofW (cc := bytes) (maxL := n) (ret := rt) hy rfl ?_
  intro p e s m args below meth c s₁ B hml hv
  obtain ⟨rfl, hsz, hP, hD, hK, hST⟩ := hv
  subst hsz
  have hts := atoms_spec (ws := Cond.code y bytes n rt :: Gw) B.pre
  have hl := lv_entry av (n := n) hlen
  rw [lg_entry_eq]
  generalize (lg_sl av ++ List.replicate (n - (lg_sl av).length) Slot.unset).toArray = ls at hl ⊢
  exact body p e s m below meth c ⟨B.exec, B.bytes, hml, findClass_of_methodNamed B.named, fun w hw => hts w (List.mem_cons_of_mem _ hw)⟩ B.returns B.notSynchronized (fun hn => (name_of_methodNamed B.named B.method).1.trans hn) hK ⟨hP, ⟨hD.1, fun k q hk => Or.inl (pl_mem hk)⟩, va_S.rf⟩ hST ls hl
def MxR (l : Launch) (D : va_G) (cl : List vw_C) (tys : List (ClassId × FieldType)) (ζ : Nat → Nat) (y : MethodName) (bytes : ByteArray) (n : Nat) (rt : Option FieldType) (d mc ms : Nat) (av : List Value) (L : List Nat) (F : Nat → va_E) (post : Nat → List Nat → (Nat → va_E) → Prop) (xp : String → Prop) : Prop := ∀ sz : Nat, vx_Met l y (Cond.code y bytes n rt :: Gw) (Rm d mc ms) (va_Pc av (PrC D cl tys ζ sz L F)) (va_Qr (S := List Nat × (Nat → va_E)) (fun _ => True) (fun u ra t => post ra u.1 u.2 ∧ PoW D cl sz L u t) (AL L sz)) (XcW D cl sz L F xp) mc ms (AL L sz)
def ExR (D : va_G) (cl : List vw_C) (s : State) (below : List Frame) (args : Array Value) (mc ms : Nat) (L : List Nat) (F : Nat → va_E) (post : Nat → List Nat → (Nat → va_E) → Prop) (xp : String → Prop) : State → Prop := vx_MQ below (va_Qr (S := List Nat × (Nat → va_E)) (fun _ => True) (fun u ra t => post ra u.1 u.2 ∧ PoW D cl s.heap.size L u t) (AL L s.heap.size)) (XcW D cl s.heap.size L F xp) args s mc ms (AL L s.heap.size)
theorem MxR.of {l : Launch} {D : va_G} {cl : List vw_C} {tys : List (ClassId × FieldType)} {ζ : Nat → Nat} {y : MethodName} {bytes : ByteArray} {n d mc ms : Nat} {rt : Option FieldType} {av : List Value} {L : List Nat} {F : Nat → va_E} {post : Nat → List Nat → (Nat → va_E) → Prop} {xp : String → Prop} (hy : plainName y.cls = true) (hlen : (lg_sl av).length ≤ n) (body : ∀ (p : Program) (e : Env) (s : State) (m : MethodId) (below : List Frame) (meth : Method) (c : Code), CallFix p m c bytes n s av.toArray Gw y.cls → meth.sig.returnType = rt → meth.locks = false → (∀ x ∈ c.exceptionTable.toList, False) → va_K D cl tys s → HW D cl L s s.heap [] L F → ST ζ (AL L s.heap.size) s s.heap → ∀ ls : Array Slot, lv_has ls n (lv_args 0 av) → W p l e (Rm d mc ms) s m av.toArray below meth c s.heap [] 0 0 (ExR D cl s below av.toArray mc ms L F post xp) (F0 m 0 ls [])) : MxR l D cl tys ζ y bytes n rt d mc ms av L F post xp := by
  intro sz
  refine vx_ofW (cc := bytes) (maxL := n) (ret := rt) hy rfl ?_
  intro p e s m args below meth c s₁ B hml hxt hv
  obtain ⟨rfl, hsz, hP, hD, hK, hST⟩ := hv
  subst hsz
  have hts := atoms_spec (ws := Cond.code y bytes n rt :: Gw) B.pre
  have hl := lv_entry av (n := n) hlen
  rw [lg_entry_eq]
  generalize (lg_sl av ++ List.replicate (n - (lg_sl av).length) Slot.unset).toArray = ls at hl ⊢
  exact body p e s m below meth c ⟨B.exec, B.bytes, hml, findClass_of_methodNamed B.named, fun w hw => hts w (List.mem_cons_of_mem _ hw)⟩ B.returns B.notSynchronized hxt hK ⟨hP, ⟨hD.1, fun k q hk => Or.inl (pl_mem hk)⟩, va_S.rf⟩ hST ls hl
section CK
variable {p : Program} {l : Launch} {e : Env} {R : Room} {s : State} {m : MethodId} {args : Array Value} {below : List Frame} {meth : Method} {c : Code} {cc : ByteArray} {nL : Nat} {own : String} {H : Heap} {locs : List Loc} {cells slots : Nat} {Q : State → Prop} {D : va_G} {cl : List vw_C} {tys : List (ClassId × FieldType)} {ζ : Nat → Nat} {pc : Nat} {ls : Array Slot} {rest st0 : List Value} {L0 L : List Nat} {F : Nat → va_E} {y : MethodName} {bytes : ByteArray} {n d mc ms index np : Nat} {rt : Option FieldType} {As : List Value}
theorem nar_bool {v : Int32} (h : v = 0 ∨ v = 1) : narrow .boolean (.int v) = .int v := by rcases h with rfl | rfl <;> rfl
theorem fit_bool {v : Int32} (h : v = 0 ∨ v = 1) : fits .boolean (.int v) = true := by rcases h with rfl | rfl <;> rfl
theorem pk_iret (S : CallFix p m c cc nL s args Gw own) (hr : meth.sig.returnType = some .int) (hlk : meth.locks = false) (hW : HW D cl L0 s H locs L F) {v : Int32} {post : Int32 → List Nat → (Nat → va_E) → Prop} (hp : post v L F) (hc : cells ≤ mc) (hs : slots ≤ ms) (hdg : decode cc pc = .ok (.ireturn, 1)) : W p l e R s m args below meth c H locs cells slots (EnI D cl s below args mc ms L0 post) (F0 m pc ls [.int v]) :=
  W.widen hc hs (W.iret S.1 S.2.1 hr (fun t ht hWm => ⟨⟨v, (L, F), rfl, hp, ⟨by rw [ht]; exact hW.1, hW.2.1⟩⟩, hW.2.2.F ht⟩) hW.2.2.2.2 hdg hlk)
theorem pk_zret (S : CallFix p m c cc nL s args Gw own) (hr : meth.sig.returnType = some .boolean) (hlk : meth.locks = false) (hW : HW D cl L0 s H locs L F) {v : Int32} {post : Int32 → List Nat → (Nat → va_E) → Prop} (hv : v = 0 ∨ v = 1) (hp : post v L F) (hc : cells ≤ mc) (hs : slots ≤ ms) (hdg : decode cc pc = .ok (.ireturn, 1)) : W p l e R s m args below meth c H locs cells slots (EnI D cl s below args mc ms L0 post) (F0 m pc ls [.int v]) :=
  W.widen hc hs (W.zret S.1 S.2.1 hr (nar_bool hv) (fun t ht hWm => ⟨⟨v, (L, F), rfl, hp, ⟨by rw [ht]; exact hW.1, hW.2.1⟩⟩, hW.2.2.F ht⟩) hW.2.2.2.2 hdg hlk)
theorem pk_lret (S : CallFix p m c cc nL s args Gw own) (hr : meth.sig.returnType = some .long) (hlk : meth.locks = false) (hW : HW D cl L0 s H locs L F) {v : Int64} {post : Int64 → List Nat → (Nat → va_E) → Prop} (hp : post v L F) (hc : cells ≤ mc) (hs : slots ≤ ms) (hdg : decode cc pc = .ok (.lreturn, 1)) : W p l e R s m args below meth c H locs cells slots (EnJ D cl s below args mc ms L0 post) (F0 m pc ls [.long v]) :=
  W.widen hc hs (W.lret S.1 S.2.1 hr (fun t ht hWm => ⟨⟨v, (L, F), rfl, hp, ⟨by rw [ht]; exact hW.1, hW.2.1⟩⟩, hW.2.2.F ht⟩) hW.2.2.2.2 hdg hlk)
theorem pk_vret (S : CallFix p m c cc nL s args Gw own) (hr : meth.sig.returnType = none) (hlk : meth.locks = false) (hW : HW D cl L0 s H locs L F) {post : List Nat → (Nat → va_E) → Prop} (hp : post L F) (hc : cells ≤ mc) (hs : slots ≤ ms) (hdg : decode cc pc = .ok (.return_, 1)) : W p l e R s m args below meth c H locs cells slots (EnV D cl s below args mc ms L0 post) (F0 m pc ls []) :=
  W.widen hc hs (W.vret S.1 S.2.1 hr (fun t ht hWm => ⟨⟨(L, F), rfl, hp, ⟨by rw [ht]; exact hW.1, hW.2.1⟩⟩, hW.2.2.F ht⟩) hW.2.2.2.2 hdg hlk)
theorem pk_rret (S : CallFix p m c cc nL s args Gw own) {C : FieldType} (hr : meth.sig.returnType = some C) (hC : (∃ n, C = .object n) ∨ ∃ t, C = .array t) (hlk : meth.locks = false) (hW : HW D cl L0 s H locs L F) {v : Nat} {post : Nat → List Nat → (Nat → va_E) → Prop} (hp : post v L F) (hc : cells ≤ mc) (hs : slots ≤ ms) (hdg : decode cc pc = .ok (.areturn, 1)) : W p l e R s m args below meth c H locs cells slots (EnR D cl s below args mc ms L0 post) (F0 m pc ls [.ref v]) :=
  W.widen hc hs (W.aret S.1 S.2.1 hr hC (Or.inr ⟨v, rfl⟩) (fun t ht hWm => ⟨⟨(L, F), v, rfl, trivial, ⟨hp, by rw [ht]; exact hW.1, hW.2.1⟩⟩, hW.2.2.F ht⟩) hW.2.2.2.2 hdg hlk)
theorem HW.after {sz : Nat} {u : List Nat × (Nat → va_E)} {t : State} {H1 : Heap} {locs1 : List Loc} (hW : HW D cl L0 s H locs L F) (ht : t.heap = H1) (hB : PoW D cl H.size L u t) (hS : va_S (AL L0 s.heap.size) s.heap H1 locs1) : HW D cl L0 s H1 locs1 u.1 u.2 := by
  subst ht
  exact ⟨hB.1, hB.2.weaken (fun _ q _ h => hW.sub q.1 h), hS⟩
theorem HW.thrown {xp : String → Prop} {E : String} {t : State} {H1 : Heap} {locs1 : List Loc} (hW : HW D cl L0 s H locs L F) (ht : t.heap = H1) (hP : va_P D cl (va_pl L F) t.heap) (hS : va_S (AL L0 s.heap.size) s.heap H1 locs1) : HW D cl L0 s H1 locs1 L F := by
  subst ht
  exact ⟨hP, hW.2.1, hS⟩

theorem pk_cVI (S : CallFix p m c cc nL s args Gw own) (hK : va_K D cl tys s) (hST : ST ζ (AL L0 s.heap.size) s s.heap) (hW : HW D cl L0 s H locs L F) {post : Int32 → List Nat → (Nat → va_E) → Prop} {b ci : Nat} {fs : List Value} {r0 : vw_C} (hM : MtI l D cl tys ζ y bytes n rt d mc ms (.ref b :: As) L F post) (hcd : MCode y bytes n rt) (hlink : Cond.methodLink own index y ∈ Gw) (hin : Cond.instanceMethod y ∈ Gw) (hsel : Cond.selects r0.1 y y ∈ Gw) (hyc : y.cls = r0.1) (hnp : (parseMethodDescriptor y.desc).map (fun d => d.parameters.length) = some np) (hb : b ∈ L) (he : F b = .inr (ci, fs)) (hc : cl[ci]? = some r0) (hlen : As.length = np) (hsize : ls.size = nL) (hstk : st0 = As.reverse ++ .ref b :: rest) (hcat : (rest.map fun v => v.category).sum ≤ 8) (hdg : decode cc pc = .ok (.invokevirtual index, 3)) (hR : d + 1 ≤ R.frames ∧ 8 + (n + 11) + 40 * d ≤ R.locals) (hf : cells + mc ≤ R.cells ∧ slots + ms ≤ R.slots)
    (kk : ∀ (r : Int32) (L1 : List Nat) (F1 : Nat → va_E) (H1 : Heap) (locs1 : List Loc), post r L1 F1 → HW D cl L0 s H1 locs1 L1 F1 → W p l e R s m args below meth c H1 locs1 (cells + mc) (slots + ms) Q (F0 m (pc + 3) ls (.int r :: rest))) : W p l e R s m args below meth c H locs cells slots Q (F0 m pc ls st0) := by
  exact va_calli (va_runV (As := As) (rest := rest) S (hM H.size) (cwV np S.2.2.2.2 (gw_cons (pre := [.methodLink own index y, .instanceMethod y, .selects r0.1 y y, .initialized r0.1]) hcd (List.forall_mem_cons.mpr ⟨hlink, List.forall_mem_cons.mpr ⟨hin, List.forall_mem_cons.mpr ⟨hsel, List.forall_mem_cons.mpr ⟨hyc ▸ hcd.2.1, fun _ h => absurd h List.not_mem_nil⟩⟩⟩⟩)) rfl rfl rfl ⟨hyc, hcd.2.2.1, hcd.2.2.2, hnp⟩ hR) ⟨PrC.blind, pk_recv hK hW hb he hc, fun U hU hWm => ⟨rfl, PrC.of hK hW hST hU hWm⟩⟩ rfl hlen hsize hstk (lv_room hcat) hdg hf) hW.2.2 (fun q _ h => hW.sub q h) hW.sub (fun r u t H1 locs1 ht hvm hp hB hz hk hS1 => kk r u.1 u.2 H1 locs1 hp (hW.after (sz := 0) ht hB hS1))
theorem xk_cVI (S : CallFix p m c cc nL s args Gw own) (hK : va_K D cl tys s) (hST : ST ζ (AL L0 s.heap.size) s s.heap) (hW : HW D cl L0 s H locs L F) {post : Int32 → List Nat → (Nat → va_E) → Prop} {b ci : Nat} {fs : List Value} {r0 : vw_C} {xp : String → Prop} (hM : MxI l D cl tys ζ y bytes n rt d mc ms (.ref b :: As) L F post xp) (hcd : MCode y bytes n rt) (hlink : Cond.methodLink own index y ∈ Gw) (hin : Cond.instanceMethod y ∈ Gw) (hsel : Cond.selects r0.1 y y ∈ Gw) (hyc : y.cls = r0.1) (hnp : (parseMethodDescriptor y.desc).map (fun d => d.parameters.length) = some np) (hb : b ∈ L) (he : F b = .inr (ci, fs)) (hc : cl[ci]? = some r0) (hlen : As.length = np) (hsize : ls.size = nL) (hstk : st0 = As.reverse ++ .ref b :: rest) (hcat : (rest.map fun v => v.category).sum ≤ 8) (hdg : decode cc pc = .ok (.invokevirtual index, 3)) (hR : d + 1 ≤ R.frames ∧ 8 + (n + 11) + 40 * d ≤ R.locals) (hf : cells + mc ≤ R.cells ∧ slots + ms ≤ R.slots)
    (kx : ∀ (E : String) (ce : Cell) (q9 : Addr) (H1 : Heap) (locs1 : List Loc), xp E → HW D cl L0 s H1 locs1 L F → H1[q9]? = some ce → ce.vm = .none → s.vm.findClass E = some ce.cls → vx_W p l e R s m args below meth c H1 locs1 (cells + mc) (slots + ms) Q (F0 m pc ls rest) q9)
    (kk : ∀ (r : Int32) (L1 : List Nat) (F1 : Nat → va_E) (H1 : Heap) (locs1 : List Loc), post r L1 F1 → HW D cl L0 s H1 locs1 L1 F1 → W p l e R s m args below meth c H1 locs1 (cells + mc) (slots + ms) Q (F0 m (pc + 3) ls (.int r :: rest))) : W p l e R s m args below meth c H locs cells slots Q (F0 m pc ls st0) := by
  exact vx_calli (vx_runV (As := As) (rest := rest) S (hM H.size) (cwV np S.2.2.2.2 (gw_cons (pre := [.methodLink own index y, .instanceMethod y, .selects r0.1 y y, .initialized r0.1]) hcd (List.forall_mem_cons.mpr ⟨hlink, List.forall_mem_cons.mpr ⟨hin, List.forall_mem_cons.mpr ⟨hsel, List.forall_mem_cons.mpr ⟨hyc ▸ hcd.2.1, fun _ h => absurd h List.not_mem_nil⟩⟩⟩⟩)) rfl rfl rfl ⟨hyc, hcd.2.2.1, hcd.2.2.2, hnp⟩ hR) ⟨PrC.blind, pk_recv hK hW hb he hc, fun U hU hWm => ⟨rfl, PrC.of hK hW hST hU hWm⟩⟩ rfl hlen hsize hstk (lv_room hcat) hdg hf) hW.2.2 (fun q _ h => hW.sub q h) hW.sub (fun q _ h => hW.sub q h) (fun E ce q9 u t H1 locs1 ht hvm hp hB hz hk hS1 h1 h2 h3 => kx E ce q9 H1 locs1 hB.1 (hW.thrown (xp := xp) (E := E) ht hB.2 hS1) h1 h2 h3) (fun r u t H1 locs1 ht hvm hp hB hz hk hS1 => kk r u.1 u.2 H1 locs1 hp (hW.after (sz := 0) ht hB hS1))
theorem pk_cSI (S : CallFix p m c cc nL s args Gw own) (hK : va_K D cl tys s) (hST : ST ζ (AL L0 s.heap.size) s s.heap) (hW : HW D cl L0 s H locs L F) {post : Int32 → List Nat → (Nat → va_E) → Prop} (hM : MtI l D cl tys ζ y bytes n rt d mc ms As L F post) (hcd : MCode y bytes n rt) (hlink : Cond.methodLink own index y ∈ Gw) (hsta : Cond.static y ∈ Gw) (hnp : (parseMethodDescriptor y.desc).map (fun d => d.parameters.length) = some np) (hlen : As.length = np) (hsize : ls.size = nL) (hstk : st0 = As.reverse ++ rest) (hcat : (rest.map fun v => v.category).sum ≤ 8) (hdg : decode cc pc = .ok (.invokestatic index, 3)) (hR : d + 1 ≤ R.frames ∧ 8 + (n + 11) + 40 * d ≤ R.locals) (hf : cells + mc ≤ R.cells ∧ slots + ms ≤ R.slots)
    (kk : ∀ (r : Int32) (L1 : List Nat) (F1 : Nat → va_E) (H1 : Heap) (locs1 : List Loc), post r L1 F1 → HW D cl L0 s H1 locs1 L1 F1 → W p l e R s m args below meth c H1 locs1 (cells + mc) (slots + ms) Q (F0 m (pc + 3) ls (.int r :: rest))) : W p l e R s m args below meth c H locs cells slots Q (F0 m pc ls st0) := by
  exact va_calli (va_runS (As := As) (rest := rest) S (hM H.size) (va_cwS np S.2.2.2.2 (gw_cons (pre := [.methodLink own index y, .static y, .initialized y.cls]) hcd (List.forall_mem_cons.mpr ⟨hlink, List.forall_mem_cons.mpr ⟨hsta, List.forall_mem_cons.mpr ⟨hcd.2.1, fun _ h => absurd h List.not_mem_nil⟩⟩⟩)) rfl rfl rfl ⟨hcd.2.2.1, hcd.2.2.2, hnp⟩ hR) ⟨PrC.blind, fun U hU hWm => ⟨rfl, PrC.of hK hW hST hU hWm⟩⟩ rfl hlen hsize hstk (lv_room hcat) hdg hf) hW.2.2 (fun q _ h => hW.sub q h) hW.sub (fun r u t H1 locs1 ht hvm hp hB hz hk hS1 => kk r u.1 u.2 H1 locs1 hp (hW.after (sz := 0) ht hB hS1))
theorem xk_cSI (S : CallFix p m c cc nL s args Gw own) (hK : va_K D cl tys s) (hST : ST ζ (AL L0 s.heap.size) s s.heap) (hW : HW D cl L0 s H locs L F) {post : Int32 → List Nat → (Nat → va_E) → Prop} {xp : String → Prop} (hM : MxI l D cl tys ζ y bytes n rt d mc ms As L F post xp) (hcd : MCode y bytes n rt) (hlink : Cond.methodLink own index y ∈ Gw) (hsta : Cond.static y ∈ Gw) (hnp : (parseMethodDescriptor y.desc).map (fun d => d.parameters.length) = some np) (hlen : As.length = np) (hsize : ls.size = nL) (hstk : st0 = As.reverse ++ rest) (hcat : (rest.map fun v => v.category).sum ≤ 8) (hdg : decode cc pc = .ok (.invokestatic index, 3)) (hR : d + 1 ≤ R.frames ∧ 8 + (n + 11) + 40 * d ≤ R.locals) (hf : cells + mc ≤ R.cells ∧ slots + ms ≤ R.slots)
    (kx : ∀ (E : String) (ce : Cell) (q9 : Addr) (H1 : Heap) (locs1 : List Loc), xp E → HW D cl L0 s H1 locs1 L F → H1[q9]? = some ce → ce.vm = .none → s.vm.findClass E = some ce.cls → vx_W p l e R s m args below meth c H1 locs1 (cells + mc) (slots + ms) Q (F0 m pc ls rest) q9)
    (kk : ∀ (r : Int32) (L1 : List Nat) (F1 : Nat → va_E) (H1 : Heap) (locs1 : List Loc), post r L1 F1 → HW D cl L0 s H1 locs1 L1 F1 → W p l e R s m args below meth c H1 locs1 (cells + mc) (slots + ms) Q (F0 m (pc + 3) ls (.int r :: rest))) : W p l e R s m args below meth c H locs cells slots Q (F0 m pc ls st0) := by
  exact vx_calli (vx_runS (As := As) (rest := rest) S (hM H.size) (va_cwS np S.2.2.2.2 (gw_cons (pre := [.methodLink own index y, .static y, .initialized y.cls]) hcd (List.forall_mem_cons.mpr ⟨hlink, List.forall_mem_cons.mpr ⟨hsta, List.forall_mem_cons.mpr ⟨hcd.2.1, fun _ h => absurd h List.not_mem_nil⟩⟩⟩)) rfl rfl rfl ⟨hcd.2.2.1, hcd.2.2.2, hnp⟩ hR) ⟨PrC.blind, fun U hU hWm => ⟨rfl, PrC.of hK hW hST hU hWm⟩⟩ rfl hlen hsize hstk (lv_room hcat) hdg hf) hW.2.2 (fun q _ h => hW.sub q h) hW.sub (fun q _ h => hW.sub q h) (fun E ce q9 u t H1 locs1 ht hvm hp hB hz hk hS1 h1 h2 h3 => kx E ce q9 H1 locs1 hB.1 (hW.thrown (xp := xp) (E := E) ht hB.2 hS1) h1 h2 h3) (fun r u t H1 locs1 ht hvm hp hB hz hk hS1 => kk r u.1 u.2 H1 locs1 hp (hW.after (sz := 0) ht hB hS1))
theorem pk_cNI (S : CallFix p m c cc nL s args Gw own) (hK : va_K D cl tys s) (hST : ST ζ (AL L0 s.heap.size) s s.heap) (hW : HW D cl L0 s H locs L F) {post : Int32 → List Nat → (Nat → va_E) → Prop} {host : String} (hM : MtI l D cl tys ζ y bytes n rt d mc ms As L F post) (hcd : MCode y bytes n rt) (hlink : Cond.methodLinkNest own index y host ∈ NwL) (hsta : Cond.static y ∈ Gw) (hnp : (parseMethodDescriptor y.desc).map (fun d => d.parameters.length) = some np) (hlen : As.length = np) (hsize : ls.size = nL) (hstk : st0 = As.reverse ++ rest) (hcat : (rest.map fun v => v.category).sum ≤ 8) (hdg : decode cc pc = .ok (.invokestatic index, 3)) (hR : d + 1 ≤ R.frames ∧ 8 + (n + 11) + 40 * d ≤ R.locals) (hf : cells + mc ≤ R.cells ∧ slots + ms ≤ R.slots)
    (kk : ∀ (r : Int32) (L1 : List Nat) (F1 : Nat → va_E) (H1 : Heap) (locs1 : List Loc), post r L1 F1 → HW D cl L0 s H1 locs1 L1 F1 → W p l e R s m args below meth c H1 locs1 (cells + mc) (slots + ms) Q (F0 m (pc + 3) ls (.int r :: rest))) : W p l e R s m args below meth c H locs cells slots Q (F0 m pc ls st0) := by
  exact va_calli (va_runSN (As := As) (rest := rest) S (hM H.size) ⟨va_cnB np S.2.2.2.2 (gw_cons (pre := []) hcd (fun _ h => absurd h List.not_mem_nil)) rfl rfl rfl (hST.1.1 _ hlink) (S.2.2.2.2 _ hcd.2.1) ⟨hcd.2.2.1, hcd.2.2.2, hnp⟩ hR, S.2.2.2.2 _ hsta, trivial⟩ ⟨PrC.blind, fun U hU hWm => ⟨rfl, PrC.of hK hW hST hU hWm⟩⟩ rfl hlen hsize hstk (lv_room hcat) hdg hf) hW.2.2 (fun q _ h => hW.sub q h) hW.sub (fun r u t H1 locs1 ht hvm hp hB hz hk hS1 => kk r u.1 u.2 H1 locs1 hp (hW.after (sz := 0) ht hB hS1))
theorem pk_cVJ (S : CallFix p m c cc nL s args Gw own) (hK : va_K D cl tys s) (hST : ST ζ (AL L0 s.heap.size) s s.heap) (hW : HW D cl L0 s H locs L F) {post : Int64 → List Nat → (Nat → va_E) → Prop} {b ci : Nat} {fs : List Value} {r0 : vw_C} (hM : MtJ l D cl tys ζ y bytes n rt d mc ms (.ref b :: As) L F post) (hcd : MCode y bytes n rt) (hlink : Cond.methodLink own index y ∈ Gw) (hin : Cond.instanceMethod y ∈ Gw) (hsel : Cond.selects r0.1 y y ∈ Gw) (hyc : y.cls = r0.1) (hnp : (parseMethodDescriptor y.desc).map (fun d => d.parameters.length) = some np) (hb : b ∈ L) (he : F b = .inr (ci, fs)) (hc : cl[ci]? = some r0) (hlen : As.length = np) (hsize : ls.size = nL) (hstk : st0 = As.reverse ++ .ref b :: rest) (hcat : (rest.map fun v => v.category).sum ≤ 8) (hdg : decode cc pc = .ok (.invokevirtual index, 3)) (hR : d + 1 ≤ R.frames ∧ 8 + (n + 11) + 40 * d ≤ R.locals) (hf : cells + mc ≤ R.cells ∧ slots + ms ≤ R.slots)
    (kk : ∀ (r : Int64) (L1 : List Nat) (F1 : Nat → va_E) (H1 : Heap) (locs1 : List Loc), post r L1 F1 → HW D cl L0 s H1 locs1 L1 F1 → W p l e R s m args below meth c H1 locs1 (cells + mc) (slots + ms) Q (F0 m (pc + 3) ls (.long r :: rest))) : W p l e R s m args below meth c H locs cells slots Q (F0 m pc ls st0) := by
  exact va_calll (va_runV (As := As) (rest := rest) S (hM H.size) (cwV np S.2.2.2.2 (gw_cons (pre := [.methodLink own index y, .instanceMethod y, .selects r0.1 y y, .initialized r0.1]) hcd (List.forall_mem_cons.mpr ⟨hlink, List.forall_mem_cons.mpr ⟨hin, List.forall_mem_cons.mpr ⟨hsel, List.forall_mem_cons.mpr ⟨hyc ▸ hcd.2.1, fun _ h => absurd h List.not_mem_nil⟩⟩⟩⟩)) rfl rfl rfl ⟨hyc, hcd.2.2.1, hcd.2.2.2, hnp⟩ hR) ⟨PrC.blind, pk_recv hK hW hb he hc, fun U hU hWm => ⟨rfl, PrC.of hK hW hST hU hWm⟩⟩ rfl hlen hsize hstk (lv_room hcat) hdg hf) hW.2.2 (fun q _ h => hW.sub q h) hW.sub (fun r u t H1 locs1 ht hvm hp hB hz hk hS1 => kk r u.1 u.2 H1 locs1 hp (hW.after (sz := 0) ht hB hS1))
theorem xk_cVJ (S : CallFix p m c cc nL s args Gw own) (hK : va_K D cl tys s) (hST : ST ζ (AL L0 s.heap.size) s s.heap) (hW : HW D cl L0 s H locs L F) {post : Int64 → List Nat → (Nat → va_E) → Prop} {b ci : Nat} {fs : List Value} {r0 : vw_C} {xp : String → Prop} (hM : MxJ l D cl tys ζ y bytes n rt d mc ms (.ref b :: As) L F post xp) (hcd : MCode y bytes n rt) (hlink : Cond.methodLink own index y ∈ Gw) (hin : Cond.instanceMethod y ∈ Gw) (hsel : Cond.selects r0.1 y y ∈ Gw) (hyc : y.cls = r0.1) (hnp : (parseMethodDescriptor y.desc).map (fun d => d.parameters.length) = some np) (hb : b ∈ L) (he : F b = .inr (ci, fs)) (hc : cl[ci]? = some r0) (hlen : As.length = np) (hsize : ls.size = nL) (hstk : st0 = As.reverse ++ .ref b :: rest) (hcat : (rest.map fun v => v.category).sum ≤ 8) (hdg : decode cc pc = .ok (.invokevirtual index, 3)) (hR : d + 1 ≤ R.frames ∧ 8 + (n + 11) + 40 * d ≤ R.locals) (hf : cells + mc ≤ R.cells ∧ slots + ms ≤ R.slots)
    (kx : ∀ (E : String) (ce : Cell) (q9 : Addr) (H1 : Heap) (locs1 : List Loc), xp E → HW D cl L0 s H1 locs1 L F → H1[q9]? = some ce → ce.vm = .none → s.vm.findClass E = some ce.cls → vx_W p l e R s m args below meth c H1 locs1 (cells + mc) (slots + ms) Q (F0 m pc ls rest) q9)
    (kk : ∀ (r : Int64) (L1 : List Nat) (F1 : Nat → va_E) (H1 : Heap) (locs1 : List Loc), post r L1 F1 → HW D cl L0 s H1 locs1 L1 F1 → W p l e R s m args below meth c H1 locs1 (cells + mc) (slots + ms) Q (F0 m (pc + 3) ls (.long r :: rest))) : W p l e R s m args below meth c H locs cells slots Q (F0 m pc ls st0) := by
  exact vx_calll (vx_runV (As := As) (rest := rest) S (hM H.size) (cwV np S.2.2.2.2 (gw_cons (pre := [.methodLink own index y, .instanceMethod y, .selects r0.1 y y, .initialized r0.1]) hcd (List.forall_mem_cons.mpr ⟨hlink, List.forall_mem_cons.mpr ⟨hin, List.forall_mem_cons.mpr ⟨hsel, List.forall_mem_cons.mpr ⟨hyc ▸ hcd.2.1, fun _ h => absurd h List.not_mem_nil⟩⟩⟩⟩)) rfl rfl rfl ⟨hyc, hcd.2.2.1, hcd.2.2.2, hnp⟩ hR) ⟨PrC.blind, pk_recv hK hW hb he hc, fun U hU hWm => ⟨rfl, PrC.of hK hW hST hU hWm⟩⟩ rfl hlen hsize hstk (lv_room hcat) hdg hf) hW.2.2 (fun q _ h => hW.sub q h) hW.sub (fun q _ h => hW.sub q h) (fun E ce q9 u t H1 locs1 ht hvm hp hB hz hk hS1 h1 h2 h3 => kx E ce q9 H1 locs1 hB.1 (hW.thrown (xp := xp) (E := E) ht hB.2 hS1) h1 h2 h3) (fun r u t H1 locs1 ht hvm hp hB hz hk hS1 => kk r u.1 u.2 H1 locs1 hp (hW.after (sz := 0) ht hB hS1))
theorem pk_cSJ (S : CallFix p m c cc nL s args Gw own) (hK : va_K D cl tys s) (hST : ST ζ (AL L0 s.heap.size) s s.heap) (hW : HW D cl L0 s H locs L F) {post : Int64 → List Nat → (Nat → va_E) → Prop} (hM : MtJ l D cl tys ζ y bytes n rt d mc ms As L F post) (hcd : MCode y bytes n rt) (hlink : Cond.methodLink own index y ∈ Gw) (hsta : Cond.static y ∈ Gw) (hnp : (parseMethodDescriptor y.desc).map (fun d => d.parameters.length) = some np) (hlen : As.length = np) (hsize : ls.size = nL) (hstk : st0 = As.reverse ++ rest) (hcat : (rest.map fun v => v.category).sum ≤ 8) (hdg : decode cc pc = .ok (.invokestatic index, 3)) (hR : d + 1 ≤ R.frames ∧ 8 + (n + 11) + 40 * d ≤ R.locals) (hf : cells + mc ≤ R.cells ∧ slots + ms ≤ R.slots)
    (kk : ∀ (r : Int64) (L1 : List Nat) (F1 : Nat → va_E) (H1 : Heap) (locs1 : List Loc), post r L1 F1 → HW D cl L0 s H1 locs1 L1 F1 → W p l e R s m args below meth c H1 locs1 (cells + mc) (slots + ms) Q (F0 m (pc + 3) ls (.long r :: rest))) : W p l e R s m args below meth c H locs cells slots Q (F0 m pc ls st0) := by
  exact va_calll (va_runS (As := As) (rest := rest) S (hM H.size) (va_cwS np S.2.2.2.2 (gw_cons (pre := [.methodLink own index y, .static y, .initialized y.cls]) hcd (List.forall_mem_cons.mpr ⟨hlink, List.forall_mem_cons.mpr ⟨hsta, List.forall_mem_cons.mpr ⟨hcd.2.1, fun _ h => absurd h List.not_mem_nil⟩⟩⟩)) rfl rfl rfl ⟨hcd.2.2.1, hcd.2.2.2, hnp⟩ hR) ⟨PrC.blind, fun U hU hWm => ⟨rfl, PrC.of hK hW hST hU hWm⟩⟩ rfl hlen hsize hstk (lv_room hcat) hdg hf) hW.2.2 (fun q _ h => hW.sub q h) hW.sub (fun r u t H1 locs1 ht hvm hp hB hz hk hS1 => kk r u.1 u.2 H1 locs1 hp (hW.after (sz := 0) ht hB hS1))
theorem xk_cSJ (S : CallFix p m c cc nL s args Gw own) (hK : va_K D cl tys s) (hST : ST ζ (AL L0 s.heap.size) s s.heap) (hW : HW D cl L0 s H locs L F) {post : Int64 → List Nat → (Nat → va_E) → Prop} {xp : String → Prop} (hM : MxJ l D cl tys ζ y bytes n rt d mc ms As L F post xp) (hcd : MCode y bytes n rt) (hlink : Cond.methodLink own index y ∈ Gw) (hsta : Cond.static y ∈ Gw) (hnp : (parseMethodDescriptor y.desc).map (fun d => d.parameters.length) = some np) (hlen : As.length = np) (hsize : ls.size = nL) (hstk : st0 = As.reverse ++ rest) (hcat : (rest.map fun v => v.category).sum ≤ 8) (hdg : decode cc pc = .ok (.invokestatic index, 3)) (hR : d + 1 ≤ R.frames ∧ 8 + (n + 11) + 40 * d ≤ R.locals) (hf : cells + mc ≤ R.cells ∧ slots + ms ≤ R.slots)
    (kx : ∀ (E : String) (ce : Cell) (q9 : Addr) (H1 : Heap) (locs1 : List Loc), xp E → HW D cl L0 s H1 locs1 L F → H1[q9]? = some ce → ce.vm = .none → s.vm.findClass E = some ce.cls → vx_W p l e R s m args below meth c H1 locs1 (cells + mc) (slots + ms) Q (F0 m pc ls rest) q9)
    (kk : ∀ (r : Int64) (L1 : List Nat) (F1 : Nat → va_E) (H1 : Heap) (locs1 : List Loc), post r L1 F1 → HW D cl L0 s H1 locs1 L1 F1 → W p l e R s m args below meth c H1 locs1 (cells + mc) (slots + ms) Q (F0 m (pc + 3) ls (.long r :: rest))) : W p l e R s m args below meth c H locs cells slots Q (F0 m pc ls st0) := by
  exact vx_calll (vx_runS (As := As) (rest := rest) S (hM H.size) (va_cwS np S.2.2.2.2 (gw_cons (pre := [.methodLink own index y, .static y, .initialized y.cls]) hcd (List.forall_mem_cons.mpr ⟨hlink, List.forall_mem_cons.mpr ⟨hsta, List.forall_mem_cons.mpr ⟨hcd.2.1, fun _ h => absurd h List.not_mem_nil⟩⟩⟩)) rfl rfl rfl ⟨hcd.2.2.1, hcd.2.2.2, hnp⟩ hR) ⟨PrC.blind, fun U hU hWm => ⟨rfl, PrC.of hK hW hST hU hWm⟩⟩ rfl hlen hsize hstk (lv_room hcat) hdg hf) hW.2.2 (fun q _ h => hW.sub q h) hW.sub (fun q _ h => hW.sub q h) (fun E ce q9 u t H1 locs1 ht hvm hp hB hz hk hS1 h1 h2 h3 => kx E ce q9 H1 locs1 hB.1 (hW.thrown (xp := xp) (E := E) ht hB.2 hS1) h1 h2 h3) (fun r u t H1 locs1 ht hvm hp hB hz hk hS1 => kk r u.1 u.2 H1 locs1 hp (hW.after (sz := 0) ht hB hS1))
theorem pk_cNJ (S : CallFix p m c cc nL s args Gw own) (hK : va_K D cl tys s) (hST : ST ζ (AL L0 s.heap.size) s s.heap) (hW : HW D cl L0 s H locs L F) {post : Int64 → List Nat → (Nat → va_E) → Prop} {host : String} (hM : MtJ l D cl tys ζ y bytes n rt d mc ms As L F post) (hcd : MCode y bytes n rt) (hlink : Cond.methodLinkNest own index y host ∈ NwL) (hsta : Cond.static y ∈ Gw) (hnp : (parseMethodDescriptor y.desc).map (fun d => d.parameters.length) = some np) (hlen : As.length = np) (hsize : ls.size = nL) (hstk : st0 = As.reverse ++ rest) (hcat : (rest.map fun v => v.category).sum ≤ 8) (hdg : decode cc pc = .ok (.invokestatic index, 3)) (hR : d + 1 ≤ R.frames ∧ 8 + (n + 11) + 40 * d ≤ R.locals) (hf : cells + mc ≤ R.cells ∧ slots + ms ≤ R.slots)
    (kk : ∀ (r : Int64) (L1 : List Nat) (F1 : Nat → va_E) (H1 : Heap) (locs1 : List Loc), post r L1 F1 → HW D cl L0 s H1 locs1 L1 F1 → W p l e R s m args below meth c H1 locs1 (cells + mc) (slots + ms) Q (F0 m (pc + 3) ls (.long r :: rest))) : W p l e R s m args below meth c H locs cells slots Q (F0 m pc ls st0) := by
  exact va_calll (va_runSN (As := As) (rest := rest) S (hM H.size) ⟨va_cnB np S.2.2.2.2 (gw_cons (pre := []) hcd (fun _ h => absurd h List.not_mem_nil)) rfl rfl rfl (hST.1.1 _ hlink) (S.2.2.2.2 _ hcd.2.1) ⟨hcd.2.2.1, hcd.2.2.2, hnp⟩ hR, S.2.2.2.2 _ hsta, trivial⟩ ⟨PrC.blind, fun U hU hWm => ⟨rfl, PrC.of hK hW hST hU hWm⟩⟩ rfl hlen hsize hstk (lv_room hcat) hdg hf) hW.2.2 (fun q _ h => hW.sub q h) hW.sub (fun r u t H1 locs1 ht hvm hp hB hz hk hS1 => kk r u.1 u.2 H1 locs1 hp (hW.after (sz := 0) ht hB hS1))
theorem pk_cVV (S : CallFix p m c cc nL s args Gw own) (hK : va_K D cl tys s) (hST : ST ζ (AL L0 s.heap.size) s s.heap) (hW : HW D cl L0 s H locs L F) {post : List Nat → (Nat → va_E) → Prop} {b ci : Nat} {fs : List Value} {r0 : vw_C} (hM : MtV l D cl tys ζ y bytes n rt d mc ms (.ref b :: As) L F post) (hcd : MCode y bytes n rt) (hlink : Cond.methodLink own index y ∈ Gw) (hin : Cond.instanceMethod y ∈ Gw) (hsel : Cond.selects r0.1 y y ∈ Gw) (hyc : y.cls = r0.1) (hnp : (parseMethodDescriptor y.desc).map (fun d => d.parameters.length) = some np) (hb : b ∈ L) (he : F b = .inr (ci, fs)) (hc : cl[ci]? = some r0) (hlen : As.length = np) (hsize : ls.size = nL) (hstk : st0 = As.reverse ++ .ref b :: rest) (hcat : (rest.map fun v => v.category).sum ≤ 8) (hdg : decode cc pc = .ok (.invokevirtual index, 3)) (hR : d + 1 ≤ R.frames ∧ 8 + (n + 11) + 40 * d ≤ R.locals) (hf : cells + mc ≤ R.cells ∧ slots + ms ≤ R.slots)
    (kk : ∀  (L1 : List Nat) (F1 : Nat → va_E) (H1 : Heap) (locs1 : List Loc), post L1 F1 → HW D cl L0 s H1 locs1 L1 F1 → W p l e R s m args below meth c H1 locs1 (cells + mc) (slots + ms) Q (F0 m (pc + 3) ls (rest))) : W p l e R s m args below meth c H locs cells slots Q (F0 m pc ls st0) := by
  exact va_callv (va_runV (As := As) (rest := rest) S (hM H.size) (cwV np S.2.2.2.2 (gw_cons (pre := [.methodLink own index y, .instanceMethod y, .selects r0.1 y y, .initialized r0.1]) hcd (List.forall_mem_cons.mpr ⟨hlink, List.forall_mem_cons.mpr ⟨hin, List.forall_mem_cons.mpr ⟨hsel, List.forall_mem_cons.mpr ⟨hyc ▸ hcd.2.1, fun _ h => absurd h List.not_mem_nil⟩⟩⟩⟩)) rfl rfl rfl ⟨hyc, hcd.2.2.1, hcd.2.2.2, hnp⟩ hR) ⟨PrC.blind, pk_recv hK hW hb he hc, fun U hU hWm => ⟨rfl, PrC.of hK hW hST hU hWm⟩⟩ rfl hlen hsize hstk (lv_room hcat) hdg hf) hW.2.2 (fun q _ h => hW.sub q h) hW.sub (fun u t H1 locs1 ht hvm hp hB hz hk hS1 => kk u.1 u.2 H1 locs1 hp (hW.after (sz := 0) ht hB hS1))
theorem xk_cVV (S : CallFix p m c cc nL s args Gw own) (hK : va_K D cl tys s) (hST : ST ζ (AL L0 s.heap.size) s s.heap) (hW : HW D cl L0 s H locs L F) {post : List Nat → (Nat → va_E) → Prop} {b ci : Nat} {fs : List Value} {r0 : vw_C} {xp : String → Prop} (hM : MxV l D cl tys ζ y bytes n rt d mc ms (.ref b :: As) L F post xp) (hcd : MCode y bytes n rt) (hlink : Cond.methodLink own index y ∈ Gw) (hin : Cond.instanceMethod y ∈ Gw) (hsel : Cond.selects r0.1 y y ∈ Gw) (hyc : y.cls = r0.1) (hnp : (parseMethodDescriptor y.desc).map (fun d => d.parameters.length) = some np) (hb : b ∈ L) (he : F b = .inr (ci, fs)) (hc : cl[ci]? = some r0) (hlen : As.length = np) (hsize : ls.size = nL) (hstk : st0 = As.reverse ++ .ref b :: rest) (hcat : (rest.map fun v => v.category).sum ≤ 8) (hdg : decode cc pc = .ok (.invokevirtual index, 3)) (hR : d + 1 ≤ R.frames ∧ 8 + (n + 11) + 40 * d ≤ R.locals) (hf : cells + mc ≤ R.cells ∧ slots + ms ≤ R.slots)
    (kx : ∀ (E : String) (ce : Cell) (q9 : Addr) (H1 : Heap) (locs1 : List Loc), xp E → HW D cl L0 s H1 locs1 L F → H1[q9]? = some ce → ce.vm = .none → s.vm.findClass E = some ce.cls → vx_W p l e R s m args below meth c H1 locs1 (cells + mc) (slots + ms) Q (F0 m pc ls rest) q9)
    (kk : ∀  (L1 : List Nat) (F1 : Nat → va_E) (H1 : Heap) (locs1 : List Loc), post L1 F1 → HW D cl L0 s H1 locs1 L1 F1 → W p l e R s m args below meth c H1 locs1 (cells + mc) (slots + ms) Q (F0 m (pc + 3) ls (rest))) : W p l e R s m args below meth c H locs cells slots Q (F0 m pc ls st0) := by
  exact vx_callv (vx_runV (As := As) (rest := rest) S (hM H.size) (cwV np S.2.2.2.2 (gw_cons (pre := [.methodLink own index y, .instanceMethod y, .selects r0.1 y y, .initialized r0.1]) hcd (List.forall_mem_cons.mpr ⟨hlink, List.forall_mem_cons.mpr ⟨hin, List.forall_mem_cons.mpr ⟨hsel, List.forall_mem_cons.mpr ⟨hyc ▸ hcd.2.1, fun _ h => absurd h List.not_mem_nil⟩⟩⟩⟩)) rfl rfl rfl ⟨hyc, hcd.2.2.1, hcd.2.2.2, hnp⟩ hR) ⟨PrC.blind, pk_recv hK hW hb he hc, fun U hU hWm => ⟨rfl, PrC.of hK hW hST hU hWm⟩⟩ rfl hlen hsize hstk (lv_room hcat) hdg hf) hW.2.2 (fun q _ h => hW.sub q h) hW.sub (fun q _ h => hW.sub q h) (fun E ce q9 u t H1 locs1 ht hvm hp hB hz hk hS1 h1 h2 h3 => kx E ce q9 H1 locs1 hB.1 (hW.thrown (xp := xp) (E := E) ht hB.2 hS1) h1 h2 h3) (fun u t H1 locs1 ht hvm hp hB hz hk hS1 => kk u.1 u.2 H1 locs1 hp (hW.after (sz := 0) ht hB hS1))
theorem pk_cSV (S : CallFix p m c cc nL s args Gw own) (hK : va_K D cl tys s) (hST : ST ζ (AL L0 s.heap.size) s s.heap) (hW : HW D cl L0 s H locs L F) {post : List Nat → (Nat → va_E) → Prop} (hM : MtV l D cl tys ζ y bytes n rt d mc ms As L F post) (hcd : MCode y bytes n rt) (hlink : Cond.methodLink own index y ∈ Gw) (hsta : Cond.static y ∈ Gw) (hnp : (parseMethodDescriptor y.desc).map (fun d => d.parameters.length) = some np) (hlen : As.length = np) (hsize : ls.size = nL) (hstk : st0 = As.reverse ++ rest) (hcat : (rest.map fun v => v.category).sum ≤ 8) (hdg : decode cc pc = .ok (.invokestatic index, 3)) (hR : d + 1 ≤ R.frames ∧ 8 + (n + 11) + 40 * d ≤ R.locals) (hf : cells + mc ≤ R.cells ∧ slots + ms ≤ R.slots)
    (kk : ∀  (L1 : List Nat) (F1 : Nat → va_E) (H1 : Heap) (locs1 : List Loc), post L1 F1 → HW D cl L0 s H1 locs1 L1 F1 → W p l e R s m args below meth c H1 locs1 (cells + mc) (slots + ms) Q (F0 m (pc + 3) ls (rest))) : W p l e R s m args below meth c H locs cells slots Q (F0 m pc ls st0) := by
  exact va_callv (va_runS (As := As) (rest := rest) S (hM H.size) (va_cwS np S.2.2.2.2 (gw_cons (pre := [.methodLink own index y, .static y, .initialized y.cls]) hcd (List.forall_mem_cons.mpr ⟨hlink, List.forall_mem_cons.mpr ⟨hsta, List.forall_mem_cons.mpr ⟨hcd.2.1, fun _ h => absurd h List.not_mem_nil⟩⟩⟩)) rfl rfl rfl ⟨hcd.2.2.1, hcd.2.2.2, hnp⟩ hR) ⟨PrC.blind, fun U hU hWm => ⟨rfl, PrC.of hK hW hST hU hWm⟩⟩ rfl hlen hsize hstk (lv_room hcat) hdg hf) hW.2.2 (fun q _ h => hW.sub q h) hW.sub (fun u t H1 locs1 ht hvm hp hB hz hk hS1 => kk u.1 u.2 H1 locs1 hp (hW.after (sz := 0) ht hB hS1))
theorem xk_cSV (S : CallFix p m c cc nL s args Gw own) (hK : va_K D cl tys s) (hST : ST ζ (AL L0 s.heap.size) s s.heap) (hW : HW D cl L0 s H locs L F) {post : List Nat → (Nat → va_E) → Prop} {xp : String → Prop} (hM : MxV l D cl tys ζ y bytes n rt d mc ms As L F post xp) (hcd : MCode y bytes n rt) (hlink : Cond.methodLink own index y ∈ Gw) (hsta : Cond.static y ∈ Gw) (hnp : (parseMethodDescriptor y.desc).map (fun d => d.parameters.length) = some np) (hlen : As.length = np) (hsize : ls.size = nL) (hstk : st0 = As.reverse ++ rest) (hcat : (rest.map fun v => v.category).sum ≤ 8) (hdg : decode cc pc = .ok (.invokestatic index, 3)) (hR : d + 1 ≤ R.frames ∧ 8 + (n + 11) + 40 * d ≤ R.locals) (hf : cells + mc ≤ R.cells ∧ slots + ms ≤ R.slots)
    (kx : ∀ (E : String) (ce : Cell) (q9 : Addr) (H1 : Heap) (locs1 : List Loc), xp E → HW D cl L0 s H1 locs1 L F → H1[q9]? = some ce → ce.vm = .none → s.vm.findClass E = some ce.cls → vx_W p l e R s m args below meth c H1 locs1 (cells + mc) (slots + ms) Q (F0 m pc ls rest) q9)
    (kk : ∀  (L1 : List Nat) (F1 : Nat → va_E) (H1 : Heap) (locs1 : List Loc), post L1 F1 → HW D cl L0 s H1 locs1 L1 F1 → W p l e R s m args below meth c H1 locs1 (cells + mc) (slots + ms) Q (F0 m (pc + 3) ls (rest))) : W p l e R s m args below meth c H locs cells slots Q (F0 m pc ls st0) := by
  exact vx_callv (vx_runS (As := As) (rest := rest) S (hM H.size) (va_cwS np S.2.2.2.2 (gw_cons (pre := [.methodLink own index y, .static y, .initialized y.cls]) hcd (List.forall_mem_cons.mpr ⟨hlink, List.forall_mem_cons.mpr ⟨hsta, List.forall_mem_cons.mpr ⟨hcd.2.1, fun _ h => absurd h List.not_mem_nil⟩⟩⟩)) rfl rfl rfl ⟨hcd.2.2.1, hcd.2.2.2, hnp⟩ hR) ⟨PrC.blind, fun U hU hWm => ⟨rfl, PrC.of hK hW hST hU hWm⟩⟩ rfl hlen hsize hstk (lv_room hcat) hdg hf) hW.2.2 (fun q _ h => hW.sub q h) hW.sub (fun q _ h => hW.sub q h) (fun E ce q9 u t H1 locs1 ht hvm hp hB hz hk hS1 h1 h2 h3 => kx E ce q9 H1 locs1 hB.1 (hW.thrown (xp := xp) (E := E) ht hB.2 hS1) h1 h2 h3) (fun u t H1 locs1 ht hvm hp hB hz hk hS1 => kk u.1 u.2 H1 locs1 hp (hW.after (sz := 0) ht hB hS1))
theorem pk_cIV (S : CallFix p m c cc nL s args Gw own) (hK : va_K D cl tys s) (hST : ST ζ (AL L0 s.heap.size) s s.heap) (hW : HW D cl L0 s H locs L F) {post : List Nat → (Nat → va_E) → Prop} {b : Nat} (hM : MtV l D cl tys ζ y bytes n rt d mc ms (.ref b :: As) L F post) (hcd : MCode y bytes n rt) (hlink : Cond.methodLink own index y ∈ Gw) (hin : Cond.instanceMethod y ∈ Gw) (hy1 : y.name = "<init>") (hrt : rt = none) (hnp : (parseMethodDescriptor y.desc).map (fun d => d.parameters.length) = some np) (hlen : As.length = np) (hsize : ls.size = nL) (hstk : st0 = As.reverse ++ .ref b :: rest) (hcat : (rest.map fun v => v.category).sum ≤ 8) (hdg : decode cc pc = .ok (.invokespecial index, 3)) (hR : d + 1 ≤ R.frames ∧ 8 + (n + 11) + 40 * d ≤ R.locals) (hf : cells + mc ≤ R.cells ∧ slots + ms ≤ R.slots)
    (kk : ∀  (L1 : List Nat) (F1 : Nat → va_E) (H1 : Heap) (locs1 : List Loc), post L1 F1 → HW D cl L0 s H1 locs1 L1 F1 → W p l e R s m args below meth c H1 locs1 (cells + mc) (slots + ms) Q (F0 m (pc + 3) ls (rest))) : W p l e R s m args below meth c H locs cells slots Q (F0 m pc ls st0) := by
  subst hrt
  exact va_callv (va_runI (As := As) (rest := rest) S (hM H.size) (cwI np S.2.2.2.2 (gw_cons (pre := []) hcd (fun _ h => absurd h List.not_mem_nil)) rfl rfl rfl (S.2.2.2.2 _ hcd.2.1) (S.2.2.2.2 _ hlink) (S.2.2.2.2 _ hin) hy1 ⟨hcd.2.2.1, hcd.2.2.2, hnp⟩ hR) ⟨PrC.blind, fun U hU hWm => ⟨rfl, PrC.of hK hW hST hU hWm⟩⟩ rfl hlen hsize hstk (lv_room hcat) hdg hf) hW.2.2 (fun q _ h => hW.sub q h) hW.sub (fun u t H1 locs1 ht hvm hp hB hz hk hS1 => kk u.1 u.2 H1 locs1 hp (hW.after (sz := 0) ht hB hS1))
theorem pk_cNV (S : CallFix p m c cc nL s args Gw own) (hK : va_K D cl tys s) (hST : ST ζ (AL L0 s.heap.size) s s.heap) (hW : HW D cl L0 s H locs L F) {post : List Nat → (Nat → va_E) → Prop} {host : String} (hM : MtV l D cl tys ζ y bytes n rt d mc ms As L F post) (hcd : MCode y bytes n rt) (hlink : Cond.methodLinkNest own index y host ∈ NwL) (hsta : Cond.static y ∈ Gw) (hnp : (parseMethodDescriptor y.desc).map (fun d => d.parameters.length) = some np) (hlen : As.length = np) (hsize : ls.size = nL) (hstk : st0 = As.reverse ++ rest) (hcat : (rest.map fun v => v.category).sum ≤ 8) (hdg : decode cc pc = .ok (.invokestatic index, 3)) (hR : d + 1 ≤ R.frames ∧ 8 + (n + 11) + 40 * d ≤ R.locals) (hf : cells + mc ≤ R.cells ∧ slots + ms ≤ R.slots)
    (kk : ∀  (L1 : List Nat) (F1 : Nat → va_E) (H1 : Heap) (locs1 : List Loc), post L1 F1 → HW D cl L0 s H1 locs1 L1 F1 → W p l e R s m args below meth c H1 locs1 (cells + mc) (slots + ms) Q (F0 m (pc + 3) ls (rest))) : W p l e R s m args below meth c H locs cells slots Q (F0 m pc ls st0) := by
  exact va_callv (va_runSN (As := As) (rest := rest) S (hM H.size) ⟨va_cnB np S.2.2.2.2 (gw_cons (pre := []) hcd (fun _ h => absurd h List.not_mem_nil)) rfl rfl rfl (hST.1.1 _ hlink) (S.2.2.2.2 _ hcd.2.1) ⟨hcd.2.2.1, hcd.2.2.2, hnp⟩ hR, S.2.2.2.2 _ hsta, trivial⟩ ⟨PrC.blind, fun U hU hWm => ⟨rfl, PrC.of hK hW hST hU hWm⟩⟩ rfl hlen hsize hstk (lv_room hcat) hdg hf) hW.2.2 (fun q _ h => hW.sub q h) hW.sub (fun u t H1 locs1 ht hvm hp hB hz hk hS1 => kk u.1 u.2 H1 locs1 hp (hW.after (sz := 0) ht hB hS1))
theorem pk_cVR (S : CallFix p m c cc nL s args Gw own) (hK : va_K D cl tys s) (hST : ST ζ (AL L0 s.heap.size) s s.heap) (hW : HW D cl L0 s H locs L F) {post : Nat → List Nat → (Nat → va_E) → Prop} {b ci : Nat} {fs : List Value} {r0 : vw_C} (hM : MtR l D cl tys ζ y bytes n rt d mc ms (.ref b :: As) L F post) (hcd : MCode y bytes n rt) (hlink : Cond.methodLink own index y ∈ Gw) (hin : Cond.instanceMethod y ∈ Gw) (hsel : Cond.selects r0.1 y y ∈ Gw) (hyc : y.cls = r0.1) (hnp : (parseMethodDescriptor y.desc).map (fun d => d.parameters.length) = some np) (hb : b ∈ L) (he : F b = .inr (ci, fs)) (hc : cl[ci]? = some r0) (hlen : As.length = np) (hsize : ls.size = nL) (hstk : st0 = As.reverse ++ .ref b :: rest) (hcat : (rest.map fun v => v.category).sum ≤ 8) (hdg : decode cc pc = .ok (.invokevirtual index, 3)) (hR : d + 1 ≤ R.frames ∧ 8 + (n + 11) + 40 * d ≤ R.locals) (hf : cells + mc ≤ R.cells ∧ slots + ms ≤ R.slots)
    (kk : ∀ (r : Nat) (L1 : List Nat) (F1 : Nat → va_E) (H1 : Heap) (locs1 : List Loc), post r L1 F1 → HW D cl L0 s H1 locs1 L1 F1 → W p l e R s m args below meth c H1 locs1 (cells + mc) (slots + ms) Q (F0 m (pc + 3) ls (.ref r :: rest))) : W p l e R s m args below meth c H locs cells slots Q (F0 m pc ls st0) := by
  exact va_callr (va_runV (As := As) (rest := rest) S (hM H.size) (cwV np S.2.2.2.2 (gw_cons (pre := [.methodLink own index y, .instanceMethod y, .selects r0.1 y y, .initialized r0.1]) hcd (List.forall_mem_cons.mpr ⟨hlink, List.forall_mem_cons.mpr ⟨hin, List.forall_mem_cons.mpr ⟨hsel, List.forall_mem_cons.mpr ⟨hyc ▸ hcd.2.1, fun _ h => absurd h List.not_mem_nil⟩⟩⟩⟩)) rfl rfl rfl ⟨hyc, hcd.2.2.1, hcd.2.2.2, hnp⟩ hR) ⟨PrC.blind, pk_recv hK hW hb he hc, fun U hU hWm => ⟨rfl, PrC.of hK hW hST hU hWm⟩⟩ rfl hlen hsize hstk (lv_room hcat) hdg hf) hW.2.2 (fun q _ h => hW.sub q h) hW.sub (fun u r t H1 locs1 ht hvm hp hB hz hk hS1 => kk r u.1 u.2 H1 locs1 hB.1 (hW.after (sz := 0) ht hB.2 hS1))
theorem pk_cSR (S : CallFix p m c cc nL s args Gw own) (hK : va_K D cl tys s) (hST : ST ζ (AL L0 s.heap.size) s s.heap) (hW : HW D cl L0 s H locs L F) {post : Nat → List Nat → (Nat → va_E) → Prop} (hM : MtR l D cl tys ζ y bytes n rt d mc ms As L F post) (hcd : MCode y bytes n rt) (hlink : Cond.methodLink own index y ∈ Gw) (hsta : Cond.static y ∈ Gw) (hnp : (parseMethodDescriptor y.desc).map (fun d => d.parameters.length) = some np) (hlen : As.length = np) (hsize : ls.size = nL) (hstk : st0 = As.reverse ++ rest) (hcat : (rest.map fun v => v.category).sum ≤ 8) (hdg : decode cc pc = .ok (.invokestatic index, 3)) (hR : d + 1 ≤ R.frames ∧ 8 + (n + 11) + 40 * d ≤ R.locals) (hf : cells + mc ≤ R.cells ∧ slots + ms ≤ R.slots)
    (kk : ∀ (r : Nat) (L1 : List Nat) (F1 : Nat → va_E) (H1 : Heap) (locs1 : List Loc), post r L1 F1 → HW D cl L0 s H1 locs1 L1 F1 → W p l e R s m args below meth c H1 locs1 (cells + mc) (slots + ms) Q (F0 m (pc + 3) ls (.ref r :: rest))) : W p l e R s m args below meth c H locs cells slots Q (F0 m pc ls st0) := by
  exact va_callr (va_runS (As := As) (rest := rest) S (hM H.size) (va_cwS np S.2.2.2.2 (gw_cons (pre := [.methodLink own index y, .static y, .initialized y.cls]) hcd (List.forall_mem_cons.mpr ⟨hlink, List.forall_mem_cons.mpr ⟨hsta, List.forall_mem_cons.mpr ⟨hcd.2.1, fun _ h => absurd h List.not_mem_nil⟩⟩⟩)) rfl rfl rfl ⟨hcd.2.2.1, hcd.2.2.2, hnp⟩ hR) ⟨PrC.blind, fun U hU hWm => ⟨rfl, PrC.of hK hW hST hU hWm⟩⟩ rfl hlen hsize hstk (lv_room hcat) hdg hf) hW.2.2 (fun q _ h => hW.sub q h) hW.sub (fun u r t H1 locs1 ht hvm hp hB hz hk hS1 => kk r u.1 u.2 H1 locs1 hB.1 (hW.after (sz := 0) ht hB.2 hS1))
theorem pk_cNR (S : CallFix p m c cc nL s args Gw own) (hK : va_K D cl tys s) (hST : ST ζ (AL L0 s.heap.size) s s.heap) (hW : HW D cl L0 s H locs L F) {post : Nat → List Nat → (Nat → va_E) → Prop} {host : String} (hM : MtR l D cl tys ζ y bytes n rt d mc ms As L F post) (hcd : MCode y bytes n rt) (hlink : Cond.methodLinkNest own index y host ∈ NwL) (hsta : Cond.static y ∈ Gw) (hnp : (parseMethodDescriptor y.desc).map (fun d => d.parameters.length) = some np) (hlen : As.length = np) (hsize : ls.size = nL) (hstk : st0 = As.reverse ++ rest) (hcat : (rest.map fun v => v.category).sum ≤ 8) (hdg : decode cc pc = .ok (.invokestatic index, 3)) (hR : d + 1 ≤ R.frames ∧ 8 + (n + 11) + 40 * d ≤ R.locals) (hf : cells + mc ≤ R.cells ∧ slots + ms ≤ R.slots)
    (kk : ∀ (r : Nat) (L1 : List Nat) (F1 : Nat → va_E) (H1 : Heap) (locs1 : List Loc), post r L1 F1 → HW D cl L0 s H1 locs1 L1 F1 → W p l e R s m args below meth c H1 locs1 (cells + mc) (slots + ms) Q (F0 m (pc + 3) ls (.ref r :: rest))) : W p l e R s m args below meth c H locs cells slots Q (F0 m pc ls st0) := by
  exact va_callr (va_runSN (As := As) (rest := rest) S (hM H.size) ⟨va_cnB np S.2.2.2.2 (gw_cons (pre := []) hcd (fun _ h => absurd h List.not_mem_nil)) rfl rfl rfl (hST.1.1 _ hlink) (S.2.2.2.2 _ hcd.2.1) ⟨hcd.2.2.1, hcd.2.2.2, hnp⟩ hR, S.2.2.2.2 _ hsta, trivial⟩ ⟨PrC.blind, fun U hU hWm => ⟨rfl, PrC.of hK hW hST hU hWm⟩⟩ rfl hlen hsize hstk (lv_room hcat) hdg hf) hW.2.2 (fun q _ h => hW.sub q h) hW.sub (fun u r t H1 locs1 ht hvm hp hB hz hk hS1 => kk r u.1 u.2 H1 locs1 hB.1 (hW.after (sz := 0) ht hB.2 hS1))
theorem xk_iret (S : CallFix p m c cc nL s args Gw own) (hr : meth.sig.returnType = some .int) (hlk : meth.locks = false) (hW : HW D cl L0 s H locs L F) {Fe : Nat → va_E} {xp : String → Prop} {v : Int32} {post : Int32 → List Nat → (Nat → va_E) → Prop} (hp : post v L F) (hc : cells ≤ mc) (hs : slots ≤ ms) (hdg : decode cc pc = .ok (.ireturn, 1)) : W p l e R s m args below meth c H locs cells slots (ExI D cl s below args mc ms L0 Fe post xp) (F0 m pc ls [.int v]) :=
  vx_ret (pk_iret S hr hlk hW hp hc hs hdg)
theorem xk_zret (S : CallFix p m c cc nL s args Gw own) (hr : meth.sig.returnType = some .boolean) (hlk : meth.locks = false) (hW : HW D cl L0 s H locs L F) {Fe : Nat → va_E} {xp : String → Prop} {v : Int32} {post : Int32 → List Nat → (Nat → va_E) → Prop} (hv : v = 0 ∨ v = 1) (hp : post v L F) (hc : cells ≤ mc) (hs : slots ≤ ms) (hdg : decode cc pc = .ok (.ireturn, 1)) : W p l e R s m args below meth c H locs cells slots (ExI D cl s below args mc ms L0 Fe post xp) (F0 m pc ls [.int v]) :=
  vx_ret (pk_zret S hr hlk hW hv hp hc hs hdg)
theorem xk_lret (S : CallFix p m c cc nL s args Gw own) (hr : meth.sig.returnType = some .long) (hlk : meth.locks = false) (hW : HW D cl L0 s H locs L F) {Fe : Nat → va_E} {xp : String → Prop} {v : Int64} {post : Int64 → List Nat → (Nat → va_E) → Prop} (hp : post v L F) (hc : cells ≤ mc) (hs : slots ≤ ms) (hdg : decode cc pc = .ok (.lreturn, 1)) : W p l e R s m args below meth c H locs cells slots (ExJ D cl s below args mc ms L0 Fe post xp) (F0 m pc ls [.long v]) :=
  vx_ret (pk_lret S hr hlk hW hp hc hs hdg)
theorem xk_vret (S : CallFix p m c cc nL s args Gw own) (hr : meth.sig.returnType = none) (hlk : meth.locks = false) (hW : HW D cl L0 s H locs L F) {Fe : Nat → va_E} {xp : String → Prop} {post : List Nat → (Nat → va_E) → Prop} (hp : post L F) (hc : cells ≤ mc) (hs : slots ≤ ms) (hdg : decode cc pc = .ok (.return_, 1)) : W p l e R s m args below meth c H locs cells slots (ExV D cl s below args mc ms L0 Fe post xp) (F0 m pc ls []) :=
  vx_ret (pk_vret S hr hlk hW hp hc hs hdg)
theorem xk_rret (S : CallFix p m c cc nL s args Gw own) {C : FieldType} (hr : meth.sig.returnType = some C) (hC : (∃ n, C = .object n) ∨ ∃ t, C = .array t) (hlk : meth.locks = false) (hW : HW D cl L0 s H locs L F) {Fe : Nat → va_E} {xp : String → Prop} {v : Nat} {post : Nat → List Nat → (Nat → va_E) → Prop} (hp : post v L F) (hc : cells ≤ mc) (hs : slots ≤ ms) (hdg : decode cc pc = .ok (.areturn, 1)) : W p l e R s m args below meth c H locs cells slots (ExR D cl s below args mc ms L0 Fe post xp) (F0 m pc ls [.ref v]) :=
  vx_ret (pk_rret S hr hC hlk hW hp hc hs hdg)
theorem xk_outI {E : String} {ce : Cell} {q9 : Addr} {post : Int32 → List Nat → (Nat → va_E) → Prop} {xp : String → Prop} (hxt : ∀ x ∈ c.exceptionTable.toList, False) (hlk : meth.locks = false) (hW : HW D cl L0 s H locs L0 F) (hxp : xp E) (hcell : H[q9]? = some ce) (hv : ce.vm = .none) (hcl : s.vm.findClass E = some ce.cls) (hc : cells ≤ mc) (hs : slots ≤ ms) : vx_W p l e R s m args below meth c H locs cells slots (ExI D cl s below args mc ms L0 F post xp) (F0 m pc ls rest) q9 :=
  vx_out (fun x hx => (hxt x hx).elim) hlk hcell hv hcl (fun t ht hvm => ⟨(), trivial, ⟨hxp, by rw [ht]; exact hW.1⟩, hW.2.2.F ht⟩) hW.2.2.2.2 hc hs
theorem xk_outJ {E : String} {ce : Cell} {q9 : Addr} {post : Int64 → List Nat → (Nat → va_E) → Prop} {xp : String → Prop} (hxt : ∀ x ∈ c.exceptionTable.toList, False) (hlk : meth.locks = false) (hW : HW D cl L0 s H locs L0 F) (hxp : xp E) (hcell : H[q9]? = some ce) (hv : ce.vm = .none) (hcl : s.vm.findClass E = some ce.cls) (hc : cells ≤ mc) (hs : slots ≤ ms) : vx_W p l e R s m args below meth c H locs cells slots (ExJ D cl s below args mc ms L0 F post xp) (F0 m pc ls rest) q9 :=
  vx_out (fun x hx => (hxt x hx).elim) hlk hcell hv hcl (fun t ht hvm => ⟨(), trivial, ⟨hxp, by rw [ht]; exact hW.1⟩, hW.2.2.F ht⟩) hW.2.2.2.2 hc hs
theorem xk_outV {E : String} {ce : Cell} {q9 : Addr} {post : List Nat → (Nat → va_E) → Prop} {xp : String → Prop} (hxt : ∀ x ∈ c.exceptionTable.toList, False) (hlk : meth.locks = false) (hW : HW D cl L0 s H locs L0 F) (hxp : xp E) (hcell : H[q9]? = some ce) (hv : ce.vm = .none) (hcl : s.vm.findClass E = some ce.cls) (hc : cells ≤ mc) (hs : slots ≤ ms) : vx_W p l e R s m args below meth c H locs cells slots (ExV D cl s below args mc ms L0 F post xp) (F0 m pc ls rest) q9 :=
  vx_out (fun x hx => (hxt x hx).elim) hlk hcell hv hcl (fun t ht hvm => ⟨(), trivial, ⟨hxp, by rw [ht]; exact hW.1⟩, hW.2.2.F ht⟩) hW.2.2.2.2 hc hs
theorem xk_outR {E : String} {ce : Cell} {q9 : Addr} {post : Nat → List Nat → (Nat → va_E) → Prop} {xp : String → Prop} (hxt : ∀ x ∈ c.exceptionTable.toList, False) (hlk : meth.locks = false) (hW : HW D cl L0 s H locs L0 F) (hxp : xp E) (hcell : H[q9]? = some ce) (hv : ce.vm = .none) (hcl : s.vm.findClass E = some ce.cls) (hc : cells ≤ mc) (hs : slots ≤ ms) : vx_W p l e R s m args below meth c H locs cells slots (ExR D cl s below args mc ms L0 F post xp) (F0 m pc ls rest) q9 :=
  vx_out (fun x hx => (hxt x hx).elim) hlk hcell hv hcl (fun t ht hvm => ⟨(), trivial, ⟨hxp, by rw [ht]; exact hW.1⟩, hW.2.2.F ht⟩) hW.2.2.2.2 hc hs
end CK
end
section
/-! WHAT A STATE OF THE CLASS IS, in the pool: rows (cells, count), the walk, the walkers, the yard -/
abbrev cls : List vw_C := [(RJ0, TJ0, 4), (RJ4, TJ4, 4), (RJ6, TJ6, 1), (RJx35411, TJx35411, 4), (RJx4a65c, TJx4a65c, 3), (RX0, TX0, 2), (RX1, TX1, 4), (RX2, TX2, 3), (RX3, TX3, 11), (RX4, TX4, 2), (RX5, TX5, 3), (RX6, TX6, 9)]
abbrev ty5 (κ : Nat → ClassId) : List (ClassId × FieldType) := [(κ 0, .int), (κ 1, .byte), (κ 2, .boolean), (κ 3, .object "java/lang/Object"), (κ 4, .object "TwoendsModel$Walker")]
abbrev RS : Type := (Nat → Int32) × Int32
abbrev CS : Type := (Nat → RS) × (Nat → Int32)
def scUp (g : Nat → Int32) (b n : Nat) (w : Nat → Int32) : Nat → Int32 := fun q => if b ≤ q ∧ q < b + n then w (q - b) else g q
def cap (i : Nat) : Nat := if i = 2 then 12 else if i = 3 then 10 else 20
def xName (k : Nat) : String := if k = 0 then "java/lang/IndexOutOfBoundsException" else if k = 1 then "java/lang/IllegalArgumentException" else "java/lang/IllegalStateException"
def FrR (h a : Nat) (F F' : Nat → va_E) : Prop := ∀ q, q ≠ h → q ≠ a → F' q = F q
def FrW (h : Nat) (F F' : Nat → va_E) : Prop := ∀ q, q ≠ h → F' q = F q
def FrA (A : Nat → Nat) (F F' : Nat → va_E) : Prop := ∀ q, (∀ i, i < 18 → q ≠ A i) → F' q = F q
def RI (κ : Nat → ClassId) (h a n : Nat) (ρ : RS) (L : List Nat) (F : Nat → va_E) : Prop := h ∈ L ∧ a ∈ L ∧ h ≠ a ∧ F h = .inr (5, [.ref a, .int ρ.2]) ∧ F a = .inl (κ 0, n, .inl ρ.1)
def WI (h : Nat) (ω : Nat → Int32) (L : List Nat) (F : Nat → va_E) : Prop := h ∈ L ∧ F h = .inr (6, [.int (ω 0), .int (ω 1), .int (ω 2), .int (ω 3)])
def KI (h : Nat) (ω : Nat → Int32) (L : List Nat) (F : Nat → va_E) : Prop := h ∈ L ∧ F h = .inr (7, [.int (ω 0), .int (ω 1), .int (ω 2)])
def CI (κ : Nat → ClassId) (A : Nat → Nat) (σ : CS) (L : List Nat) (F : Nat → va_E) : Prop :=
  (∀ i, i < 18 → A i ∈ L) ∧ (∀ i j, i < 18 → j < 18 → A i = A j → i = j) ∧
  F (A 0) = .inr (8, [.ref (A 1), .ref (A 3), .ref (A 5), .ref (A 7), .ref (A 15), .ref (A 16), .ref (A 17), .int (σ.2 0), .ref (A 9), .ref (A 11), .ref (A 13)]) ∧
  (∀ i, i < 7 → F (A (1 + 2 * i)) = .inr (5, [.ref (A (2 + 2 * i)), .int (σ.1 i).2]) ∧ F (A (2 + 2 * i)) = .inl (κ 0, cap i, .inl (σ.1 i).1)) ∧
  F (A 15) = .inr (6, [.int (σ.2 1), .int (σ.2 2), .int (σ.2 3), .int (σ.2 4)]) ∧
  (∀ j, j < 2 → F (A (16 + j)) = .inr (7, [.int (σ.2 (5 + 3 * j)), .int (σ.2 (5 + 3 * j + 1)), .int (σ.2 (5 + 3 * j + 2))]))
/-! small helps -/
theorem ob {α β : Type} {o : Option α} {f : α → Option β} {b : β} (h : o.bind f = some b) : ∃ a, o = some a ∧ f a = some b := by
  cases o with
  | none => cases h
  | some a => exact ⟨a, rfl, h⟩
def obx {α β : Type} (o : Option (Nat ⊕ α)) (k : α → Option (Nat ⊕ β)) : Option (Nat ⊕ β) := o.bind fun z => match z with
  | .inl e => some (.inl e)
  | .inr z => k z
theorem obx_ok {α β : Type} {o : Option (Nat ⊕ α)} {k : α → Option (Nat ⊕ β)} {res : Nat ⊕ β} (h : obx o k = some res) : ∃ z1, o = some z1 ∧ (∀ e, z1 = .inl e → res = .inl e) ∧ ∀ z, z1 = .inr z → k z = some res := by
  obtain ⟨z1, h1, h2⟩ := ob h
  refine ⟨z1, h1, fun e he => ?_, fun z hz => ?_⟩
  · subst he; exact (Option.some.inj h2).symm
  · subst hz; exact h2
theorem gd {α : Type} {c : Prop} [Decidable c] {k : Option α} {r : α} (h : (if c then none else k) = some r) : ¬ c ∧ k = some r := by
  by_cases hc : c
  · rw [if_pos hc] at h; cases h
  · rw [if_neg hc] at h; exact ⟨hc, h⟩
theorem gdp {α : Type} {c : Prop} [Decidable c] {k : Option α} {r : α} (h : (if c then k else none) = some r) : c ∧ k = some r := by
  by_cases hc : c
  · rw [if_pos hc] at h; exact ⟨hc, h⟩
  · rw [if_neg hc] at h; cases h
theorem eqm {α : Sort _} {P : α → Prop} {a b : α} (h : P a) (e : a = b) : P b := e ▸ h
theorem tbl_in {x : Int32} {k : Nat} (hk : k < 2147483648) (h : x = nI k) : x.toInt = (k : Int) := by rw [h]; exact nI_toInt hk
theorem tbl_out {x : Int32} (n : Nat) (hn : n < 2147483648) (h : ∀ k, k < n → ¬ x = nI k) : x.toInt < 0 ∨ (n : Int) - 1 < x.toInt := by
  by_cases q : x.toInt < 0
  · exact Or.inl q
  · right
    by_cases q2 : (n : Int) - 1 < x.toInt
    · exact q2
    · exfalso
      have h3 : x.toInt.toNat < n := by omega
      exact h _ h3 (by
        apply Int32.toInt_inj.mp
        rw [nI_toInt (by omega)]
        omega)
theorem up_eq {α : Type} {f : Nat → α} {k : Nat} {v : α} : va_up f k v k = v := by simp [va_up]
theorem up_ne {α : Type} {f : Nat → α} {k j : Nat} {v : α} (h : j ≠ k) : va_up f k v j = f j := by simp [va_up, h]
theorem FrA.rf {A : Nat → Nat} {F : Nat → va_E} : FrA A F F := fun _ _ => rfl
theorem FrR.rf {h a : Nat} {F : Nat → va_E} : FrR h a F F := fun _ _ _ => rfl
theorem FrW.rf {h : Nat} {F : Nat → va_E} : FrW h F F := fun _ _ => rfl
theorem FrA.tr {A : Nat → Nat} {F F1 F2 : Nat → va_E} (h1 : FrA A F F1) (h2 : FrA A F1 F2) : FrA A F F2 := fun q hq => (h2 q hq).trans (h1 q hq)
theorem FrR.tr {h a : Nat} {F F1 F2 : Nat → va_E} (h1 : FrR h a F F1) (h2 : FrR h a F1 F2) : FrR h a F F2 := fun q hq ha => (h2 q hq ha).trans (h1 q hq ha)
theorem FrW.tr {h : Nat} {F F1 F2 : Nat → va_E} (h1 : FrW h F F1) (h2 : FrW h F1 F2) : FrW h F F2 := fun q hq => (h2 q hq).trans (h1 q hq)
/-! a row's two writes -/
theorem RI.setCount {κ : Nat → ClassId} {h a n : Nat} {ρ : RS} {L : List Nat} {F : Nat → va_E} (hI : RI κ h a n ρ L F) (v : Int32) : RI κ h a n (ρ.1, v) L (va_up F h (.inr (5, ([.ref a, .int ρ.2] : List Value).set 1 (.int v)))) := by
  obtain ⟨h1, h2, h3, h4, h5⟩ := hI
  exact ⟨h1, h2, h3, up_eq, by rw [up_ne h3.symm]; exact h5⟩
theorem RI.setCell {κ : Nat → ClassId} {h a n : Nat} {ρ : RS} {L : List Nat} {F : Nat → va_E} (hI : RI κ h a n ρ L F) (f : Nat → Int32) : RI κ h a n (f, ρ.2) L (va_up F a (.inl (κ 0, n, .inl f))) := by
  obtain ⟨h1, h2, h3, h4, h5⟩ := hI
  exact ⟨h1, h2, h3, by rw [up_ne h3]; exact h4, up_eq⟩
theorem FrR.h {h a : Nat} {F : Nat → va_E} {e : va_E} : FrR h a F (va_up F h e) := fun _ hq _ => up_ne hq
theorem FrR.a {h a : Nat} {F : Nat → va_E} {e : va_E} : FrR h a F (va_up F a e) := fun _ _ hq => up_ne hq
theorem FrW.h {h : Nat} {F : Nat → va_E} {e : va_E} : FrW h F (va_up F h e) := fun _ hq => up_ne hq
theorem WI.set0 {h : Nat} {ω : Nat → Int32} {L : List Nat} {F : Nat → va_E} (hI : WI h ω L F) (v : Int32) : WI h (va_up ω 0 v) L (va_up F h (.inr (6, ([.int (ω 0), .int (ω 1), .int (ω 2), .int (ω 3)] : List Value).set 0 (.int v)))) := ⟨hI.1, up_eq⟩
theorem WI.set1 {h : Nat} {ω : Nat → Int32} {L : List Nat} {F : Nat → va_E} (hI : WI h ω L F) (v : Int32) : WI h (va_up ω 1 v) L (va_up F h (.inr (6, ([.int (ω 0), .int (ω 1), .int (ω 2), .int (ω 3)] : List Value).set 1 (.int v)))) := ⟨hI.1, up_eq⟩
theorem WI.set2 {h : Nat} {ω : Nat → Int32} {L : List Nat} {F : Nat → va_E} (hI : WI h ω L F) (v : Int32) : WI h (va_up ω 2 v) L (va_up F h (.inr (6, ([.int (ω 0), .int (ω 1), .int (ω 2), .int (ω 3)] : List Value).set 2 (.int v)))) := ⟨hI.1, up_eq⟩
theorem WI.set3 {h : Nat} {ω : Nat → Int32} {L : List Nat} {F : Nat → va_E} (hI : WI h ω L F) (v : Int32) : WI h (va_up ω 3 v) L (va_up F h (.inr (6, ([.int (ω 0), .int (ω 1), .int (ω 2), .int (ω 3)] : List Value).set 3 (.int v)))) := ⟨hI.1, up_eq⟩
theorem KI.set0 {h : Nat} {ω : Nat → Int32} {L : List Nat} {F : Nat → va_E} (hI : KI h ω L F) (v : Int32) : KI h (va_up ω 0 v) L (va_up F h (.inr (7, ([.int (ω 0), .int (ω 1), .int (ω 2)] : List Value).set 0 (.int v)))) := ⟨hI.1, up_eq⟩
theorem KI.set1 {h : Nat} {ω : Nat → Int32} {L : List Nat} {F : Nat → va_E} (hI : KI h ω L F) (v : Int32) : KI h (va_up ω 1 v) L (va_up F h (.inr (7, ([.int (ω 0), .int (ω 1), .int (ω 2)] : List Value).set 1 (.int v)))) := ⟨hI.1, up_eq⟩
theorem KI.set2 {h : Nat} {ω : Nat → Int32} {L : List Nat} {F : Nat → va_E} (hI : KI h ω L F) (v : Int32) : KI h (va_up ω 2 v) L (va_up F h (.inr (7, ([.int (ω 0), .int (ω 1), .int (ω 2)] : List Value).set 2 (.int v)))) := ⟨hI.1, up_eq⟩
section CIL
variable {κ : Nat → ClassId} {A : Nat → Nat} {σ : CS} {L : List Nat} {F F' : Nat → va_E}
theorem CI.mem (hI : CI κ A σ L F) (i : Nat) (hi : i < 18) : A i ∈ L := hI.1 i hi
theorem CI.this (hI : CI κ A σ L F) : F (A 0) = .inr (8, [.ref (A 1), .ref (A 3), .ref (A 5), .ref (A 7), .ref (A 15), .ref (A 16), .ref (A 17), .int (σ.2 0), .ref (A 9), .ref (A 11), .ref (A 13)]) := hI.2.2.1
theorem CI.ne (hI : CI κ A σ L F) {i j : Nat} (hi : i < 18) (hj : j < 18) (h : i ≠ j) : A i ≠ A j := fun e => h (hI.2.1 i j hi hj e)
theorem CI.rowH (hI : CI κ A σ L F) {i : Nat} (hi : i < 7) : F (A (1 + 2 * i)) = .inr (5, [.ref (A (2 + 2 * i)), .int (σ.1 i).2]) := (hI.2.2.2.1 i hi).1
theorem CI.walkH (hI : CI κ A σ L F) : F (A 15) = .inr (6, [.int (σ.2 1), .int (σ.2 2), .int (σ.2 3), .int (σ.2 4)]) := hI.2.2.2.2.1
theorem CI.kerH (hI : CI κ A σ L F) {j : Nat} (hj : j < 2) : F (A (16 + j)) = .inr (7, [.int (σ.2 (5 + 3 * j)), .int (σ.2 (5 + 3 * j + 1)), .int (σ.2 (5 + 3 * j + 2))]) := hI.2.2.2.2.2 j hj
theorem CI.row (hI : CI κ A σ L F) {i : Nat} (hi : i < 7) : RI κ (A (1 + 2 * i)) (A (2 + 2 * i)) (cap i) (σ.1 i) L F :=
  ⟨hI.1 _ (by omega), hI.1 _ (by omega), hI.ne (by omega) (by omega) (by omega), (hI.2.2.2.1 i hi).1, (hI.2.2.2.1 i hi).2⟩
theorem CI.walk (hI : CI κ A σ L F) : WI (A 15) (fun k => σ.2 (1 + k)) L F := ⟨hI.1 _ (by omega), hI.2.2.2.2.1⟩
theorem CI.ker (hI : CI κ A σ L F) {j : Nat} (hj : j < 2) : KI (A (16 + j)) (fun k => σ.2 (5 + 3 * j + k)) L F := ⟨hI.1 _ (by omega), hI.2.2.2.2.2 j hj⟩
theorem CI.setRow (hI : CI κ A σ L F) {i : Nat} (hi : i < 7) {ρ : RS} (hR : RI κ (A (1 + 2 * i)) (A (2 + 2 * i)) (cap i) ρ L F') (hf : FrR (A (1 + 2 * i)) (A (2 + 2 * i)) F F') : CI κ A (va_up σ.1 i ρ, σ.2) L F' := by
  obtain ⟨h1, h2, h3, h4, h5, h6⟩ := hI
  have hn : ∀ q, q < 18 → q ≠ 1 + 2 * i → q ≠ 2 + 2 * i → F' (A q) = F (A q) := fun q hq n1 n2 => hf _ (fun e => n1 (h2 _ _ hq (by omega) e)) (fun e => n2 (h2 _ _ hq (by omega) e))
  refine ⟨h1, h2, by rw [hn 0 (by omega) (by omega) (by omega)]; exact h3, fun j hj => ?_, by rw [hn 15 (by omega) (by omega) (by omega)]; exact h5, fun j hj => by rw [hn (16 + j) (by omega) (by omega) (by omega)]; exact h6 j hj⟩
  by_cases e : j = i
  · subst e
    exact ⟨by rw [show (va_up σ.1 j ρ, σ.2).1 j = ρ from up_eq]; exact hR.2.2.2.1, by rw [show (va_up σ.1 j ρ, σ.2).1 j = ρ from up_eq]; exact hR.2.2.2.2⟩
  · rw [show (va_up σ.1 i ρ, σ.2).1 j = σ.1 j from up_ne e, hn (1 + 2 * j) (by omega) (by omega) (by omega), hn (2 + 2 * j) (by omega) (by omega) (by omega)]
    exact h4 j hj
theorem CI.setWalk (hI : CI κ A σ L F) {ω : Nat → Int32} (hR : WI (A 15) ω L F') (hf : FrW (A 15) F F') : CI κ A (σ.1, scUp σ.2 1 4 ω) L F' := by
  obtain ⟨h1, h2, h3, h4, h5, h6⟩ := hI
  have hn : ∀ q, q < 18 → q ≠ 15 → F' (A q) = F (A q) := fun q hq n1 => hf _ (fun e => n1 (h2 _ _ hq (by omega) e))
  refine ⟨h1, h2, by rw [hn 0 (by omega) (by omega)]; exact h3, fun j hj => ?_, hR.2, fun j hj => ?_⟩
  · rw [hn (1 + 2 * j) (by omega) (by omega), hn (2 + 2 * j) (by omega) (by omega)]
    exact h4 j hj
  · rw [hn (16 + j) (by omega) (by omega), h6 j hj]
    simp only [scUp]
    rw [if_neg (by omega), if_neg (by omega), if_neg (by omega)]
theorem CI.setKer (hI : CI κ A σ L F) {i : Nat} (hi : i < 2) {ω : Nat → Int32} (hR : KI (A (16 + i)) ω L F') (hf : FrW (A (16 + i)) F F') : CI κ A (σ.1, scUp σ.2 (5 + 3 * i) 3 ω) L F' := by
  obtain ⟨h1, h2, h3, h4, h5, h6⟩ := hI
  have hn : ∀ q, q < 18 → q ≠ 16 + i → F' (A q) = F (A q) := fun q hq n1 => hf _ (fun e => n1 (h2 _ _ hq (by omega) e))
  refine ⟨h1, h2, ?_, fun j hj => ?_, ?_, fun j hj => ?_⟩
  · rw [hn 0 (by omega) (by omega), h3]
    simp only [scUp]
    rw [if_neg (by omega)]
  · rw [hn (1 + 2 * j) (by omega) (by omega), hn (2 + 2 * j) (by omega) (by omega)]
    exact h4 j hj
  · rw [hn 15 (by omega) (by omega), h5]
    simp only [scUp]
    rw [if_neg (by omega), if_neg (by omega), if_neg (by omega), if_neg (by omega)]
  · by_cases e : j = i
    · subst e
      rw [hR.2]
      simp only [scUp]
      rw [if_pos (by omega), if_pos (by omega), if_pos (by omega), show 5 + 3 * j - (5 + 3 * j) = 0 by omega, show 5 + 3 * j + 1 - (5 + 3 * j) = 1 by omega, show 5 + 3 * j + 2 - (5 + 3 * j) = 2 by omega]
    · rw [hn (16 + j) (by omega) (by omega), h6 j hj]
      simp only [scUp]
      rw [if_neg (by omega), if_neg (by omega), if_neg (by omega)]
theorem CI.setKnocks (hI : CI κ A σ L F) (v : Int32) : CI κ A (σ.1, va_up σ.2 0 v) L (va_up F (A 0) (.inr (8, ([.ref (A 1), .ref (A 3), .ref (A 5), .ref (A 7), .ref (A 15), .ref (A 16), .ref (A 17), .int (σ.2 0), .ref (A 9), .ref (A 11), .ref (A 13)] : List Value).set 7 (.int v)))) := by
  obtain ⟨h1, h2, h3, h4, h5, h6⟩ := hI
  have hn : ∀ q, q < 18 → q ≠ 0 → A q ≠ A 0 := fun q hq n1 e => n1 (h2 _ _ hq (by omega) e)
  refine ⟨h1, h2, up_eq, fun j hj => ?_, ?_, fun j hj => ?_⟩
  · rw [up_ne (hn _ (by omega) (by omega)), up_ne (hn _ (by omega) (by omega))]
    exact h4 j hj
  · rw [up_ne (hn _ (by omega) (by omega)), h5]
    rfl
  · rw [up_ne (hn _ (by omega) (by omega)), h6 j hj]
    show _ = Sum.inr (7, [Value.int (va_up σ.2 0 v (5 + 3 * j)), .int (va_up σ.2 0 v (5 + 3 * j + 1)), .int (va_up σ.2 0 v (5 + 3 * j + 2))])
    rw [up_ne (by omega), up_ne (by omega), up_ne (by omega)]
theorem FrA.row {i : Nat} (hi : i < 7) (hf : FrR (A (1 + 2 * i)) (A (2 + 2 * i)) F F') : FrA A F F' := fun q hq => hf q (hq _ (by omega)) (hq _ (by omega))
theorem FrA.ker {i : Nat} (hi : i < 18) (hf : FrW (A i) F F') : FrA A F F' := fun q hq => hf q (hq _ hi)
theorem FrA.this {e : va_E} : FrA A F (va_up F (A 0) e) := fun q hq => up_ne (hq 0 (by omega))
end CIL
/-! ends of methods -/
abbrev QPu {α : Type} (L : List Nat) (F : Nat → va_E) (res : α) : α → List Nat → (Nat → va_E) → Prop := fun r L' F' => L' = L ∧ F' = F ∧ r = res
end
