/-! what the reference reads of statics: their addresses and the like are ζ: 0 to 255 the small Integers, 256 the empty array of lists, 257 the cache, 258 and 259 the digits, 260 the class of Object[], 261 and 262 two texts, 263 and 264 their bytes -/
def dgOnes (j : Nat) : Int32 := nI (48 + j % 10)
def dgTens (j : Nat) : Int32 := nI (48 + j / 10)
def STR (ζ : Nat → Nat) (A : Nat → Prop) (U : State) (H : Heap) : Prop :=
  vb_C ζ A U H ∧
  va_Z "java/lang/Integer$IntegerCache" "cache" "[Ljava/lang/Integer;" (.ref (ζ 257)) A U H ∧
  va_T (.object "java/lang/Integer") (ζ 257) 256 (fun j => .ref (ζ j)) A U H ∧
  va_Z "java/lang/Integer$IntegerCache" "high" "I" (.int 127) A U H ∧
  va_Z "java/util/ArrayList" "DEFAULTCAPACITY_EMPTY_ELEMENTDATA" "[Ljava/lang/Object;" (.ref (ζ 256)) A U H ∧
  va_T (.object "java/lang/Object") (ζ 256) 0 (fun _ => .null) A U H ∧
  va_Z "java/lang/String" "COMPACT_STRINGS" "Z" (.int 1) A U H ∧
  va_Z "java/lang/Integer" "DigitOnes" "[B" (.ref (ζ 258)) A U H ∧
  va_T .byte (ζ 258) 100 (fun j => .int (dgOnes j)) A U H ∧
  va_Z "java/lang/Integer" "DigitTens" "[B" (.ref (ζ 259)) A U H ∧
  va_T .byte (ζ 259) 100 (fun j => .int (dgTens j)) A U H ∧
  vk_S 2 [0, 1] [[], [32]] (fun i => ζ (261 + i)) (fun i => ζ (263 + i)) A U H ∧
  va_Mi "[Ljava/lang/Object;" (ζ 260) U ∧
  va_Dc U ∧
  va_AO "java/lang/Object" U ∧
  va_AO "TwoendsModel$Walker" U ∧
  va_Fw "java/util/ArrayList$Itr" ⟨"java/util/Iterator", "hasNext", "()Z"⟩ ⟨"java/util/ArrayList$Itr", "hasNext", "()Z"⟩ U ∧
  va_Fw "java/util/ArrayList$Itr" ⟨"java/util/Iterator", "next", "()Ljava/lang/Object;"⟩ ⟨"java/util/ArrayList$Itr", "next", "()Ljava/lang/Object;"⟩ U ∧
  vk_R "TwoendsModel" 216 "" (ζ 261) U ∧
  vk_R "TwoendsModel" 218 " " (ζ 262) U
theorem STR.go {ζ : Nat → Nat} {A B : Nat → Prop} {s U : State} {H : Heap} (h : STR ζ A s s.heap) (hW : s.WarmedH U.vm) (hS : ∀ a : Nat, a < s.heap.size → ¬ A a → H[a]? = s.heap[a]?) (hB : ∀ q, B q → A q) : STR ζ B U H :=
  ⟨(((h.1).kept hS).moved hW.alike).narrow hB, (((h.2.1).kept hS).moved hW.alike).narrow hB, (((h.2.2.1).kept hS).moved hW.alike).narrow hB, (((h.2.2.2.1).kept hS).moved hW.alike).narrow hB, (((h.2.2.2.2.1).kept hS).moved hW.alike).narrow hB, (((h.2.2.2.2.2.1).kept hS).moved hW.alike).narrow hB, (((h.2.2.2.2.2.2.1).kept hS).moved hW.alike).narrow hB, (((h.2.2.2.2.2.2.2.1).kept hS).moved hW.alike).narrow hB, (((h.2.2.2.2.2.2.2.2.1).kept hS).moved hW.alike).narrow hB, (((h.2.2.2.2.2.2.2.2.2.1).kept hS).moved hW.alike).narrow hB, (((h.2.2.2.2.2.2.2.2.2.2.1).kept hS).moved hW.alike).narrow hB, (((h.2.2.2.2.2.2.2.2.2.2.2.1).kept hS).moved hW.alike).narrow hB, (h.2.2.2.2.2.2.2.2.2.2.2.2.1).moved hW.alike, (h.2.2.2.2.2.2.2.2.2.2.2.2.2.1).moved hW.alike, (h.2.2.2.2.2.2.2.2.2.2.2.2.2.2.1).moved hW.alike, (h.2.2.2.2.2.2.2.2.2.2.2.2.2.2.2.1).moved hW.alike, va_Fw.moved ⟨by decide, by decide⟩ hW.alike (h.2.2.2.2.2.2.2.2.2.2.2.2.2.2.2.2.1), va_Fw.moved ⟨by decide, by decide⟩ hW.alike (h.2.2.2.2.2.2.2.2.2.2.2.2.2.2.2.2.2.1), vk_R.warm hW (h.2.2.2.2.2.2.2.2.2.2.2.2.2.2.2.2.2.2.1), vk_R.warm hW (h.2.2.2.2.2.2.2.2.2.2.2.2.2.2.2.2.2.2.2)⟩
theorem STR.calling {ζ : Nat → Nat} {A : Nat → Prop} {U : State} {H : Heap} {g : JFrame} {mk : MethodId} {a : Array Value} (h : STR ζ A U H) : STR ζ A (U.calling g mk a) H :=
  ⟨(h.1).moved (Vm.Alike.refl U.vm), (h.2.1).moved (Vm.Alike.refl U.vm), (h.2.2.1).moved (Vm.Alike.refl U.vm), (h.2.2.2.1).moved (Vm.Alike.refl U.vm), (h.2.2.2.2.1).moved (Vm.Alike.refl U.vm), (h.2.2.2.2.2.1).moved (Vm.Alike.refl U.vm), (h.2.2.2.2.2.2.1).moved (Vm.Alike.refl U.vm), (h.2.2.2.2.2.2.2.1).moved (Vm.Alike.refl U.vm), (h.2.2.2.2.2.2.2.2.1).moved (Vm.Alike.refl U.vm), (h.2.2.2.2.2.2.2.2.2.1).moved (Vm.Alike.refl U.vm), (h.2.2.2.2.2.2.2.2.2.2.1).moved (Vm.Alike.refl U.vm), (h.2.2.2.2.2.2.2.2.2.2.2.1).moved (Vm.Alike.refl U.vm), (h.2.2.2.2.2.2.2.2.2.2.2.2.1).moved (Vm.Alike.refl U.vm), (h.2.2.2.2.2.2.2.2.2.2.2.2.2.1).moved (Vm.Alike.refl U.vm), (h.2.2.2.2.2.2.2.2.2.2.2.2.2.2.1).moved (Vm.Alike.refl U.vm), (h.2.2.2.2.2.2.2.2.2.2.2.2.2.2.2.1).moved (Vm.Alike.refl U.vm), va_Fw.moved ⟨by decide, by decide⟩ (Vm.Alike.refl U.vm) (h.2.2.2.2.2.2.2.2.2.2.2.2.2.2.2.2.1), va_Fw.moved ⟨by decide, by decide⟩ (Vm.Alike.refl U.vm) (h.2.2.2.2.2.2.2.2.2.2.2.2.2.2.2.2.2.1), vk_R.same rfl (h.2.2.2.2.2.2.2.2.2.2.2.2.2.2.2.2.2.2.1), vk_R.same rfl (h.2.2.2.2.2.2.2.2.2.2.2.2.2.2.2.2.2.2.2)⟩
theorem STR.cache {ζ : Nat → Nat} {A : Nat → Prop} {U : State} {H : Heap} (h : STR ζ A U H) : vb_C ζ A U H := h.1
theorem STR.zCache {ζ : Nat → Nat} {A : Nat → Prop} {U : State} {H : Heap} (h : STR ζ A U H) : va_Z "java/lang/Integer$IntegerCache" "cache" "[Ljava/lang/Integer;" (.ref (ζ 257)) A U H := h.2.1
theorem STR.tCache {ζ : Nat → Nat} {A : Nat → Prop} {U : State} {H : Heap} (h : STR ζ A U H) : va_T (.object "java/lang/Integer") (ζ 257) 256 (fun j => .ref (ζ j)) A U H := h.2.2.1
theorem STR.zHigh {ζ : Nat → Nat} {A : Nat → Prop} {U : State} {H : Heap} (h : STR ζ A U H) : va_Z "java/lang/Integer$IntegerCache" "high" "I" (.int 127) A U H := h.2.2.2.1
theorem STR.zEmpty {ζ : Nat → Nat} {A : Nat → Prop} {U : State} {H : Heap} (h : STR ζ A U H) : va_Z "java/util/ArrayList" "DEFAULTCAPACITY_EMPTY_ELEMENTDATA" "[Ljava/lang/Object;" (.ref (ζ 256)) A U H := h.2.2.2.2.1
theorem STR.tEmpty {ζ : Nat → Nat} {A : Nat → Prop} {U : State} {H : Heap} (h : STR ζ A U H) : va_T (.object "java/lang/Object") (ζ 256) 0 (fun _ => .null) A U H := h.2.2.2.2.2.1
theorem STR.zCompact {ζ : Nat → Nat} {A : Nat → Prop} {U : State} {H : Heap} (h : STR ζ A U H) : va_Z "java/lang/String" "COMPACT_STRINGS" "Z" (.int 1) A U H := h.2.2.2.2.2.2.1
theorem STR.zOnes {ζ : Nat → Nat} {A : Nat → Prop} {U : State} {H : Heap} (h : STR ζ A U H) : va_Z "java/lang/Integer" "DigitOnes" "[B" (.ref (ζ 258)) A U H := h.2.2.2.2.2.2.2.1
theorem STR.tOnes {ζ : Nat → Nat} {A : Nat → Prop} {U : State} {H : Heap} (h : STR ζ A U H) : va_T .byte (ζ 258) 100 (fun j => .int (dgOnes j)) A U H := h.2.2.2.2.2.2.2.2.1
theorem STR.zTens {ζ : Nat → Nat} {A : Nat → Prop} {U : State} {H : Heap} (h : STR ζ A U H) : va_Z "java/lang/Integer" "DigitTens" "[B" (.ref (ζ 259)) A U H := h.2.2.2.2.2.2.2.2.2.1
theorem STR.tTens {ζ : Nat → Nat} {A : Nat → Prop} {U : State} {H : Heap} (h : STR ζ A U H) : va_T .byte (ζ 259) 100 (fun j => .int (dgTens j)) A U H := h.2.2.2.2.2.2.2.2.2.2.1
theorem STR.strs {ζ : Nat → Nat} {A : Nat → Prop} {U : State} {H : Heap} (h : STR ζ A U H) : vk_S 2 [0, 1] [[], [32]] (fun i => ζ (261 + i)) (fun i => ζ (263 + i)) A U H := h.2.2.2.2.2.2.2.2.2.2.2.1
theorem STR.mirror {ζ : Nat → Nat} {A : Nat → Prop} {U : State} {H : Heap} (h : STR ζ A U H) : va_Mi "[Ljava/lang/Object;" (ζ 260) U := h.2.2.2.2.2.2.2.2.2.2.2.2.1
theorem STR.decl {ζ : Nat → Nat} {A : Nat → Prop} {U : State} {H : Heap} (h : STR ζ A U H) : va_Dc U := h.2.2.2.2.2.2.2.2.2.2.2.2.2.1
theorem STR.aoObj {ζ : Nat → Nat} {A : Nat → Prop} {U : State} {H : Heap} (h : STR ζ A U H) : va_AO "java/lang/Object" U := h.2.2.2.2.2.2.2.2.2.2.2.2.2.2.1
theorem STR.aoWk {ζ : Nat → Nat} {A : Nat → Prop} {U : State} {H : Heap} (h : STR ζ A U H) : va_AO "TwoendsModel$Walker" U := h.2.2.2.2.2.2.2.2.2.2.2.2.2.2.2.1
theorem STR.fwHas {ζ : Nat → Nat} {A : Nat → Prop} {U : State} {H : Heap} (h : STR ζ A U H) : va_Fw "java/util/ArrayList$Itr" ⟨"java/util/Iterator", "hasNext", "()Z"⟩ ⟨"java/util/ArrayList$Itr", "hasNext", "()Z"⟩ U := h.2.2.2.2.2.2.2.2.2.2.2.2.2.2.2.2.1
theorem STR.fwNext {ζ : Nat → Nat} {A : Nat → Prop} {U : State} {H : Heap} (h : STR ζ A U H) : va_Fw "java/util/ArrayList$Itr" ⟨"java/util/Iterator", "next", "()Ljava/lang/Object;"⟩ ⟨"java/util/ArrayList$Itr", "next", "()Ljava/lang/Object;"⟩ U := h.2.2.2.2.2.2.2.2.2.2.2.2.2.2.2.2.2.1
theorem STR.s0 {ζ : Nat → Nat} {A : Nat → Prop} {U : State} {H : Heap} (h : STR ζ A U H) : vk_R "TwoendsModel" 216 "" (ζ 261) U := h.2.2.2.2.2.2.2.2.2.2.2.2.2.2.2.2.2.2.1
theorem STR.s1 {ζ : Nat → Nat} {A : Nat → Prop} {U : State} {H : Heap} (h : STR ζ A U H) : vk_R "TwoendsModel" 218 " " (ζ 262) U := h.2.2.2.2.2.2.2.2.2.2.2.2.2.2.2.2.2.2.2
