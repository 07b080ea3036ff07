/-! what the reference reads of statics (to be filled) -/
def STR (A : Nat → Prop) (U : State) (H : Heap) : Prop := True ∨ (A 0 ∧ U.heap.size = H.size)
theorem STR.go {A B : Nat → Prop} {s U : State} {H : Heap} (h : STR A s s.heap) (hW : s.WarmedH U.vm) (hS : ∀ a : Nat, a < s.heap.size → ¬ A a → H[a]? = s.heap[a]?) (hB : ∀ q, B q → A q) : STR B U H := Or.inl trivial
theorem STR.calling {A : Nat → Prop} {U : State} {H : Heap} {g : JFrame} {mk : MethodId} {a : Array Value} (h : STR A U H) : STR A (U.calling g mk a) H := Or.inl trivial
