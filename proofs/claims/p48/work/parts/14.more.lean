section
/-! MORE ROWS OVER THE POOL: what is made, rows of references, statics -/
abbrev rfA (c : ClassId) (n : Nat) (f : Nat → Option Nat) : va_E := .inl (c, n, .inr (.inr (.inr (.inr f))))
theorem ra_same {U : State} {c1 c2 : ClassId} {ty : FieldType} (h1 : va_RA U c1 ty) (h2 : va_RA U c2 ty) : c1 = c2 := by
  cases ty with
  | object C =>
    obtain ⟨_, _, _, _, _, e1⟩ := h1
    obtain ⟨_, _, _, _, _, e2⟩ := h2
    exact Option.some.inj (e1.symm.trans e2)
  | _ => exact Option.some.inj (Eq.trans (Eq.symm h1) h2)
theorem k_same {D : va_G} {cl : List vw_C} {tys : List (ClassId × FieldType)} {s : State} {cA c0 : ClassId} {ty : FieldType} (hK' : va_K D cl (tys ++ [(cA, ty)]) s) (t0 : Nat) (ht : tys[t0]? = some (c0, ty)) : cA = c0 := by
  have hlt : t0 < tys.length := (List.getElem?_eq_some_iff.mp ht).1
  have h1 := (hK'.2 tys.length (cA, ty) (by rw [List.getElem?_append_right (Nat.le_refl _)]; simp)).2
  have h2 := (hK'.2 t0 (c0, ty) (by rw [List.getElem?_append_left hlt]; exact ht)).2
  exact ra_same h1 h2
section MK
variable {p : Program} {l : Launch} {e : Env} {R : Room} {s : State} {m : MethodId} {args : Array Value} {below : List Frame} {meth : Method} {c : Code} {cc : ByteArray} {nL : Nat} {own : String} {H : Heap} {locs : List Loc} {cells slots : Nat} {Q : State → Prop} {D : va_G} {cl : List vw_C} {tys : List (ClassId × FieldType)} {pc : Nat} {ls : Array Slot} {rest : List Value} {L0 L : List Nat} {F : Nat → va_E} {ζ : Nat → Nat}
theorem HW.push {q : Nat} {ee : va_E} {H1 : Heap} (hW : HW D cl L0 s H locs L F) (hP : va_P D cl (va_pl L F ++ [(q, ee)]) H1) (hD : va_D (AL L0 s.heap.size) (va_pl L F ++ [(q, ee)])) (hS : va_S (AL L0 s.heap.size) s.heap H1 locs) : q ∉ L ∧ HW D cl L0 s H1 locs (L ++ [q]) (va_up F q ee) := by
  have hq : q ∉ L := va_pl_fresh2 (X := []) (f := F) hD
  have h := va_pl_push (f := F) (e := ee) hq
  rw [h] at hP hD
  exact ⟨hq, hP, hD, hS⟩
theorem pk_new (S : CallFix p m c cc nL s args Gw own) (hK : va_K D cl tys s) (hW : HW D cl L0 s H locs L F) {C : String} {T : u_T} {N ci index : Nat} {ty : Nat → FieldType} {fs : List Value} (hin : ∀ w ∈ u_ws C T N, w ∈ Gw) (hty : ∀ k, k < N → parseFieldDescriptor (T k).2.2.1 = some (ty k)) (hcl : Cond.classLink own index C ∈ Gw) (hinst : Cond.instantiable C N ∈ Gw) (hini : Cond.initialized C ∈ Gw) (hc : cl[ci]? = some (C, T, N)) (hfs : ∀ j, j < N → defaultValue (ty j) = vp_V fs j) (hcells : cells + 1 ≤ R.cells) (hslots : slots + N ≤ R.slots) (hdg : decode cc pc = .ok (.new index, 3))
    (kk : ∀ (q : Nat) (H1 : Heap), q ∉ L → HW D cl L0 s H1 locs (L ++ [q]) (va_up F q (.inr (ci, fs))) → W p l e R s m args below meth c H1 locs (cells + 1) (slots + N) Q (F0 m (pc + 3) ls (.ref q :: rest))) : W p l e R s m args below meth c H locs cells slots Q (F0 m pc ls rest) :=
  va_new S.1 S.2.1 S.2.2.2.2 hin ty hty S.2.2.2.1 (S.2.2.2.2 _ hcl) (S.2.2.2.2 _ hinst) (S.2.2.2.2 _ hini) hK hW.1 hW.2.1 hW.2.2 (fun _ h => Or.inr h) hc hfs hcells hslots hdg
    (fun q H1 h1 h2 h3 => by obtain ⟨a1, a2⟩ := hW.push h1 h2 h3; exact kk q H1 a1 a2)
theorem pk_newI (S : CallFix p m c cc nL s args Gw own) (hK : va_K D cl tys s) (hW : HW D cl L0 s H locs L F) {n : Int32} {N' : Nat} {c0 : ClassId} (t0 : Nat) (ht : tys[t0]? = some (c0, .int)) (hw : Cond.arrayClass .int ∈ Gw) (hn : ¬ n < 0) (hN : n.toNatClampNeg = N') (hb : N' * 4 ≤ 536870912) (hcells : cells + 1 ≤ R.cells) (hslots : slots + N' ≤ R.slots) (hdg : decode cc pc = .ok (.newarray .int, 2))
    (kk : ∀ (q : Nat) (H1 : Heap), q ∉ L → HW D cl L0 s H1 locs (L ++ [q]) (va_up F q (.inl (c0, N', .inl (fun _ => 0)))) → W p l e R s m args below meth c H1 locs (cells + 1) (slots + N') Q (F0 m (pc + 2) ls (.ref q :: rest))) : W p l e R s m args below meth c H locs cells slots Q (F0 m pc ls (.int n :: rest)) :=
  va_newa (atype := .int) (ty := .int) (a0 := (N', .inl (fun _ => 0))) S.1 S.2.1 (S.2.2.2.2 _ hw) rfl hK hW.1 hW.2.1 hW.2.2 (fun _ h => Or.inr h) (fun _ => rfl) hn hN hb hcells hslots hdg
    (fun q cA H1 hK' h1 h2 h3 => by
      have e := k_same hK' t0 ht
      subst e
      obtain ⟨a1, a2⟩ := hW.push h1 h2 h3
      exact kk q H1 a1 a2)
theorem pk_newZ (S : CallFix p m c cc nL s args Gw own) (hK : va_K D cl tys s) (hW : HW D cl L0 s H locs L F) {n : Int32} {N' : Nat} {c0 : ClassId} (t0 : Nat) (ht : tys[t0]? = some (c0, .boolean)) (hw : Cond.arrayClass .boolean ∈ Gw) (hn : ¬ n < 0) (hN : n.toNatClampNeg = N') (hb : N' * 1 ≤ 536870912) (hcells : cells + 1 ≤ R.cells) (hslots : slots + N' ≤ R.slots) (hdg : decode cc pc = .ok (.newarray .boolean, 2))
    (kk : ∀ (q : Nat) (H1 : Heap), q ∉ L → HW D cl L0 s H1 locs (L ++ [q]) (va_up F q (.inl (c0, N', .inl (fun _ => 0)))) → W p l e R s m args below meth c H1 locs (cells + 1) (slots + N') Q (F0 m (pc + 2) ls (.ref q :: rest))) : W p l e R s m args below meth c H locs cells slots Q (F0 m pc ls (.int n :: rest)) :=
  va_newa (atype := .boolean) (ty := .boolean) (a0 := (N', .inl (fun _ => 0))) S.1 S.2.1 (S.2.2.2.2 _ hw) rfl hK hW.1 hW.2.1 hW.2.2 (fun _ h => Or.inr h) (fun _ => rfl) hn hN hb hcells hslots hdg
    (fun q cA H1 hK' h1 h2 h3 => by
      have e := k_same hK' t0 ht
      subst e
      obtain ⟨a1, a2⟩ := hW.push h1 h2 h3
      exact kk q H1 a1 a2)
theorem pk_newB (S : CallFix p m c cc nL s args Gw own) (hK : va_K D cl tys s) (hW : HW D cl L0 s H locs L F) {n : Int32} {N' : Nat} {c0 : ClassId} (t0 : Nat) (ht : tys[t0]? = some (c0, .byte)) (hw : Cond.arrayClass .byte ∈ Gw) (hn : ¬ n < 0) (hN : n.toNatClampNeg = N') (hb : N' * 1 ≤ 536870912) (hcells : cells + 1 ≤ R.cells) (hslots : slots + N' ≤ R.slots) (hdg : decode cc pc = .ok (.newarray .byte, 2))
    (kk : ∀ (q : Nat) (H1 : Heap), q ∉ L → HW D cl L0 s H1 locs (L ++ [q]) (va_up F q (.inl (c0, N', .inl (fun _ => 0)))) → W p l e R s m args below meth c H1 locs (cells + 1) (slots + N') Q (F0 m (pc + 2) ls (.ref q :: rest))) : W p l e R s m args below meth c H locs cells slots Q (F0 m pc ls (.int n :: rest)) :=
  va_newa (atype := .byte) (ty := .byte) (a0 := (N', .inl (fun _ => 0))) S.1 S.2.1 (S.2.2.2.2 _ hw) rfl hK hW.1 hW.2.1 hW.2.2 (fun _ h => Or.inr h) (fun _ => rfl) hn hN hb hcells hslots hdg
    (fun q cA H1 hK' h1 h2 h3 => by
      have e := k_same hK' t0 ht
      subst e
      obtain ⟨a1, a2⟩ := hW.push h1 h2 h3
      exact kk q H1 a1 a2)
theorem pk_newq (S : CallFix p m c cc nL s args Gw own) (hK : va_K D cl tys s) (hW : HW D cl L0 s H locs L F) {C : String} {index : Nat} {n : Int32} {N' : Nat} {c0 : ClassId} (t0 : Nat) (ht : tys[t0]? = some (c0, .object C)) (hcl : Cond.classLink own index C ∈ Gw) (hover : va_AO C s) (hn : ¬ n < 0) (hN : n.toNatClampNeg = N') (hb : N' * 4 ≤ 536870912) (hcells : cells + 1 ≤ R.cells) (hslots : slots + N' ≤ R.slots) (hdg : decode cc pc = .ok (.anewarray index, 3))
    (kk : ∀ (q : Nat) (H1 : Heap), q ∉ L → HW D cl L0 s H1 locs (L ++ [q]) (va_up F q (rfA c0 N' (fun _ => none))) → W p l e R s m args below meth c H1 locs (cells + 1) (slots + N') Q (F0 m (pc + 3) ls (.ref q :: rest))) : W p l e R s m args below meth c H locs cells slots Q (F0 m pc ls (.int n :: rest)) :=
  va_newq S.1 S.2.1 S.2.2.2.1 (S.2.2.2.2 _ hcl) hover hK hW.1 hW.2.1 hW.2.2 (fun _ h => Or.inr h) hn hN hb hcells hslots hdg
    (fun q cA H1 hK' h1 h2 h3 => by
      have e := k_same hK' t0 ht
      subst e
      obtain ⟨a1, a2⟩ := hW.push h1 h2 h3
      exact kk q H1 a1 a2)
theorem pk_putF (S : CallFix p m c cc nL s args Gw own) (hK : va_K D cl tys s) (hW : HW D cl L0 s H locs L F) {a ci index N : Nat} {fs : List Value} {C : String} {T : u_T} {v : Value} {ty0 : Nat → FieldType} {ty : FieldType} (k : Nat) (ha : a ∈ L) (he : F a = .inr (ci, fs)) (hc : cl[ci]? = some (C, T, N)) (hin : ∀ w ∈ u_ws C T N, w ∈ Gw) (hty : ∀ k, k < N → parseFieldDescriptor (T k).2.2.1 = some (ty0 k)) (hnm : ∀ a, a < N → ∀ b, b < N → a ≠ b → (T a).2.1 ≠ (T b).2.1) (hk : k < N) (hlink : Cond.fieldLink own index (T k).1 (T k).2.1 (T k).2.2.1 ∈ Gw) (hfin : (T k).2.2.2 = true) (hin2 : meth.name = "<init>") (hdecl : (T k).1 = own) (hd : parseFieldDescriptor (T k).2.2.1 = some ty) (hn : narrow ty v = v) (hfit : fits ty v = true) (hl : k < fs.length) (hdg : decode cc pc = .ok (.putfield index, 3))
    (kk : ∀ (H1 : Heap) (locs1 : List Loc), HW D cl L0 s H1 locs1 L (va_up F a (.inr (ci, fs.set k v))) → W p l e R s m args below meth c H1 locs1 cells slots Q (F0 m (pc + 3) ls rest)) : W p l e R s m args below meth c H locs cells slots Q (F0 m pc ls (v :: .ref a :: rest)) := by
  obtain ⟨k0, hk0⟩ := pl_get (F := F) ha rfl
  exact va_putF S.1 S.2.1 S.2.2.2.2 hin ty0 hty hnm S.2.2.2.1 hK hW.1 hW.2.1 hW.2.2 k0 (by rw [← he]; exact hk0) hc k hk (S.2.2.2.2 _ hlink) (fun _ h => h) hfin hin2 hdecl hd hn hfit hl hdg
    (fun H1 locs1 h1 h2 h3 => kk H1 locs1 (hW.set (e0 := F a) ha _ hk0 h1 h2 h3))
theorem pk_getU (S : CallFix p m c cc nL s args Gw own) (hK : va_K D cl tys s) (hW : HW D cl L0 s H locs L F) {a ci index N : Nat} {fs : List Value} {C ref : String} {T : u_T} {v : Value} (k : Nat) (ha : a ∈ L) (he : F a = .inr (ci, fs)) (hc : cl[ci]? = some (C, T, N)) (hin : ∀ w ∈ u_ws C T N, w ∈ Gw) (hk : k < N) (hlink : Cond.fieldLink own index ref (T k).2.1 (T k).2.2.1 ∈ Gw) (hsame : Cond.sameField ref (T k).1 (T k).2.1 (T k).2.2.1 ∈ Gw) (hv : fs[k]? = some v) (hdg : decode cc pc = .ok (.getfield index, 3))
    (kk : W p l e R s m args below meth c H locs cells slots Q (F0 m (pc + 3) ls (v :: rest))) : W p l e R s m args below meth c H locs cells slots Q (F0 m pc ls (.ref a :: rest)) := by
  obtain ⟨k0, hk0⟩ := pl_get ha he
  exact va_get S.1 S.2.1 S.2.2.2.2 hin S.2.2.2.1 hK hW.1 k0 hk0 hc k hk (S.2.2.2.2 _ hlink) (fun x h => u_same (S.2.2.2.2 _ hsame) x h) hv hdg kk
theorem pk_putU (S : CallFix p m c cc nL s args Gw own) (hK : va_K D cl tys s) (hW : HW D cl L0 s H locs L F) {a ci index N : Nat} {fs : List Value} {C ref : String} {T : u_T} {v : Value} {ty0 : Nat → FieldType} {ty : FieldType} (k : Nat) (ha : a ∈ L) (he : F a = .inr (ci, fs)) (hc : cl[ci]? = some (C, T, N)) (hin : ∀ w ∈ u_ws C T N, w ∈ Gw) (hty : ∀ k, k < N → parseFieldDescriptor (T k).2.2.1 = some (ty0 k)) (hnm : ∀ a, a < N → ∀ b, b < N → a ≠ b → (T a).2.1 ≠ (T b).2.1) (hk : k < N) (hlink : Cond.fieldLink own index ref (T k).2.1 (T k).2.2.1 ∈ Gw) (hsame : Cond.sameField ref (T k).1 (T k).2.1 (T k).2.2.1 ∈ Gw) (hfin : (T k).2.2.2 = false) (hd : parseFieldDescriptor (T k).2.2.1 = some ty) (hn : narrow ty v = v) (hfit : fits ty v = true) (hl : k < fs.length) (hdg : decode cc pc = .ok (.putfield index, 3))
    (kk : ∀ (H1 : Heap) (locs1 : List Loc), HW D cl L0 s H1 locs1 L (va_up F a (.inr (ci, fs.set k v))) → W p l e R s m args below meth c H1 locs1 cells slots Q (F0 m (pc + 3) ls rest)) : W p l e R s m args below meth c H locs cells slots Q (F0 m pc ls (v :: .ref a :: rest)) := by
  obtain ⟨k0, hk0⟩ := pl_get (F := F) ha rfl
  exact va_put S.1 S.2.1 S.2.2.2.2 hin ty0 hty hnm S.2.2.2.1 hK hW.1 hW.2.1 hW.2.2 k0 (by rw [← he]; exact hk0) hc k hk (S.2.2.2.2 _ hlink) (fun x h => u_same (S.2.2.2.2 _ hsame) x h) hfin hd hn hfit hl hdg
    (fun H1 locs1 h1 h2 h3 => kk H1 locs1 (hW.set (e0 := F a) ha _ hk0 h1 h2 h3))
theorem pk_aald (S : CallFix p m c cc nL s args Gw own) (hK : va_K D cl tys s) (hW : HW D cl L0 s H locs L F) {a n y : Nat} {cA : ClassId} {C : String} {f : Nat → Option Nat} (t0 : Nat) (ha : a ∈ L) (he : F a = rfA cA n f) (ht : tys[t0]? = some (cA, .object C)) {i : Int32} (hin : vp_in i n) (hv : f i.toNatClampNeg = some y) (hdg : decode cc pc = .ok (.aaload, 1))
    (kk : W p l e R s m args below meth c H locs cells slots Q (F0 m (pc + 1) ls (.ref y :: rest))) : W p l e R s m args below meth c H locs cells slots Q (F0 m pc ls (.int i :: .ref a :: rest)) := by
  obtain ⟨k0, hk0⟩ := pl_get ha he
  exact va_aldq S.1 S.2.1 hK hW.1 k0 t0 hk0 ht hin hdg (by rw [hv]; exact kk)
theorem pk_aast (S : CallFix p m c cc nL s args Gw own) (hK : va_K D cl tys s) (hW : HW D cl L0 s H locs L F) {a n y : Nat} {cA : ClassId} {C E : String} {f : Nat → Option Nat} (t0 : Nat) (ha : a ∈ L) (he : F a = rfA cA n f) (ht : tys[t0]? = some (cA, .object E)) (hr : ∃ cellV : Cell, H[y]? = some cellV ∧ cellV.vm.isStatics = false ∧ s.vm.findClass C = some cellV.cls) (hca : va_Nw (.castable C E) s) {i : Int32} (hin : vp_in i n) (hdg : decode cc pc = .ok (.aastore, 1))
    (kk : ∀ (H1 : Heap) (locs1 : List Loc), HW D cl L0 s H1 locs1 L (va_up F a (rfA cA n (va_up f i.toNatClampNeg (some y)))) → W p l e R s m args below meth c H1 locs1 cells slots Q (F0 m (pc + 1) ls rest)) : W p l e R s m args below meth c H locs cells slots Q (F0 m pc ls (.ref y :: .int i :: .ref a :: rest)) := by
  obtain ⟨k0, hk0⟩ := pl_get (F := F) ha rfl
  exact vb_astq S.1 S.2.1 hK hW.1 hW.2.1 hW.2.2 k0 t0 (hk0.trans (congrArg (fun ee => some (a, ee)) he)) ht hr (vb_asgC hca) hin hdg
    (fun H1 locs1 h1 h2 h3 => kk H1 locs1 (hW.set (e0 := F a) ha _ hk0 h1 h2 h3))
theorem pk_aastS (S : CallFix p m c cc nL s args Gw own) (hK : va_K D cl tys s) (hW : HW D cl L0 s H locs L F) {a n y : Nat} {cA : ClassId} {E : String} {f : Nat → Option Nat} (t0 : Nat) (ha : a ∈ L) (he : F a = rfA cA n f) (ht : tys[t0]? = some (cA, .object E)) (hr : ∃ cellV : Cell, H[y]? = some cellV ∧ cellV.vm.isStatics = false ∧ s.vm.findClass E = some cellV.cls) {i : Int32} (hin : vp_in i n) (hdg : decode cc pc = .ok (.aastore, 1))
    (kk : ∀ (H1 : Heap) (locs1 : List Loc), HW D cl L0 s H1 locs1 L (va_up F a (rfA cA n (va_up f i.toNatClampNeg (some y)))) → W p l e R s m args below meth c H1 locs1 cells slots Q (F0 m (pc + 1) ls rest)) : W p l e R s m args below meth c H locs cells slots Q (F0 m pc ls (.ref y :: .int i :: .ref a :: rest)) := by
  obtain ⟨k0, hk0⟩ := pl_get (F := F) ha rfl
  exact vb_astq S.1 S.2.1 hK hW.1 hW.2.1 hW.2.2 k0 t0 (hk0.trans (congrArg (fun ee => some (a, ee)) he)) ht hr (fun comp c1 => vb_asgS comp c1) hin hdg
    (fun H1 locs1 h1 h2 h3 => kk H1 locs1 (hW.set (e0 := F a) ha _ hk0 h1 h2 h3))
theorem pk_aastN (S : CallFix p m c cc nL s args Gw own) (hK : va_K D cl tys s) (hW : HW D cl L0 s H locs L F) {a n : Nat} {cA : ClassId} {E : String} {f : Nat → Option Nat} (t0 : Nat) (ha : a ∈ L) (he : F a = rfA cA n f) (ht : tys[t0]? = some (cA, .object E)) {i : Int32} (hin : vp_in i n) (hdg : decode cc pc = .ok (.aastore, 1))
    (kk : ∀ (H1 : Heap) (locs1 : List Loc), HW D cl L0 s H1 locs1 L (va_up F a (rfA cA n (va_up f i.toNatClampNeg none))) → W p l e R s m args below meth c H1 locs1 cells slots Q (F0 m (pc + 1) ls rest)) : W p l e R s m args below meth c H locs cells slots Q (F0 m pc ls (.null :: .int i :: .ref a :: rest)) := by
  obtain ⟨k0, hk0⟩ := pl_get (F := F) ha rfl
  exact va_astqN S.1 S.2.1 hK hW.1 hW.2.1 hW.2.2 k0 t0 (hk0.trans (congrArg (fun ee => some (a, ee)) he)) ht hin hdg
    (fun H1 locs1 h1 h2 h3 => kk H1 locs1 (hW.set (e0 := F a) ha _ hk0 h1 h2 h3))
theorem pk_objInit (S : CallFix p m c cc nL s args Gw own) {idx : Nat} (hlink : Cond.methodLink own idx Lib.objectInit ∈ Gw) (hinst : Cond.instanceMethod Lib.objectInit ∈ Gw) (hcode : Cond.code Lib.objectInit ⟨#[0xb1]⟩ 1 none ∈ Gw) (hsize : ls.size = nL) {a : Addr} (hd : decode cc pc = .ok (.invokespecial idx, 3)) (hfr : 1 ≤ R.frames) (hlo : (rest.map fun v => v.category).sum + 12 ≤ R.locals)
    (kk : W p l e R s m args below meth c H locs cells slots Q (F0 m (pc + 3) ls rest)) : W p l e R s m args below meth c H locs cells slots Q (F0 m pc ls (.ref a :: rest)) :=
  W.objInit S.1 S.2.1 S.2.2.2.1 (S.2.2.2.2 _ hlink) (S.2.2.2.2 _ hinst) (S.2.2.2.2 _ hcode) rfl (hsize.trans S.2.2.1.symm) rfl hd hfr (by show 2 * 0 + _ + 12 ≤ _; omega) kk
theorem pk_gets (S : CallFix p m c cc nL s args Gw own) (hW : HW D cl L0 s H locs L F) {C n d : String} {v : Value} {index : Nat} (hZ : va_Z C n d v (AL L0 s.heap.size) s s.heap) (hlink : Cond.fieldLink own index C n d ∈ Gw) (hdg : decode cc pc = .ok (.getstatic index, 3))
    (kk : W p l e R s m args below meth c H locs cells slots Q (F0 m (pc + 3) ls (v :: rest))) : W p l e R s m args below meth c H locs cells slots Q (F0 m pc ls rest) :=
  va_gets S.1 S.2.1 hZ hW.2.2 S.2.2.2.1 (S.2.2.2.2 _ hlink) (fun _ h => h) hdg kk
end MK
/-! an Integer: new, in the pool, or one of the cache -/
def bx (ζ : Nat → Nat) (L : List Nat) (F : Nat → va_E) (y : Nat) (v : Int32) : Prop := (y ∈ L ∧ F y = .inr (2, [.int v])) ∨ ∃ k : Nat, k < 256 ∧ y = ζ k ∧ v = vb_c k
end
section
def f_X0_size (n : Nat) (ρ : RS) : Option Int32 := some (ρ.2)
theorem mc_X0_size : MCode yX0_size cX0_size 1 (some .int) := ⟨wd_143, wd_2, by decide, by decide⟩
theorem np_X0_size : (parseMethodDescriptor yX0_size.desc).map (fun d => d.parameters.length) = some 0 := by decide +kernel
set_option maxHeartbeats 4000000 in
set_option maxRecDepth 100000 in
theorem c_X0_size {l : Launch} {D : va_G} {κ : Nat → ClassId} {ζ : Nat → Nat} {L : List Nat} {F : Nat → va_E} {ρ : RS} {h a n : Nat} (hI : RI κ h a n ρ L F)  {res : Int32} (hf : f_X0_size n ρ = some res) : MtI l D cls (ty5 κ) ζ yX0_size cX0_size 1 (some .int) 1 0 0 ([.ref h] : List Value) L F (fun r L' F' => L = L' ∧ F = F' ∧ res = r) := by
  refine MtI.of (by decide) (Nat.le_of_ble_eq_true rfl) ?_
  intro p e s m below meth c S hr hlk _ hK hW hST ls hl
  have hl : lv_has ls 1 [(0, .ref h)] := hl
  unfold f_X0_size at hf
  refine lv_aload_n S.1 S.2.1 dX0_size_0 rfl (lv_at hl 0 rfl) ?_
  refine pk_get S hK hW 1 hI.1 hI.2.2.2.1 rfl hinX0 (by decide) wd_47 rfl dX0_size_1 ?_
  exact pk_iret S hr hlk hW ⟨rfl, rfl, eqm (P := fun z => z = ρ.2) rfl (Option.some.inj hf)⟩ (by decide) (by decide) dX0_size_4
def f_X0_isEmpty (n : Nat) (ρ : RS) : Option Int32 := (if ρ.2 = 0 then some (1) else some (0))
theorem mc_X0_isEmpty : MCode yX0_isEmpty cX0_isEmpty 1 (some .boolean) := ⟨wd_110, wd_2, by decide, by decide⟩
theorem np_X0_isEmpty : (parseMethodDescriptor yX0_isEmpty.desc).map (fun d => d.parameters.length) = some 0 := by decide +kernel
set_option maxHeartbeats 4000000 in
set_option maxRecDepth 100000 in
theorem c_X0_isEmpty {l : Launch} {D : va_G} {κ : Nat → ClassId} {ζ : Nat → Nat} {L : List Nat} {F : Nat → va_E} {ρ : RS} {h a n : Nat} (hI : RI κ h a n ρ L F)  {res : Int32} (hf : f_X0_isEmpty n ρ = some res) : MtI l D cls (ty5 κ) ζ yX0_isEmpty cX0_isEmpty 1 (some .boolean) 1 0 0 ([.ref h] : List Value) L F (fun r L' F' => L = L' ∧ F = F' ∧ res = r) := by
  refine MtI.of (by decide) (Nat.le_of_ble_eq_true rfl) ?_
  intro p e s m below meth c S hr hlk _ hK hW hST ls hl
  have hl : lv_has ls 1 [(0, .ref h)] := hl
  unfold f_X0_isEmpty at hf
  refine lv_aload_n S.1 S.2.1 dX0_isEmpty_0 rfl (lv_at hl 0 rfl) ?_
  refine pk_get S hK hW 1 hI.1 hI.2.2.2.1 rfl hinX0 (by decide) wd_47 rfl dX0_isEmpty_1 ?_
  refine lv_if_ne (tgt := 11) S.1 S.2.1 dX0_isEmpty_4 (by decide) (fun c1 => ?_) (fun c1 => ?_)
  · have hf := (if_neg c1).symm.trans hf
    refine lv_iconst (v := 0) S.1 S.2.1 dX0_isEmpty_11 (by decide) ?_
    exact pk_zret S hr hlk hW (by decide) ⟨rfl, rfl, eqm (P := fun z => z = 0) rfl (Option.some.inj hf)⟩ (by decide) (by decide) dX0_isEmpty_12
  · have hf := (if_pos c1).symm.trans hf
    refine lv_iconst (v := 1) S.1 S.2.1 dX0_isEmpty_7 (by decide) ?_
    refine lv_goto (tgt := 12) S.1 S.2.1 dX0_isEmpty_8 (by decide) ?_
    exact pk_zret S hr hlk hW (by decide) ⟨rfl, rfl, eqm (P := fun z => z = 1) rfl (Option.some.inj hf)⟩ (by decide) (by decide) dX0_isEmpty_12
def f_X0_isFull (n : Nat) (ρ : RS) : Option Int32 := (if ρ.2 < (nI n) then some (0) else some (1))
theorem mc_X0_isFull : MCode yX0_isFull cX0_isFull 1 (some .boolean) := ⟨wd_154, wd_2, by decide, by decide⟩
theorem np_X0_isFull : (parseMethodDescriptor yX0_isFull.desc).map (fun d => d.parameters.length) = some 0 := by decide +kernel
set_option maxHeartbeats 4000000 in
set_option maxRecDepth 100000 in
theorem c_X0_isFull {l : Launch} {D : va_G} {κ : Nat → ClassId} {ζ : Nat → Nat} {L : List Nat} {F : Nat → va_E} {ρ : RS} {h a n : Nat} (hI : RI κ h a n ρ L F)  {res : Int32} (hf : f_X0_isFull n ρ = some res) : MtI l D cls (ty5 κ) ζ yX0_isFull cX0_isFull 1 (some .boolean) 1 0 0 ([.ref h] : List Value) L F (fun r L' F' => L = L' ∧ F = F' ∧ res = r) := by
  refine MtI.of (by decide) (Nat.le_of_ble_eq_true rfl) ?_
  intro p e s m below meth c S hr hlk _ hK hW hST ls hl
  have hl : lv_has ls 1 [(0, .ref h)] := hl
  unfold f_X0_isFull at hf
  refine lv_aload_n S.1 S.2.1 dX0_isFull_0 rfl (lv_at hl 0 rfl) ?_
  refine pk_get S hK hW 1 hI.1 hI.2.2.2.1 rfl hinX0 (by decide) wd_47 rfl dX0_isFull_1 ?_
  refine lv_aload_n S.1 S.2.1 dX0_isFull_4 rfl (lv_at hl 0 rfl) ?_
  refine pk_get S hK hW 0 hI.1 hI.2.2.2.1 rfl hinX0 (by decide) wd_46 rfl dX0_isFull_5 ?_
  refine pk_alen S hK hW 0 hI.2.1 hI.2.2.2.2 rfl rfl dX0_isFull_8 ?_
  refine lv_icmp_lt (tgt := 16) S.1 S.2.1 dX0_isFull_9 (by decide) (fun c1 => ?_) (fun c1 => ?_)
  · have hf := (if_pos c1).symm.trans hf
    refine lv_iconst (v := 0) S.1 S.2.1 dX0_isFull_16 (by decide) ?_
    exact pk_zret S hr hlk hW (by decide) ⟨rfl, rfl, eqm (P := fun z => z = 0) rfl (Option.some.inj hf)⟩ (by decide) (by decide) dX0_isFull_17
  · have hf := (if_neg c1).symm.trans hf
    refine lv_iconst (v := 1) S.1 S.2.1 dX0_isFull_12 (by decide) ?_
    refine lv_goto (tgt := 17) S.1 S.2.1 dX0_isFull_13 (by decide) ?_
    exact pk_zret S hr hlk hW (by decide) ⟨rfl, rfl, eqm (P := fun z => z = 1) rfl (Option.some.inj hf)⟩ (by decide) (by decide) dX0_isFull_17
def f_X0_read (n : Nat) (ρ : RS) (x1 : Int32) : Option Int32 := (if x1 < 0 then some (0) else (if ρ.2 ≤ x1 then some (0) else (if (nI n) ≤ x1 then some (0) else (if x1 < 0 ∨ n ≤ x1.toNatClampNeg then none else some (ρ.1 x1.toNatClampNeg)))))
theorem mc_X0_read : MCode yX0_read cX0_read 2 (some .int) := ⟨wd_122, wd_2, by decide, by decide⟩
theorem np_X0_read : (parseMethodDescriptor yX0_read.desc).map (fun d => d.parameters.length) = some 1 := by decide +kernel
set_option maxHeartbeats 4000000 in
set_option maxRecDepth 100000 in
theorem c_X0_read {l : Launch} {D : va_G} {κ : Nat → ClassId} {ζ : Nat → Nat} {L : List Nat} {F : Nat → va_E} {ρ : RS} {h a n : Nat} (hI : RI κ h a n ρ L F) (x1 : Int32) {res : Int32} (hf : f_X0_read n ρ x1 = some res) : MtI l D cls (ty5 κ) ζ yX0_read cX0_read 2 (some .int) 1 0 0 ([.ref h, .int x1] : List Value) L F (fun r L' F' => L = L' ∧ F = F' ∧ res = r) := by
  refine MtI.of (by decide) (Nat.le_of_ble_eq_true rfl) ?_
  intro p e s m below meth c S hr hlk _ hK hW hST ls hl
  have hl : lv_has ls 2 [(0, .ref h), (1, .int x1)] := hl
  unfold f_X0_read at hf
  refine lv_iload_n S.1 S.2.1 dX0_read_0 rfl (lv_at hl 1 rfl) ?_
  refine lv_if_lt (tgt := 30) S.1 S.2.1 dX0_read_1 (by decide) (fun c1 => ?_) (fun c1 => ?_)
  · have hf := (if_pos c1).symm.trans hf
    refine lv_iconst (v := 0) S.1 S.2.1 dX0_read_30 (by decide) ?_
    exact pk_iret S hr hlk hW ⟨rfl, rfl, eqm (P := fun z => z = 0) rfl (Option.some.inj hf)⟩ (by decide) (by decide) dX0_read_31
  · have hf := (if_neg c1).symm.trans hf
    refine lv_iload_n S.1 S.2.1 dX0_read_4 rfl (lv_at hl 1 rfl) ?_
    refine lv_aload_n S.1 S.2.1 dX0_read_5 rfl (lv_at hl 0 rfl) ?_
    refine pk_get S hK hW 1 hI.1 hI.2.2.2.1 rfl hinX0 (by decide) wd_47 rfl dX0_read_6 ?_
    refine lv_icmp_ge (tgt := 30) S.1 S.2.1 dX0_read_9 (by decide) (fun c2 => ?_) (fun c2 => ?_)
    · have hf := (if_pos c2).symm.trans hf
      refine lv_iconst (v := 0) S.1 S.2.1 dX0_read_30 (by decide) ?_
      exact pk_iret S hr hlk hW ⟨rfl, rfl, eqm (P := fun z => z = 0) rfl (Option.some.inj hf)⟩ (by decide) (by decide) dX0_read_31
    · have hf := (if_neg c2).symm.trans hf
      refine lv_iload_n S.1 S.2.1 dX0_read_12 rfl (lv_at hl 1 rfl) ?_
      refine lv_aload_n S.1 S.2.1 dX0_read_13 rfl (lv_at hl 0 rfl) ?_
      refine pk_get S hK hW 0 hI.1 hI.2.2.2.1 rfl hinX0 (by decide) wd_46 rfl dX0_read_14 ?_
      refine pk_alen S hK hW 0 hI.2.1 hI.2.2.2.2 rfl rfl dX0_read_17 ?_
      refine lv_icmp_ge (tgt := 30) S.1 S.2.1 dX0_read_18 (by decide) (fun c3 => ?_) (fun c3 => ?_)
      · have hf := (if_pos c3).symm.trans hf
        refine lv_iconst (v := 0) S.1 S.2.1 dX0_read_30 (by decide) ?_
        exact pk_iret S hr hlk hW ⟨rfl, rfl, eqm (P := fun z => z = 0) rfl (Option.some.inj hf)⟩ (by decide) (by decide) dX0_read_31
      · have hf := (if_neg c3).symm.trans hf
        refine lv_aload_n S.1 S.2.1 dX0_read_21 rfl (lv_at hl 0 rfl) ?_
        refine pk_get S hK hW 0 hI.1 hI.2.2.2.1 rfl hinX0 (by decide) wd_46 rfl dX0_read_22 ?_
        refine lv_iload_n S.1 S.2.1 dX0_read_25 rfl (lv_at hl 1 rfl) ?_
        obtain ⟨hg, hf⟩ := gd hf
        refine pk_iald S hK hW 0 hI.2.1 hI.2.2.2.2 rfl hg dX0_read_26 ?_
        refine lv_goto (tgt := 31) S.1 S.2.1 dX0_read_27 (by decide) ?_
        exact pk_iret S hr hlk hW ⟨rfl, rfl, eqm (P := fun z => z = ρ.1 x1.toNatClampNeg) rfl (Option.some.inj hf)⟩ (by decide) (by decide) dX0_read_31
def f_X0_readFrom_17 (n : Nat) (ρ : RS)  (u1 : Int32) : Option Int32 := (f_X0_read n ρ u1).bind fun z1 => some (z1)
def f_X0_readFrom (n : Nat) (ρ : RS) (x1 : Int32) (x2 : Int32) : Option Int32 := (if x1 = 0 then f_X0_readFrom_17 n ρ x2 else f_X0_readFrom_17 n ρ ((ρ.2 - 1) - x2))
theorem mc_X0_readFrom : MCode yX0_readFrom cX0_readFrom 3 (some .int) := ⟨wd_228, wd_2, by decide, by decide⟩
theorem np_X0_readFrom : (parseMethodDescriptor yX0_readFrom.desc).map (fun d => d.parameters.length) = some 2 := by decide +kernel
set_option maxHeartbeats 4000000 in
set_option maxRecDepth 100000 in
theorem c_X0_readFrom {l : Launch} {D : va_G} {κ : Nat → ClassId} {ζ : Nat → Nat} {L : List Nat} {F : Nat → va_E} {ρ : RS} {h a n : Nat} (hI : RI κ h a n ρ L F) (x1 : Int32) (x2 : Int32) {res : Int32} (hf : f_X0_readFrom n ρ x1 x2 = some res) : MtI l D cls (ty5 κ) ζ yX0_readFrom cX0_readFrom 3 (some .int) 2 0 0 ([.ref h, .int x1, .int x2] : List Value) L F (fun r L' F' => L = L' ∧ F = F' ∧ res = r) := by
  refine MtI.of (by decide) (Nat.le_of_ble_eq_true rfl) ?_
  intro p e s m below meth c S hr hlk _ hK hW hST ls hl
  have hl : lv_has ls 3 [(0, .ref h), (1, .int x1), (2, .int x2)] := hl
  have B17 : ∀   (u1 : Int32), f_X0_readFrom_17 n ρ u1 = some res → ∀ (H17 : Heap) (l17 : List Loc) (ls : Array Slot), HW D cls L s H17 l17 L F → lv_has ls 3 [] → W p l e (Rm 2 0 0) s m ([.ref h, .int x1, .int x2] : List Value).toArray below meth c H17 l17 0 0 (EnI D cls s below ([.ref h, .int x1, .int x2] : List Value).toArray 0 0 L (fun r L' F' => L = L' ∧ F = F' ∧ res = r)) (F0 m 17 ls [.int u1, .ref h]) := by
    intro u1 hf H17 l17 ls hW hl
    unfold f_X0_readFrom_17 at hf
    obtain ⟨z1, hz, hf⟩ := ob hf
    refine pk_cVI (As := [.int u1]) (rest := []) S hK hST hW (c_X0_read hI u1 hz) mc_X0_read wd_119 wd_120 wd_121 rfl np_X0_read hI.1 hI.2.2.2.1 rfl rfl hl.1 rfl (Nat.le_of_ble_eq_true rfl) dX0_readFrom_17 ⟨by decide, by decide⟩ ⟨by decide, by decide⟩ (fun r L2 F3 H4 l5 hp hW => ?_)
    obtain ⟨rfl, rfl, rfl⟩ := hp
    exact pk_iret S hr hlk hW ⟨rfl, rfl, eqm (P := fun z => z = z1) rfl (Option.some.inj hf)⟩ (by decide) (by decide) dX0_readFrom_20
  unfold f_X0_readFrom at hf
  refine lv_aload_n S.1 S.2.1 dX0_readFrom_0 rfl (lv_at hl 0 rfl) ?_
  refine lv_iload_n S.1 S.2.1 dX0_readFrom_1 rfl (lv_at hl 1 rfl) ?_
  refine lv_if_eq (tgt := 16) S.1 S.2.1 dX0_readFrom_2 (by decide) (fun c6 => ?_) (fun c6 => ?_)
  · have hf := (if_pos c6).symm.trans hf
    refine lv_iload_n S.1 S.2.1 dX0_readFrom_16 rfl (lv_at hl 2 rfl) ?_
    exact B17  x2 hf  _ _ _ hW (lv_sub hl [] rfl)
  · have hf := (if_neg c6).symm.trans hf
    refine lv_aload_n S.1 S.2.1 dX0_readFrom_5 rfl (lv_at hl 0 rfl) ?_
    refine pk_get S hK hW 1 hI.1 hI.2.2.2.1 rfl hinX0 (by decide) wd_47 rfl dX0_readFrom_6 ?_
    refine lv_iconst (v := 1) S.1 S.2.1 dX0_readFrom_9 (by decide) ?_
    refine lv_isub S.1 S.2.1 dX0_readFrom_10 ?_
    refine lv_iload_n S.1 S.2.1 dX0_readFrom_11 rfl (lv_at hl 2 rfl) ?_
    refine lv_isub S.1 S.2.1 dX0_readFrom_12 ?_
    refine lv_goto (tgt := 17) S.1 S.2.1 dX0_readFrom_13 (by decide) ?_
    exact B17  ((ρ.2 - 1) - x2) hf  _ _ _ hW (lv_sub hl [] rfl)
def f_X0_overwrite (n : Nat) (ρ : RS) (x1 : Int32) (x2 : Int32) : Option RS := (if x1 < 0 then some ρ else (if ρ.2 ≤ x1 then some ρ else (if (nI n) ≤ x1 then some ρ else (if x1 < 0 ∨ n ≤ x1.toNatClampNeg then none else nm ((upd ρ.1 x1.toNatClampNeg x2, ρ.2) : RS) fun t7 => some t7))))
theorem mc_X0_overwrite : MCode yX0_overwrite cX0_overwrite 3 none := ⟨wd_126, wd_2, by decide, by decide⟩
theorem np_X0_overwrite : (parseMethodDescriptor yX0_overwrite.desc).map (fun d => d.parameters.length) = some 2 := by decide +kernel
set_option maxHeartbeats 4000000 in
set_option maxRecDepth 100000 in
theorem c_X0_overwrite {l : Launch} {D : va_G} {κ : Nat → ClassId} {ζ : Nat → Nat} {L : List Nat} {F : Nat → va_E} {ρ : RS} {h a n : Nat} (hI : RI κ h a n ρ L F) (x1 : Int32) (x2 : Int32) {res : RS} (hf : f_X0_overwrite n ρ x1 x2 = some res) : MtV l D cls (ty5 κ) ζ yX0_overwrite cX0_overwrite 3 none 1 0 0 ([.ref h, .int x1, .int x2] : List Value) L F (fun L' F' => L = L' ∧ RI κ h a n res L F' ∧ FrR h a F F') := by
  refine MtV.of (by decide) (Nat.le_of_ble_eq_true rfl) ?_
  intro p e s m below meth c S hr hlk _ hK hW hST ls hl
  have hl : lv_has ls 3 [(0, .ref h), (1, .int x1), (2, .int x2)] := hl
  have hFr : FrR h a F F := FrR.rf
  unfold f_X0_overwrite at hf
  refine lv_iload_n S.1 S.2.1 dX0_overwrite_0 rfl (lv_at hl 1 rfl) ?_
  refine lv_if_lt (tgt := 28) S.1 S.2.1 dX0_overwrite_1 (by decide) (fun c1 => ?_) (fun c1 => ?_)
  · have hf := (if_pos c1).symm.trans hf
    exact pk_vret S hr hlk hW ⟨rfl, eqm (P := fun z => RI κ h a n z L F) hI (Option.some.inj hf), hFr⟩ (by decide) (by decide) dX0_overwrite_28
  · have hf := (if_neg c1).symm.trans hf
    refine lv_iload_n S.1 S.2.1 dX0_overwrite_4 rfl (lv_at hl 1 rfl) ?_
    refine lv_aload_n S.1 S.2.1 dX0_overwrite_5 rfl (lv_at hl 0 rfl) ?_
    refine pk_get S hK hW 1 hI.1 hI.2.2.2.1 rfl hinX0 (by decide) wd_47 rfl dX0_overwrite_6 ?_
    refine lv_icmp_ge (tgt := 28) S.1 S.2.1 dX0_overwrite_9 (by decide) (fun c2 => ?_) (fun c2 => ?_)
    · have hf := (if_pos c2).symm.trans hf
      exact pk_vret S hr hlk hW ⟨rfl, eqm (P := fun z => RI κ h a n z L F) hI (Option.some.inj hf), hFr⟩ (by decide) (by decide) dX0_overwrite_28
    · have hf := (if_neg c2).symm.trans hf
      refine lv_iload_n S.1 S.2.1 dX0_overwrite_12 rfl (lv_at hl 1 rfl) ?_
      refine lv_aload_n S.1 S.2.1 dX0_overwrite_13 rfl (lv_at hl 0 rfl) ?_
      refine pk_get S hK hW 0 hI.1 hI.2.2.2.1 rfl hinX0 (by decide) wd_46 rfl dX0_overwrite_14 ?_
      refine pk_alen S hK hW 0 hI.2.1 hI.2.2.2.2 rfl rfl dX0_overwrite_17 ?_
      refine lv_icmp_ge (tgt := 28) S.1 S.2.1 dX0_overwrite_18 (by decide) (fun c3 => ?_) (fun c3 => ?_)
      · have hf := (if_pos c3).symm.trans hf
        exact pk_vret S hr hlk hW ⟨rfl, eqm (P := fun z => RI κ h a n z L F) hI (Option.some.inj hf), hFr⟩ (by decide) (by decide) dX0_overwrite_28
      · have hf := (if_neg c3).symm.trans hf
        refine lv_aload_n S.1 S.2.1 dX0_overwrite_21 rfl (lv_at hl 0 rfl) ?_
        refine pk_get S hK hW 0 hI.1 hI.2.2.2.1 rfl hinX0 (by decide) wd_46 rfl dX0_overwrite_22 ?_
        refine lv_iload_n S.1 S.2.1 dX0_overwrite_25 rfl (lv_at hl 1 rfl) ?_
        refine lv_iload_n S.1 S.2.1 dX0_overwrite_26 rfl (lv_at hl 2 rfl) ?_
        obtain ⟨hg, hf⟩ := gd hf
        refine pk_iast S hK hW 0 hI.2.1 hI.2.2.2.2 rfl hg dX0_overwrite_27 (fun H4 l5 hW => ?_)
        have hFr := hFr.tr (FrR.a (e := .inl (κ 0, n, .inl (upd ρ.1 x1.toNatClampNeg x2))))
        have hI := hI.setCell (upd ρ.1 x1.toNatClampNeg x2)
        generalize va_up F a (.inl (κ 0, n, .inl (upd ρ.1 x1.toNatClampNeg x2))) = F6 at hW hI hFr
        obtain ⟨t7, et7, hf⟩ := nm_ok hf
        have hI := eqm (P := fun w => RI κ h a n w L F6) hI et7.symm
        exact pk_vret S hr hlk hW ⟨rfl, eqm (P := fun z => RI κ h a n z L F6) hI (Option.some.inj hf), hFr⟩ (by decide) (by decide) dX0_overwrite_28
def f_X0_enter_37 (n : Nat)  (k37 : RS × Int32 × Int32 × Int32 → Option RS) (t : RS × Int32 × Int32 × Int32) : Option RS := (if t.2.2.2 ≤ t.2.1 then (f_X0_overwrite n t.1 t.2.1 t.2.2.1).bind fun z2 => some z2 else (f_X0_read n t.1 (t.2.2.2 - 1)).bind fun z7 => (f_X0_overwrite n t.1 t.2.2.2 z7).bind fun z12 => nm (t.2.2.2 + (-1) : Int32) fun y17 => k37 (z12, t.2.1, t.2.2.1, y17))
def f_X0_enter (n : Nat) (ρ : RS) (x1 : Int32) (x2 : Int32) : Option RS := (f_X0_isFull n ρ).bind fun z18 => (if z18 = 0 then (if x1 < 0 then some ρ else (if x1 ≤ ρ.2 then nm ((ρ.1, ρ.2 + 1) : RS) fun t29 => nm (t29.2 - 1 : Int32) fun y30 => lpn (f_X0_enter_37 n) 64 (t29, x1, x2, y30) else some ρ)) else some ρ)
theorem mc_X0_enter : MCode yX0_enter cX0_enter 4 none := ⟨wd_150, wd_2, by decide, by decide⟩
theorem np_X0_enter : (parseMethodDescriptor yX0_enter.desc).map (fun d => d.parameters.length) = some 2 := by decide +kernel
set_option maxHeartbeats 4000000 in
set_option maxRecDepth 100000 in
theorem c_X0_enter {l : Launch} {D : va_G} {κ : Nat → ClassId} {ζ : Nat → Nat} {L : List Nat} {F : Nat → va_E} {ρ : RS} {h a n : Nat} (hI : RI κ h a n ρ L F) (x1 : Int32) (x2 : Int32) {res : RS} (hf : f_X0_enter n ρ x1 x2 = some res) : MtV l D cls (ty5 κ) ζ yX0_enter cX0_enter 4 none 2 0 0 ([.ref h, .int x1, .int x2] : List Value) L F (fun L' F' => L = L' ∧ RI κ h a n res L F' ∧ FrR h a F F') := by
  refine MtV.of (by decide) (Nat.le_of_ble_eq_true rfl) ?_
  intro p e s m below meth c S hr hlk _ hK hW hST ls hl
  have hl : lv_has ls 4 [(0, .ref h), (1, .int x1), (2, .int x2)] := hl
  have hFr : FrR h a F F := FrR.rf
  have B37 : ∀ (N : Nat), (∀ (w37 : RS) (v1 : Int32) (v2 : Int32) (v3 : Int32), (lpn (f_X0_enter_37 n) N) (w37, v1, v2, v3) = some res → ∀ (G37 : Nat → va_E), RI κ h a n w37 L G37 → FrR h a F G37 → ∀ (H37 : Heap) (l37 : List Loc) (ls : Array Slot), HW D cls L s H37 l37 L G37 → lv_has ls 4 [(0, .ref h), (1, .int v1), (2, .int v2), (3, .int v3)] → W p l e (Rm 2 0 0) s m ([.ref h, .int x1, .int x2] : List Value).toArray below meth c H37 l37 0 0 (EnV D cls s below ([.ref h, .int x1, .int x2] : List Value).toArray 0 0 L (fun L' F' => L = L' ∧ RI κ h a n res L F' ∧ FrR h a F F')) (F0 m 37 ls [])) := by
    intro  N
    induction N with
    | zero => intro w37 v1 v2 v3 hf G37 hI hFr H37 l37 ls hW hl; cases hf
    | succ N ih =>
      intro w37 v1 v2 v3 hf G37 hI hFr H37 l37 ls hW hl
      have hf : f_X0_enter_37 n (lpn (f_X0_enter_37 n) N) (w37, v1, v2, v3) = some res := hf
      generalize lpn (f_X0_enter_37 n) N = k37 at hf ih
      have hk37 := ih
      unfold f_X0_enter_37 at hf
      try dsimp only at hf
      refine lv_iload_n S.1 S.2.1 dX0_enter_37 rfl (lv_at hl 3 rfl) ?_
      refine lv_iload_n S.1 S.2.1 dX0_enter_38 rfl (lv_at hl 1 rfl) ?_
      refine lv_icmp_le (tgt := 60) S.1 S.2.1 dX0_enter_39 (by decide) (fun c1 => ?_) (fun c1 => ?_)
      · have hf := (if_pos c1).symm.trans hf
        refine lv_aload_n S.1 S.2.1 dX0_enter_60 rfl (lv_at hl 0 rfl) ?_
        refine lv_iload_n S.1 S.2.1 dX0_enter_61 rfl (lv_at hl 1 rfl) ?_
        refine lv_iload_n S.1 S.2.1 dX0_enter_62 rfl (lv_at hl 2 rfl) ?_
        obtain ⟨z2, hz, hf⟩ := ob hf
        refine pk_cVV (As := [.int v1, .int v2]) (rest := []) S hK hST hW (c_X0_overwrite hI v1 v2 hz) mc_X0_overwrite wd_123 wd_124 wd_125 rfl np_X0_overwrite hI.1 hI.2.2.2.1 rfl rfl hl.1 rfl (Nat.le_of_ble_eq_true rfl) dX0_enter_63 ⟨by decide, by decide⟩ ⟨by decide, by decide⟩ (fun L3 F4 H5 l6 hp hW => ?_)
        obtain ⟨rfl, hI1, hFr1⟩ := hp
        have hI := hI1
        have hFr := hFr.tr hFr1
        exact pk_vret S hr hlk hW ⟨rfl, eqm (P := fun z => RI κ h a n z L F4) hI (Option.some.inj hf), hFr⟩ (by decide) (by decide) dX0_enter_66
      · have hf := (if_neg c1).symm.trans hf
        refine lv_aload_n S.1 S.2.1 dX0_enter_42 rfl (lv_at hl 0 rfl) ?_
        refine lv_iload_n S.1 S.2.1 dX0_enter_43 rfl (lv_at hl 3 rfl) ?_
        refine lv_aload_n S.1 S.2.1 dX0_enter_44 rfl (lv_at hl 0 rfl) ?_
        refine lv_iload_n S.1 S.2.1 dX0_enter_45 rfl (lv_at hl 3 rfl) ?_
        refine lv_iconst (v := 1) S.1 S.2.1 dX0_enter_46 (by decide) ?_
        refine lv_isub S.1 S.2.1 dX0_enter_47 ?_
        obtain ⟨z7, hz, hf⟩ := ob hf
        refine pk_cVI (As := [.int (v3 - 1)]) (rest := [.int v3, .ref h]) S hK hST hW (c_X0_read hI (v3 - 1) hz) mc_X0_read wd_119 wd_120 wd_121 rfl np_X0_read hI.1 hI.2.2.2.1 rfl rfl hl.1 rfl (Nat.le_of_ble_eq_true rfl) dX0_enter_48 ⟨by decide, by decide⟩ ⟨by decide, by decide⟩ (fun r L8 F9 H10 l11 hp hW => ?_)
        obtain ⟨rfl, rfl, rfl⟩ := hp
        obtain ⟨z12, hz, hf⟩ := ob hf
        refine pk_cVV (As := [.int v3, .int z7]) (rest := []) S hK hST hW (c_X0_overwrite hI v3 z7 hz) mc_X0_overwrite wd_123 wd_124 wd_125 rfl np_X0_overwrite hI.1 hI.2.2.2.1 rfl rfl hl.1 rfl (Nat.le_of_ble_eq_true rfl) dX0_enter_51 ⟨by decide, by decide⟩ ⟨by decide, by decide⟩ (fun L13 F14 H15 l16 hp hW => ?_)
        obtain ⟨rfl, hI1, hFr1⟩ := hp
        have hI := hI1
        have hFr := hFr.tr hFr1
        obtain ⟨y17, ey17⟩ : ∃ y : Int32, y = v3 + (-1) := ⟨_, rfl⟩
        have hf := nm_at hf ey17
        refine lv_iinc (v := y17) (lv' := [(3, .int y17), (0, .ref h), (1, .int v1), (2, .int v2)]) S.1 S.2.1 dX0_enter_54 hl (k := 3) rfl (by rw [ey17]; rfl) (by decide) rfl (fun ls hl => ?_)
        refine lv_goto (tgt := 37) S.1 S.2.1 dX0_enter_57 (by decide) ?_
        exact hk37 z12 v1 v2 y17 hf F14 hI hFr _ _ _ hW (lv_sub hl [1, 2, 3, 0] rfl)
  unfold f_X0_enter at hf
  refine lv_aload_n S.1 S.2.1 dX0_enter_0 rfl (lv_at hl 0 rfl) ?_
  obtain ⟨z18, hz, hf⟩ := ob hf
  refine pk_cVI (As := []) (rest := []) S hK hST hW (c_X0_isFull hI  hz) mc_X0_isFull wd_151 wd_152 wd_153 rfl np_X0_isFull hI.1 hI.2.2.2.1 rfl rfl hl.1 rfl (Nat.le_of_ble_eq_true rfl) dX0_enter_1 ⟨by decide, by decide⟩ ⟨by decide, by decide⟩ (fun r L19 F20 H21 l22 hp hW => ?_)
  obtain ⟨rfl, rfl, rfl⟩ := hp
  refine lv_if_ne (tgt := 19) S.1 S.2.1 dX0_enter_4 (by decide) (fun c23 => ?_) (fun c23 => ?_)
  · have hf := (if_neg c23).symm.trans hf
    exact pk_vret S hr hlk hW ⟨rfl, eqm (P := fun z => RI κ h a n z L F) hI (Option.some.inj hf), hFr⟩ (by decide) (by decide) dX0_enter_19
  · have hf := (if_pos c23).symm.trans hf
    refine lv_iload_n S.1 S.2.1 dX0_enter_7 rfl (lv_at hl 1 rfl) ?_
    refine lv_if_lt (tgt := 19) S.1 S.2.1 dX0_enter_8 (by decide) (fun c24 => ?_) (fun c24 => ?_)
    · have hf := (if_pos c24).symm.trans hf
      exact pk_vret S hr hlk hW ⟨rfl, eqm (P := fun z => RI κ h a n z L F) hI (Option.some.inj hf), hFr⟩ (by decide) (by decide) dX0_enter_19
    · have hf := (if_neg c24).symm.trans hf
      refine lv_iload_n S.1 S.2.1 dX0_enter_11 rfl (lv_at hl 1 rfl) ?_
      refine lv_aload_n S.1 S.2.1 dX0_enter_12 rfl (lv_at hl 0 rfl) ?_
      refine pk_get S hK hW 1 hI.1 hI.2.2.2.1 rfl hinX0 (by decide) wd_47 rfl dX0_enter_13 ?_
      refine lv_icmp_le (tgt := 20) S.1 S.2.1 dX0_enter_16 (by decide) (fun c25 => ?_) (fun c25 => ?_)
      · have hf := (if_pos c25).symm.trans hf
        refine lv_aload_n S.1 S.2.1 dX0_enter_20 rfl (lv_at hl 0 rfl) ?_
        refine lv_dup S.1 S.2.1 dX0_enter_21 rfl ?_
        refine pk_get S hK hW 1 hI.1 hI.2.2.2.1 rfl hinX0 (by decide) wd_47 rfl dX0_enter_22 ?_
        refine lv_iconst (v := 1) S.1 S.2.1 dX0_enter_25 (by decide) ?_
        refine lv_iadd S.1 S.2.1 dX0_enter_26 ?_
        refine pk_put (v := .int (ρ.2 + 1)) S hK hW 1 hI.1 hI.2.2.2.1 rfl hinX0 tyX0_ok nmX0 (by decide) wd_47 rfl rfl rfl rfl (Nat.le_of_ble_eq_true rfl) dX0_enter_27 (fun H26 l27 hW => ?_)
        have hFr := hFr.tr (FrR.h (e := .inr (5, ([.ref a, .int ρ.2] : List Value).set 1 (.int (ρ.2 + 1)))))
        have hI := hI.setCount (ρ.2 + 1)
        generalize va_up F h (.inr (5, ([.ref a, .int ρ.2] : List Value).set 1 (.int (ρ.2 + 1)))) = F28 at hW hI hFr
        obtain ⟨t29, et29, hf⟩ := nm_ok hf
        have hI := eqm (P := fun w => RI κ h a n w L F28) hI et29.symm
        refine lv_aload_n S.1 S.2.1 dX0_enter_30 rfl (lv_at hl 0 rfl) ?_
        refine pk_get S hK hW 1 hI.1 hI.2.2.2.1 rfl hinX0 (by decide) wd_47 rfl dX0_enter_31 ?_
        refine lv_iconst (v := 1) S.1 S.2.1 dX0_enter_34 (by decide) ?_
        refine lv_isub S.1 S.2.1 dX0_enter_35 ?_
        refine lv_topi (fun y30 ey30 => ?_)
        have hf := nm_at hf ey30
        refine lv_istore_n (lv' := [(3, .int y30), (0, .ref h), (1, .int x1), (2, .int x2)]) S.1 S.2.1 dX0_enter_36 rfl hl (by decide) rfl (fun ls hl => ?_)
        exact B37  64 t29 x1 x2 y30 hf F28 hI hFr _ _ _ hW (lv_sub hl [1, 2, 3, 0] rfl)
      · have hf := (if_neg c25).symm.trans hf
        exact pk_vret S hr hlk hW ⟨rfl, eqm (P := fun z => RI κ h a n z L F) hI (Option.some.inj hf), hFr⟩ (by decide) (by decide) dX0_enter_19
def f_X0_enterLast (n : Nat) (ρ : RS) (x1 : Int32) : Option RS := (f_X0_enter n ρ ρ.2 x1).bind fun z1 => some z1
theorem mc_X0_enterLast : MCode yX0_enterLast cX0_enterLast 2 none := ⟨wd_254, wd_2, by decide, by decide⟩
theorem np_X0_enterLast : (parseMethodDescriptor yX0_enterLast.desc).map (fun d => d.parameters.length) = some 1 := by decide +kernel
set_option maxHeartbeats 4000000 in
set_option maxRecDepth 100000 in
theorem c_X0_enterLast {l : Launch} {D : va_G} {κ : Nat → ClassId} {ζ : Nat → Nat} {L : List Nat} {F : Nat → va_E} {ρ : RS} {h a n : Nat} (hI : RI κ h a n ρ L F) (x1 : Int32) {res : RS} (hf : f_X0_enterLast n ρ x1 = some res) : MtV l D cls (ty5 κ) ζ yX0_enterLast cX0_enterLast 2 none 3 0 0 ([.ref h, .int x1] : List Value) L F (fun L' F' => L = L' ∧ RI κ h a n res L F' ∧ FrR h a F F') := by
  refine MtV.of (by decide) (Nat.le_of_ble_eq_true rfl) ?_
  intro p e s m below meth c S hr hlk _ hK hW hST ls hl
  have hl : lv_has ls 2 [(0, .ref h), (1, .int x1)] := hl
  have hFr : FrR h a F F := FrR.rf
  unfold f_X0_enterLast at hf
  refine lv_aload_n S.1 S.2.1 dX0_enterLast_0 rfl (lv_at hl 0 rfl) ?_
  refine lv_aload_n S.1 S.2.1 dX0_enterLast_1 rfl (lv_at hl 0 rfl) ?_
  refine pk_get S hK hW 1 hI.1 hI.2.2.2.1 rfl hinX0 (by decide) wd_47 rfl dX0_enterLast_2 ?_
  refine lv_iload_n S.1 S.2.1 dX0_enterLast_5 rfl (lv_at hl 1 rfl) ?_
  obtain ⟨z1, hz, hf⟩ := ob hf
  refine pk_cVV (As := [.int ρ.2, .int x1]) (rest := []) S hK hST hW (c_X0_enter hI ρ.2 x1 hz) mc_X0_enter wd_255 wd_148 wd_149 rfl np_X0_enter hI.1 hI.2.2.2.1 rfl rfl hl.1 rfl (Nat.le_of_ble_eq_true rfl) dX0_enterLast_6 ⟨by decide, by decide⟩ ⟨by decide, by decide⟩ (fun L2 F3 H4 l5 hp hW => ?_)
  obtain ⟨rfl, hI1, hFr1⟩ := hp
  have hI := hI1
  have hFr := hFr.tr hFr1
  exact pk_vret S hr hlk hW ⟨rfl, eqm (P := fun z => RI κ h a n z L F3) hI (Option.some.inj hf), hFr⟩ (by decide) (by decide) dX0_enterLast_9
def f_X0_leave_22 (n : Nat)  (k22 : RS × Int32 × Int32 → Option (Int32 × RS)) (t : RS × Int32 × Int32) : Option (Int32 × RS) := (if (t.1.2 - 1) ≤ t.2.2 then nm ((t.1.1, t.1.2 - 1) : RS) fun t5 => some (t.2.1, t5) else (f_X0_read n t.1 (t.2.2 + 1)).bind fun z6 => (f_X0_overwrite n t.1 t.2.2 z6).bind fun z11 => nm (t.2.2 + 1 : Int32) fun y16 => k22 (z11, t.2.1, y16))
def f_X0_leave (n : Nat) (ρ : RS) (x1 : Int32) : Option (Int32 × RS) := (if x1 < 0 then some (0, ρ) else (if x1 < ρ.2 then (f_X0_read n ρ x1).bind fun z19 => lpn (f_X0_leave_22 n) 64 (ρ, z19, x1) else some (0, ρ)))
theorem mc_X0_leave : MCode yX0_leave cX0_leave 4 (some .int) := ⟨wd_118, wd_2, by decide, by decide⟩
theorem np_X0_leave : (parseMethodDescriptor yX0_leave.desc).map (fun d => d.parameters.length) = some 1 := by decide +kernel
set_option maxHeartbeats 4000000 in
set_option maxRecDepth 100000 in
theorem c_X0_leave {l : Launch} {D : va_G} {κ : Nat → ClassId} {ζ : Nat → Nat} {L : List Nat} {F : Nat → va_E} {ρ : RS} {h a n : Nat} (hI : RI κ h a n ρ L F) (x1 : Int32) {res : (Int32 × RS)} (hf : f_X0_leave n ρ x1 = some res) : MtI l D cls (ty5 κ) ζ yX0_leave cX0_leave 4 (some .int) 2 0 0 ([.ref h, .int x1] : List Value) L F (fun r L' F' => L = L' ∧ res.1 = r ∧ RI κ h a n res.2 L F' ∧ FrR h a F F') := by
  refine MtI.of (by decide) (Nat.le_of_ble_eq_true rfl) ?_
  intro p e s m below meth c S hr hlk _ hK hW hST ls hl
  have hl : lv_has ls 4 [(0, .ref h), (1, .int x1)] := hl
  have hFr : FrR h a F F := FrR.rf
  have B22 : ∀ (N : Nat), (∀ (w22 : RS) (v2 : Int32) (v3 : Int32), (lpn (f_X0_leave_22 n) N) (w22, v2, v3) = some res → ∀ (G22 : Nat → va_E), RI κ h a n w22 L G22 → FrR h a F G22 → ∀ (H22 : Heap) (l22 : List Loc) (ls : Array Slot), HW D cls L s H22 l22 L G22 → lv_has ls 4 [(0, .ref h), (2, .int v2), (3, .int v3)] → W p l e (Rm 2 0 0) s m ([.ref h, .int x1] : List Value).toArray below meth c H22 l22 0 0 (EnI D cls s below ([.ref h, .int x1] : List Value).toArray 0 0 L (fun r L' F' => L = L' ∧ res.1 = r ∧ RI κ h a n res.2 L F' ∧ FrR h a F F')) (F0 m 22 ls [])) := by
    intro  N
    induction N with
    | zero => intro w22 v2 v3 hf G22 hI hFr H22 l22 ls hW hl; cases hf
    | succ N ih =>
      intro w22 v2 v3 hf G22 hI hFr H22 l22 ls hW hl
      have hf : f_X0_leave_22 n (lpn (f_X0_leave_22 n) N) (w22, v2, v3) = some res := hf
      generalize lpn (f_X0_leave_22 n) N = k22 at hf ih
      have hk22 := ih
      unfold f_X0_leave_22 at hf
      try dsimp only at hf
      refine lv_iload_n S.1 S.2.1 dX0_leave_22 rfl (lv_at hl 2 rfl) ?_
      refine lv_aload_n S.1 S.2.1 dX0_leave_23 rfl (lv_at hl 0 rfl) ?_
      refine pk_get S hK hW 1 hI.1 hI.2.2.2.1 rfl hinX0 (by decide) wd_47 rfl dX0_leave_24 ?_
      refine lv_iconst (v := 1) S.1 S.2.1 dX0_leave_27 (by decide) ?_
      refine lv_isub S.1 S.2.1 dX0_leave_28 ?_
      refine lv_icmp_ge (tgt := 50) S.1 S.2.1 dX0_leave_29 (by decide) (fun c1 => ?_) (fun c1 => ?_)
      · have hf := (if_pos c1).symm.trans hf
        refine lv_aload_n S.1 S.2.1 dX0_leave_50 rfl (lv_at hl 0 rfl) ?_
        refine lv_dup S.1 S.2.1 dX0_leave_51 rfl ?_
        refine pk_get S hK hW 1 hI.1 hI.2.2.2.1 rfl hinX0 (by decide) wd_47 rfl dX0_leave_52 ?_
        refine lv_iconst (v := 1) S.1 S.2.1 dX0_leave_55 (by decide) ?_
        refine lv_isub S.1 S.2.1 dX0_leave_56 ?_
        refine pk_put (v := .int (w22.2 - 1)) S hK hW 1 hI.1 hI.2.2.2.1 rfl hinX0 tyX0_ok nmX0 (by decide) wd_47 rfl rfl rfl rfl (Nat.le_of_ble_eq_true rfl) dX0_leave_57 (fun H2 l3 hW => ?_)
        have hFr := hFr.tr (FrR.h (e := .inr (5, ([.ref a, .int w22.2] : List Value).set 1 (.int (w22.2 - 1)))))
        have hI := hI.setCount (w22.2 - 1)
        generalize va_up G22 h (.inr (5, ([.ref a, .int w22.2] : List Value).set 1 (.int (w22.2 - 1)))) = F4 at hW hI hFr
        obtain ⟨t5, et5, hf⟩ := nm_ok hf
        have hI := eqm (P := fun w => RI κ h a n w L F4) hI et5.symm
        refine lv_iload_n S.1 S.2.1 dX0_leave_60 rfl (lv_at hl 1 rfl) ?_
        exact pk_iret S hr hlk hW ⟨rfl, eqm (P := fun z => z.1 = v2 ∧ RI κ h a n z.2 L F4 ∧ FrR h a F F4) ⟨rfl, hI, hFr⟩ (Option.some.inj hf)⟩ (by decide) (by decide) dX0_leave_61
      · have hf := (if_neg c1).symm.trans hf
        refine lv_aload_n S.1 S.2.1 dX0_leave_32 rfl (lv_at hl 0 rfl) ?_
        refine lv_iload_n S.1 S.2.1 dX0_leave_33 rfl (lv_at hl 2 rfl) ?_
        refine lv_aload_n S.1 S.2.1 dX0_leave_34 rfl (lv_at hl 0 rfl) ?_
        refine lv_iload_n S.1 S.2.1 dX0_leave_35 rfl (lv_at hl 2 rfl) ?_
        refine lv_iconst (v := 1) S.1 S.2.1 dX0_leave_36 (by decide) ?_
        refine lv_iadd S.1 S.2.1 dX0_leave_37 ?_
        obtain ⟨z6, hz, hf⟩ := ob hf
        refine pk_cVI (As := [.int (v3 + 1)]) (rest := [.int v3, .ref h]) S hK hST hW (c_X0_read hI (v3 + 1) hz) mc_X0_read wd_119 wd_120 wd_121 rfl np_X0_read hI.1 hI.2.2.2.1 rfl rfl hl.1 rfl (Nat.le_of_ble_eq_true rfl) dX0_leave_38 ⟨by decide, by decide⟩ ⟨by decide, by decide⟩ (fun r L7 F8 H9 l10 hp hW => ?_)
        obtain ⟨rfl, rfl, rfl⟩ := hp
        obtain ⟨z11, hz, hf⟩ := ob hf
        refine pk_cVV (As := [.int v3, .int z6]) (rest := []) S hK hST hW (c_X0_overwrite hI v3 z6 hz) mc_X0_overwrite wd_123 wd_124 wd_125 rfl np_X0_overwrite hI.1 hI.2.2.2.1 rfl rfl hl.1 rfl (Nat.le_of_ble_eq_true rfl) dX0_leave_41 ⟨by decide, by decide⟩ ⟨by decide, by decide⟩ (fun L12 F13 H14 l15 hp hW => ?_)
        obtain ⟨rfl, hI1, hFr1⟩ := hp
        have hI := hI1
        have hFr := hFr.tr hFr1
        obtain ⟨y16, ey16⟩ : ∃ y : Int32, y = v3 + 1 := ⟨_, rfl⟩
        have hf := nm_at hf ey16
        refine lv_iinc (v := y16) (lv' := [(3, .int y16), (0, .ref h), (2, .int v2)]) S.1 S.2.1 dX0_leave_44 hl (k := 2) rfl (by rw [ey16]; rfl) (by decide) rfl (fun ls hl => ?_)
        refine lv_goto (tgt := 22) S.1 S.2.1 dX0_leave_47 (by decide) ?_
        exact hk22 z11 v2 y16 hf F13 hI hFr _ _ _ hW (lv_sub hl [1, 2, 0] rfl)
  unfold f_X0_leave at hf
  refine lv_iload_n S.1 S.2.1 dX0_leave_0 rfl (lv_at hl 1 rfl) ?_
  refine lv_if_lt (tgt := 12) S.1 S.2.1 dX0_leave_1 (by decide) (fun c17 => ?_) (fun c17 => ?_)
  · have hf := (if_pos c17).symm.trans hf
    refine lv_iconst (v := 0) S.1 S.2.1 dX0_leave_12 (by decide) ?_
    exact pk_iret S hr hlk hW ⟨rfl, eqm (P := fun z => z.1 = 0 ∧ RI κ h a n z.2 L F ∧ FrR h a F F) ⟨rfl, hI, hFr⟩ (Option.some.inj hf)⟩ (by decide) (by decide) dX0_leave_13
  · have hf := (if_neg c17).symm.trans hf
    refine lv_iload_n S.1 S.2.1 dX0_leave_4 rfl (lv_at hl 1 rfl) ?_
    refine lv_aload_n S.1 S.2.1 dX0_leave_5 rfl (lv_at hl 0 rfl) ?_
    refine pk_get S hK hW 1 hI.1 hI.2.2.2.1 rfl hinX0 (by decide) wd_47 rfl dX0_leave_6 ?_
    refine lv_icmp_lt (tgt := 14) S.1 S.2.1 dX0_leave_9 (by decide) (fun c18 => ?_) (fun c18 => ?_)
    · have hf := (if_pos c18).symm.trans hf
      refine lv_aload_n S.1 S.2.1 dX0_leave_14 rfl (lv_at hl 0 rfl) ?_
      refine lv_iload_n S.1 S.2.1 dX0_leave_15 rfl (lv_at hl 1 rfl) ?_
      obtain ⟨z19, hz, hf⟩ := ob hf
      refine pk_cVI (As := [.int x1]) (rest := []) S hK hST hW (c_X0_read hI x1 hz) mc_X0_read wd_119 wd_120 wd_121 rfl np_X0_read hI.1 hI.2.2.2.1 rfl rfl hl.1 rfl (Nat.le_of_ble_eq_true rfl) dX0_leave_16 ⟨by decide, by decide⟩ ⟨by decide, by decide⟩ (fun r L20 F21 H22 l23 hp hW => ?_)
      obtain ⟨rfl, rfl, rfl⟩ := hp
      refine lv_istore_n (lv' := [(2, .int z19), (0, .ref h), (1, .int x1)]) S.1 S.2.1 dX0_leave_19 rfl hl (by decide) rfl (fun ls hl => ?_)
      refine lv_iload_n S.1 S.2.1 dX0_leave_20 rfl (lv_at hl 2 rfl) ?_
      refine lv_istore_n (lv' := [(3, .int x1), (2, .int z19), (0, .ref h), (1, .int x1)]) S.1 S.2.1 dX0_leave_21 rfl hl (by decide) rfl (fun ls hl => ?_)
      exact B22  64 ρ z19 x1 hf F hI hFr _ _ _ hW (lv_sub hl [2, 1, 0] rfl)
    · have hf := (if_neg c18).symm.trans hf
      refine lv_iconst (v := 0) S.1 S.2.1 dX0_leave_12 (by decide) ?_
      exact pk_iret S hr hlk hW ⟨rfl, eqm (P := fun z => z.1 = 0 ∧ RI κ h a n z.2 L F ∧ FrR h a F F) ⟨rfl, hI, hFr⟩ (Option.some.inj hf)⟩ (by decide) (by decide) dX0_leave_13
def f_X0_empty (n : Nat) (ρ : RS) : Option RS := nm ((ρ.1, 0) : RS) fun t4 => some t4
theorem mc_X0_empty : MCode yX0_empty cX0_empty 1 none := ⟨wd_193, wd_2, by decide, by decide⟩
theorem np_X0_empty : (parseMethodDescriptor yX0_empty.desc).map (fun d => d.parameters.length) = some 0 := by decide +kernel
set_option maxHeartbeats 4000000 in
set_option maxRecDepth 100000 in
theorem c_X0_empty {l : Launch} {D : va_G} {κ : Nat → ClassId} {ζ : Nat → Nat} {L : List Nat} {F : Nat → va_E} {ρ : RS} {h a n : Nat} (hI : RI κ h a n ρ L F)  {res : RS} (hf : f_X0_empty n ρ = some res) : MtV l D cls (ty5 κ) ζ yX0_empty cX0_empty 1 none 1 0 0 ([.ref h] : List Value) L F (fun L' F' => L = L' ∧ RI κ h a n res L F' ∧ FrR h a F F') := by
  refine MtV.of (by decide) (Nat.le_of_ble_eq_true rfl) ?_
  intro p e s m below meth c S hr hlk _ hK hW hST ls hl
  have hl : lv_has ls 1 [(0, .ref h)] := hl
  have hFr : FrR h a F F := FrR.rf
  unfold f_X0_empty at hf
  refine lv_aload_n S.1 S.2.1 dX0_empty_0 rfl (lv_at hl 0 rfl) ?_
  refine lv_iconst (v := 0) S.1 S.2.1 dX0_empty_1 (by decide) ?_
  refine pk_put (v := .int 0) S hK hW 1 hI.1 hI.2.2.2.1 rfl hinX0 tyX0_ok nmX0 (by decide) wd_47 rfl rfl rfl rfl (Nat.le_of_ble_eq_true rfl) dX0_empty_2 (fun H1 l2 hW => ?_)
  have hFr := hFr.tr (FrR.h (e := .inr (5, ([.ref a, .int ρ.2] : List Value).set 1 (.int 0))))
  have hI := hI.setCount 0
  generalize va_up F h (.inr (5, ([.ref a, .int ρ.2] : List Value).set 1 (.int 0))) = F3 at hW hI hFr
  obtain ⟨t4, et4, hf⟩ := nm_ok hf
  have hI := eqm (P := fun w => RI κ h a n w L F3) hI et4.symm
  exact pk_vret S hr hlk hW ⟨rfl, eqm (P := fun z => RI κ h a n z L F3) hI (Option.some.inj hf), hFr⟩ (by decide) (by decide) dX0_empty_5
def f_X0_copyFrom_6   (k6 : CS × Nat × Nat × Int32 → Option CS) (t : CS × Nat × Nat × Int32) : Option CS := (f_X0_size (cap t.2.2.1) (t.1.1 t.2.2.1)).bind fun z1 => (if z1 ≤ t.2.2.2 then some t.1 else (f_X0_read (cap t.2.2.1) (t.1.1 t.2.2.1) t.2.2.2).bind fun z7 => (f_X0_enterLast (cap t.2.1) (t.1.1 t.2.1) z7).bind fun z12 => nm ((va_up t.1.1 t.2.1 z12, t.1.2) : CS) fun t17 => nm (t.2.2.2 + 1 : Int32) fun y18 => k6 (t17, t.2.1, t.2.2.1, y18))
def f_X0_copyFrom (σ : CS) (x1 : Nat) (x2 : Nat) : Option CS := (f_X0_empty (cap x1) (σ.1 x1)).bind fun z19 => nm ((va_up σ.1 x1 z19, σ.2) : CS) fun t24 => lpn (f_X0_copyFrom_6 ) 64 (t24, x1, x2, 0)
theorem mc_X0_copyFrom : MCode yX0_copyFrom cX0_copyFrom 3 none := ⟨wd_248, wd_2, by decide, by decide⟩
theorem np_X0_copyFrom : (parseMethodDescriptor yX0_copyFrom.desc).map (fun d => d.parameters.length) = some 1 := by decide +kernel
set_option maxHeartbeats 4000000 in
set_option maxRecDepth 100000 in
theorem c_X0_copyFrom {l : Launch} {D : va_G} {κ : Nat → ClassId} {ζ : Nat → Nat} {L : List Nat} {F : Nat → va_E} {σ : CS} {A : Nat → Nat} (hI : CI κ A σ L F) (x1 : Nat) (hx1 : x1 < 7) (x2 : Nat) (hx2 : x2 < 7) {res : CS} (hf : f_X0_copyFrom σ x1 x2 = some res) : MtV l D cls (ty5 κ) ζ yX0_copyFrom cX0_copyFrom 3 none 4 0 0 ([.ref (A (1 + 2 * x1)), .ref (A (1 + 2 * x2))] : List Value) L F (fun L' F' => L = L' ∧ CI κ A res L F' ∧ FrA A F F') := by
  refine MtV.of (by decide) (Nat.le_of_ble_eq_true rfl) ?_
  intro p e s m below meth c S hr hlk _ hK hW hST ls hl
  have hl : lv_has ls 3 [(0, .ref (A (1 + 2 * x1))), (1, .ref (A (1 + 2 * x2)))] := hl
  have hFr : FrA A F F := FrA.rf
  have B6 : ∀ (N : Nat), (∀ (w6 : CS) (v0 : Nat) (v1 : Nat) (v2 : Int32), (lpn (f_X0_copyFrom_6 ) N) (w6, v0, v1, v2) = some res → ∀ (G6 : Nat → va_E), v0 < 7 → v1 < 7 → CI κ A w6 L G6 → FrA A F G6 → ∀ (H6 : Heap) (l6 : List Loc) (ls : Array Slot), HW D cls L s H6 l6 L G6 → lv_has ls 3 [(0, .ref (A (1 + 2 * v0))), (1, .ref (A (1 + 2 * v1))), (2, .int v2)] → W p l e (Rm 4 0 0) s m ([.ref (A (1 + 2 * x1)), .ref (A (1 + 2 * x2))] : List Value).toArray below meth c H6 l6 0 0 (EnV D cls s below ([.ref (A (1 + 2 * x1)), .ref (A (1 + 2 * x2))] : List Value).toArray 0 0 L (fun L' F' => L = L' ∧ CI κ A res L F' ∧ FrA A F F')) (F0 m 6 ls [])) := by
    intro  N
    induction N with
    | zero => intro w6 v0 v1 v2 hf G6 hv0 hv1 hI hFr H6 l6 ls hW hl; cases hf
    | succ N ih =>
      intro w6 v0 v1 v2 hf G6 hv0 hv1 hI hFr H6 l6 ls hW hl
      have hf : f_X0_copyFrom_6 (lpn (f_X0_copyFrom_6 ) N) (w6, v0, v1, v2) = some res := hf
      generalize lpn (f_X0_copyFrom_6 ) N = k6 at hf ih
      have hk6 := ih
      unfold f_X0_copyFrom_6 at hf
      try dsimp only at hf
      refine lv_iload_n S.1 S.2.1 dX0_copyFrom_6 rfl (lv_at hl 2 rfl) ?_
      refine lv_aload_n S.1 S.2.1 dX0_copyFrom_7 rfl (lv_at hl 1 rfl) ?_
      obtain ⟨z1, hz, hf⟩ := ob hf
      refine pk_cVI (As := []) (rest := [.int v2]) S hK hST hW (c_X0_size (hI.row hv1)  hz) mc_X0_size wd_250 wd_141 wd_142 rfl np_X0_size (hI.mem _ (by have := hv1; omega)) (hI.rowH hv1) rfl rfl hl.1 rfl (Nat.le_of_ble_eq_true rfl) dX0_copyFrom_8 ⟨by decide, by decide⟩ ⟨by decide, by decide⟩ (fun r L2 F3 H4 l5 hp hW => ?_)
      obtain ⟨rfl, rfl, rfl⟩ := hp
      refine lv_icmp_ge (tgt := 29) S.1 S.2.1 dX0_copyFrom_11 (by decide) (fun c6 => ?_) (fun c6 => ?_)
      · have hf := (if_pos c6).symm.trans hf
        exact pk_vret S hr hlk hW ⟨rfl, eqm (P := fun z => CI κ A z L G6) hI (Option.some.inj hf), hFr⟩ (by decide) (by decide) dX0_copyFrom_29
      · have hf := (if_neg c6).symm.trans hf
        refine lv_aload_n S.1 S.2.1 dX0_copyFrom_14 rfl (lv_at hl 0 rfl) ?_
        refine lv_aload_n S.1 S.2.1 dX0_copyFrom_15 rfl (lv_at hl 1 rfl) ?_
        refine lv_iload_n S.1 S.2.1 dX0_copyFrom_16 rfl (lv_at hl 2 rfl) ?_
        obtain ⟨z7, hz, hf⟩ := ob hf
        refine pk_cVI (As := [.int v2]) (rest := [.ref (A (1 + 2 * v0))]) S hK hST hW (c_X0_read (hI.row hv1) v2 hz) mc_X0_read wd_119 wd_120 wd_121 rfl np_X0_read (hI.mem _ (by have := hv1; omega)) (hI.rowH hv1) rfl rfl hl.1 rfl (Nat.le_of_ble_eq_true rfl) dX0_copyFrom_17 ⟨by decide, by decide⟩ ⟨by decide, by decide⟩ (fun r L8 F9 H10 l11 hp hW => ?_)
        obtain ⟨rfl, rfl, rfl⟩ := hp
        obtain ⟨z12, hz, hf⟩ := ob hf
        refine pk_cVV (As := [.int z7]) (rest := []) S hK hST hW (c_X0_enterLast (hI.row hv0) z7 hz) mc_X0_enterLast wd_251 wd_252 wd_253 rfl np_X0_enterLast (hI.mem _ (by have := hv0; omega)) (hI.rowH hv0) rfl rfl hl.1 rfl (Nat.le_of_ble_eq_true rfl) dX0_copyFrom_20 ⟨by decide, by decide⟩ ⟨by decide, by decide⟩ (fun L13 F14 H15 l16 hp hW => ?_)
        obtain ⟨rfl, hI1, hFr1⟩ := hp
        have hFr := hFr.tr (FrA.row hv0 hFr1)
        have hI := hI.setRow hv0 hI1 hFr1
        obtain ⟨t17, et17, hf⟩ := nm_ok hf
        have hI := eqm (P := fun w => CI κ A w L F14) hI et17.symm
        obtain ⟨y18, ey18⟩ : ∃ y : Int32, y = v2 + 1 := ⟨_, rfl⟩
        have hf := nm_at hf ey18
        refine lv_iinc (v := y18) (lv' := [(2, .int y18), (0, .ref (A (1 + 2 * v0))), (1, .ref (A (1 + 2 * v1)))]) S.1 S.2.1 dX0_copyFrom_23 hl (k := 2) rfl (by rw [ey18]; rfl) (by decide) rfl (fun ls hl => ?_)
        refine lv_goto (tgt := 6) S.1 S.2.1 dX0_copyFrom_26 (by decide) ?_
        exact hk6 t17 v0 v1 y18 hf F14 hv0 hv1 hI hFr _ _ _ hW (lv_sub hl [1, 2, 0] rfl)
  unfold f_X0_copyFrom at hf
  refine lv_aload_n S.1 S.2.1 dX0_copyFrom_0 rfl (lv_at hl 0 rfl) ?_
  obtain ⟨z19, hz, hf⟩ := ob hf
  refine pk_cVV (As := []) (rest := []) S hK hST hW (c_X0_empty (hI.row hx1)  hz) mc_X0_empty wd_249 wd_191 wd_192 rfl np_X0_empty (hI.mem _ (by have := hx1; omega)) (hI.rowH hx1) rfl rfl hl.1 rfl (Nat.le_of_ble_eq_true rfl) dX0_copyFrom_1 ⟨by decide, by decide⟩ ⟨by decide, by decide⟩ (fun L20 F21 H22 l23 hp hW => ?_)
  obtain ⟨rfl, hI1, hFr1⟩ := hp
  have hFr := hFr.tr (FrA.row hx1 hFr1)
  have hI := hI.setRow hx1 hI1 hFr1
  obtain ⟨t24, et24, hf⟩ := nm_ok hf
  have hI := eqm (P := fun w => CI κ A w L F21) hI et24.symm
  refine lv_iconst (v := 0) S.1 S.2.1 dX0_copyFrom_4 (by decide) ?_
  refine lv_istore_n (lv' := [(2, .int 0), (0, .ref (A (1 + 2 * x1))), (1, .ref (A (1 + 2 * x2)))]) S.1 S.2.1 dX0_copyFrom_5 rfl hl (by decide) rfl (fun ls hl => ?_)
  exact B6  64 t24 x1 x2 0 hf F21 hx1 hx2 hI hFr _ _ _ hW (lv_sub hl [1, 2, 0] rfl)
def f_X0_endPlace_11 (n : Nat) (ρ : RS)   : Option Int32 := some (ρ.2 - 1)
def f_X0_endPlace (n : Nat) (ρ : RS) (x1 : Int32) : Option Int32 := (if x1 = 0 then (if ρ.2 = 0 then f_X0_endPlace_11 n ρ else some (0)) else f_X0_endPlace_11 n ρ)
theorem mc_X0_endPlace : MCode yX0_endPlace cX0_endPlace 2 (some .int) := ⟨wd_114, wd_2, by decide, by decide⟩
theorem np_X0_endPlace : (parseMethodDescriptor yX0_endPlace.desc).map (fun d => d.parameters.length) = some 1 := by decide +kernel
set_option maxHeartbeats 4000000 in
set_option maxRecDepth 100000 in
theorem c_X0_endPlace {l : Launch} {D : va_G} {κ : Nat → ClassId} {ζ : Nat → Nat} {L : List Nat} {F : Nat → va_E} {ρ : RS} {h a n : Nat} (hI : RI κ h a n ρ L F) (x1 : Int32) {res : Int32} (hf : f_X0_endPlace n ρ x1 = some res) : MtI l D cls (ty5 κ) ζ yX0_endPlace cX0_endPlace 2 (some .int) 1 0 0 ([.ref h, .int x1] : List Value) L F (fun r L' F' => L = L' ∧ F = F' ∧ res = r) := by
  refine MtI.of (by decide) (Nat.le_of_ble_eq_true rfl) ?_
  intro p e s m below meth c S hr hlk _ hK hW hST ls hl
  have hl : lv_has ls 2 [(0, .ref h), (1, .int x1)] := hl
  have B11 :   f_X0_endPlace_11 n ρ = some res → ∀ (H11 : Heap) (l11 : List Loc) (ls : Array Slot), HW D cls L s H11 l11 L F → lv_has ls 2 [(0, .ref h)] → W p l e (Rm 1 0 0) s m ([.ref h, .int x1] : List Value).toArray below meth c H11 l11 0 0 (EnI D cls s below ([.ref h, .int x1] : List Value).toArray 0 0 L (fun r L' F' => L = L' ∧ F = F' ∧ res = r)) (F0 m 11 ls []) := by
    intro  hf H11 l11 ls hW hl
    unfold f_X0_endPlace_11 at hf
    refine lv_aload_n S.1 S.2.1 dX0_endPlace_11 rfl (lv_at hl 0 rfl) ?_
    refine pk_get S hK hW 1 hI.1 hI.2.2.2.1 rfl hinX0 (by decide) wd_47 rfl dX0_endPlace_12 ?_
    refine lv_iconst (v := 1) S.1 S.2.1 dX0_endPlace_15 (by decide) ?_
    refine lv_isub S.1 S.2.1 dX0_endPlace_16 ?_
    refine lv_goto (tgt := 21) S.1 S.2.1 dX0_endPlace_17 (by decide) ?_
    exact pk_iret S hr hlk hW ⟨rfl, rfl, eqm (P := fun z => z = ρ.2 - 1) rfl (Option.some.inj hf)⟩ (by decide) (by decide) dX0_endPlace_21
  unfold f_X0_endPlace at hf
  refine lv_iload_n S.1 S.2.1 dX0_endPlace_0 rfl (lv_at hl 1 rfl) ?_
  refine lv_if_ne (tgt := 11) S.1 S.2.1 dX0_endPlace_1 (by decide) (fun c1 => ?_) (fun c1 => ?_)
  · have hf := (if_neg c1).symm.trans hf
    exact B11   hf  _ _ _ hW (lv_sub hl [0] rfl)
  · have hf := (if_pos c1).symm.trans hf
    refine lv_aload_n S.1 S.2.1 dX0_endPlace_4 rfl (lv_at hl 0 rfl) ?_
    refine pk_get S hK hW 1 hI.1 hI.2.2.2.1 rfl hinX0 (by decide) wd_47 rfl dX0_endPlace_5 ?_
    refine lv_if_ne (tgt := 20) S.1 S.2.1 dX0_endPlace_8 (by decide) (fun c2 => ?_) (fun c2 => ?_)
    · have hf := (if_neg c2).symm.trans hf
      refine lv_iconst (v := 0) S.1 S.2.1 dX0_endPlace_20 (by decide) ?_
      exact pk_iret S hr hlk hW ⟨rfl, rfl, eqm (P := fun z => z = 0) rfl (Option.some.inj hf)⟩ (by decide) (by decide) dX0_endPlace_21
    · have hf := (if_pos c2).symm.trans hf
      exact B11   hf  _ _ _ hW (lv_sub hl [0] rfl)
def f_X0_placeOf_36 (n : Nat) (ρ : RS) (k5 : (Int32 × Int32 × Int32 × Int32) → Option Int32) (v1 : Int32) (v2 : Int32) (v3 : Int32) (v4 : Int32) : Option Int32 := nm (v4 + 1 : Int32) fun y1 => k5 (v1, v2, v3, y1)
def f_X0_placeOf_33 (n : Nat) (ρ : RS) (k5 : (Int32 × Int32 × Int32 × Int32) → Option Int32) (v1 : Int32) (v2 : Int32) (v4 : Int32) : Option Int32 := f_X0_placeOf_36 n ρ k5 v1 v2 v4 v4
def f_X0_placeOf_5 (n : Nat) (ρ : RS)  (k5 : Int32 × Int32 × Int32 × Int32 → Option Int32) (t : Int32 × Int32 × Int32 × Int32) : Option Int32 := (if ρ.2 ≤ t.2.2.2 then some (t.2.2.1) else (f_X0_read n ρ t.2.2.2).bind fun z3 => (if z3 = t.1 then (if t.2.1 = 0 then (if t.2.2.1 = ((-1)) then f_X0_placeOf_33 n ρ k5 t.1 t.2.1 t.2.2.2 else f_X0_placeOf_36 n ρ k5 t.1 t.2.1 t.2.2.1 t.2.2.2) else f_X0_placeOf_33 n ρ k5 t.1 t.2.1 t.2.2.2) else f_X0_placeOf_36 n ρ k5 t.1 t.2.1 t.2.2.1 t.2.2.2))
def f_X0_placeOf (n : Nat) (ρ : RS) (x1 : Int32) (x2 : Int32) : Option Int32 := lpn (f_X0_placeOf_5 n ρ) 64 (x1, x2, (-1), 0)
theorem mc_X0_placeOf : MCode yX0_placeOf cX0_placeOf 5 (some .int) := ⟨wd_770, wd_2, by decide, by decide⟩
theorem np_X0_placeOf : (parseMethodDescriptor yX0_placeOf.desc).map (fun d => d.parameters.length) = some 2 := by decide +kernel
set_option maxHeartbeats 4000000 in
set_option maxRecDepth 100000 in
theorem c_X0_placeOf {l : Launch} {D : va_G} {κ : Nat → ClassId} {ζ : Nat → Nat} {L : List Nat} {F : Nat → va_E} {ρ : RS} {h a n : Nat} (hI : RI κ h a n ρ L F) (x1 : Int32) (x2 : Int32) {res : Int32} (hf : f_X0_placeOf n ρ x1 x2 = some res) : MtI l D cls (ty5 κ) ζ yX0_placeOf cX0_placeOf 5 (some .int) 2 0 0 ([.ref h, .int x1, .int x2] : List Value) L F (fun r L' F' => L = L' ∧ F = F' ∧ res = r) := by
  refine MtI.of (by decide) (Nat.le_of_ble_eq_true rfl) ?_
  intro p e s m below meth c S hr hlk _ hK hW hST ls hl
  have hl : lv_has ls 5 [(0, .ref h), (1, .int x1), (2, .int x2)] := hl
  have B36 : ∀ (k5 : (Int32 × Int32 × Int32 × Int32) → Option Int32) (hk5 : (∀ (v1 : Int32) (v2 : Int32) (v3 : Int32) (v4 : Int32), k5 (v1, v2, v3, v4) = some res → ∀ (H5 : Heap) (l5 : List Loc) (ls : Array Slot), HW D cls L s H5 l5 L F → lv_has ls 5 [(0, .ref h), (1, .int v1), (2, .int v2), (3, .int v3), (4, .int v4)] → W p l e (Rm 2 0 0) s m ([.ref h, .int x1, .int x2] : List Value).toArray below meth c H5 l5 0 0 (EnI D cls s below ([.ref h, .int x1, .int x2] : List Value).toArray 0 0 L (fun r L' F' => L = L' ∧ F = F' ∧ res = r)) (F0 m 5 ls []))) (v1 : Int32) (v2 : Int32) (v3 : Int32) (v4 : Int32), f_X0_placeOf_36 n ρ k5 v1 v2 v3 v4 = some res → ∀ (H36 : Heap) (l36 : List Loc) (ls : Array Slot), HW D cls L s H36 l36 L F → lv_has ls 5 [(0, .ref h), (1, .int v1), (2, .int v2), (3, .int v3), (4, .int v4)] → W p l e (Rm 2 0 0) s m ([.ref h, .int x1, .int x2] : List Value).toArray below meth c H36 l36 0 0 (EnI D cls s below ([.ref h, .int x1, .int x2] : List Value).toArray 0 0 L (fun r L' F' => L = L' ∧ F = F' ∧ res = r)) (F0 m 36 ls []) := by
    intro k5 hk5 v1 v2 v3 v4 hf H36 l36 ls hW hl
    unfold f_X0_placeOf_36 at hf
    obtain ⟨y1, ey1⟩ : ∃ y : Int32, y = v4 + 1 := ⟨_, rfl⟩
    have hf := nm_at hf ey1
    refine lv_iinc (v := y1) (lv' := [(4, .int y1), (0, .ref h), (1, .int v1), (2, .int v2), (3, .int v3)]) S.1 S.2.1 dX0_placeOf_36 hl (k := 4) rfl (by rw [ey1]; rfl) (by decide) rfl (fun ls hl => ?_)
    refine lv_goto (tgt := 5) S.1 S.2.1 dX0_placeOf_39 (by decide) ?_
    exact hk5 v1 v2 v3 y1 hf  _ _ _ hW (lv_sub hl [1, 2, 3, 4, 0] rfl)
  have B33 : ∀ (k5 : (Int32 × Int32 × Int32 × Int32) → Option Int32) (hk5 : (∀ (v1 : Int32) (v2 : Int32) (v3 : Int32) (v4 : Int32), k5 (v1, v2, v3, v4) = some res → ∀ (H5 : Heap) (l5 : List Loc) (ls : Array Slot), HW D cls L s H5 l5 L F → lv_has ls 5 [(0, .ref h), (1, .int v1), (2, .int v2), (3, .int v3), (4, .int v4)] → W p l e (Rm 2 0 0) s m ([.ref h, .int x1, .int x2] : List Value).toArray below meth c H5 l5 0 0 (EnI D cls s below ([.ref h, .int x1, .int x2] : List Value).toArray 0 0 L (fun r L' F' => L = L' ∧ F = F' ∧ res = r)) (F0 m 5 ls []))) (v1 : Int32) (v2 : Int32) (v4 : Int32), f_X0_placeOf_33 n ρ k5 v1 v2 v4 = some res → ∀ (H33 : Heap) (l33 : List Loc) (ls : Array Slot), HW D cls L s H33 l33 L F → lv_has ls 5 [(0, .ref h), (1, .int v1), (2, .int v2), (4, .int v4)] → W p l e (Rm 2 0 0) s m ([.ref h, .int x1, .int x2] : List Value).toArray below meth c H33 l33 0 0 (EnI D cls s below ([.ref h, .int x1, .int x2] : List Value).toArray 0 0 L (fun r L' F' => L = L' ∧ F = F' ∧ res = r)) (F0 m 33 ls []) := by
    intro k5 hk5 v1 v2 v4 hf H33 l33 ls hW hl
    unfold f_X0_placeOf_33 at hf
    refine lv_iload S.1 S.2.1 dX0_placeOf_33 (lv_at hl 3 rfl) ?_
    refine lv_istore_n (lv' := [(3, .int v4), (0, .ref h), (1, .int v1), (2, .int v2), (4, .int v4)]) S.1 S.2.1 dX0_placeOf_35 rfl hl (by decide) rfl (fun ls hl => ?_)
    exact B36 k5 hk5 v1 v2 v4 v4 hf  _ _ _ hW (lv_sub hl [1, 2, 3, 0, 4] rfl)
  have B5 : ∀ (N : Nat), (∀ (v1 : Int32) (v2 : Int32) (v3 : Int32) (v4 : Int32), (lpn (f_X0_placeOf_5 n ρ) N) (v1, v2, v3, v4) = some res → ∀ (H5 : Heap) (l5 : List Loc) (ls : Array Slot), HW D cls L s H5 l5 L F → lv_has ls 5 [(0, .ref h), (1, .int v1), (2, .int v2), (3, .int v3), (4, .int v4)] → W p l e (Rm 2 0 0) s m ([.ref h, .int x1, .int x2] : List Value).toArray below meth c H5 l5 0 0 (EnI D cls s below ([.ref h, .int x1, .int x2] : List Value).toArray 0 0 L (fun r L' F' => L = L' ∧ F = F' ∧ res = r)) (F0 m 5 ls [])) := by
    intro  N
    induction N with
    | zero => intro v1 v2 v3 v4 hf H5 l5 ls hW hl; cases hf
    | succ N ih =>
      intro v1 v2 v3 v4 hf H5 l5 ls hW hl
      have hf : f_X0_placeOf_5 n ρ (lpn (f_X0_placeOf_5 n ρ) N) (v1, v2, v3, v4) = some res := hf
      generalize lpn (f_X0_placeOf_5 n ρ) N = k5 at hf ih
      have hk5 := ih
      unfold f_X0_placeOf_5 at hf
      try dsimp only at hf
      refine lv_iload S.1 S.2.1 dX0_placeOf_5 (lv_at hl 4 rfl) ?_
      refine lv_aload_n S.1 S.2.1 dX0_placeOf_7 rfl (lv_at hl 0 rfl) ?_
      refine pk_get S hK hW 1 hI.1 hI.2.2.2.1 rfl hinX0 (by decide) wd_47 rfl dX0_placeOf_8 ?_
      refine lv_icmp_ge (tgt := 42) S.1 S.2.1 dX0_placeOf_11 (by decide) (fun c2 => ?_) (fun c2 => ?_)
      · have hf := (if_pos c2).symm.trans hf
        refine lv_iload_n S.1 S.2.1 dX0_placeOf_42 rfl (lv_at hl 3 rfl) ?_
        exact pk_iret S hr hlk hW ⟨rfl, rfl, eqm (P := fun z => z = v3) rfl (Option.some.inj hf)⟩ (by decide) (by decide) dX0_placeOf_43
      · have hf := (if_neg c2).symm.trans hf
        refine lv_aload_n S.1 S.2.1 dX0_placeOf_14 rfl (lv_at hl 0 rfl) ?_
        refine lv_iload S.1 S.2.1 dX0_placeOf_15 (lv_at hl 4 rfl) ?_
        obtain ⟨z3, hz, hf⟩ := ob hf
        refine pk_cVI (As := [.int v4]) (rest := []) S hK hST hW (c_X0_read hI v4 hz) mc_X0_read wd_119 wd_120 wd_121 rfl np_X0_read hI.1 hI.2.2.2.1 rfl rfl hl.1 rfl (Nat.le_of_ble_eq_true rfl) dX0_placeOf_17 ⟨by decide, by decide⟩ ⟨by decide, by decide⟩ (fun r L4 F5 H6 l7 hp hW => ?_)
        obtain ⟨rfl, rfl, rfl⟩ := hp
        refine lv_iload_n S.1 S.2.1 dX0_placeOf_20 rfl (lv_at hl 1 rfl) ?_
        refine lv_icmp_ne (tgt := 36) S.1 S.2.1 dX0_placeOf_21 (by decide) (fun c8 => ?_) (fun c8 => ?_)
        · have hf := (if_neg c8).symm.trans hf
          exact B36 k5 hk5 v1 v2 v3 v4 hf  _ _ _ hW (lv_sub hl [0, 1, 2, 3, 4] rfl)
        · have hf := (if_pos c8).symm.trans hf
          refine lv_iload_n S.1 S.2.1 dX0_placeOf_24 rfl (lv_at hl 2 rfl) ?_
          refine lv_if_ne (tgt := 33) S.1 S.2.1 dX0_placeOf_25 (by decide) (fun c9 => ?_) (fun c9 => ?_)
          · have hf := (if_neg c9).symm.trans hf
            exact B33 k5 hk5 v1 v2 v4 hf  _ _ _ hW (lv_sub hl [0, 1, 2, 4] rfl)
          · have hf := (if_pos c9).symm.trans hf
            refine lv_iload_n S.1 S.2.1 dX0_placeOf_28 rfl (lv_at hl 3 rfl) ?_
            refine lv_iconst (v := (-1)) S.1 S.2.1 dX0_placeOf_29 (by decide) ?_
            refine lv_icmp_ne (tgt := 36) S.1 S.2.1 dX0_placeOf_30 (by decide) (fun c10 => ?_) (fun c10 => ?_)
            · have hf := (if_neg c10).symm.trans hf
              exact B36 k5 hk5 v1 v2 v3 v4 hf  _ _ _ hW (lv_sub hl [0, 1, 2, 3, 4] rfl)
            · have hf := (if_pos c10).symm.trans hf
              exact B33 k5 hk5 v1 v2 v4 hf  _ _ _ hW (lv_sub hl [0, 1, 2, 4] rfl)
  unfold f_X0_placeOf at hf
  refine lv_iconst (v := (-1)) S.1 S.2.1 dX0_placeOf_0 (by decide) ?_
  refine lv_istore_n (lv' := [(3, .int ((-1))), (0, .ref h), (1, .int x1), (2, .int x2)]) S.1 S.2.1 dX0_placeOf_1 rfl hl (by decide) rfl (fun ls hl => ?_)
  refine lv_iconst (v := 0) S.1 S.2.1 dX0_placeOf_2 (by decide) ?_
  refine lv_istore (lv' := [(4, .int 0), (3, .int ((-1))), (0, .ref h), (1, .int x1), (2, .int x2)]) S.1 S.2.1 dX0_placeOf_3 hl (by decide) rfl (fun ls hl => ?_)
  exact B5  64 x1 x2 ((-1)) 0 hf  _ _ _ hW (lv_sub hl [2, 3, 4, 1, 0] rfl)
def f_X3_kindOf (x1 : Int32) : Option Int32 := some (x1 / 100)
theorem mc_X3_kindOf : MCode yX3_kindOf cX3_kindOf 1 (some .int) := ⟨wd_177, wd_1, by decide, by decide⟩
theorem np_X3_kindOf : (parseMethodDescriptor yX3_kindOf.desc).map (fun d => d.parameters.length) = some 1 := by decide +kernel
set_option maxHeartbeats 4000000 in
set_option maxRecDepth 100000 in
theorem c_X3_kindOf {l : Launch} {D : va_G} {κ : Nat → ClassId} {ζ : Nat → Nat} {L : List Nat} {F : Nat → va_E} (x1 : Int32) {res : Int32} (hf : f_X3_kindOf x1 = some res) : MtI l D cls (ty5 κ) ζ yX3_kindOf cX3_kindOf 1 (some .int) 1 0 0 ([.int x1] : List Value) L F (fun r L' F' => L = L' ∧ F = F' ∧ res = r) := by
  refine MtI.of (by decide) (Nat.le_of_ble_eq_true rfl) ?_
  intro p e s m below meth c S hr hlk _ hK hW hST ls hl
  have hl : lv_has ls 1 [(0, .int x1)] := hl
  unfold f_X3_kindOf at hf
  refine lv_iload_n S.1 S.2.1 dX3_kindOf_0 rfl (lv_at hl 0 rfl) ?_
  refine lv_bipush (v := 100) S.1 S.2.1 dX3_kindOf_1 (by decide) ?_
  refine lv_idiv S.1 S.2.1 dX3_kindOf_3 (by decide) ?_
  exact pk_iret S hr hlk hW ⟨rfl, rfl, eqm (P := fun z => z = x1 / 100) rfl (Option.some.inj hf)⟩ (by decide) (by decide) dX3_kindOf_4
def f_X0_placeOfKind_39 (n : Nat) (ρ : RS) (k5 : (Int32 × Int32 × Int32 × Int32) → Option Int32) (v1 : Int32) (v2 : Int32) (v3 : Int32) (v4 : Int32) : Option Int32 := nm (v4 + 1 : Int32) fun y1 => k5 (v1, v2, v3, y1)
def f_X0_placeOfKind_36 (n : Nat) (ρ : RS) (k5 : (Int32 × Int32 × Int32 × Int32) → Option Int32) (v1 : Int32) (v2 : Int32) (v4 : Int32) : Option Int32 := f_X0_placeOfKind_39 n ρ k5 v1 v2 v4 v4
def f_X0_placeOfKind_5 (n : Nat) (ρ : RS)  (k5 : Int32 × Int32 × Int32 × Int32 → Option Int32) (t : Int32 × Int32 × Int32 × Int32) : Option Int32 := (if ρ.2 ≤ t.2.2.2 then some (t.2.2.1) else (f_X0_read n ρ t.2.2.2).bind fun z3 => (f_X3_kindOf z3).bind fun z8 => (if z8 = t.1 then (if t.2.1 = 0 then (if t.2.2.1 = ((-1)) then f_X0_placeOfKind_36 n ρ k5 t.1 t.2.1 t.2.2.2 else f_X0_placeOfKind_39 n ρ k5 t.1 t.2.1 t.2.2.1 t.2.2.2) else f_X0_placeOfKind_36 n ρ k5 t.1 t.2.1 t.2.2.2) else f_X0_placeOfKind_39 n ρ k5 t.1 t.2.1 t.2.2.1 t.2.2.2))
def f_X0_placeOfKind (n : Nat) (ρ : RS) (x1 : Int32) (x2 : Int32) : Option Int32 := lpn (f_X0_placeOfKind_5 n ρ) 64 (x1, x2, (-1), 0)
theorem mc_X0_placeOfKind : MCode yX0_placeOfKind cX0_placeOfKind 5 (some .int) := ⟨wd_181, wd_2, by decide, by decide⟩
theorem np_X0_placeOfKind : (parseMethodDescriptor yX0_placeOfKind.desc).map (fun d => d.parameters.length) = some 2 := by decide +kernel
set_option maxHeartbeats 4000000 in
set_option maxRecDepth 100000 in
theorem c_X0_placeOfKind {l : Launch} {D : va_G} {κ : Nat → ClassId} {ζ : Nat → Nat} {L : List Nat} {F : Nat → va_E} {ρ : RS} {h a n : Nat} (hI : RI κ h a n ρ L F) (x1 : Int32) (x2 : Int32) {res : Int32} (hf : f_X0_placeOfKind n ρ x1 x2 = some res) : MtI l D cls (ty5 κ) ζ yX0_placeOfKind cX0_placeOfKind 5 (some .int) 2 0 0 ([.ref h, .int x1, .int x2] : List Value) L F (fun r L' F' => L = L' ∧ F = F' ∧ res = r) := by
  refine MtI.of (by decide) (Nat.le_of_ble_eq_true rfl) ?_
  intro p e s m below meth c S hr hlk _ hK hW hST ls hl
  have hl : lv_has ls 5 [(0, .ref h), (1, .int x1), (2, .int x2)] := hl
  have B39 : ∀ (k5 : (Int32 × Int32 × Int32 × Int32) → Option Int32) (hk5 : (∀ (v1 : Int32) (v2 : Int32) (v3 : Int32) (v4 : Int32), k5 (v1, v2, v3, v4) = some res → ∀ (H5 : Heap) (l5 : List Loc) (ls : Array Slot), HW D cls L s H5 l5 L F → lv_has ls 5 [(0, .ref h), (1, .int v1), (2, .int v2), (3, .int v3), (4, .int v4)] → W p l e (Rm 2 0 0) s m ([.ref h, .int x1, .int x2] : List Value).toArray below meth c H5 l5 0 0 (EnI D cls s below ([.ref h, .int x1, .int x2] : List Value).toArray 0 0 L (fun r L' F' => L = L' ∧ F = F' ∧ res = r)) (F0 m 5 ls []))) (v1 : Int32) (v2 : Int32) (v3 : Int32) (v4 : Int32), f_X0_placeOfKind_39 n ρ k5 v1 v2 v3 v4 = some res → ∀ (H39 : Heap) (l39 : List Loc) (ls : Array Slot), HW D cls L s H39 l39 L F → lv_has ls 5 [(0, .ref h), (1, .int v1), (2, .int v2), (3, .int v3), (4, .int v4)] → W p l e (Rm 2 0 0) s m ([.ref h, .int x1, .int x2] : List Value).toArray below meth c H39 l39 0 0 (EnI D cls s below ([.ref h, .int x1, .int x2] : List Value).toArray 0 0 L (fun r L' F' => L = L' ∧ F = F' ∧ res = r)) (F0 m 39 ls []) := by
    intro k5 hk5 v1 v2 v3 v4 hf H39 l39 ls hW hl
    unfold f_X0_placeOfKind_39 at hf
    obtain ⟨y1, ey1⟩ : ∃ y : Int32, y = v4 + 1 := ⟨_, rfl⟩
    have hf := nm_at hf ey1
    refine lv_iinc (v := y1) (lv' := [(4, .int y1), (0, .ref h), (1, .int v1), (2, .int v2), (3, .int v3)]) S.1 S.2.1 dX0_placeOfKind_39 hl (k := 4) rfl (by rw [ey1]; rfl) (by decide) rfl (fun ls hl => ?_)
    refine lv_goto (tgt := 5) S.1 S.2.1 dX0_placeOfKind_42 (by decide) ?_
    exact hk5 v1 v2 v3 y1 hf  _ _ _ hW (lv_sub hl [1, 2, 3, 4, 0] rfl)
  have B36 : ∀ (k5 : (Int32 × Int32 × Int32 × Int32) → Option Int32) (hk5 : (∀ (v1 : Int32) (v2 : Int32) (v3 : Int32) (v4 : Int32), k5 (v1, v2, v3, v4) = some res → ∀ (H5 : Heap) (l5 : List Loc) (ls : Array Slot), HW D cls L s H5 l5 L F → lv_has ls 5 [(0, .ref h), (1, .int v1), (2, .int v2), (3, .int v3), (4, .int v4)] → W p l e (Rm 2 0 0) s m ([.ref h, .int x1, .int x2] : List Value).toArray below meth c H5 l5 0 0 (EnI D cls s below ([.ref h, .int x1, .int x2] : List Value).toArray 0 0 L (fun r L' F' => L = L' ∧ F = F' ∧ res = r)) (F0 m 5 ls []))) (v1 : Int32) (v2 : Int32) (v4 : Int32), f_X0_placeOfKind_36 n ρ k5 v1 v2 v4 = some res → ∀ (H36 : Heap) (l36 : List Loc) (ls : Array Slot), HW D cls L s H36 l36 L F → lv_has ls 5 [(0, .ref h), (1, .int v1), (2, .int v2), (4, .int v4)] → W p l e (Rm 2 0 0) s m ([.ref h, .int x1, .int x2] : List Value).toArray below meth c H36 l36 0 0 (EnI D cls s below ([.ref h, .int x1, .int x2] : List Value).toArray 0 0 L (fun r L' F' => L = L' ∧ F = F' ∧ res = r)) (F0 m 36 ls []) := by
    intro k5 hk5 v1 v2 v4 hf H36 l36 ls hW hl
    unfold f_X0_placeOfKind_36 at hf
    refine lv_iload S.1 S.2.1 dX0_placeOfKind_36 (lv_at hl 3 rfl) ?_
    refine lv_istore_n (lv' := [(3, .int v4), (0, .ref h), (1, .int v1), (2, .int v2), (4, .int v4)]) S.1 S.2.1 dX0_placeOfKind_38 rfl hl (by decide) rfl (fun ls hl => ?_)
    exact B39 k5 hk5 v1 v2 v4 v4 hf  _ _ _ hW (lv_sub hl [1, 2, 3, 0, 4] rfl)
  have B5 : ∀ (N : Nat), (∀ (v1 : Int32) (v2 : Int32) (v3 : Int32) (v4 : Int32), (lpn (f_X0_placeOfKind_5 n ρ) N) (v1, v2, v3, v4) = some res → ∀ (H5 : Heap) (l5 : List Loc) (ls : Array Slot), HW D cls L s H5 l5 L F → lv_has ls 5 [(0, .ref h), (1, .int v1), (2, .int v2), (3, .int v3), (4, .int v4)] → W p l e (Rm 2 0 0) s m ([.ref h, .int x1, .int x2] : List Value).toArray below meth c H5 l5 0 0 (EnI D cls s below ([.ref h, .int x1, .int x2] : List Value).toArray 0 0 L (fun r L' F' => L = L' ∧ F = F' ∧ res = r)) (F0 m 5 ls [])) := by
    intro  N
    induction N with
    | zero => intro v1 v2 v3 v4 hf H5 l5 ls hW hl; cases hf
    | succ N ih =>
      intro v1 v2 v3 v4 hf H5 l5 ls hW hl
      have hf : f_X0_placeOfKind_5 n ρ (lpn (f_X0_placeOfKind_5 n ρ) N) (v1, v2, v3, v4) = some res := hf
      generalize lpn (f_X0_placeOfKind_5 n ρ) N = k5 at hf ih
      have hk5 := ih
      unfold f_X0_placeOfKind_5 at hf
      try dsimp only at hf
      refine lv_iload S.1 S.2.1 dX0_placeOfKind_5 (lv_at hl 4 rfl) ?_
      refine lv_aload_n S.1 S.2.1 dX0_placeOfKind_7 rfl (lv_at hl 0 rfl) ?_
      refine pk_get S hK hW 1 hI.1 hI.2.2.2.1 rfl hinX0 (by decide) wd_47 rfl dX0_placeOfKind_8 ?_
      refine lv_icmp_ge (tgt := 45) S.1 S.2.1 dX0_placeOfKind_11 (by decide) (fun c2 => ?_) (fun c2 => ?_)
      · have hf := (if_pos c2).symm.trans hf
        refine lv_iload_n S.1 S.2.1 dX0_placeOfKind_45 rfl (lv_at hl 3 rfl) ?_
        exact pk_iret S hr hlk hW ⟨rfl, rfl, eqm (P := fun z => z = v3) rfl (Option.some.inj hf)⟩ (by decide) (by decide) dX0_placeOfKind_46
      · have hf := (if_neg c2).symm.trans hf
        refine lv_aload_n S.1 S.2.1 dX0_placeOfKind_14 rfl (lv_at hl 0 rfl) ?_
        refine lv_iload S.1 S.2.1 dX0_placeOfKind_15 (lv_at hl 4 rfl) ?_
        obtain ⟨z3, hz, hf⟩ := ob hf
        refine pk_cVI (As := [.int v4]) (rest := []) S hK hST hW (c_X0_read hI v4 hz) mc_X0_read wd_119 wd_120 wd_121 rfl np_X0_read hI.1 hI.2.2.2.1 rfl rfl hl.1 rfl (Nat.le_of_ble_eq_true rfl) dX0_placeOfKind_17 ⟨by decide, by decide⟩ ⟨by decide, by decide⟩ (fun r L4 F5 H6 l7 hp hW => ?_)
        obtain ⟨rfl, rfl, rfl⟩ := hp
        obtain ⟨z8, hz, hf⟩ := ob hf
        refine pk_cNI (As := [.int z3]) (rest := []) S hK hST hW (c_X3_kindOf  z3 hz) mc_X3_kindOf wn_6 wd_176 np_X3_kindOf rfl hl.1 rfl (Nat.le_of_ble_eq_true rfl) dX0_placeOfKind_20 ⟨by decide, by decide⟩ ⟨by decide, by decide⟩ (fun r L9 F10 H11 l12 hp hW => ?_)
        obtain ⟨rfl, rfl, rfl⟩ := hp
        refine lv_iload_n S.1 S.2.1 dX0_placeOfKind_23 rfl (lv_at hl 1 rfl) ?_
        refine lv_icmp_ne (tgt := 39) S.1 S.2.1 dX0_placeOfKind_24 (by decide) (fun c13 => ?_) (fun c13 => ?_)
        · have hf := (if_neg c13).symm.trans hf
          exact B39 k5 hk5 v1 v2 v3 v4 hf  _ _ _ hW (lv_sub hl [0, 1, 2, 3, 4] rfl)
        · have hf := (if_pos c13).symm.trans hf
          refine lv_iload_n S.1 S.2.1 dX0_placeOfKind_27 rfl (lv_at hl 2 rfl) ?_
          refine lv_if_ne (tgt := 36) S.1 S.2.1 dX0_placeOfKind_28 (by decide) (fun c14 => ?_) (fun c14 => ?_)
          · have hf := (if_neg c14).symm.trans hf
            exact B36 k5 hk5 v1 v2 v4 hf  _ _ _ hW (lv_sub hl [0, 1, 2, 4] rfl)
          · have hf := (if_pos c14).symm.trans hf
            refine lv_iload_n S.1 S.2.1 dX0_placeOfKind_31 rfl (lv_at hl 3 rfl) ?_
            refine lv_iconst (v := (-1)) S.1 S.2.1 dX0_placeOfKind_32 (by decide) ?_
            refine lv_icmp_ne (tgt := 39) S.1 S.2.1 dX0_placeOfKind_33 (by decide) (fun c15 => ?_) (fun c15 => ?_)
            · have hf := (if_neg c15).symm.trans hf
              exact B39 k5 hk5 v1 v2 v3 v4 hf  _ _ _ hW (lv_sub hl [0, 1, 2, 3, 4] rfl)
            · have hf := (if_pos c15).symm.trans hf
              exact B36 k5 hk5 v1 v2 v4 hf  _ _ _ hW (lv_sub hl [0, 1, 2, 4] rfl)
  unfold f_X0_placeOfKind at hf
  refine lv_iconst (v := (-1)) S.1 S.2.1 dX0_placeOfKind_0 (by decide) ?_
  refine lv_istore_n (lv' := [(3, .int ((-1))), (0, .ref h), (1, .int x1), (2, .int x2)]) S.1 S.2.1 dX0_placeOfKind_1 rfl hl (by decide) rfl (fun ls hl => ?_)
  refine lv_iconst (v := 0) S.1 S.2.1 dX0_placeOfKind_2 (by decide) ?_
  refine lv_istore (lv' := [(4, .int 0), (3, .int ((-1))), (0, .ref h), (1, .int x1), (2, .int x2)]) S.1 S.2.1 dX0_placeOfKind_3 hl (by decide) rfl (fun ls hl => ?_)
  exact B5  64 x1 x2 ((-1)) 0 hf  _ _ _ hW (lv_sub hl [2, 3, 4, 1, 0] rfl)
def f_X1_begin_22   (w22 : (Nat → Int32)) (u1 : Int32) : Option (Nat → Int32) := nm (va_up w22 2 u1 : (Nat → Int32)) fun t4 => nm (va_up t4 3 ((-1)) : (Nat → Int32)) fun t8 => some t8
def f_X1_begin (ω : (Nat → Int32)) (x1 : Int32) (x2 : Int32) : Option (Nat → Int32) := nm (va_up ω 0 1 : (Nat → Int32)) fun t12 => (if x1 = 0 ∨ x1 = 1 then nm (va_up t12 1 x1 : (Nat → Int32)) fun t16 => (if x1 = 0 then f_X1_begin_22 t16 0 else f_X1_begin_22 t16 (x2 - 1)) else none)
theorem mc_X1_begin : MCode yX1_begin cX1_begin 3 none := ⟨wd_201, wd_3, by decide, by decide⟩
theorem np_X1_begin : (parseMethodDescriptor yX1_begin.desc).map (fun d => d.parameters.length) = some 2 := by decide +kernel
set_option maxHeartbeats 4000000 in
set_option maxRecDepth 100000 in
theorem c_X1_begin {l : Launch} {D : va_G} {κ : Nat → ClassId} {ζ : Nat → Nat} {L : List Nat} {F : Nat → va_E} {ω : (Nat → Int32)} {h : Nat} (hI : WI h ω L F) (x1 : Int32) (x2 : Int32) {res : (Nat → Int32)} (hf : f_X1_begin ω x1 x2 = some res) : MtV l D cls (ty5 κ) ζ yX1_begin cX1_begin 3 none 1 0 0 ([.ref h, .int x1, .int x2] : List Value) L F (fun L' F' => L = L' ∧ WI h res L F' ∧ FrW h F F') := by
  refine MtV.of (by decide) (Nat.le_of_ble_eq_true rfl) ?_
  intro p e s m below meth c S hr hlk _ hK hW hST ls hl
  have hl : lv_has ls 3 [(0, .ref h), (1, .int x1), (2, .int x2)] := hl
  have hFr : FrW h F F := FrW.rf
  have B22 : ∀   (w22 : (Nat → Int32)) (u1 : Int32), f_X1_begin_22 w22 u1 = some res → ∀ (G22 : Nat → va_E), WI h w22 L G22 → FrW h F G22 → ∀ (H22 : Heap) (l22 : List Loc) (ls : Array Slot), HW D cls L s H22 l22 L G22 → lv_has ls 3 [(0, .ref h)] → W p l e (Rm 1 0 0) s m ([.ref h, .int x1, .int x2] : List Value).toArray below meth c H22 l22 0 0 (EnV D cls s below ([.ref h, .int x1, .int x2] : List Value).toArray 0 0 L (fun L' F' => L = L' ∧ WI h res L F' ∧ FrW h F F')) (F0 m 22 ls [.int u1, .ref h]) := by
    intro w22 u1 hf G22 hI hFr H22 l22 ls hW hl
    unfold f_X1_begin_22 at hf
    refine pk_put (v := .int u1) S hK hW 2 hI.1 hI.2 rfl hinX1 tyX1_ok nmX1 (by decide) wd_60 rfl rfl rfl rfl (Nat.le_of_ble_eq_true rfl) dX1_begin_22 (fun H1 l2 hW => ?_)
    have hFr := hFr.tr (FrW.h (e := .inr (6, ([.int (w22 0), .int (w22 1), .int (w22 2), .int (w22 3)] : List Value).set 2 (.int u1))))
    have hI := hI.set2 u1
    generalize va_up G22 h (.inr (6, ([.int (w22 0), .int (w22 1), .int (w22 2), .int (w22 3)] : List Value).set 2 (.int u1))) = F3 at hW hI hFr
    obtain ⟨t4, et4, hf⟩ := nm_ok hf
    have hI := eqm (P := fun w => WI h w L F3) hI et4.symm
    refine lv_aload_n S.1 S.2.1 dX1_begin_25 rfl (lv_at hl 0 rfl) ?_
    refine lv_iconst (v := (-1)) S.1 S.2.1 dX1_begin_26 (by decide) ?_
    refine pk_put (v := .int ((-1))) S hK hW 3 hI.1 hI.2 rfl hinX1 tyX1_ok nmX1 (by decide) wd_61 rfl rfl rfl rfl (Nat.le_of_ble_eq_true rfl) dX1_begin_27 (fun H5 l6 hW => ?_)
    have hFr := hFr.tr (FrW.h (e := .inr (6, ([.int (t4 0), .int (t4 1), .int (t4 2), .int (t4 3)] : List Value).set 3 (.int ((-1))))))
    have hI := hI.set3 ((-1))
    generalize va_up F3 h (.inr (6, ([.int (t4 0), .int (t4 1), .int (t4 2), .int (t4 3)] : List Value).set 3 (.int ((-1))))) = F7 at hW hI hFr
    obtain ⟨t8, et8, hf⟩ := nm_ok hf
    have hI := eqm (P := fun w => WI h w L F7) hI et8.symm
    exact pk_vret S hr hlk hW ⟨rfl, eqm (P := fun z => WI h z L F7) hI (Option.some.inj hf), hFr⟩ (by decide) (by decide) dX1_begin_30
  unfold f_X1_begin at hf
  refine lv_aload_n S.1 S.2.1 dX1_begin_0 rfl (lv_at hl 0 rfl) ?_
  refine lv_iconst (v := 1) S.1 S.2.1 dX1_begin_1 (by decide) ?_
  refine pk_put (v := .int 1) S hK hW 0 hI.1 hI.2 rfl hinX1 tyX1_ok nmX1 (by decide) wd_58 rfl rfl rfl rfl (Nat.le_of_ble_eq_true rfl) dX1_begin_2 (fun H9 l10 hW => ?_)
  have hFr := hFr.tr (FrW.h (e := .inr (6, ([.int (ω 0), .int (ω 1), .int (ω 2), .int (ω 3)] : List Value).set 0 (.int 1))))
  have hI := hI.set0 1
  generalize va_up F h (.inr (6, ([.int (ω 0), .int (ω 1), .int (ω 2), .int (ω 3)] : List Value).set 0 (.int 1))) = F11 at hW hI hFr
  obtain ⟨t12, et12, hf⟩ := nm_ok hf
  have hI := eqm (P := fun w => WI h w L F11) hI et12.symm
  refine lv_aload_n S.1 S.2.1 dX1_begin_5 rfl (lv_at hl 0 rfl) ?_
  refine lv_iload_n S.1 S.2.1 dX1_begin_6 rfl (lv_at hl 1 rfl) ?_
  obtain ⟨hg, hf⟩ := gdp hf
  refine pk_put (v := .int x1) S hK hW 1 hI.1 hI.2 rfl hinX1 tyX1_ok nmX1 (by decide) wd_59 rfl rfl (nar_bool hg) (fit_bool hg) (Nat.le_of_ble_eq_true rfl) dX1_begin_7 (fun H13 l14 hW => ?_)
  have hFr := hFr.tr (FrW.h (e := .inr (6, ([.int (t12 0), .int (t12 1), .int (t12 2), .int (t12 3)] : List Value).set 1 (.int x1))))
  have hI := hI.set1 x1
  generalize va_up F11 h (.inr (6, ([.int (t12 0), .int (t12 1), .int (t12 2), .int (t12 3)] : List Value).set 1 (.int x1))) = F15 at hW hI hFr
  obtain ⟨t16, et16, hf⟩ := nm_ok hf
  have hI := eqm (P := fun w => WI h w L F15) hI et16.symm
  refine lv_aload_n S.1 S.2.1 dX1_begin_10 rfl (lv_at hl 0 rfl) ?_
  refine lv_iload_n S.1 S.2.1 dX1_begin_11 rfl (lv_at hl 1 rfl) ?_
  refine lv_if_eq (tgt := 21) S.1 S.2.1 dX1_begin_12 (by decide) (fun c17 => ?_) (fun c17 => ?_)
  · have hf := (if_pos c17).symm.trans hf
    refine lv_iconst (v := 0) S.1 S.2.1 dX1_begin_21 (by decide) ?_
    exact B22  t16 0 hf F15 hI hFr _ _ _ hW (lv_sub hl [0] rfl)
  · have hf := (if_neg c17).symm.trans hf
    refine lv_iload_n S.1 S.2.1 dX1_begin_15 rfl (lv_at hl 2 rfl) ?_
    refine lv_iconst (v := 1) S.1 S.2.1 dX1_begin_16 (by decide) ?_
    refine lv_isub S.1 S.2.1 dX1_begin_17 ?_
    refine lv_goto (tgt := 22) S.1 S.2.1 dX1_begin_18 (by decide) ?_
    exact B22  t16 (x2 - 1) hf F15 hI hFr _ _ _ hW (lv_sub hl [0] rfl)
def f_X1_end (ω : (Nat → Int32)) : Option (Nat → Int32) := nm (va_up ω 0 0 : (Nat → Int32)) fun t4 => nm (va_up t4 3 ((-1)) : (Nat → Int32)) fun t8 => some t8
theorem mc_X1_end : MCode yX1_end cX1_end 1 none := ⟨wd_162, wd_3, by decide, by decide⟩
theorem np_X1_end : (parseMethodDescriptor yX1_end.desc).map (fun d => d.parameters.length) = some 0 := by decide +kernel
set_option maxHeartbeats 4000000 in
set_option maxRecDepth 100000 in
theorem c_X1_end {l : Launch} {D : va_G} {κ : Nat → ClassId} {ζ : Nat → Nat} {L : List Nat} {F : Nat → va_E} {ω : (Nat → Int32)} {h : Nat} (hI : WI h ω L F)  {res : (Nat → Int32)} (hf : f_X1_end ω = some res) : MtV l D cls (ty5 κ) ζ yX1_end cX1_end 1 none 1 0 0 ([.ref h] : List Value) L F (fun L' F' => L = L' ∧ WI h res L F' ∧ FrW h F F') := by
  refine MtV.of (by decide) (Nat.le_of_ble_eq_true rfl) ?_
  intro p e s m below meth c S hr hlk _ hK hW hST ls hl
  have hl : lv_has ls 1 [(0, .ref h)] := hl
  have hFr : FrW h F F := FrW.rf
  unfold f_X1_end at hf
  refine lv_aload_n S.1 S.2.1 dX1_end_0 rfl (lv_at hl 0 rfl) ?_
  refine lv_iconst (v := 0) S.1 S.2.1 dX1_end_1 (by decide) ?_
  refine pk_put (v := .int 0) S hK hW 0 hI.1 hI.2 rfl hinX1 tyX1_ok nmX1 (by decide) wd_58 rfl rfl rfl rfl (Nat.le_of_ble_eq_true rfl) dX1_end_2 (fun H1 l2 hW => ?_)
  have hFr := hFr.tr (FrW.h (e := .inr (6, ([.int (ω 0), .int (ω 1), .int (ω 2), .int (ω 3)] : List Value).set 0 (.int 0))))
  have hI := hI.set0 0
  generalize va_up F h (.inr (6, ([.int (ω 0), .int (ω 1), .int (ω 2), .int (ω 3)] : List Value).set 0 (.int 0))) = F3 at hW hI hFr
  obtain ⟨t4, et4, hf⟩ := nm_ok hf
  have hI := eqm (P := fun w => WI h w L F3) hI et4.symm
  refine lv_aload_n S.1 S.2.1 dX1_end_5 rfl (lv_at hl 0 rfl) ?_
  refine lv_iconst (v := (-1)) S.1 S.2.1 dX1_end_6 (by decide) ?_
  refine pk_put (v := .int ((-1))) S hK hW 3 hI.1 hI.2 rfl hinX1 tyX1_ok nmX1 (by decide) wd_61 rfl rfl rfl rfl (Nat.le_of_ble_eq_true rfl) dX1_end_7 (fun H5 l6 hW => ?_)
  have hFr := hFr.tr (FrW.h (e := .inr (6, ([.int (t4 0), .int (t4 1), .int (t4 2), .int (t4 3)] : List Value).set 3 (.int ((-1))))))
  have hI := hI.set3 ((-1))
  generalize va_up F3 h (.inr (6, ([.int (t4 0), .int (t4 1), .int (t4 2), .int (t4 3)] : List Value).set 3 (.int ((-1))))) = F7 at hW hI hFr
  obtain ⟨t8, et8, hf⟩ := nm_ok hf
  have hI := eqm (P := fun w => WI h w L F7) hI et8.symm
  exact pk_vret S hr hlk hW ⟨rfl, eqm (P := fun z => WI h z L F7) hI (Option.some.inj hf), hFr⟩ (by decide) (by decide) dX1_end_10
def f_X1_hasNext (ω : (Nat → Int32)) (x1 : Int32) : Option Int32 := (if (ω 0) = 0 then some (0) else (if (ω 2) < 0 then some (0) else (if x1 ≤ (ω 2) then some (0) else some (1))))
theorem mc_X1_hasNext : MCode yX1_hasNext cX1_hasNext 2 (some .boolean) := ⟨wd_335, wd_3, by decide, by decide⟩
theorem np_X1_hasNext : (parseMethodDescriptor yX1_hasNext.desc).map (fun d => d.parameters.length) = some 1 := by decide +kernel
set_option maxHeartbeats 4000000 in
set_option maxRecDepth 100000 in
theorem c_X1_hasNext {l : Launch} {D : va_G} {κ : Nat → ClassId} {ζ : Nat → Nat} {L : List Nat} {F : Nat → va_E} {ω : (Nat → Int32)} {h : Nat} (hI : WI h ω L F) (x1 : Int32) {res : Int32} (hf : f_X1_hasNext ω x1 = some res) : MtI l D cls (ty5 κ) ζ yX1_hasNext cX1_hasNext 2 (some .boolean) 1 0 0 ([.ref h, .int x1] : List Value) L F (fun r L' F' => L = L' ∧ F = F' ∧ res = r) := by
  refine MtI.of (by decide) (Nat.le_of_ble_eq_true rfl) ?_
  intro p e s m below meth c S hr hlk _ hK hW hST ls hl
  have hl : lv_has ls 2 [(0, .ref h), (1, .int x1)] := hl
  unfold f_X1_hasNext at hf
  refine lv_aload_n S.1 S.2.1 dX1_hasNext_0 rfl (lv_at hl 0 rfl) ?_
  refine pk_get S hK hW 0 hI.1 hI.2 rfl hinX1 (by decide) wd_58 rfl dX1_hasNext_1 ?_
  refine lv_if_eq (tgt := 26) S.1 S.2.1 dX1_hasNext_4 (by decide) (fun c1 => ?_) (fun c1 => ?_)
  · have hf := (if_pos c1).symm.trans hf
    refine lv_iconst (v := 0) S.1 S.2.1 dX1_hasNext_26 (by decide) ?_
    exact pk_zret S hr hlk hW (by decide) ⟨rfl, rfl, eqm (P := fun z => z = 0) rfl (Option.some.inj hf)⟩ (by decide) (by decide) dX1_hasNext_27
  · have hf := (if_neg c1).symm.trans hf
    refine lv_aload_n S.1 S.2.1 dX1_hasNext_7 rfl (lv_at hl 0 rfl) ?_
    refine pk_get S hK hW 2 hI.1 hI.2 rfl hinX1 (by decide) wd_60 rfl dX1_hasNext_8 ?_
    refine lv_if_lt (tgt := 26) S.1 S.2.1 dX1_hasNext_11 (by decide) (fun c2 => ?_) (fun c2 => ?_)
    · have hf := (if_pos c2).symm.trans hf
      refine lv_iconst (v := 0) S.1 S.2.1 dX1_hasNext_26 (by decide) ?_
      exact pk_zret S hr hlk hW (by decide) ⟨rfl, rfl, eqm (P := fun z => z = 0) rfl (Option.some.inj hf)⟩ (by decide) (by decide) dX1_hasNext_27
    · have hf := (if_neg c2).symm.trans hf
      refine lv_aload_n S.1 S.2.1 dX1_hasNext_14 rfl (lv_at hl 0 rfl) ?_
      refine pk_get S hK hW 2 hI.1 hI.2 rfl hinX1 (by decide) wd_60 rfl dX1_hasNext_15 ?_
      refine lv_iload_n S.1 S.2.1 dX1_hasNext_18 rfl (lv_at hl 1 rfl) ?_
      refine lv_icmp_ge (tgt := 26) S.1 S.2.1 dX1_hasNext_19 (by decide) (fun c3 => ?_) (fun c3 => ?_)
      · have hf := (if_pos c3).symm.trans hf
        refine lv_iconst (v := 0) S.1 S.2.1 dX1_hasNext_26 (by decide) ?_
        exact pk_zret S hr hlk hW (by decide) ⟨rfl, rfl, eqm (P := fun z => z = 0) rfl (Option.some.inj hf)⟩ (by decide) (by decide) dX1_hasNext_27
      · have hf := (if_neg c3).symm.trans hf
        refine lv_iconst (v := 1) S.1 S.2.1 dX1_hasNext_22 (by decide) ?_
        refine lv_goto (tgt := 27) S.1 S.2.1 dX1_hasNext_23 (by decide) ?_
        exact pk_zret S hr hlk hW (by decide) ⟨rfl, rfl, eqm (P := fun z => z = 1) rfl (Option.some.inj hf)⟩ (by decide) (by decide) dX1_hasNext_27
def f_X1_goOn_25   (w25 : (Nat → Int32)) (u1 : Int32) (u2 : Int32) : Option (Nat → Int32) := nm (va_up w25 2 (u1 + u2) : (Nat → Int32)) fun t4 => some t4
def f_X1_goOn (ω : (Nat → Int32)) : Option (Nat → Int32) := nm (va_up ω 3 (ω 2) : (Nat → Int32)) fun t8 => (if (t8 1) = 0 then f_X1_goOn_25 t8 (t8 2) 1 else f_X1_goOn_25 t8 (t8 2) ((-1)))
theorem mc_X1_goOn : MCode yX1_goOn cX1_goOn 1 none := ⟨wd_586, wd_3, by decide, by decide⟩
theorem np_X1_goOn : (parseMethodDescriptor yX1_goOn.desc).map (fun d => d.parameters.length) = some 0 := by decide +kernel
set_option maxHeartbeats 4000000 in
set_option maxRecDepth 100000 in
theorem c_X1_goOn {l : Launch} {D : va_G} {κ : Nat → ClassId} {ζ : Nat → Nat} {L : List Nat} {F : Nat → va_E} {ω : (Nat → Int32)} {h : Nat} (hI : WI h ω L F)  {res : (Nat → Int32)} (hf : f_X1_goOn ω = some res) : MtV l D cls (ty5 κ) ζ yX1_goOn cX1_goOn 1 none 1 0 0 ([.ref h] : List Value) L F (fun L' F' => L = L' ∧ WI h res L F' ∧ FrW h F F') := by
  refine MtV.of (by decide) (Nat.le_of_ble_eq_true rfl) ?_
  intro p e s m below meth c S hr hlk _ hK hW hST ls hl
  have hl : lv_has ls 1 [(0, .ref h)] := hl
  have hFr : FrW h F F := FrW.rf
  have B25 : ∀   (w25 : (Nat → Int32)) (u1 : Int32) (u2 : Int32), f_X1_goOn_25 w25 u1 u2 = some res → ∀ (G25 : Nat → va_E), WI h w25 L G25 → FrW h F G25 → ∀ (H25 : Heap) (l25 : List Loc) (ls : Array Slot), HW D cls L s H25 l25 L G25 → lv_has ls 1 [] → W p l e (Rm 1 0 0) s m ([.ref h] : List Value).toArray below meth c H25 l25 0 0 (EnV D cls s below ([.ref h] : List Value).toArray 0 0 L (fun L' F' => L = L' ∧ WI h res L F' ∧ FrW h F F')) (F0 m 25 ls [.int u2, .int u1, .ref h]) := by
    intro w25 u1 u2 hf G25 hI hFr H25 l25 ls hW hl
    unfold f_X1_goOn_25 at hf
    refine lv_iadd S.1 S.2.1 dX1_goOn_25 ?_
    refine pk_put (v := .int (u1 + u2)) S hK hW 2 hI.1 hI.2 rfl hinX1 tyX1_ok nmX1 (by decide) wd_60 rfl rfl rfl rfl (Nat.le_of_ble_eq_true rfl) dX1_goOn_26 (fun H1 l2 hW => ?_)
    have hFr := hFr.tr (FrW.h (e := .inr (6, ([.int (w25 0), .int (w25 1), .int (w25 2), .int (w25 3)] : List Value).set 2 (.int (u1 + u2)))))
    have hI := hI.set2 (u1 + u2)
    generalize va_up G25 h (.inr (6, ([.int (w25 0), .int (w25 1), .int (w25 2), .int (w25 3)] : List Value).set 2 (.int (u1 + u2)))) = F3 at hW hI hFr
    obtain ⟨t4, et4, hf⟩ := nm_ok hf
    have hI := eqm (P := fun w => WI h w L F3) hI et4.symm
    exact pk_vret S hr hlk hW ⟨rfl, eqm (P := fun z => WI h z L F3) hI (Option.some.inj hf), hFr⟩ (by decide) (by decide) dX1_goOn_29
  unfold f_X1_goOn at hf
  refine lv_aload_n S.1 S.2.1 dX1_goOn_0 rfl (lv_at hl 0 rfl) ?_
  refine lv_aload_n S.1 S.2.1 dX1_goOn_1 rfl (lv_at hl 0 rfl) ?_
  refine pk_get S hK hW 2 hI.1 hI.2 rfl hinX1 (by decide) wd_60 rfl dX1_goOn_2 ?_
  refine pk_put (v := .int (ω 2)) S hK hW 3 hI.1 hI.2 rfl hinX1 tyX1_ok nmX1 (by decide) wd_61 rfl rfl rfl rfl (Nat.le_of_ble_eq_true rfl) dX1_goOn_5 (fun H5 l6 hW => ?_)
  have hFr := hFr.tr (FrW.h (e := .inr (6, ([.int (ω 0), .int (ω 1), .int (ω 2), .int (ω 3)] : List Value).set 3 (.int (ω 2)))))
  have hI := hI.set3 (ω 2)
  generalize va_up F h (.inr (6, ([.int (ω 0), .int (ω 1), .int (ω 2), .int (ω 3)] : List Value).set 3 (.int (ω 2)))) = F7 at hW hI hFr
  obtain ⟨t8, et8, hf⟩ := nm_ok hf
  have hI := eqm (P := fun w => WI h w L F7) hI et8.symm
  refine lv_aload_n S.1 S.2.1 dX1_goOn_8 rfl (lv_at hl 0 rfl) ?_
  refine lv_dup S.1 S.2.1 dX1_goOn_9 rfl ?_
  refine pk_get S hK hW 2 hI.1 hI.2 rfl hinX1 (by decide) wd_60 rfl dX1_goOn_10 ?_
  refine lv_aload_n S.1 S.2.1 dX1_goOn_13 rfl (lv_at hl 0 rfl) ?_
  refine pk_get S hK hW 1 hI.1 hI.2 rfl hinX1 (by decide) wd_59 rfl dX1_goOn_14 ?_
  refine lv_if_eq (tgt := 24) S.1 S.2.1 dX1_goOn_17 (by decide) (fun c9 => ?_) (fun c9 => ?_)
  · have hf := (if_pos c9).symm.trans hf
    refine lv_iconst (v := 1) S.1 S.2.1 dX1_goOn_24 (by decide) ?_
    exact B25  t8 (t8 2) 1 hf F7 hI hFr _ _ _ hW (lv_sub hl [] rfl)
  · have hf := (if_neg c9).symm.trans hf
    refine lv_iconst (v := (-1)) S.1 S.2.1 dX1_goOn_20 (by decide) ?_
    refine lv_goto (tgt := 25) S.1 S.2.1 dX1_goOn_21 (by decide) ?_
    exact B25  t8 (t8 2) ((-1)) hf F7 hI hFr _ _ _ hW (lv_sub hl [] rfl)
def f_X1_letGo_15   (w15 : (Nat → Int32)) : Option (Nat → Int32) := nm (va_up w15 3 ((-1)) : (Nat → Int32)) fun t4 => some t4
def f_X1_letGo (ω : (Nat → Int32)) : Option (Nat → Int32) := (if (ω 1) = 0 then nm (va_up ω 2 (ω 3) : (Nat → Int32)) fun t9 => f_X1_letGo_15 t9 else f_X1_letGo_15 ω)
theorem mc_X1_letGo : MCode yX1_letGo cX1_letGo 1 none := ⟨wd_596, wd_3, by decide, by decide⟩
theorem np_X1_letGo : (parseMethodDescriptor yX1_letGo.desc).map (fun d => d.parameters.length) = some 0 := by decide +kernel
set_option maxHeartbeats 4000000 in
set_option maxRecDepth 100000 in
theorem c_X1_letGo {l : Launch} {D : va_G} {κ : Nat → ClassId} {ζ : Nat → Nat} {L : List Nat} {F : Nat → va_E} {ω : (Nat → Int32)} {h : Nat} (hI : WI h ω L F)  {res : (Nat → Int32)} (hf : f_X1_letGo ω = some res) : MtV l D cls (ty5 κ) ζ yX1_letGo cX1_letGo 1 none 1 0 0 ([.ref h] : List Value) L F (fun L' F' => L = L' ∧ WI h res L F' ∧ FrW h F F') := by
  refine MtV.of (by decide) (Nat.le_of_ble_eq_true rfl) ?_
  intro p e s m below meth c S hr hlk _ hK hW hST ls hl
  have hl : lv_has ls 1 [(0, .ref h)] := hl
  have hFr : FrW h F F := FrW.rf
  have B15 : ∀   (w15 : (Nat → Int32)), f_X1_letGo_15 w15 = some res → ∀ (G15 : Nat → va_E), WI h w15 L G15 → FrW h F G15 → ∀ (H15 : Heap) (l15 : List Loc) (ls : Array Slot), HW D cls L s H15 l15 L G15 → lv_has ls 1 [(0, .ref h)] → W p l e (Rm 1 0 0) s m ([.ref h] : List Value).toArray below meth c H15 l15 0 0 (EnV D cls s below ([.ref h] : List Value).toArray 0 0 L (fun L' F' => L = L' ∧ WI h res L F' ∧ FrW h F F')) (F0 m 15 ls []) := by
    intro w15 hf G15 hI hFr H15 l15 ls hW hl
    unfold f_X1_letGo_15 at hf
    refine lv_aload_n S.1 S.2.1 dX1_letGo_15 rfl (lv_at hl 0 rfl) ?_
    refine lv_iconst (v := (-1)) S.1 S.2.1 dX1_letGo_16 (by decide) ?_
    refine pk_put (v := .int ((-1))) S hK hW 3 hI.1 hI.2 rfl hinX1 tyX1_ok nmX1 (by decide) wd_61 rfl rfl rfl rfl (Nat.le_of_ble_eq_true rfl) dX1_letGo_17 (fun H1 l2 hW => ?_)
    have hFr := hFr.tr (FrW.h (e := .inr (6, ([.int (w15 0), .int (w15 1), .int (w15 2), .int (w15 3)] : List Value).set 3 (.int ((-1))))))
    have hI := hI.set3 ((-1))
    generalize va_up G15 h (.inr (6, ([.int (w15 0), .int (w15 1), .int (w15 2), .int (w15 3)] : List Value).set 3 (.int ((-1))))) = F3 at hW hI hFr
    obtain ⟨t4, et4, hf⟩ := nm_ok hf
    have hI := eqm (P := fun w => WI h w L F3) hI et4.symm
    exact pk_vret S hr hlk hW ⟨rfl, eqm (P := fun z => WI h z L F3) hI (Option.some.inj hf), hFr⟩ (by decide) (by decide) dX1_letGo_20
  unfold f_X1_letGo at hf
  refine lv_aload_n S.1 S.2.1 dX1_letGo_0 rfl (lv_at hl 0 rfl) ?_
  refine pk_get S hK hW 1 hI.1 hI.2 rfl hinX1 (by decide) wd_59 rfl dX1_letGo_1 ?_
  refine lv_if_ne (tgt := 15) S.1 S.2.1 dX1_letGo_4 (by decide) (fun c5 => ?_) (fun c5 => ?_)
  · have hf := (if_neg c5).symm.trans hf
    exact B15  ω hf F hI hFr _ _ _ hW (lv_sub hl [0] rfl)
  · have hf := (if_pos c5).symm.trans hf
    refine lv_aload_n S.1 S.2.1 dX1_letGo_7 rfl (lv_at hl 0 rfl) ?_
    refine lv_aload_n S.1 S.2.1 dX1_letGo_8 rfl (lv_at hl 0 rfl) ?_
    refine pk_get S hK hW 3 hI.1 hI.2 rfl hinX1 (by decide) wd_61 rfl dX1_letGo_9 ?_
    refine pk_put (v := .int (ω 3)) S hK hW 2 hI.1 hI.2 rfl hinX1 tyX1_ok nmX1 (by decide) wd_60 rfl rfl rfl rfl (Nat.le_of_ble_eq_true rfl) dX1_letGo_12 (fun H6 l7 hW => ?_)
    have hFr := hFr.tr (FrW.h (e := .inr (6, ([.int (ω 0), .int (ω 1), .int (ω 2), .int (ω 3)] : List Value).set 2 (.int (ω 3)))))
    have hI := hI.set2 (ω 3)
    generalize va_up F h (.inr (6, ([.int (ω 0), .int (ω 1), .int (ω 2), .int (ω 3)] : List Value).set 2 (.int (ω 3)))) = F8 at hW hI hFr
    obtain ⟨t9, et9, hf⟩ := nm_ok hf
    have hI := eqm (P := fun w => WI h w L F8) hI et9.symm
    exact B15  t9 hf F8 hI hFr _ _ _ hW (lv_sub hl [0] rfl)
def f_X2_standAt (ω : (Nat → Int32)) (x1 : Int32) : Option (Nat → Int32) := nm (va_up ω 0 1 : (Nat → Int32)) fun t4 => nm (va_up t4 1 x1 : (Nat → Int32)) fun t8 => nm (va_up t8 2 ((-1)) : (Nat → Int32)) fun t12 => some t12
theorem mc_X2_standAt : MCode yX2_standAt cX2_standAt 2 none := ⟨wd_663, wd_4, by decide, by decide⟩
theorem np_X2_standAt : (parseMethodDescriptor yX2_standAt.desc).map (fun d => d.parameters.length) = some 1 := by decide +kernel
set_option maxHeartbeats 4000000 in
set_option maxRecDepth 100000 in
theorem c_X2_standAt {l : Launch} {D : va_G} {κ : Nat → ClassId} {ζ : Nat → Nat} {L : List Nat} {F : Nat → va_E} {ω : (Nat → Int32)} {h : Nat} (hI : KI h ω L F) (x1 : Int32) {res : (Nat → Int32)} (hf : f_X2_standAt ω x1 = some res) : MtV l D cls (ty5 κ) ζ yX2_standAt cX2_standAt 2 none 1 0 0 ([.ref h, .int x1] : List Value) L F (fun L' F' => L = L' ∧ KI h res L F' ∧ FrW h F F') := by
  refine MtV.of (by decide) (Nat.le_of_ble_eq_true rfl) ?_
  intro p e s m below meth c S hr hlk _ hK hW hST ls hl
  have hl : lv_has ls 2 [(0, .ref h), (1, .int x1)] := hl
  have hFr : FrW h F F := FrW.rf
  unfold f_X2_standAt at hf
  refine lv_aload_n S.1 S.2.1 dX2_standAt_0 rfl (lv_at hl 0 rfl) ?_
  refine lv_iconst (v := 1) S.1 S.2.1 dX2_standAt_1 (by decide) ?_
  refine pk_put (v := .int 1) S hK hW 0 hI.1 hI.2 rfl hinX2 tyX2_ok nmX2 (by decide) wd_73 rfl rfl rfl rfl (Nat.le_of_ble_eq_true rfl) dX2_standAt_2 (fun H1 l2 hW => ?_)
  have hFr := hFr.tr (FrW.h (e := .inr (7, ([.int (ω 0), .int (ω 1), .int (ω 2)] : List Value).set 0 (.int 1))))
  have hI := hI.set0 1
  generalize va_up F h (.inr (7, ([.int (ω 0), .int (ω 1), .int (ω 2)] : List Value).set 0 (.int 1))) = F3 at hW hI hFr
  obtain ⟨t4, et4, hf⟩ := nm_ok hf
  have hI := eqm (P := fun w => KI h w L F3) hI et4.symm
  refine lv_aload_n S.1 S.2.1 dX2_standAt_5 rfl (lv_at hl 0 rfl) ?_
  refine lv_iload_n S.1 S.2.1 dX2_standAt_6 rfl (lv_at hl 1 rfl) ?_
  refine pk_put (v := .int x1) S hK hW 1 hI.1 hI.2 rfl hinX2 tyX2_ok nmX2 (by decide) wd_74 rfl rfl rfl rfl (Nat.le_of_ble_eq_true rfl) dX2_standAt_7 (fun H5 l6 hW => ?_)
  have hFr := hFr.tr (FrW.h (e := .inr (7, ([.int (t4 0), .int (t4 1), .int (t4 2)] : List Value).set 1 (.int x1))))
  have hI := hI.set1 x1
  generalize va_up F3 h (.inr (7, ([.int (t4 0), .int (t4 1), .int (t4 2)] : List Value).set 1 (.int x1))) = F7 at hW hI hFr
  obtain ⟨t8, et8, hf⟩ := nm_ok hf
  have hI := eqm (P := fun w => KI h w L F7) hI et8.symm
  refine lv_aload_n S.1 S.2.1 dX2_standAt_10 rfl (lv_at hl 0 rfl) ?_
  refine lv_iconst (v := (-1)) S.1 S.2.1 dX2_standAt_11 (by decide) ?_
  refine pk_put (v := .int ((-1))) S hK hW 2 hI.1 hI.2 rfl hinX2 tyX2_ok nmX2 (by decide) wd_75 rfl rfl rfl rfl (Nat.le_of_ble_eq_true rfl) dX2_standAt_12 (fun H9 l10 hW => ?_)
  have hFr := hFr.tr (FrW.h (e := .inr (7, ([.int (t8 0), .int (t8 1), .int (t8 2)] : List Value).set 2 (.int ((-1))))))
  have hI := hI.set2 ((-1))
  generalize va_up F7 h (.inr (7, ([.int (t8 0), .int (t8 1), .int (t8 2)] : List Value).set 2 (.int ((-1))))) = F11 at hW hI hFr
  obtain ⟨t12, et12, hf⟩ := nm_ok hf
  have hI := eqm (P := fun w => KI h w L F11) hI et12.symm
  exact pk_vret S hr hlk hW ⟨rfl, eqm (P := fun z => KI h z L F11) hI (Option.some.inj hf), hFr⟩ (by decide) (by decide) dX2_standAt_15
def f_X2_growStale (ω : (Nat → Int32)) : Option (Nat → Int32) := (if (ω 0) = 0 then some ω else nm (va_up ω 0 2 : (Nat → Int32)) fun t5 => some t5)
theorem mc_X2_growStale : MCode yX2_growStale cX2_growStale 1 none := ⟨wd_166, wd_4, by decide, by decide⟩
theorem np_X2_growStale : (parseMethodDescriptor yX2_growStale.desc).map (fun d => d.parameters.length) = some 0 := by decide +kernel
set_option maxHeartbeats 4000000 in
set_option maxRecDepth 100000 in
theorem c_X2_growStale {l : Launch} {D : va_G} {κ : Nat → ClassId} {ζ : Nat → Nat} {L : List Nat} {F : Nat → va_E} {ω : (Nat → Int32)} {h : Nat} (hI : KI h ω L F)  {res : (Nat → Int32)} (hf : f_X2_growStale ω = some res) : MtV l D cls (ty5 κ) ζ yX2_growStale cX2_growStale 1 none 1 0 0 ([.ref h] : List Value) L F (fun L' F' => L = L' ∧ KI h res L F' ∧ FrW h F F') := by
  refine MtV.of (by decide) (Nat.le_of_ble_eq_true rfl) ?_
  intro p e s m below meth c S hr hlk _ hK hW hST ls hl
  have hl : lv_has ls 1 [(0, .ref h)] := hl
  have hFr : FrW h F F := FrW.rf
  unfold f_X2_growStale at hf
  refine lv_aload_n S.1 S.2.1 dX2_growStale_0 rfl (lv_at hl 0 rfl) ?_
  refine pk_get S hK hW 0 hI.1 hI.2 rfl hinX2 (by decide) wd_73 rfl dX2_growStale_1 ?_
  refine lv_if_eq (tgt := 12) S.1 S.2.1 dX2_growStale_4 (by decide) (fun c1 => ?_) (fun c1 => ?_)
  · have hf := (if_pos c1).symm.trans hf
    exact pk_vret S hr hlk hW ⟨rfl, eqm (P := fun z => KI h z L F) hI (Option.some.inj hf), hFr⟩ (by decide) (by decide) dX2_growStale_12
  · have hf := (if_neg c1).symm.trans hf
    refine lv_aload_n S.1 S.2.1 dX2_growStale_7 rfl (lv_at hl 0 rfl) ?_
    refine lv_iconst (v := 2) S.1 S.2.1 dX2_growStale_8 (by decide) ?_
    refine pk_put (v := .int 2) S hK hW 0 hI.1 hI.2 rfl hinX2 tyX2_ok nmX2 (by decide) wd_73 rfl rfl rfl rfl (Nat.le_of_ble_eq_true rfl) dX2_growStale_9 (fun H2 l3 hW => ?_)
    have hFr := hFr.tr (FrW.h (e := .inr (7, ([.int (ω 0), .int (ω 1), .int (ω 2)] : List Value).set 0 (.int 2))))
    have hI := hI.set0 2
    generalize va_up F h (.inr (7, ([.int (ω 0), .int (ω 1), .int (ω 2)] : List Value).set 0 (.int 2))) = F4 at hW hI hFr
    obtain ⟨t5, et5, hf⟩ := nm_ok hf
    have hI := eqm (P := fun w => KI h w L F4) hI et5.symm
    exact pk_vret S hr hlk hW ⟨rfl, eqm (P := fun z => KI h z L F4) hI (Option.some.inj hf), hFr⟩ (by decide) (by decide) dX2_growStale_12
def f_X2_isFresh (ω : (Nat → Int32)) : Option Int32 := (if (ω 0) = 1 then some (1) else some (0))
theorem mc_X2_isFresh : MCode yX2_isFresh cX2_isFresh 1 (some .boolean) := ⟨wd_240, wd_4, by decide, by decide⟩
theorem np_X2_isFresh : (parseMethodDescriptor yX2_isFresh.desc).map (fun d => d.parameters.length) = some 0 := by decide +kernel
set_option maxHeartbeats 4000000 in
set_option maxRecDepth 100000 in
theorem c_X2_isFresh {l : Launch} {D : va_G} {κ : Nat → ClassId} {ζ : Nat → Nat} {L : List Nat} {F : Nat → va_E} {ω : (Nat → Int32)} {h : Nat} (hI : KI h ω L F)  {res : Int32} (hf : f_X2_isFresh ω = some res) : MtI l D cls (ty5 κ) ζ yX2_isFresh cX2_isFresh 1 (some .boolean) 1 0 0 ([.ref h] : List Value) L F (fun r L' F' => L = L' ∧ F = F' ∧ res = r) := by
  refine MtI.of (by decide) (Nat.le_of_ble_eq_true rfl) ?_
  intro p e s m below meth c S hr hlk _ hK hW hST ls hl
  have hl : lv_has ls 1 [(0, .ref h)] := hl
  unfold f_X2_isFresh at hf
  refine lv_aload_n S.1 S.2.1 dX2_isFresh_0 rfl (lv_at hl 0 rfl) ?_
  refine pk_get S hK hW 0 hI.1 hI.2 rfl hinX2 (by decide) wd_73 rfl dX2_isFresh_1 ?_
  refine lv_iconst (v := 1) S.1 S.2.1 dX2_isFresh_4 (by decide) ?_
  refine lv_icmp_ne (tgt := 12) S.1 S.2.1 dX2_isFresh_5 (by decide) (fun c1 => ?_) (fun c1 => ?_)
  · have hf := (if_neg c1).symm.trans hf
    refine lv_iconst (v := 0) S.1 S.2.1 dX2_isFresh_12 (by decide) ?_
    exact pk_zret S hr hlk hW (by decide) ⟨rfl, rfl, eqm (P := fun z => z = 0) rfl (Option.some.inj hf)⟩ (by decide) (by decide) dX2_isFresh_13
  · have hf := (if_pos c1).symm.trans hf
    refine lv_iconst (v := 1) S.1 S.2.1 dX2_isFresh_8 (by decide) ?_
    refine lv_goto (tgt := 13) S.1 S.2.1 dX2_isFresh_9 (by decide) ?_
    exact pk_zret S hr hlk hW (by decide) ⟨rfl, rfl, eqm (P := fun z => z = 1) rfl (Option.some.inj hf)⟩ (by decide) (by decide) dX2_isFresh_13
def f_X2_holds (ω : (Nat → Int32)) : Option Int32 := (f_X2_isFresh ω).bind fun z1 => (if z1 = 0 then some (0) else (if (ω 2) = ((-1)) then some (0) else some (1)))
theorem mc_X2_holds : MCode yX2_holds cX2_holds 1 (some .boolean) := ⟨wd_698, wd_4, by decide, by decide⟩
theorem np_X2_holds : (parseMethodDescriptor yX2_holds.desc).map (fun d => d.parameters.length) = some 0 := by decide +kernel
set_option maxHeartbeats 4000000 in
set_option maxRecDepth 100000 in
theorem c_X2_holds {l : Launch} {D : va_G} {κ : Nat → ClassId} {ζ : Nat → Nat} {L : List Nat} {F : Nat → va_E} {ω : (Nat → Int32)} {h : Nat} (hI : KI h ω L F)  {res : Int32} (hf : f_X2_holds ω = some res) : MtI l D cls (ty5 κ) ζ yX2_holds cX2_holds 1 (some .boolean) 2 0 0 ([.ref h] : List Value) L F (fun r L' F' => L = L' ∧ F = F' ∧ res = r) := by
  refine MtI.of (by decide) (Nat.le_of_ble_eq_true rfl) ?_
  intro p e s m below meth c S hr hlk _ hK hW hST ls hl
  have hl : lv_has ls 1 [(0, .ref h)] := hl
  unfold f_X2_holds at hf
  refine lv_aload_n S.1 S.2.1 dX2_holds_0 rfl (lv_at hl 0 rfl) ?_
  obtain ⟨z1, hz, hf⟩ := ob hf
  refine pk_cVI (As := []) (rest := []) S hK hST hW (c_X2_isFresh hI  hz) mc_X2_isFresh wd_699 wd_238 wd_239 rfl np_X2_isFresh hI.1 hI.2 rfl rfl hl.1 rfl (Nat.le_of_ble_eq_true rfl) dX2_holds_1 ⟨by decide, by decide⟩ ⟨by decide, by decide⟩ (fun r L2 F3 H4 l5 hp hW => ?_)
  obtain ⟨rfl, rfl, rfl⟩ := hp
  refine lv_if_eq (tgt := 19) S.1 S.2.1 dX2_holds_4 (by decide) (fun c6 => ?_) (fun c6 => ?_)
  · have hf := (if_pos c6).symm.trans hf
    refine lv_iconst (v := 0) S.1 S.2.1 dX2_holds_19 (by decide) ?_
    exact pk_zret S hr hlk hW (by decide) ⟨rfl, rfl, eqm (P := fun z => z = 0) rfl (Option.some.inj hf)⟩ (by decide) (by decide) dX2_holds_20
  · have hf := (if_neg c6).symm.trans hf
    refine lv_aload_n S.1 S.2.1 dX2_holds_7 rfl (lv_at hl 0 rfl) ?_
    refine pk_get S hK hW 2 hI.1 hI.2 rfl hinX2 (by decide) wd_75 rfl dX2_holds_8 ?_
    refine lv_iconst (v := (-1)) S.1 S.2.1 dX2_holds_11 (by decide) ?_
    refine lv_icmp_eq (tgt := 19) S.1 S.2.1 dX2_holds_12 (by decide) (fun c7 => ?_) (fun c7 => ?_)
    · have hf := (if_pos c7).symm.trans hf
      refine lv_iconst (v := 0) S.1 S.2.1 dX2_holds_19 (by decide) ?_
      exact pk_zret S hr hlk hW (by decide) ⟨rfl, rfl, eqm (P := fun z => z = 0) rfl (Option.some.inj hf)⟩ (by decide) (by decide) dX2_holds_20
    · have hf := (if_neg c7).symm.trans hf
      refine lv_iconst (v := 1) S.1 S.2.1 dX2_holds_15 (by decide) ?_
      refine lv_goto (tgt := 20) S.1 S.2.1 dX2_holds_16 (by decide) ?_
      exact pk_zret S hr hlk hW (by decide) ⟨rfl, rfl, eqm (P := fun z => z = 1) rfl (Option.some.inj hf)⟩ (by decide) (by decide) dX2_holds_20
def f_X2_goForth (ω : (Nat → Int32)) : Option (Nat → Int32) := nm (va_up ω 2 (ω 1) : (Nat → Int32)) fun t4 => nm (va_up t4 1 ((t4 1) + 1) : (Nat → Int32)) fun t8 => some t8
theorem mc_X2_goForth : MCode yX2_goForth cX2_goForth 1 none := ⟨wd_678, wd_4, by decide, by decide⟩
theorem np_X2_goForth : (parseMethodDescriptor yX2_goForth.desc).map (fun d => d.parameters.length) = some 0 := by decide +kernel
set_option maxHeartbeats 4000000 in
set_option maxRecDepth 100000 in
theorem c_X2_goForth {l : Launch} {D : va_G} {κ : Nat → ClassId} {ζ : Nat → Nat} {L : List Nat} {F : Nat → va_E} {ω : (Nat → Int32)} {h : Nat} (hI : KI h ω L F)  {res : (Nat → Int32)} (hf : f_X2_goForth ω = some res) : MtV l D cls (ty5 κ) ζ yX2_goForth cX2_goForth 1 none 1 0 0 ([.ref h] : List Value) L F (fun L' F' => L = L' ∧ KI h res L F' ∧ FrW h F F') := by
  refine MtV.of (by decide) (Nat.le_of_ble_eq_true rfl) ?_
  intro p e s m below meth c S hr hlk _ hK hW hST ls hl
  have hl : lv_has ls 1 [(0, .ref h)] := hl
  have hFr : FrW h F F := FrW.rf
  unfold f_X2_goForth at hf
  refine lv_aload_n S.1 S.2.1 dX2_goForth_0 rfl (lv_at hl 0 rfl) ?_
  refine lv_aload_n S.1 S.2.1 dX2_goForth_1 rfl (lv_at hl 0 rfl) ?_
  refine pk_get S hK hW 1 hI.1 hI.2 rfl hinX2 (by decide) wd_74 rfl dX2_goForth_2 ?_
  refine pk_put (v := .int (ω 1)) S hK hW 2 hI.1 hI.2 rfl hinX2 tyX2_ok nmX2 (by decide) wd_75 rfl rfl rfl rfl (Nat.le_of_ble_eq_true rfl) dX2_goForth_5 (fun H1 l2 hW => ?_)
  have hFr := hFr.tr (FrW.h (e := .inr (7, ([.int (ω 0), .int (ω 1), .int (ω 2)] : List Value).set 2 (.int (ω 1)))))
  have hI := hI.set2 (ω 1)
  generalize va_up F h (.inr (7, ([.int (ω 0), .int (ω 1), .int (ω 2)] : List Value).set 2 (.int (ω 1)))) = F3 at hW hI hFr
  obtain ⟨t4, et4, hf⟩ := nm_ok hf
  have hI := eqm (P := fun w => KI h w L F3) hI et4.symm
  refine lv_aload_n S.1 S.2.1 dX2_goForth_8 rfl (lv_at hl 0 rfl) ?_
  refine lv_dup S.1 S.2.1 dX2_goForth_9 rfl ?_
  refine pk_get S hK hW 1 hI.1 hI.2 rfl hinX2 (by decide) wd_74 rfl dX2_goForth_10 ?_
  refine lv_iconst (v := 1) S.1 S.2.1 dX2_goForth_13 (by decide) ?_
  refine lv_iadd S.1 S.2.1 dX2_goForth_14 ?_
  refine pk_put (v := .int ((t4 1) + 1)) S hK hW 1 hI.1 hI.2 rfl hinX2 tyX2_ok nmX2 (by decide) wd_74 rfl rfl rfl rfl (Nat.le_of_ble_eq_true rfl) dX2_goForth_15 (fun H5 l6 hW => ?_)
  have hFr := hFr.tr (FrW.h (e := .inr (7, ([.int (t4 0), .int (t4 1), .int (t4 2)] : List Value).set 1 (.int ((t4 1) + 1)))))
  have hI := hI.set1 ((t4 1) + 1)
  generalize va_up F3 h (.inr (7, ([.int (t4 0), .int (t4 1), .int (t4 2)] : List Value).set 1 (.int ((t4 1) + 1)))) = F7 at hW hI hFr
  obtain ⟨t8, et8, hf⟩ := nm_ok hf
  have hI := eqm (P := fun w => KI h w L F7) hI et8.symm
  exact pk_vret S hr hlk hW ⟨rfl, eqm (P := fun z => KI h z L F7) hI (Option.some.inj hf), hFr⟩ (by decide) (by decide) dX2_goForth_18
def f_X2_goBack (ω : (Nat → Int32)) : Option (Nat → Int32) := nm (va_up ω 1 ((ω 1) - 1) : (Nat → Int32)) fun t4 => nm (va_up t4 2 (t4 1) : (Nat → Int32)) fun t8 => some t8
theorem mc_X2_goBack : MCode yX2_goBack cX2_goBack 1 none := ⟨wd_688, wd_4, by decide, by decide⟩
theorem np_X2_goBack : (parseMethodDescriptor yX2_goBack.desc).map (fun d => d.parameters.length) = some 0 := by decide +kernel
set_option maxHeartbeats 4000000 in
set_option maxRecDepth 100000 in
theorem c_X2_goBack {l : Launch} {D : va_G} {κ : Nat → ClassId} {ζ : Nat → Nat} {L : List Nat} {F : Nat → va_E} {ω : (Nat → Int32)} {h : Nat} (hI : KI h ω L F)  {res : (Nat → Int32)} (hf : f_X2_goBack ω = some res) : MtV l D cls (ty5 κ) ζ yX2_goBack cX2_goBack 1 none 1 0 0 ([.ref h] : List Value) L F (fun L' F' => L = L' ∧ KI h res L F' ∧ FrW h F F') := by
  refine MtV.of (by decide) (Nat.le_of_ble_eq_true rfl) ?_
  intro p e s m below meth c S hr hlk _ hK hW hST ls hl
  have hl : lv_has ls 1 [(0, .ref h)] := hl
  have hFr : FrW h F F := FrW.rf
  unfold f_X2_goBack at hf
  refine lv_aload_n S.1 S.2.1 dX2_goBack_0 rfl (lv_at hl 0 rfl) ?_
  refine lv_dup S.1 S.2.1 dX2_goBack_1 rfl ?_
  refine pk_get S hK hW 1 hI.1 hI.2 rfl hinX2 (by decide) wd_74 rfl dX2_goBack_2 ?_
  refine lv_iconst (v := 1) S.1 S.2.1 dX2_goBack_5 (by decide) ?_
  refine lv_isub S.1 S.2.1 dX2_goBack_6 ?_
  refine pk_put (v := .int ((ω 1) - 1)) S hK hW 1 hI.1 hI.2 rfl hinX2 tyX2_ok nmX2 (by decide) wd_74 rfl rfl rfl rfl (Nat.le_of_ble_eq_true rfl) dX2_goBack_7 (fun H1 l2 hW => ?_)
  have hFr := hFr.tr (FrW.h (e := .inr (7, ([.int (ω 0), .int (ω 1), .int (ω 2)] : List Value).set 1 (.int ((ω 1) - 1)))))
  have hI := hI.set1 ((ω 1) - 1)
  generalize va_up F h (.inr (7, ([.int (ω 0), .int (ω 1), .int (ω 2)] : List Value).set 1 (.int ((ω 1) - 1)))) = F3 at hW hI hFr
  obtain ⟨t4, et4, hf⟩ := nm_ok hf
  have hI := eqm (P := fun w => KI h w L F3) hI et4.symm
  refine lv_aload_n S.1 S.2.1 dX2_goBack_10 rfl (lv_at hl 0 rfl) ?_
  refine lv_aload_n S.1 S.2.1 dX2_goBack_11 rfl (lv_at hl 0 rfl) ?_
  refine pk_get S hK hW 1 hI.1 hI.2 rfl hinX2 (by decide) wd_74 rfl dX2_goBack_12 ?_
  refine pk_put (v := .int (t4 1)) S hK hW 2 hI.1 hI.2 rfl hinX2 tyX2_ok nmX2 (by decide) wd_75 rfl rfl rfl rfl (Nat.le_of_ble_eq_true rfl) dX2_goBack_15 (fun H5 l6 hW => ?_)
  have hFr := hFr.tr (FrW.h (e := .inr (7, ([.int (t4 0), .int (t4 1), .int (t4 2)] : List Value).set 2 (.int (t4 1)))))
  have hI := hI.set2 (t4 1)
  generalize va_up F3 h (.inr (7, ([.int (t4 0), .int (t4 1), .int (t4 2)] : List Value).set 2 (.int (t4 1)))) = F7 at hW hI hFr
  obtain ⟨t8, et8, hf⟩ := nm_ok hf
  have hI := eqm (P := fun w => KI h w L F7) hI et8.symm
  exact pk_vret S hr hlk hW ⟨rfl, eqm (P := fun z => KI h z L F7) hI (Option.some.inj hf), hFr⟩ (by decide) (by decide) dX2_goBack_18
def f_X2_loseHeld_21   (w21 : (Nat → Int32)) : Option (Nat → Int32) := nm (va_up w21 2 ((-1)) : (Nat → Int32)) fun t4 => some t4
def f_X2_loseHeld (ω : (Nat → Int32)) : Option (Nat → Int32) := (if (ω 1) ≤ (ω 2) then f_X2_loseHeld_21 ω else nm (va_up ω 1 ((ω 1) - 1) : (Nat → Int32)) fun t9 => f_X2_loseHeld_21 t9)
theorem mc_X2_loseHeld : MCode yX2_loseHeld cX2_loseHeld 1 none := ⟨wd_703, wd_4, by decide, by decide⟩
theorem np_X2_loseHeld : (parseMethodDescriptor yX2_loseHeld.desc).map (fun d => d.parameters.length) = some 0 := by decide +kernel
set_option maxHeartbeats 4000000 in
set_option maxRecDepth 100000 in
theorem c_X2_loseHeld {l : Launch} {D : va_G} {κ : Nat → ClassId} {ζ : Nat → Nat} {L : List Nat} {F : Nat → va_E} {ω : (Nat → Int32)} {h : Nat} (hI : KI h ω L F)  {res : (Nat → Int32)} (hf : f_X2_loseHeld ω = some res) : MtV l D cls (ty5 κ) ζ yX2_loseHeld cX2_loseHeld 1 none 1 0 0 ([.ref h] : List Value) L F (fun L' F' => L = L' ∧ KI h res L F' ∧ FrW h F F') := by
  refine MtV.of (by decide) (Nat.le_of_ble_eq_true rfl) ?_
  intro p e s m below meth c S hr hlk _ hK hW hST ls hl
  have hl : lv_has ls 1 [(0, .ref h)] := hl
  have hFr : FrW h F F := FrW.rf
  have B21 : ∀   (w21 : (Nat → Int32)), f_X2_loseHeld_21 w21 = some res → ∀ (G21 : Nat → va_E), KI h w21 L G21 → FrW h F G21 → ∀ (H21 : Heap) (l21 : List Loc) (ls : Array Slot), HW D cls L s H21 l21 L G21 → lv_has ls 1 [(0, .ref h)] → W p l e (Rm 1 0 0) s m ([.ref h] : List Value).toArray below meth c H21 l21 0 0 (EnV D cls s below ([.ref h] : List Value).toArray 0 0 L (fun L' F' => L = L' ∧ KI h res L F' ∧ FrW h F F')) (F0 m 21 ls []) := by
    intro w21 hf G21 hI hFr H21 l21 ls hW hl
    unfold f_X2_loseHeld_21 at hf
    refine lv_aload_n S.1 S.2.1 dX2_loseHeld_21 rfl (lv_at hl 0 rfl) ?_
    refine lv_iconst (v := (-1)) S.1 S.2.1 dX2_loseHeld_22 (by decide) ?_
    refine pk_put (v := .int ((-1))) S hK hW 2 hI.1 hI.2 rfl hinX2 tyX2_ok nmX2 (by decide) wd_75 rfl rfl rfl rfl (Nat.le_of_ble_eq_true rfl) dX2_loseHeld_23 (fun H1 l2 hW => ?_)
    have hFr := hFr.tr (FrW.h (e := .inr (7, ([.int (w21 0), .int (w21 1), .int (w21 2)] : List Value).set 2 (.int ((-1))))))
    have hI := hI.set2 ((-1))
    generalize va_up G21 h (.inr (7, ([.int (w21 0), .int (w21 1), .int (w21 2)] : List Value).set 2 (.int ((-1))))) = F3 at hW hI hFr
    obtain ⟨t4, et4, hf⟩ := nm_ok hf
    have hI := eqm (P := fun w => KI h w L F3) hI et4.symm
    exact pk_vret S hr hlk hW ⟨rfl, eqm (P := fun z => KI h z L F3) hI (Option.some.inj hf), hFr⟩ (by decide) (by decide) dX2_loseHeld_26
  unfold f_X2_loseHeld at hf
  refine lv_aload_n S.1 S.2.1 dX2_loseHeld_0 rfl (lv_at hl 0 rfl) ?_
  refine pk_get S hK hW 2 hI.1 hI.2 rfl hinX2 (by decide) wd_75 rfl dX2_loseHeld_1 ?_
  refine lv_aload_n S.1 S.2.1 dX2_loseHeld_4 rfl (lv_at hl 0 rfl) ?_
  refine pk_get S hK hW 1 hI.1 hI.2 rfl hinX2 (by decide) wd_74 rfl dX2_loseHeld_5 ?_
  refine lv_icmp_ge (tgt := 21) S.1 S.2.1 dX2_loseHeld_8 (by decide) (fun c5 => ?_) (fun c5 => ?_)
  · have hf := (if_pos c5).symm.trans hf
    exact B21  ω hf F hI hFr _ _ _ hW (lv_sub hl [0] rfl)
  · have hf := (if_neg c5).symm.trans hf
    refine lv_aload_n S.1 S.2.1 dX2_loseHeld_11 rfl (lv_at hl 0 rfl) ?_
    refine lv_dup S.1 S.2.1 dX2_loseHeld_12 rfl ?_
    refine pk_get S hK hW 1 hI.1 hI.2 rfl hinX2 (by decide) wd_74 rfl dX2_loseHeld_13 ?_
    refine lv_iconst (v := 1) S.1 S.2.1 dX2_loseHeld_16 (by decide) ?_
    refine lv_isub S.1 S.2.1 dX2_loseHeld_17 ?_
    refine pk_put (v := .int ((ω 1) - 1)) S hK hW 1 hI.1 hI.2 rfl hinX2 tyX2_ok nmX2 (by decide) wd_74 rfl rfl rfl rfl (Nat.le_of_ble_eq_true rfl) dX2_loseHeld_18 (fun H6 l7 hW => ?_)
    have hFr := hFr.tr (FrW.h (e := .inr (7, ([.int (ω 0), .int (ω 1), .int (ω 2)] : List Value).set 1 (.int ((ω 1) - 1)))))
    have hI := hI.set1 ((ω 1) - 1)
    generalize va_up F h (.inr (7, ([.int (ω 0), .int (ω 1), .int (ω 2)] : List Value).set 1 (.int ((ω 1) - 1)))) = F8 at hW hI hFr
    obtain ⟨t9, et9, hf⟩ := nm_ok hf
    have hI := eqm (P := fun w => KI h w L F8) hI et9.symm
    exact B21  t9 hf F8 hI hFr _ _ _ hW (lv_sub hl [0] rfl)
def f_X2_passNew (ω : (Nat → Int32)) : Option (Nat → Int32) := nm (va_up ω 1 ((ω 1) + 1) : (Nat → Int32)) fun t4 => nm (va_up t4 2 ((-1)) : (Nat → Int32)) fun t8 => some t8
theorem mc_X2_passNew : MCode yX2_passNew cX2_passNew 1 none := ⟨wd_723, wd_4, by decide, by decide⟩
theorem np_X2_passNew : (parseMethodDescriptor yX2_passNew.desc).map (fun d => d.parameters.length) = some 0 := by decide +kernel
set_option maxHeartbeats 4000000 in
set_option maxRecDepth 100000 in
theorem c_X2_passNew {l : Launch} {D : va_G} {κ : Nat → ClassId} {ζ : Nat → Nat} {L : List Nat} {F : Nat → va_E} {ω : (Nat → Int32)} {h : Nat} (hI : KI h ω L F)  {res : (Nat → Int32)} (hf : f_X2_passNew ω = some res) : MtV l D cls (ty5 κ) ζ yX2_passNew cX2_passNew 1 none 1 0 0 ([.ref h] : List Value) L F (fun L' F' => L = L' ∧ KI h res L F' ∧ FrW h F F') := by
  refine MtV.of (by decide) (Nat.le_of_ble_eq_true rfl) ?_
  intro p e s m below meth c S hr hlk _ hK hW hST ls hl
  have hl : lv_has ls 1 [(0, .ref h)] := hl
  have hFr : FrW h F F := FrW.rf
  unfold f_X2_passNew at hf
  refine lv_aload_n S.1 S.2.1 dX2_passNew_0 rfl (lv_at hl 0 rfl) ?_
  refine lv_dup S.1 S.2.1 dX2_passNew_1 rfl ?_
  refine pk_get S hK hW 1 hI.1 hI.2 rfl hinX2 (by decide) wd_74 rfl dX2_passNew_2 ?_
  refine lv_iconst (v := 1) S.1 S.2.1 dX2_passNew_5 (by decide) ?_
  refine lv_iadd S.1 S.2.1 dX2_passNew_6 ?_
  refine pk_put (v := .int ((ω 1) + 1)) S hK hW 1 hI.1 hI.2 rfl hinX2 tyX2_ok nmX2 (by decide) wd_74 rfl rfl rfl rfl (Nat.le_of_ble_eq_true rfl) dX2_passNew_7 (fun H1 l2 hW => ?_)
  have hFr := hFr.tr (FrW.h (e := .inr (7, ([.int (ω 0), .int (ω 1), .int (ω 2)] : List Value).set 1 (.int ((ω 1) + 1)))))
  have hI := hI.set1 ((ω 1) + 1)
  generalize va_up F h (.inr (7, ([.int (ω 0), .int (ω 1), .int (ω 2)] : List Value).set 1 (.int ((ω 1) + 1)))) = F3 at hW hI hFr
  obtain ⟨t4, et4, hf⟩ := nm_ok hf
  have hI := eqm (P := fun w => KI h w L F3) hI et4.symm
  refine lv_aload_n S.1 S.2.1 dX2_passNew_10 rfl (lv_at hl 0 rfl) ?_
  refine lv_iconst (v := (-1)) S.1 S.2.1 dX2_passNew_11 (by decide) ?_
  refine pk_put (v := .int ((-1))) S hK hW 2 hI.1 hI.2 rfl hinX2 tyX2_ok nmX2 (by decide) wd_75 rfl rfl rfl rfl (Nat.le_of_ble_eq_true rfl) dX2_passNew_12 (fun H5 l6 hW => ?_)
  have hFr := hFr.tr (FrW.h (e := .inr (7, ([.int (t4 0), .int (t4 1), .int (t4 2)] : List Value).set 2 (.int ((-1))))))
  have hI := hI.set2 ((-1))
  generalize va_up F3 h (.inr (7, ([.int (t4 0), .int (t4 1), .int (t4 2)] : List Value).set 2 (.int ((-1))))) = F7 at hW hI hFr
  obtain ⟨t8, et8, hf⟩ := nm_ok hf
  have hI := eqm (P := fun w => KI h w L F7) hI et8.symm
  exact pk_vret S hr hlk hW ⟨rfl, eqm (P := fun z => KI h z L F7) hI (Option.some.inj hf), hFr⟩ (by decide) (by decide) dX2_passNew_15
end
