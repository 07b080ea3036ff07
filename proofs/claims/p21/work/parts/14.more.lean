/-! MORE ROWS OVER THE POOL: what is made, rows of references, statics -/
abbrev rfA (c : ClassId) (n : Nat) (f : Nat → Option Nat) : va_E := .inl (c, n, .inr (.inr (.inr (.inr f))))
theorem ra_same {U : State} {c1 c2 : ClassId} {ty : FieldType} (h1 : va_RA U c1 ty) (h2 : va_RA U c2 ty) : c1 = c2 := by
  cases ty with
  | object C =>
    obtain ⟨_, _, _, _, _, e1⟩ := h1
    obtain ⟨_, _, _, _, _, e2⟩ := h2
    exact Option.some.inj (e1.symm.trans e2)
  | _ => exact Option.some.inj (Eq.trans (Eq.symm h1) h2)
theorem k_same {D : va_G} {cl : List vw_C} {tys : List (ClassId × FieldType)} {s : State} {cA c0 : ClassId} {ty : FieldType} (hK' : va_K D cl (tys ++ [(cA, ty)]) s) (t0 : Nat) (ht : tys[t0]? = some (c0, ty)) : cA = c0 := by
  have hlt : t0 < tys.length := (List.getElem?_eq_some_iff.mp ht).1
  have h1 := (hK'.2 tys.length (cA, ty) (by rw [List.getElem?_append_right (Nat.le_refl _)]; simp)).2
  have h2 := (hK'.2 t0 (c0, ty) (by rw [List.getElem?_append_left hlt]; exact ht)).2
  exact ra_same h1 h2
section MK
variable {p : Program} {l : Launch} {e : Env} {R : Room} {s : State} {m : MethodId} {args : Array Value} {below : List Frame} {meth : Method} {c : Code} {cc : ByteArray} {nL : Nat} {own : String} {H : Heap} {locs : List Loc} {cells slots : Nat} {Q : State → Prop} {D : va_G} {cl : List vw_C} {tys : List (ClassId × FieldType)} {pc : Nat} {ls : Array Slot} {rest : List Value} {L0 L : List Nat} {F : Nat → va_E} {ζ : Nat → Nat}
theorem HW.push {q : Nat} {ee : va_E} {H1 : Heap} (hW : HW D cl L0 s H locs L F) (hP : va_P D cl (va_pl L F ++ [(q, ee)]) H1) (hD : va_D (AL L0 s.heap.size) (va_pl L F ++ [(q, ee)])) (hS : va_S (AL L0 s.heap.size) s.heap H1 locs) : q ∉ L ∧ HW D cl L0 s H1 locs (L ++ [q]) (va_up F q ee) := by
  have hq : q ∉ L := va_pl_fresh2 (X := []) (f := F) hD
  have h := va_pl_push (f := F) (e := ee) hq
  rw [h] at hP hD
  exact ⟨hq, hP, hD, hS⟩
theorem pk_new (S : CallFix p m c cc nL s args Gw own) (hK : va_K D cl tys s) (hW : HW D cl L0 s H locs L F) {C : String} {T : u_T} {N ci index : Nat} {ty : Nat → FieldType} {fs : List Value} (hin : ∀ w ∈ u_ws C T N, w ∈ Gw) (hty : ∀ k, k < N → parseFieldDescriptor (T k).2.2.1 = some (ty k)) (hcl : Cond.classLink own index C ∈ Gw) (hinst : Cond.instantiable C N ∈ Gw) (hini : Cond.initialized C ∈ Gw) (hc : cl[ci]? = some (C, T, N)) (hfs : ∀ j, j < N → defaultValue (ty j) = vp_V fs j) (hcells : cells + 1 ≤ R.cells) (hslots : slots + N ≤ R.slots) (hdg : decode cc pc = .ok (.new index, 3))
    (kk : ∀ (q : Nat) (H1 : Heap), q ∉ L → HW D cl L0 s H1 locs (L ++ [q]) (va_up F q (.inr (ci, fs))) → W p l e R s m args below meth c H1 locs (cells + 1) (slots + N) Q (F0 m (pc + 3) ls (.ref q :: rest))) : W p l e R s m args below meth c H locs cells slots Q (F0 m pc ls rest) :=
  va_new S.1 S.2.1 S.2.2.2.2 hin ty hty S.2.2.2.1 (S.2.2.2.2 _ hcl) (S.2.2.2.2 _ hinst) (S.2.2.2.2 _ hini) hK hW.1 hW.2.1 hW.2.2 (fun _ h => Or.inr h) hc hfs hcells hslots hdg
    (fun q H1 h1 h2 h3 => by obtain ⟨a1, a2⟩ := hW.push h1 h2 h3; exact kk q H1 a1 a2)
theorem pk_newI (S : CallFix p m c cc nL s args Gw own) (hK : va_K D cl tys s) (hW : HW D cl L0 s H locs L F) {n : Int32} {N' : Nat} {c0 : ClassId} (t0 : Nat) (ht : tys[t0]? = some (c0, .int)) (hw : Cond.arrayClass .int ∈ Gw) (hn : ¬ n < 0) (hN : n.toNatClampNeg = N') (hb : N' * 4 ≤ 536870912) (hcells : cells + 1 ≤ R.cells) (hslots : slots + N' ≤ R.slots) (hdg : decode cc pc = .ok (.newarray .int, 2))
    (kk : ∀ (q : Nat) (H1 : Heap), q ∉ L → HW D cl L0 s H1 locs (L ++ [q]) (va_up F q (.inl (c0, N', .inl (fun _ => 0)))) → W p l e R s m args below meth c H1 locs (cells + 1) (slots + N') Q (F0 m (pc + 2) ls (.ref q :: rest))) : W p l e R s m args below meth c H locs cells slots Q (F0 m pc ls (.int n :: rest)) :=
  va_newa (atype := .int) (ty := .int) (a0 := (N', .inl (fun _ => 0))) S.1 S.2.1 (S.2.2.2.2 _ hw) rfl hK hW.1 hW.2.1 hW.2.2 (fun _ h => Or.inr h) (fun _ => rfl) hn hN hb hcells hslots hdg
    (fun q cA H1 hK' h1 h2 h3 => by
      have e := k_same hK' t0 ht
      subst e
      obtain ⟨a1, a2⟩ := hW.push h1 h2 h3
      exact kk q H1 a1 a2)
theorem pk_newZ (S : CallFix p m c cc nL s args Gw own) (hK : va_K D cl tys s) (hW : HW D cl L0 s H locs L F) {n : Int32} {N' : Nat} {c0 : ClassId} (t0 : Nat) (ht : tys[t0]? = some (c0, .boolean)) (hw : Cond.arrayClass .boolean ∈ Gw) (hn : ¬ n < 0) (hN : n.toNatClampNeg = N') (hb : N' * 1 ≤ 536870912) (hcells : cells + 1 ≤ R.cells) (hslots : slots + N' ≤ R.slots) (hdg : decode cc pc = .ok (.newarray .boolean, 2))
    (kk : ∀ (q : Nat) (H1 : Heap), q ∉ L → HW D cl L0 s H1 locs (L ++ [q]) (va_up F q (.inl (c0, N', .inl (fun _ => 0)))) → W p l e R s m args below meth c H1 locs (cells + 1) (slots + N') Q (F0 m (pc + 2) ls (.ref q :: rest))) : W p l e R s m args below meth c H locs cells slots Q (F0 m pc ls (.int n :: rest)) :=
  va_newa (atype := .boolean) (ty := .boolean) (a0 := (N', .inl (fun _ => 0))) S.1 S.2.1 (S.2.2.2.2 _ hw) rfl hK hW.1 hW.2.1 hW.2.2 (fun _ h => Or.inr h) (fun _ => rfl) hn hN hb hcells hslots hdg
    (fun q cA H1 hK' h1 h2 h3 => by
      have e := k_same hK' t0 ht
      subst e
      obtain ⟨a1, a2⟩ := hW.push h1 h2 h3
      exact kk q H1 a1 a2)
theorem pk_newB (S : CallFix p m c cc nL s args Gw own) (hK : va_K D cl tys s) (hW : HW D cl L0 s H locs L F) {n : Int32} {N' : Nat} {c0 : ClassId} (t0 : Nat) (ht : tys[t0]? = some (c0, .byte)) (hw : Cond.arrayClass .byte ∈ Gw) (hn : ¬ n < 0) (hN : n.toNatClampNeg = N') (hb : N' * 1 ≤ 536870912) (hcells : cells + 1 ≤ R.cells) (hslots : slots + N' ≤ R.slots) (hdg : decode cc pc = .ok (.newarray .byte, 2))
    (kk : ∀ (q : Nat) (H1 : Heap), q ∉ L → HW D cl L0 s H1 locs (L ++ [q]) (va_up F q (.inl (c0, N', .inl (fun _ => 0)))) → W p l e R s m args below meth c H1 locs (cells + 1) (slots + N') Q (F0 m (pc + 2) ls (.ref q :: rest))) : W p l e R s m args below meth c H locs cells slots Q (F0 m pc ls (.int n :: rest)) :=
  va_newa (atype := .byte) (ty := .byte) (a0 := (N', .inl (fun _ => 0))) S.1 S.2.1 (S.2.2.2.2 _ hw) rfl hK hW.1 hW.2.1 hW.2.2 (fun _ h => Or.inr h) (fun _ => rfl) hn hN hb hcells hslots hdg
    (fun q cA H1 hK' h1 h2 h3 => by
      have e := k_same hK' t0 ht
      subst e
      obtain ⟨a1, a2⟩ := hW.push h1 h2 h3
      exact kk q H1 a1 a2)
theorem pk_newq (S : CallFix p m c cc nL s args Gw own) (hK : va_K D cl tys s) (hW : HW D cl L0 s H locs L F) {C : String} {index : Nat} {n : Int32} {N' : Nat} {c0 : ClassId} (t0 : Nat) (ht : tys[t0]? = some (c0, .object C)) (hcl : Cond.classLink own index C ∈ Gw) (hover : va_AO C s) (hn : ¬ n < 0) (hN : n.toNatClampNeg = N') (hb : N' * 4 ≤ 536870912) (hcells : cells + 1 ≤ R.cells) (hslots : slots + N' ≤ R.slots) (hdg : decode cc pc = .ok (.anewarray index, 3))
    (kk : ∀ (q : Nat) (H1 : Heap), q ∉ L → HW D cl L0 s H1 locs (L ++ [q]) (va_up F q (rfA c0 N' (fun _ => none))) → W p l e R s m args below meth c H1 locs (cells + 1) (slots + N') Q (F0 m (pc + 3) ls (.ref q :: rest))) : W p l e R s m args below meth c H locs cells slots Q (F0 m pc ls (.int n :: rest)) :=
  va_newq S.1 S.2.1 S.2.2.2.1 (S.2.2.2.2 _ hcl) hover hK hW.1 hW.2.1 hW.2.2 (fun _ h => Or.inr h) hn hN hb hcells hslots hdg
    (fun q cA H1 hK' h1 h2 h3 => by
      have e := k_same hK' t0 ht
      subst e
      obtain ⟨a1, a2⟩ := hW.push h1 h2 h3
      exact kk q H1 a1 a2)
theorem pk_putF (S : CallFix p m c cc nL s args Gw own) (hK : va_K D cl tys s) (hW : HW D cl L0 s H locs L F) {a ci index N : Nat} {fs : List Value} {C : String} {T : u_T} {v : Value} {ty0 : Nat → FieldType} {ty : FieldType} (k : Nat) (ha : a ∈ L) (he : F a = .inr (ci, fs)) (hc : cl[ci]? = some (C, T, N)) (hin : ∀ w ∈ u_ws C T N, w ∈ Gw) (hty : ∀ k, k < N → parseFieldDescriptor (T k).2.2.1 = some (ty0 k)) (hnm : ∀ a, a < N → ∀ b, b < N → a ≠ b → (T a).2.1 ≠ (T b).2.1) (hk : k < N) (hlink : Cond.fieldLink own index (T k).1 (T k).2.1 (T k).2.2.1 ∈ Gw) (hfin : (T k).2.2.2 = true) (hin2 : meth.name = "<init>") (hdecl : (T k).1 = own) (hd : parseFieldDescriptor (T k).2.2.1 = some ty) (hn : narrow ty v = v) (hfit : fits ty v = true) (hl : k < fs.length) (hdg : decode cc pc = .ok (.putfield index, 3))
    (kk : ∀ (H1 : Heap) (locs1 : List Loc), HW D cl L0 s H1 locs1 L (va_up F a (.inr (ci, fs.set k v))) → W p l e R s m args below meth c H1 locs1 cells slots Q (F0 m (pc + 3) ls rest)) : W p l e R s m args below meth c H locs cells slots Q (F0 m pc ls (v :: .ref a :: rest)) := by
  obtain ⟨k0, hk0⟩ := pl_get (F := F) ha rfl
  exact va_putF S.1 S.2.1 S.2.2.2.2 hin ty0 hty hnm S.2.2.2.1 hK hW.1 hW.2.1 hW.2.2 k0 (by rw [← he]; exact hk0) hc k hk (S.2.2.2.2 _ hlink) (fun _ h => h) hfin hin2 hdecl hd hn hfit hl hdg
    (fun H1 locs1 h1 h2 h3 => kk H1 locs1 (hW.set (e0 := F a) ha _ hk0 h1 h2 h3))
theorem pk_getU (S : CallFix p m c cc nL s args Gw own) (hK : va_K D cl tys s) (hW : HW D cl L0 s H locs L F) {a ci index N : Nat} {fs : List Value} {C ref : String} {T : u_T} {v : Value} (k : Nat) (ha : a ∈ L) (he : F a = .inr (ci, fs)) (hc : cl[ci]? = some (C, T, N)) (hin : ∀ w ∈ u_ws C T N, w ∈ Gw) (hk : k < N) (hlink : Cond.fieldLink own index ref (T k).2.1 (T k).2.2.1 ∈ Gw) (hsame : Cond.sameField ref (T k).1 (T k).2.1 (T k).2.2.1 ∈ Gw) (hv : fs[k]? = some v) (hdg : decode cc pc = .ok (.getfield index, 3))
    (kk : W p l e R s m args below meth c H locs cells slots Q (F0 m (pc + 3) ls (v :: rest))) : W p l e R s m args below meth c H locs cells slots Q (F0 m pc ls (.ref a :: rest)) := by
  obtain ⟨k0, hk0⟩ := pl_get ha he
  exact va_get S.1 S.2.1 S.2.2.2.2 hin S.2.2.2.1 hK hW.1 k0 hk0 hc k hk (S.2.2.2.2 _ hlink) (fun x h => u_same (S.2.2.2.2 _ hsame) x h) hv hdg kk
theorem pk_putU (S : CallFix p m c cc nL s args Gw own) (hK : va_K D cl tys s) (hW : HW D cl L0 s H locs L F) {a ci index N : Nat} {fs : List Value} {C ref : String} {T : u_T} {v : Value} {ty0 : Nat → FieldType} {ty : FieldType} (k : Nat) (ha : a ∈ L) (he : F a = .inr (ci, fs)) (hc : cl[ci]? = some (C, T, N)) (hin : ∀ w ∈ u_ws C T N, w ∈ Gw) (hty : ∀ k, k < N → parseFieldDescriptor (T k).2.2.1 = some (ty0 k)) (hnm : ∀ a, a < N → ∀ b, b < N → a ≠ b → (T a).2.1 ≠ (T b).2.1) (hk : k < N) (hlink : Cond.fieldLink own index ref (T k).2.1 (T k).2.2.1 ∈ Gw) (hsame : Cond.sameField ref (T k).1 (T k).2.1 (T k).2.2.1 ∈ Gw) (hfin : (T k).2.2.2 = false) (hd : parseFieldDescriptor (T k).2.2.1 = some ty) (hn : narrow ty v = v) (hfit : fits ty v = true) (hl : k < fs.length) (hdg : decode cc pc = .ok (.putfield index, 3))
    (kk : ∀ (H1 : Heap) (locs1 : List Loc), HW D cl L0 s H1 locs1 L (va_up F a (.inr (ci, fs.set k v))) → W p l e R s m args below meth c H1 locs1 cells slots Q (F0 m (pc + 3) ls rest)) : W p l e R s m args below meth c H locs cells slots Q (F0 m pc ls (v :: .ref a :: rest)) := by
  obtain ⟨k0, hk0⟩ := pl_get (F := F) ha rfl
  exact va_put S.1 S.2.1 S.2.2.2.2 hin ty0 hty hnm S.2.2.2.1 hK hW.1 hW.2.1 hW.2.2 k0 (by rw [← he]; exact hk0) hc k hk (S.2.2.2.2 _ hlink) (fun x h => u_same (S.2.2.2.2 _ hsame) x h) hfin hd hn hfit hl hdg
    (fun H1 locs1 h1 h2 h3 => kk H1 locs1 (hW.set (e0 := F a) ha _ hk0 h1 h2 h3))
theorem pk_aald (S : CallFix p m c cc nL s args Gw own) (hK : va_K D cl tys s) (hW : HW D cl L0 s H locs L F) {a n y : Nat} {cA : ClassId} {C : String} {f : Nat → Option Nat} (t0 : Nat) (ha : a ∈ L) (he : F a = rfA cA n f) (ht : tys[t0]? = some (cA, .object C)) {i : Int32} (hin : vp_in i n) (hv : f i.toNatClampNeg = some y) (hdg : decode cc pc = .ok (.aaload, 1))
    (kk : W p l e R s m args below meth c H locs cells slots Q (F0 m (pc + 1) ls (.ref y :: rest))) : W p l e R s m args below meth c H locs cells slots Q (F0 m pc ls (.int i :: .ref a :: rest)) := by
  obtain ⟨k0, hk0⟩ := pl_get ha he
  exact va_aldq S.1 S.2.1 hK hW.1 k0 t0 hk0 ht hin hdg (by rw [hv]; exact kk)
theorem pk_aast (S : CallFix p m c cc nL s args Gw own) (hK : va_K D cl tys s) (hW : HW D cl L0 s H locs L F) {a n y : Nat} {cA : ClassId} {C E : String} {f : Nat → Option Nat} (t0 : Nat) (ha : a ∈ L) (he : F a = rfA cA n f) (ht : tys[t0]? = some (cA, .object E)) (hr : ∃ cellV : Cell, H[y]? = some cellV ∧ cellV.vm.isStatics = false ∧ s.vm.findClass C = some cellV.cls) (hca : va_Nw (.castable C E) s) {i : Int32} (hin : vp_in i n) (hdg : decode cc pc = .ok (.aastore, 1))
    (kk : ∀ (H1 : Heap) (locs1 : List Loc), HW D cl L0 s H1 locs1 L (va_up F a (rfA cA n (va_up f i.toNatClampNeg (some y)))) → W p l e R s m args below meth c H1 locs1 cells slots Q (F0 m (pc + 1) ls rest)) : W p l e R s m args below meth c H locs cells slots Q (F0 m pc ls (.ref y :: .int i :: .ref a :: rest)) := by
  obtain ⟨k0, hk0⟩ := pl_get (F := F) ha rfl
  exact vb_astq S.1 S.2.1 hK hW.1 hW.2.1 hW.2.2 k0 t0 (hk0.trans (congrArg (fun ee => some (a, ee)) he)) ht hr (vb_asgC hca) hin hdg
    (fun H1 locs1 h1 h2 h3 => kk H1 locs1 (hW.set (e0 := F a) ha _ hk0 h1 h2 h3))
theorem pk_aastS (S : CallFix p m c cc nL s args Gw own) (hK : va_K D cl tys s) (hW : HW D cl L0 s H locs L F) {a n y : Nat} {cA : ClassId} {E : String} {f : Nat → Option Nat} (t0 : Nat) (ha : a ∈ L) (he : F a = rfA cA n f) (ht : tys[t0]? = some (cA, .object E)) (hr : ∃ cellV : Cell, H[y]? = some cellV ∧ cellV.vm.isStatics = false ∧ s.vm.findClass E = some cellV.cls) {i : Int32} (hin : vp_in i n) (hdg : decode cc pc = .ok (.aastore, 1))
    (kk : ∀ (H1 : Heap) (locs1 : List Loc), HW D cl L0 s H1 locs1 L (va_up F a (rfA cA n (va_up f i.toNatClampNeg (some y)))) → W p l e R s m args below meth c H1 locs1 cells slots Q (F0 m (pc + 1) ls rest)) : W p l e R s m args below meth c H locs cells slots Q (F0 m pc ls (.ref y :: .int i :: .ref a :: rest)) := by
  obtain ⟨k0, hk0⟩ := pl_get (F := F) ha rfl
  exact vb_astq S.1 S.2.1 hK hW.1 hW.2.1 hW.2.2 k0 t0 (hk0.trans (congrArg (fun ee => some (a, ee)) he)) ht hr (fun comp c1 => vb_asgS comp c1) hin hdg
    (fun H1 locs1 h1 h2 h3 => kk H1 locs1 (hW.set (e0 := F a) ha _ hk0 h1 h2 h3))
theorem pk_aastN (S : CallFix p m c cc nL s args Gw own) (hK : va_K D cl tys s) (hW : HW D cl L0 s H locs L F) {a n : Nat} {cA : ClassId} {E : String} {f : Nat → Option Nat} (t0 : Nat) (ha : a ∈ L) (he : F a = rfA cA n f) (ht : tys[t0]? = some (cA, .object E)) {i : Int32} (hin : vp_in i n) (hdg : decode cc pc = .ok (.aastore, 1))
    (kk : ∀ (H1 : Heap) (locs1 : List Loc), HW D cl L0 s H1 locs1 L (va_up F a (rfA cA n (va_up f i.toNatClampNeg none))) → W p l e R s m args below meth c H1 locs1 cells slots Q (F0 m (pc + 1) ls rest)) : W p l e R s m args below meth c H locs cells slots Q (F0 m pc ls (.null :: .int i :: .ref a :: rest)) := by
  obtain ⟨k0, hk0⟩ := pl_get (F := F) ha rfl
  exact va_astqN S.1 S.2.1 hK hW.1 hW.2.1 hW.2.2 k0 t0 (hk0.trans (congrArg (fun ee => some (a, ee)) he)) ht hin hdg
    (fun H1 locs1 h1 h2 h3 => kk H1 locs1 (hW.set (e0 := F a) ha _ hk0 h1 h2 h3))
theorem pk_objInit (S : CallFix p m c cc nL s args Gw own) {idx : Nat} (hlink : Cond.methodLink own idx Lib.objectInit ∈ Gw) (hinst : Cond.instanceMethod Lib.objectInit ∈ Gw) (hcode : Cond.code Lib.objectInit ⟨#[0xb1]⟩ 1 none ∈ Gw) (hsize : ls.size = nL) {a : Addr} (hd : decode cc pc = .ok (.invokespecial idx, 3)) (hfr : 1 ≤ R.frames) (hlo : (rest.map fun v => v.category).sum + 12 ≤ R.locals)
    (kk : W p l e R s m args below meth c H locs cells slots Q (F0 m (pc + 3) ls rest)) : W p l e R s m args below meth c H locs cells slots Q (F0 m pc ls (.ref a :: rest)) :=
  W.objInit S.1 S.2.1 S.2.2.2.1 (S.2.2.2.2 _ hlink) (S.2.2.2.2 _ hinst) (S.2.2.2.2 _ hcode) rfl (hsize.trans S.2.2.1.symm) rfl hd hfr (by show 2 * 0 + _ + 12 ≤ _; omega) kk
theorem pk_gets (S : CallFix p m c cc nL s args Gw own) (hW : HW D cl L0 s H locs L F) {C n d : String} {v : Value} {index : Nat} (hZ : va_Z C n d v (AL L0 s.heap.size) s s.heap) (hlink : Cond.fieldLink own index C n d ∈ Gw) (hdg : decode cc pc = .ok (.getstatic index, 3))
    (kk : W p l e R s m args below meth c H locs cells slots Q (F0 m (pc + 3) ls (v :: rest))) : W p l e R s m args below meth c H locs cells slots Q (F0 m pc ls rest) :=
  va_gets S.1 S.2.1 hZ hW.2.2 S.2.2.2.1 (S.2.2.2.2 _ hlink) (fun _ h => h) hdg kk
end MK
/-! an Integer: new, in the pool, or one of the cache -/
def bx (ζ : Nat → Nat) (L : List Nat) (F : Nat → va_E) (y : Nat) (v : Int32) : Prop := (y ∈ L ∧ F y = .inr (2, [.int v])) ∨ ∃ k : Nat, k < 256 ∧ y = ζ k ∧ v = vb_c k
