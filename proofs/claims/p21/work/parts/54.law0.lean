/-! the law's methods: contracts of bodies with handlers -/
/-- no exception of the three is another -/
def NCX (U : State) : Prop := ∀ i j, i < 3 → j < 3 → i ≠ j → va_Nc (xName i) (xName j) U
theorem NCX.moved {u U : State} (hvm : u.vm.Alike U.vm) (h : NCX u) : NCX U := fun i j hi hj hij => (h i j hi hj hij).moved hvm
def PrL (D : va_G) (ζ : Nat → Nat) (κ : Nat → ClassId) (sz : Nat) (L : List Nat) (F : Nat → va_E) : State → Prop := fun U => PrC D cls (ty5 κ) ζ sz L F U ∧ NCX U
theorem PrL.blind {D : va_G} {ζ : Nat → Nat} {κ : Nat → ClassId} {sz : Nat} {L : List Nat} {F : Nat → va_E} {av : List Value} : FrameBlind (va_Pc av (PrL D ζ κ sz L F)) := by
  intro a U g mk h
  obtain ⟨h1, h2, h3⟩ := h
  exact ⟨(PrC.blind a U g mk ⟨h1, h2⟩).1, (PrC.blind a U g mk ⟨h1, h2⟩).2, h3.moved (Vm.Alike.refl U.vm)⟩
def MwI (l : Launch) (D : va_G) (κ : Nat → ClassId) (ζ : Nat → Nat) (y : MethodName) (bytes : ByteArray) (n : Nat) (rt : Option FieldType) (hh : List (Nat × Nat × Nat × Nat)) (d mc ms : Nat) (av : List Value) (L : List Nat) (F : Nat → va_E) (post : Int32 → List Nat → (Nat → va_E) → Prop) : Prop := ∀ sz : Nat, Met l y (Cond.codeWith y bytes n rt hh :: Gw) (Rm d mc ms) (va_Pc av (PrL D ζ κ sz L F)) (va_Qi (S := List Nat × (Nat → va_E)) (fun r u => post r u.1 u.2) (PoW D cls sz L) (AL L sz)) mc ms (AL L sz)
theorem MwI.of {l : Launch} {D : va_G} {κ : Nat → ClassId} {ζ : Nat → Nat} {y : MethodName} {bytes : ByteArray} {n d mc ms : Nat} {rt : Option FieldType} {hh : List (Nat × Nat × Nat × Nat)} {av : List Value} {L : List Nat} {F : Nat → va_E} {post : Int32 → List Nat → (Nat → va_E) → Prop} (hy : plainName y.cls = true) (hlen : (lg_sl av).length ≤ n) (body : ∀ (p : Program) (e : Env) (s : State) (m : MethodId) (below : List Frame) (meth : Method) (c : Code), CallFix p m c bytes n s av.toArray Gw y.cls → meth.sig.returnType = rt → meth.locks = false → c.exceptionTable.toList = tableOf hh → NCX s → va_K D cls (ty5 κ) s → HW D cls L s s.heap [] L F → ST ζ (AL L s.heap.size) s s.heap → ∀ ls : Array Slot, lv_has ls n (lv_args 0 av) → W p l e (Rm d mc ms) s m av.toArray below meth c s.heap [] 0 0 (EnI D cls s below av.toArray mc ms L post) (F0 m 0 ls [])) : MwI l D κ ζ y bytes n rt hh d mc ms av L F post := by
  intro sz
  refine va_MetW (cc := bytes) (maxL := n) (ret := rt) hy rfl ?_
  intro p e s m args below meth c s₁ B hml hv
  obtain ⟨rfl, ⟨hsz, hP, hD, hK, hST⟩, hN⟩ := hv
  subst hsz
  have hts := atoms_spec (ws := Cond.codeWith y bytes n rt hh :: Gw) B.pre
  have htb := vx_table (x := y) B (hts _ List.mem_cons_self)
  have hl := lv_entry av (n := n) hlen
  rw [lg_entry_eq]
  generalize (lg_sl av ++ List.replicate (n - (lg_sl av).length) Slot.unset).toArray = ls at hl ⊢
  exact body p e s m below meth c ⟨B.exec, B.bytes, hml, findClass_of_methodNamed B.named, fun w hw => hts w (List.mem_cons_of_mem _ hw)⟩ B.returns B.notSynchronized htb hN hK ⟨hP, ⟨hD.1, fun k q hk => Or.inl (pl_mem hk)⟩, va_S.rf⟩ hST ls hl
def MCodeW (y : MethodName) (cc : ByteArray) (n : Nat) (rt : Option FieldType) (hh : List (Nat × Nat × Nat × Nat)) : Prop := Cond.codeWith y cc n rt hh ∈ Gw ∧ Cond.initialized y.cls ∈ Gw ∧ y.cls ≠ "java/lang/invoke/MethodHandle" ∧ y.cls ≠ "java/lang/invoke/VarHandle"
theorem gw_consW {y : MethodName} {cc : ByteArray} {n : Nat} {rt : Option FieldType} {hh : List (Nat × Nat × Nat × Nat)} (h : MCodeW y cc n rt hh) {pre : List Cond} (hp : ∀ w ∈ pre, w ∈ Gw) : GoodIn Gw (pre ++ (Cond.codeWith y cc n rt hh :: Gw)) := by
  have key : ∀ w ∈ pre ++ (Cond.codeWith y cc n rt hh :: Gw), w ∈ Gw := by
    intro w hw
    rcases List.mem_append.mp hw with q | q
    · exact hp w q
    · rcases List.mem_cons.mp q with rfl | q
      · exact h.1
      · exact q
  exact fun w hw => ⟨key w hw, good_of_word (gw_good w (key w hw))⟩
section CKl
variable {p : Program} {l : Launch} {e : Env} {R : Room} {s : State} {m : MethodId} {args : Array Value} {below : List Frame} {meth : Method} {c : Code} {cc : ByteArray} {nL : Nat} {own : String} {H : Heap} {locs : List Loc} {cells slots : Nat} {Q : State → Prop} {D : va_G} {cl : List vw_C} {tys : List (ClassId × FieldType)} {ζ : Nat → Nat} {pc : Nat} {ls : Array Slot} {rest st0 : List Value} {L0 L : List Nat} {F : Nat → va_E} {y : MethodName} {bytes : ByteArray} {n d mc ms index np : Nat} {rt : Option FieldType} {As : List Value}
theorem pk_cLI {κ : Nat → ClassId} (S : CallFix p m c cc nL s args Gw own) (hK : va_K D cls (ty5 κ) s) (hST : ST ζ (AL L0 s.heap.size) s s.heap) (hW : HW D cls L0 s H locs L F) {post : Int32 → List Nat → (Nat → va_E) → Prop} {hh : List (Nat × Nat × Nat × Nat)} (hN : NCX s) (hM : MwI l D κ ζ y bytes n rt hh d mc ms As L F post) (hcd : MCodeW y bytes n rt hh) (hlink : Cond.methodLink own index y ∈ Gw) (hsta : Cond.static y ∈ Gw) (hnp : (parseMethodDescriptor y.desc).map (fun d => d.parameters.length) = some np) (hlen : As.length = np) (hsize : ls.size = nL) (hstk : st0 = As.reverse ++ rest) (hcat : (rest.map fun v => v.category).sum ≤ 8) (hdg : decode cc pc = .ok (.invokestatic index, 3)) (hR : d + 1 ≤ R.frames ∧ 8 + (n + 11) + 40 * d ≤ R.locals) (hf : cells + mc ≤ R.cells ∧ slots + ms ≤ R.slots)
    (kk : ∀ (r : Int32) (L1 : List Nat) (F1 : Nat → va_E) (H1 : Heap) (locs1 : List Loc), post r L1 F1 → HW D cls L0 s H1 locs1 L1 F1 → W p l e R s m args below meth c H1 locs1 (cells + mc) (slots + ms) Q (F0 m (pc + 3) ls (.int r :: rest))) : W p l e R s m args below meth c H locs cells slots Q (F0 m pc ls st0) := by
  exact va_calli (vx_runSW (As := As) (rest := rest) S (hM H.size) (vx_cwSW np S.2.2.2.2 (gw_consW (pre := [.methodLink own index y, .static y, .initialized y.cls]) hcd (List.forall_mem_cons.mpr ⟨hlink, List.forall_mem_cons.mpr ⟨hsta, List.forall_mem_cons.mpr ⟨hcd.2.1, fun _ h => absurd h List.not_mem_nil⟩⟩⟩)) rfl rfl rfl ⟨hcd.2.2.1, hcd.2.2.2, hnp⟩ hR) ⟨PrL.blind, fun U hU hWm => ⟨rfl, PrC.of hK hW hST hU hWm, hN.moved hWm.alike⟩⟩ rfl hlen hsize hstk (lv_room hcat) hdg hf) hW.2.2 (fun q _ h => hW.sub q h) hW.sub (fun r u t H1 locs1 ht hvm hp hB hz hk hS1 => kk r u.1 u.2 H1 locs1 hp (hW.after (sz := 0) ht hB hS1))
theorem xk_callr {a : Array Value} {free A0 A1 : Nat → Prop} {H0 : Heap} {S9 SX : Type} {post : S9 → Prop} {px : SX → Prop} {B : S9 → Nat → State → Prop} {BX : String → SX → State → Prop} {AX : Nat → Prop} (hr : vx_Run p l e R s m args below meth c H locs cells slots mc ms (F0 m pc ls st0) rest (va_Qr post B A1 a) (vx_X px BX AX) free) (hS : va_S A0 H0 H locs) (hA : ∀ q, q < H.size → A1 q → A0 q) (hf : ∀ q, free q → A0 q) (hAX : ∀ q, q < H.size → AX q → A0 q)
    (kx : ∀ (E : String) (ce : Cell) (q9 : Addr) (u : SX) (t : State) (H1 : Heap) (locs1 : List Loc), t.heap = H1 → s.vm.Alike t.vm → px u → BX E u t → H.size ≤ H1.size → (∀ q : Nat, q < H.size → ¬ AX q → H1[q]? = H[q]?) → va_S A0 H0 H1 locs1 → H1[q9]? = some ce → ce.vm = .none → s.vm.findClass E = some ce.cls → vx_W p l e R s m args below meth c H1 locs1 (cells + mc) (slots + ms) Q (F0 m pc ls rest) q9)
    (kk : ∀ (u : S9) (ra : Nat) (t : State) (H1 : Heap) (locs1 : List Loc), t.heap = H1 → s.vm.Alike t.vm → post u → B u ra t → H.size ≤ H1.size → (∀ q : Nat, q < H.size → ¬ A1 q → H1[q]? = H[q]?) → va_S A0 H0 H1 locs1 → W p l e R s m args below meth c H1 locs1 (cells + mc) (slots + ms) Q (F0 m (pc + 3) ls (.ref ra :: rest))) : W p l e R s m args below meth c H locs cells slots Q (F0 m pc ls st0) := by
  intro T hT X
  rcases hr T hT X with ⟨v, st₀, t, T', L, h0, X', hL, e1, e2, ⟨⟨u, ra, hv, hp, hb⟩, hF⟩, st⟩ | ⟨q, st₀, t, T', L, E, ce, h0, X', hL, e1, e2, ⟨u, hp, hb, hF⟩, hce, hcv, hcl, st⟩
  · cases hv
    obtain ⟨k1, k2, k3⟩ := vx_keep h0 e1 hS hA hf hL hF
    obtain ⟨t2, a1, b1⟩ := kk u ra t T'.heap (locs ++ L) e1.symm (by rw [← e2]; exact X'.warmed.alike) hp hb k1 k2 k3 T' rfl X'
    exact ⟨t2, st t2 a1, b1⟩
  · obtain ⟨k1, k2, k3⟩ := vx_keep h0 e1 hS hAX hf hL hF
    obtain ⟨t2, a1, b1⟩ := kx E ce q u t T'.heap (locs ++ L) e1.symm (by rw [← e2]; exact X'.warmed.alike) hp hb k1 k2 k3 (by rw [e1]; exact hce) hcv hcl T' rfl X'
    exact ⟨t2, st.trans a1, b1⟩
theorem xk_cVR (S : CallFix p m c cc nL s args Gw own) (hK : va_K D cl tys s) (hST : ST ζ (AL L0 s.heap.size) s s.heap) (hW : HW D cl L0 s H locs L F) {post : Nat → List Nat → (Nat → va_E) → Prop} {b ci : Nat} {fs : List Value} {r0 : vw_C} {xp : String → Prop} (hM : MxR l D cl tys ζ y bytes n rt d mc ms (.ref b :: As) L F post xp) (hcd : MCode y bytes n rt) (hlink : Cond.methodLink own index y ∈ Gw) (hin : Cond.instanceMethod y ∈ Gw) (hsel : Cond.selects r0.1 y y ∈ Gw) (hyc : y.cls = r0.1) (hnp : (parseMethodDescriptor y.desc).map (fun d => d.parameters.length) = some np) (hb : b ∈ L) (he : F b = .inr (ci, fs)) (hc : cl[ci]? = some r0) (hlen : As.length = np) (hsize : ls.size = nL) (hstk : st0 = As.reverse ++ .ref b :: rest) (hcat : (rest.map fun v => v.category).sum ≤ 8) (hdg : decode cc pc = .ok (.invokevirtual index, 3)) (hR : d + 1 ≤ R.frames ∧ 8 + (n + 11) + 40 * d ≤ R.locals) (hf : cells + mc ≤ R.cells ∧ slots + ms ≤ R.slots)
    (kx : ∀ (E : String) (ce : Cell) (q9 : Addr) (H1 : Heap) (locs1 : List Loc), xp E → HW D cl L0 s H1 locs1 L F → H1[q9]? = some ce → ce.vm = .none → s.vm.findClass E = some ce.cls → vx_W p l e R s m args below meth c H1 locs1 (cells + mc) (slots + ms) Q (F0 m pc ls rest) q9)
    (kk : ∀ (r : Nat) (L1 : List Nat) (F1 : Nat → va_E) (H1 : Heap) (locs1 : List Loc), post r L1 F1 → HW D cl L0 s H1 locs1 L1 F1 → W p l e R s m args below meth c H1 locs1 (cells + mc) (slots + ms) Q (F0 m (pc + 3) ls (.ref r :: rest))) : W p l e R s m args below meth c H locs cells slots Q (F0 m pc ls st0) := by
  exact xk_callr (vx_runV (As := As) (rest := rest) S (hM H.size) (cwV np S.2.2.2.2 (gw_cons (pre := [.methodLink own index y, .instanceMethod y, .selects r0.1 y y, .initialized r0.1]) hcd (List.forall_mem_cons.mpr ⟨hlink, List.forall_mem_cons.mpr ⟨hin, List.forall_mem_cons.mpr ⟨hsel, List.forall_mem_cons.mpr ⟨hyc ▸ hcd.2.1, fun _ h => absurd h List.not_mem_nil⟩⟩⟩⟩)) rfl rfl rfl ⟨hyc, hcd.2.2.1, hcd.2.2.2, hnp⟩ hR) ⟨PrC.blind, pk_recv hK hW hb he hc, fun U hU hWm => ⟨rfl, PrC.of hK hW hST hU hWm⟩⟩ rfl hlen hsize hstk (lv_room hcat) hdg hf) hW.2.2 (fun q _ h => hW.sub q h) hW.sub (fun q _ h => hW.sub q h) (fun E ce q9 u t H1 locs1 ht hvm hp hB hz hk hS1 h1 h2 h3 => kx E ce q9 H1 locs1 hB.1 (hW.thrown (xp := xp) (E := E) ht hB.2 hS1) h1 h2 h3) (fun u r t H1 locs1 ht hvm hp hB hz hk hS1 => kk r u.1 u.2 H1 locs1 hB.1 (hW.after (sz := 0) ht hB.2 hS1))
end CKl
section PKn
variable {p : Program} {l : Launch} {e : Env} {R : Room} {s : State} {m : MethodId} {args : Array Value} {below : List Frame} {meth : Method} {c : Code} {cc : ByteArray} {nL : Nat} {Ts : List Cond} {own : String} {H : Heap} {locs : List Loc} {cells slots : Nat} {Q : State → Prop} {D : va_G} {cl : List vw_C} {tys : List (ClassId × FieldType)} {pc : Nat} {ls : Array Slot} {rest : List Value} {L0 L : List Nat} {F : Nat → va_E}
theorem pk_putN (S : CallFix p m c cc nL s args Ts own) (hK : va_K D cl tys s) (hW : HW D cl L0 s H locs L F) {a ci index N : Nat} {fs : List Value} {C : String} {T : u_T} {v : Value} {ty0 : Nat → FieldType} {ty : FieldType} (k : Nat) (ha : a ∈ L) (he : F a = .inr (ci, fs)) (hc : cl[ci]? = some (C, T, N)) (hin : ∀ w ∈ u_ws C T N, w ∈ Ts) (hty : ∀ k, k < N → parseFieldDescriptor (T k).2.2.1 = some (ty0 k)) (hnm : ∀ a, a < N → ∀ b, b < N → a ≠ b → (T a).2.1 ≠ (T b).2.1) (hk : k < N) {host : String} (hlink : (Cond.fieldLinkNest own index (T k).1 (T k).2.1 (T k).2.2.1 host).before args s = true) (hfin : (T k).2.2.2 = false) (hd : parseFieldDescriptor (T k).2.2.1 = some ty) (hn : narrow ty v = v) (hfit : fits ty v = true) (hl : k < fs.length) (hdg : decode cc pc = .ok (.putfield index, 3))
    (kk : ∀ (H1 : Heap) (locs1 : List Loc), HW D cl L0 s H1 locs1 L (va_up F a (.inr (ci, fs.set k v))) → W p l e R s m args below meth c H1 locs1 cells slots Q (F0 m (pc + 3) ls rest)) : W p l e R s m args below meth c H locs cells slots Q (F0 m pc ls (v :: .ref a :: rest)) := by
  obtain ⟨k0, hk0⟩ := pl_get (F := F) ha rfl
  exact va_putN S.1 S.2.1 S.2.2.2.2 hin ty0 hty hnm S.2.2.2.1 hK hW.1 hW.2.1 hW.2.2 k0 (by rw [← he]; exact hk0) hc k hk hlink (fun _ h => h) hfin hd hn hfit hl hdg
    (fun H1 locs1 h1 h2 h3 => kk H1 locs1 (hW.set (e0 := F a) ha _ hk0 h1 h2 h3))
end PKn
/-- the law's Out: an object of class 9 -/
def OUT (q : Nat) (L : List Nat) (F : Nat → va_E) : Prop := q ∈ L ∧ ∃ w0 w1 : Value, F q = .inr (9, [w0, w1])
theorem CI.notO {κ : Nat → ClassId} {A : Nat → Nat} {σ : CS} {L : List Nat} {F : Nat → va_E} (hI : CI κ A σ L F) {q : Nat} {w : List Value} (h : F q = .inr (9, w)) : ∀ i, i < 18 → A i ≠ q := by
  obtain ⟨h1, h2, h3, h4, h5, h6⟩ := hI
  have no : ∀ {n : Nat} {v : List Value} {a : Nat}, F a = .inr (n, v) → n ≠ 9 → a ≠ q := by
    intro n v a ha hn e
    rw [e, h] at ha
    injection ha with ha
    injection ha with ha _
    exact hn ha.symm
  intro i hi
  by_cases h0 : i = 0
  · subst h0; exact no h3 (by decide)
  by_cases h15 : i = 15
  · subst h15; exact no h5 (by decide)
  by_cases hk : 16 ≤ i
  · have := h6 (i - 16) (by omega)
    rw [show 16 + (i - 16) = i by omega] at this
    exact no this (by decide)
  have hr := h4 ((i - 1) / 2) (by omega)
  by_cases hodd : i % 2 = 1
  · rw [show 1 + 2 * ((i - 1) / 2) = i by omega] at hr
    exact no hr.1 (by decide)
  · have he : 2 + 2 * ((i - 1) / 2) = i := by omega
    rw [he] at hr
    intro e
    rw [e, h] at hr
    cases hr.2
theorem CI.keepA {κ : Nat → ClassId} {A : Nat → Nat} {σ : CS} {L L' : List Nat} {F F' : Nat → va_E} (hI : CI κ A σ L F) (hsub : ∀ x ∈ L, x ∈ L') (hm : ∀ i, i < 18 → F' (A i) = F (A i)) : CI κ A σ L' F' := by
  obtain ⟨h1, h2, h3, h4, h5, h6⟩ := hI
  exact ⟨fun i hi => hsub _ (h1 i hi), h2, (hm 0 (by omega)).trans h3, fun i hi => ⟨(hm _ (by omega)).trans (h4 i hi).1, (hm _ (by omega)).trans (h4 i hi).2⟩, (hm 15 (by omega)).trans h5, fun j hj => (hm _ (by omega)).trans (h6 j hj)⟩
/-- what a helper of the law leaves: the yard σ', the Out; r, w0 are told of at the end of a call that returned (v), or that threw -/
def LwP (κ : Nat → ClassId) (A : Nat → Nat) (q : Nat) (σ' : CS) (L : List Nat) (F : Nat → va_E) (ans : Int32 → Value → Value → Prop) (r : Int32) (L' : List Nat) (F' : Nat → va_E) : Prop :=
  (∀ x ∈ L, x ∈ L') ∧ CI κ A σ' L' F' ∧ (∃ w0 w1 : Value, F' q = .inr (9, [w0, w1]) ∧ ans r w0 w1) ∧ ∀ x ∈ L, (∀ i, i < 18 → x ≠ A i) → x ≠ q → F' x = F x
theorem mw_L_join : MCodeW yL_join cL_join 7 (some .int) [(0, 15, 18, 19), (0, 15, 22, 21), (0, 15, 26, 23)] := ⟨gw_t (tb_2 (List.mem_of_getElem? (i := 140) (by decide +kernel))) (by decide +kernel), wd_0, by decide, by decide⟩
theorem np_L_join : (parseMethodDescriptor yL_join.desc).map (fun d => d.parameters.length) = some 6 := by decide +kernel
theorem mw_L_offer : MCodeW yL_offer cL_offer 7 (some .int) [(0, 22, 25, 19), (0, 22, 29, 21), (0, 22, 33, 23)] := ⟨gw_t (tb_3 (List.mem_of_getElem? (i := 41) (by decide +kernel))) (by decide +kernel), wd_0, by decide, by decide⟩
theorem np_L_offer : (parseMethodDescriptor yL_offer.desc).map (fun d => d.parameters.length) = some 6 := by decide +kernel
theorem mw_L_push : MCodeW yL_push cL_push 6 (some .int) [(0, 13, 16, 19), (0, 13, 20, 21), (0, 13, 24, 23)] := ⟨gw_t (tb_3 (List.mem_of_getElem? (i := 48) (by decide +kernel))) (by decide +kernel), wd_0, by decide, by decide⟩
theorem np_L_push : (parseMethodDescriptor yL_push.desc).map (fun d => d.parameters.length) = some 5 := by decide +kernel
theorem mw_L_append : MCodeW yL_append cL_append 6 (some .int) [(0, 13, 16, 19), (0, 13, 20, 21), (0, 13, 24, 23)] := ⟨gw_t (tb_3 (List.mem_of_getElem? (i := 55) (by decide +kernel))) (by decide +kernel), wd_0, by decide, by decide⟩
theorem np_L_append : (parseMethodDescriptor yL_append.desc).map (fun d => d.parameters.length) = some 5 := by decide +kernel
theorem mw_L_train : MCodeW yL_train cL_train 7 (some .int) [(0, 15, 18, 19), (0, 15, 22, 21), (0, 15, 26, 23)] := ⟨gw_t (tb_3 (List.mem_of_getElem? (i := 62) (by decide +kernel))) (by decide +kernel), wd_0, by decide, by decide⟩
theorem np_L_train : (parseMethodDescriptor yL_train.desc).map (fun d => d.parameters.length) = some 6 := by decide +kernel
theorem mw_L_take : MCodeW yL_take cL_take 5 (some .int) [(0, 11, 14, 19)] := ⟨gw_t (tb_3 (List.mem_of_getElem? (i := 69) (by decide +kernel))) (by decide +kernel), wd_0, by decide, by decide⟩
theorem np_L_take : (parseMethodDescriptor yL_take.desc).map (fun d => d.parameters.length) = some 4 := by decide +kernel
theorem mw_L_poll : MCodeW yL_poll cL_poll 5 (some .int) [(0, 11, 14, 19)] := ⟨gw_t (tb_3 (List.mem_of_getElem? (i := 84) (by decide +kernel))) (by decide +kernel), wd_0, by decide, by decide⟩
theorem np_L_poll : (parseMethodDescriptor yL_poll.desc).map (fun d => d.parameters.length) = some 4 := by decide +kernel
theorem mw_L_pop : MCodeW yL_pop cL_pop 4 (some .int) [(0, 10, 13, 19)] := ⟨gw_t (tb_3 (List.mem_of_getElem? (i := 91) (by decide +kernel))) (by decide +kernel), wd_0, by decide, by decide⟩
theorem np_L_pop : (parseMethodDescriptor yL_pop.desc).map (fun d => d.parameters.length) = some 3 := by decide +kernel
theorem mw_L_serve : MCodeW yL_serve cL_serve 5 (some .int) [(0, 11, 14, 19)] := ⟨gw_t (tb_3 (List.mem_of_getElem? (i := 98) (by decide +kernel))) (by decide +kernel), wd_0, by decide, by decide⟩
theorem np_L_serve : (parseMethodDescriptor yL_serve.desc).map (fun d => d.parameters.length) = some 4 := by decide +kernel
theorem mw_L_rotate : MCodeW yL_rotate cL_rotate 5 (some .int) [(0, 11, 14, 19), (0, 11, 18, 21)] := ⟨gw_t (tb_3 (List.mem_of_getElem? (i := 105) (by decide +kernel))) (by decide +kernel), wd_0, by decide, by decide⟩
theorem np_L_rotate : (parseMethodDescriptor yL_rotate.desc).map (fun d => d.parameters.length) = some 4 := by decide +kernel
theorem mw_L_drop : MCodeW yL_drop cL_drop 6 (some .int) [(0, 20, 23, 19), (0, 20, 27, 21)] := ⟨gw_t (tb_3 (List.mem_of_getElem? (i := 115) (by decide +kernel))) (by decide +kernel), wd_0, by decide, by decide⟩
theorem np_L_drop : (parseMethodDescriptor yL_drop.desc).map (fun d => d.parameters.length) = some 5 := by decide +kernel
theorem mw_L_dropAll : MCodeW yL_dropAll cL_dropAll 5 (some .int) [(0, 11, 14, 19), (0, 11, 18, 21)] := ⟨gw_t (tb_3 (List.mem_of_getElem? (i := 125) (by decide +kernel))) (by decide +kernel), wd_0, by decide, by decide⟩
theorem np_L_dropAll : (parseMethodDescriptor yL_dropAll.desc).map (fun d => d.parameters.length) = some 4 := by decide +kernel
theorem mw_L_shed : MCodeW yL_shed cL_shed 7 (some .int) [(0, 15, 18, 19), (0, 15, 22, 21)] := ⟨gw_t (tb_3 (List.mem_of_getElem? (i := 132) (by decide +kernel))) (by decide +kernel), wd_0, by decide, by decide⟩
theorem np_L_shed : (parseMethodDescriptor yL_shed.desc).map (fun d => d.parameters.length) = some 6 := by decide +kernel
theorem mw_L_thin : MCodeW yL_thin cL_thin 6 (some .int) [(0, 13, 16, 19), (0, 13, 20, 21)] := ⟨gw_t (tb_3 (List.mem_of_getElem? (i := 139) (by decide +kernel))) (by decide +kernel), wd_0, by decide, by decide⟩
theorem np_L_thin : (parseMethodDescriptor yL_thin.desc).map (fun d => d.parameters.length) = some 5 := by decide +kernel
theorem mw_L_turn : MCodeW yL_turn cL_turn 4 (some .int) [(0, 10, 13, 19)] := ⟨gw_t (tb_3 (List.mem_of_getElem? (i := 146) (by decide +kernel))) (by decide +kernel), wd_0, by decide, by decide⟩
theorem np_L_turn : (parseMethodDescriptor yL_turn.desc).map (fun d => d.parameters.length) = some 3 := by decide +kernel
theorem mw_L_clear : MCodeW yL_clear cL_clear 4 (some .int) [(0, 10, 13, 19)] := ⟨gw_t (tb_3 (List.mem_of_getElem? (i := 154) (by decide +kernel))) (by decide +kernel), wd_0, by decide, by decide⟩
theorem np_L_clear : (parseMethodDescriptor yL_clear.desc).map (fun d => d.parameters.length) = some 3 := by decide +kernel
theorem mw_L_step : MCodeW yL_step cL_step 3 (some .int) [(0, 9, 12, 23)] := ⟨gw_t (tb_3 (List.mem_of_getElem? (i := 161) (by decide +kernel))) (by decide +kernel), wd_0, by decide, by decide⟩
theorem np_L_step : (parseMethodDescriptor yL_step.desc).map (fun d => d.parameters.length) = some 2 := by decide +kernel
theorem mw_L_pluck : MCodeW yL_pluck cL_pluck 3 (some .int) [(0, 9, 12, 23)] := ⟨gw_t (tb_3 (List.mem_of_getElem? (i := 177) (by decide +kernel))) (by decide +kernel), wd_0, by decide, by decide⟩
theorem np_L_pluck : (parseMethodDescriptor yL_pluck.desc).map (fun d => d.parameters.length) = some 2 := by decide +kernel
theorem mw_L_insert : MCodeW yL_insert cL_insert 6 (some .int) [(0, 13, 16, 19), (0, 13, 20, 21), (0, 13, 24, 23)] := ⟨gw_t (tb_3 (List.mem_of_getElem? (i := 188) (by decide +kernel))) (by decide +kernel), wd_0, by decide, by decide⟩
theorem np_L_insert : (parseMethodDescriptor yL_insert.desc).map (fun d => d.parameters.length) = some 5 := by decide +kernel
theorem mw_L_cut : MCodeW yL_cut cL_cut 4 (some .int) [(0, 10, 13, 19)] := ⟨gw_t (tb_3 (List.mem_of_getElem? (i := 199) (by decide +kernel))) (by decide +kernel), wd_0, by decide, by decide⟩
theorem np_L_cut : (parseMethodDescriptor yL_cut.desc).map (fun d => d.parameters.length) = some 3 := by decide +kernel
theorem mw_L_replace : MCodeW yL_replace cL_replace 6 (some .int) [(0, 13, 16, 19), (0, 13, 20, 21)] := ⟨gw_t (tb_3 (List.mem_of_getElem? (i := 206) (by decide +kernel))) (by decide +kernel), wd_0, by decide, by decide⟩
theorem np_L_replace : (parseMethodDescriptor yL_replace.desc).map (fun d => d.parameters.length) = some 5 := by decide +kernel
theorem mw_L_at : MCodeW yL_at cL_at 4 (some .int) [(0, 10, 13, 19)] := ⟨gw_t (tb_3 (List.mem_of_getElem? (i := 217) (by decide +kernel))) (by decide +kernel), wd_0, by decide, by decide⟩
theorem np_L_at : (parseMethodDescriptor yL_at.desc).map (fun d => d.parameters.length) = some 3 := by decide +kernel
theorem mw_L_find : MCodeW yL_find cL_find 5 (some .int) [(0, 11, 14, 21)] := ⟨gw_t (tb_3 (List.mem_of_getElem? (i := 224) (by decide +kernel))) (by decide +kernel), wd_0, by decide, by decide⟩
theorem np_L_find : (parseMethodDescriptor yL_find.desc).map (fun d => d.parameters.length) = some 4 := by decide +kernel
theorem mw_L_splice : MCodeW yL_splice cL_splice 4 (some .int) [(0, 10, 13, 19), (0, 10, 16, 23)] := ⟨gw_t (tb_3 (List.mem_of_getElem? (i := 231) (by decide +kernel))) (by decide +kernel), wd_0, by decide, by decide⟩
theorem np_L_splice : (parseMethodDescriptor yL_splice.desc).map (fun d => d.parameters.length) = some 3 := by decide +kernel
theorem mw_L_shunt : MCodeW yL_shunt cL_shunt 5 (some .int) [(0, 11, 14, 19), (0, 11, 18, 21), (0, 11, 22, 23)] := ⟨gw_t (tb_3 (List.mem_of_getElem? (i := 238) (by decide +kernel))) (by decide +kernel), wd_0, by decide, by decide⟩
theorem np_L_shunt : (parseMethodDescriptor yL_shunt.desc).map (fun d => d.parameters.length) = some 4 := by decide +kernel
theorem mw_L_stand : MCodeW yL_stand cL_stand 5 (some .int) [(0, 11, 14, 19)] := ⟨gw_t (tb_4 (List.mem_of_getElem? (i := 8) (by decide +kernel))) (by decide +kernel), wd_0, by decide, by decide⟩
theorem np_L_stand : (parseMethodDescriptor yL_stand.desc).map (fun d => d.parameters.length) = some 4 := by decide +kernel
theorem mw_L_forth : MCodeW yL_forth cL_forth 4 (some .int) [(0, 10, 13, 19), (0, 10, 16, 23)] := ⟨gw_t (tb_4 (List.mem_of_getElem? (i := 23) (by decide +kernel))) (by decide +kernel), wd_0, by decide, by decide⟩
theorem np_L_forth : (parseMethodDescriptor yL_forth.desc).map (fun d => d.parameters.length) = some 3 := by decide +kernel
theorem mw_L_back : MCodeW yL_back cL_back 4 (some .int) [(0, 10, 13, 19), (0, 10, 16, 23)] := ⟨gw_t (tb_4 (List.mem_of_getElem? (i := 39) (by decide +kernel))) (by decide +kernel), wd_0, by decide, by decide⟩
theorem np_L_back : (parseMethodDescriptor yL_back.desc).map (fun d => d.parameters.length) = some 3 := by decide +kernel
theorem mw_L_takeHeld : MCodeW yL_takeHeld cL_takeHeld 4 (some .int) [(0, 10, 13, 19), (0, 10, 16, 23)] := ⟨gw_t (tb_4 (List.mem_of_getElem? (i := 50) (by decide +kernel))) (by decide +kernel), wd_0, by decide, by decide⟩
theorem np_L_takeHeld : (parseMethodDescriptor yL_takeHeld.desc).map (fun d => d.parameters.length) = some 3 := by decide +kernel
theorem mw_L_setHeld : MCodeW yL_setHeld cL_setHeld 6 (some .int) [(0, 13, 16, 19), (0, 13, 20, 21), (0, 13, 24, 23)] := ⟨gw_t (tb_4 (List.mem_of_getElem? (i := 70) (by decide +kernel))) (by decide +kernel), wd_0, by decide, by decide⟩
theorem np_L_setHeld : (parseMethodDescriptor yL_setHeld.desc).map (fun d => d.parameters.length) = some 5 := by decide +kernel
theorem mw_L_put : MCodeW yL_put cL_put 6 (some .int) [(0, 13, 16, 19), (0, 13, 20, 21), (0, 13, 24, 23)] := ⟨gw_t (tb_4 (List.mem_of_getElem? (i := 77) (by decide +kernel))) (by decide +kernel), wd_0, by decide, by decide⟩
theorem np_L_put : (parseMethodDescriptor yL_put.desc).map (fun d => d.parameters.length) = some 5 := by decide +kernel
theorem mw_L_where : MCodeW yL_where cL_where 5 (some .int) [(0, 11, 14, 19), (0, 11, 18, 21), (0, 11, 22, 23)] := ⟨gw_t (tb_4 (List.mem_of_getElem? (i := 88) (by decide +kernel))) (by decide +kernel), wd_0, by decide, by decide⟩
theorem np_L_where : (parseMethodDescriptor yL_where.desc).map (fun d => d.parameters.length) = some 4 := by decide +kernel
theorem mw_L_order : MCodeW yL_order cL_order 4 (some .int) [(0, 10, 13, 21), (0, 10, 16, 23)] := ⟨gw_t (tb_4 (List.mem_of_getElem? (i := 96) (by decide +kernel))) (by decide +kernel), wd_0, by decide, by decide⟩
theorem np_L_order : (parseMethodDescriptor yL_order.desc).map (fun d => d.parameters.length) = some 3 := by decide +kernel
theorem mw_L_work : MCodeW yL_work cL_work 4 (some .int) [(0, 10, 13, 21)] := ⟨gw_t (tb_4 (List.mem_of_getElem? (i := 104) (by decide +kernel))) (by decide +kernel), wd_0, by decide, by decide⟩
theorem np_L_work : (parseMethodDescriptor yL_work.desc).map (fun d => d.parameters.length) = some 3 := by decide +kernel
theorem mw_L_cancel : MCodeW yL_cancel cL_cancel 5 (some .int) [(0, 18, 21, 21)] := ⟨gw_t (tb_4 (List.mem_of_getElem? (i := 128) (by decide +kernel))) (by decide +kernel), wd_0, by decide, by decide⟩
theorem np_L_cancel : (parseMethodDescriptor yL_cancel.desc).map (fun d => d.parameters.length) = some 4 := by decide +kernel
theorem mw_L_ask : MCodeW yL_ask cL_ask 5 (some .int) [(0, 11, 14, 19), (0, 11, 18, 21)] := ⟨gw_t (tb_4 (List.mem_of_getElem? (i := 139) (by decide +kernel))) (by decide +kernel), wd_0, by decide, by decide⟩
theorem np_L_ask : (parseMethodDescriptor yL_ask.desc).map (fun d => d.parameters.length) = some 4 := by decide +kernel
theorem mw_L_ofTrack : MCodeW yL_ofTrack cL_ofTrack 5 (some .int) [(0, 11, 14, 19), (0, 11, 18, 21)] := ⟨gw_t (tb_4 (List.mem_of_getElem? (i := 146) (by decide +kernel))) (by decide +kernel), wd_0, by decide, by decide⟩
theorem np_L_ofTrack : (parseMethodDescriptor yL_ofTrack.desc).map (fun d => d.parameters.length) = some 4 := by decide +kernel
theorem mw_L_has : MCodeW yL_has cL_has 5 (some .int) [(0, 18, 21, 19), (0, 18, 25, 21)] := ⟨gw_t (tb_4 (List.mem_of_getElem? (i := 153) (by decide +kernel))) (by decide +kernel), wd_0, by decide, by decide⟩
theorem np_L_has : (parseMethodDescriptor yL_has.desc).map (fun d => d.parameters.length) = some 4 := by decide +kernel
theorem mw_L_text : MCodeW yL_text cL_text 5 (some .int) [(0, 10, 13, 19)] := ⟨gw_t (tb_4 (List.mem_of_getElem? (i := 160) (by decide +kernel))) (by decide +kernel), wd_0, by decide, by decide⟩
theorem np_L_text : (parseMethodDescriptor yL_text.desc).map (fun d => d.parameters.length) = some 4 := by decide +kernel
theorem mw_L_nested : MCodeW yL_nested cL_nested 4 (some .int) [(0, 10, 13, 19)] := ⟨gw_t (tb_5 (List.mem_of_getElem? (i := 188) (by decide +kernel))) (by decide +kernel), wd_0, by decide, by decide⟩
theorem np_L_nested : (parseMethodDescriptor yL_nested.desc).map (fun d => d.parameters.length) = some 3 := by decide +kernel
theorem mw_L_heaviest : MCodeW yL_heaviest cL_heaviest 6 (some .int) [(0, 13, 16, 19), (0, 13, 20, 21)] := ⟨gw_t (tb_5 (List.mem_of_getElem? (i := 195) (by decide +kernel))) (by decide +kernel), wd_0, by decide, by decide⟩
theorem np_L_heaviest : (parseMethodDescriptor yL_heaviest.desc).map (fun d => d.parameters.length) = some 5 := by decide +kernel
theorem mw_L_ahead : MCodeW yL_ahead cL_ahead 5 (some .int) [(0, 11, 14, 19)] := ⟨gw_t (tb_5 (List.mem_of_getElem? (i := 202) (by decide +kernel))) (by decide +kernel), wd_0, by decide, by decide⟩
theorem np_L_ahead : (parseMethodDescriptor yL_ahead.desc).map (fun d => d.parameters.length) = some 4 := by decide +kernel
theorem mw_L_yard : MCodeW yL_yard cL_yard 4 (some .int) [(0, 10, 13, 21)] := ⟨gw_t (tb_5 (List.mem_of_getElem? (i := 209) (by decide +kernel))) (by decide +kernel), wd_0, by decide, by decide⟩
theorem np_L_yard : (parseMethodDescriptor yL_yard.desc).map (fun d => d.parameters.length) = some 3 := by decide +kernel
