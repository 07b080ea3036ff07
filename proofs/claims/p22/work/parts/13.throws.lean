/-! small words of the walked functions, and the throws -/
def nm {α β : Type} (a : α) (k : α → β) : β := k a
theorem nm_at {α β : Type} {a x : α} {k : α → Option β} {r : β} (h : nm a k = some r) (e : x = a) : k x = some r := by subst e; exact h
theorem nm_ok {α β : Type} {a : α} {k : α → Option β} {r : β} (h : nm a k = some r) : ∃ x, x = a ∧ k x = some r := ⟨a, rfl, h⟩
def lpn {α β : Type} (st : (α → Option β) → α → Option β) : Nat → α → Option β
  | 0, _ => none
  | n + 1, x => st (lpn st n) x
def jmin (x y : Int32) : Int32 := if x < y then x else y
theorem hinX0 : ∀ w ∈ u_ws RX0 TX0 2, w ∈ Gw := by
  have h : ∀ w ∈ u_ws RX0 TX0 2, w ∈ lw_tbl ∧ goodWord w = true := by decide +kernel
  exact fun w hw => gw_of (h w hw).1 (h w hw).2
theorem hinX1 : ∀ w ∈ u_ws RX1 TX1 4, w ∈ Gw := by
  have h : ∀ w ∈ u_ws RX1 TX1 4, w ∈ lw_tbl ∧ goodWord w = true := by decide +kernel
  exact fun w hw => gw_of (h w hw).1 (h w hw).2
theorem hinX2 : ∀ w ∈ u_ws RX2 TX2 3, w ∈ Gw := by
  have h : ∀ w ∈ u_ws RX2 TX2 3, w ∈ lw_tbl ∧ goodWord w = true := by decide +kernel
  exact fun w hw => gw_of (h w hw).1 (h w hw).2
theorem hinX3 : ∀ w ∈ u_ws RX3 TX3 11, w ∈ Gw := by
  have h : ∀ w ∈ u_ws RX3 TX3 11, w ∈ lw_tbl ∧ goodWord w = true := by decide +kernel
  exact fun w hw => gw_of (h w hw).1 (h w hw).2
theorem hinX4 : ∀ w ∈ u_ws RX4 TX4 2, w ∈ Gw := by
  have h : ∀ w ∈ u_ws RX4 TX4 2, w ∈ lw_tbl ∧ goodWord w = true := by decide +kernel
  exact fun w hw => gw_of (h w hw).1 (h w hw).2
theorem hinX5 : ∀ w ∈ u_ws RX5 TX5 3, w ∈ Gw := by
  have h : ∀ w ∈ u_ws RX5 TX5 3, w ∈ lw_tbl ∧ goodWord w = true := by decide +kernel
  exact fun w hw => gw_of (h w hw).1 (h w hw).2
theorem hinX6 : ∀ w ∈ u_ws RX6 TX6 9, w ∈ Gw := by
  have h : ∀ w ∈ u_ws RX6 TX6 9, w ∈ lw_tbl ∧ goodWord w = true := by decide +kernel
  exact fun w hw => gw_of (h w hw).1 (h w hw).2
theorem hinJ0 : ∀ w ∈ u_ws RJ0 TJ0 4, w ∈ Gw := by
  have h : ∀ w ∈ u_ws RJ0 TJ0 4, w ∈ lw_tbl ∧ goodWord w = true := by decide +kernel
  exact fun w hw => gw_of (h w hw).1 (h w hw).2
theorem hinJ4 : ∀ w ∈ u_ws RJ4 TJ4 4, w ∈ Gw := by
  have h : ∀ w ∈ u_ws RJ4 TJ4 4, w ∈ lw_tbl ∧ goodWord w = true := by decide +kernel
  exact fun w hw => gw_of (h w hw).1 (h w hw).2
theorem hinJ6 : ∀ w ∈ u_ws RJ6 TJ6 1, w ∈ Gw := by
  have h : ∀ w ∈ u_ws RJ6 TJ6 1, w ∈ lw_tbl ∧ goodWord w = true := by decide +kernel
  exact fun w hw => gw_of (h w hw).1 (h w hw).2
theorem hinJx35411 : ∀ w ∈ u_ws RJx35411 TJx35411 4, w ∈ Gw := by
  have h : ∀ w ∈ u_ws RJx35411 TJx35411 4, w ∈ lw_tbl ∧ goodWord w = true := by decide +kernel
  exact fun w hw => gw_of (h w hw).1 (h w hw).2
theorem hinJx4a65c : ∀ w ∈ u_ws RJx4a65c TJx4a65c 3, w ∈ Gw := by
  have h : ∀ w ∈ u_ws RJx4a65c TJx4a65c 3, w ∈ lw_tbl ∧ goodWord w = true := by decide +kernel
  exact fun w hw => gw_of (h w hw).1 (h w hw).2
theorem xat_242 : ∀ w ∈ vx_atS "Twoends" 242 "java/lang/IllegalStateException" ["java/lang/RuntimeException", "java/lang/Exception"], w ∈ Gw ∨ w ∈ NwL := by
  have h : ∀ w ∈ vx_atS "Twoends" 242 "java/lang/IllegalStateException" ["java/lang/RuntimeException", "java/lang/Exception"], (goodWord w = true ∧ w ∈ lw_tbl) ∨ w ∈ NwL := by decide +kernel
  exact fun w hw => (h w hw).imp (fun q => gw_of q.2 q.1) id
theorem xgd_242 : ∀ w ∈ Cond.classLink "Twoends" 238 "java/lang/IllegalStateException" :: Cond.initialized "java/lang/IllegalStateException" :: vx_atS "Twoends" 242 "java/lang/IllegalStateException" ["java/lang/RuntimeException", "java/lang/Exception"], vx_ot w = true := by decide +kernel
theorem xat_341 : ∀ w ∈ vx_atS "Twoends" 341 "java/lang/IllegalArgumentException" ["java/lang/RuntimeException", "java/lang/Exception"], w ∈ Gw ∨ w ∈ NwL := by
  have h : ∀ w ∈ vx_atS "Twoends" 341 "java/lang/IllegalArgumentException" ["java/lang/RuntimeException", "java/lang/Exception"], (goodWord w = true ∧ w ∈ lw_tbl) ∨ w ∈ NwL := by decide +kernel
  exact fun w hw => (h w hw).imp (fun q => gw_of q.2 q.1) id
theorem xgd_341 : ∀ w ∈ Cond.classLink "Twoends" 337 "java/lang/IllegalArgumentException" :: Cond.initialized "java/lang/IllegalArgumentException" :: vx_atS "Twoends" 341 "java/lang/IllegalArgumentException" ["java/lang/RuntimeException", "java/lang/Exception"], vx_ot w = true := by decide +kernel
theorem xat_346 : ∀ w ∈ vx_atS "Twoends" 346 "java/lang/IndexOutOfBoundsException" ["java/lang/RuntimeException", "java/lang/Exception"], w ∈ Gw ∨ w ∈ NwL := by
  have h : ∀ w ∈ vx_atS "Twoends" 346 "java/lang/IndexOutOfBoundsException" ["java/lang/RuntimeException", "java/lang/Exception"], (goodWord w = true ∧ w ∈ lw_tbl) ∨ w ∈ NwL := by decide +kernel
  exact fun w hw => (h w hw).imp (fun q => gw_of q.2 q.1) id
theorem xgd_346 : ∀ w ∈ Cond.classLink "Twoends" 342 "java/lang/IndexOutOfBoundsException" :: Cond.initialized "java/lang/IndexOutOfBoundsException" :: vx_atS "Twoends" 346 "java/lang/IndexOutOfBoundsException" ["java/lang/RuntimeException", "java/lang/Exception"], vx_ot w = true := by decide +kernel
section XT
variable {p : Program} {l : Launch} {e : Env} {s : State} {m : MethodId} {args : Array Value} {below : List Frame} {meth : Method} {c : Code} {cc : ByteArray} {nL : Nat} {own : String} {H : Heap} {locs : List Loc} {cells slots : Nat} {D : va_G} {cl : List vw_C} {pc : Nat} {ls : Array Slot} {rest : List Value} {L0 : List Nat} {F : Nat → va_E} {d mc ms : Nat} {ζ : Nat → Nat}
theorem xk_throwI (S : CallFix p m c cc nL s args Gw own) (hst : l.stackTraces = false) (hW : HW D cl L0 s H locs L0 F) (hST : ST ζ (AL L0 s.heap.size) s s.heap) {post : Int32 → List Nat → (Nat → va_E) → Prop} {xp : String → Prop} {ik is ic : Nat} {cls text : String} {names : List String} (hk : Cond.classLink own ik cls ∈ Gw) (hini : Cond.initialized cls ∈ Gw) (hxs : (own, is, text) ∈ XsL) (hat : ∀ w ∈ vx_atS own ic cls names, w ∈ Gw ∨ w ∈ NwL) (hgood : ∀ w ∈ Cond.classLink own ik cls :: Cond.initialized cls :: vx_atS own ic cls names, vx_ot w = true) (hsz : ls.size = nL)
    (d0 : decode cc pc = .ok (.new ik, 3)) (d3 : decode cc (pc + 3) = .ok (.dup, 1)) (d4 : decode cc (pc + 4) = .ok (.ldc is, 2)) (d6 : decode cc (pc + 6) = .ok (.invokespecial ic, 3)) (d9 : decode cc (pc + 9) = .ok (.athrow, 1)) (hxt : ∀ x ∈ c.exceptionTable.toList, False) (hlk : meth.locks = false) (hxp : xp cls)
    (hcls : Bundle.fit cls = true) (hnames : ∀ n ∈ names, Bundle.fit n = true) (hRf : names.length + 3 < d) (hRl : (rest.map fun v => v.category).sum + (13 * (names.length + 1) + 43) ≤ 40 * d) (hc : cells + 1 ≤ mc) (hs : slots + 6 ≤ ms) :
    W p l e (Rm d mc ms) s m args below meth c H locs cells slots (ExI D cl s below args mc ms L0 F post xp) (F0 m pc ls rest) := by
  obtain ⟨sa, hsa⟩ := hST.1.2.2.2 _ hxs
  exact vx_throwS S.1 S.2.1 hst S.2.2.2.1 hcls hnames (S.2.2.2.2 _ hk) (S.2.2.2.2 _ hini) hsa (fun w hw => (hat w hw).elim (S.2.2.2.2 w) (fun q => va_Nw.use (nw_ot w q) (hST.1.1 w q))) hgood hST.1.2.1 hST.1.2.2.1 hW.2.2 (hsz.trans S.2.2.1.symm) d0 d3 d4 d6 d9 (fun x hx => (hxt x hx).elim) hRf hRl hc hs hlk
    (fun t hvm hz hq => ⟨(), trivial, ⟨hxp, hW.1.kept (fun k q hk => hq q.1 (hW.lt (pl_mem hk)))⟩, Nat.le_trans hW.2.2.1 hz, fun q hq1 hA => (hq q (Nat.lt_of_lt_of_le hq1 hW.2.2.1)).trans (hW.2.2.2.1 q hq1 hA)⟩) hW.2.2.2.2 hc hs
theorem xk_throwJ (S : CallFix p m c cc nL s args Gw own) (hst : l.stackTraces = false) (hW : HW D cl L0 s H locs L0 F) (hST : ST ζ (AL L0 s.heap.size) s s.heap) {post : Int64 → List Nat → (Nat → va_E) → Prop} {xp : String → Prop} {ik is ic : Nat} {cls text : String} {names : List String} (hk : Cond.classLink own ik cls ∈ Gw) (hini : Cond.initialized cls ∈ Gw) (hxs : (own, is, text) ∈ XsL) (hat : ∀ w ∈ vx_atS own ic cls names, w ∈ Gw ∨ w ∈ NwL) (hgood : ∀ w ∈ Cond.classLink own ik cls :: Cond.initialized cls :: vx_atS own ic cls names, vx_ot w = true) (hsz : ls.size = nL)
    (d0 : decode cc pc = .ok (.new ik, 3)) (d3 : decode cc (pc + 3) = .ok (.dup, 1)) (d4 : decode cc (pc + 4) = .ok (.ldc is, 2)) (d6 : decode cc (pc + 6) = .ok (.invokespecial ic, 3)) (d9 : decode cc (pc + 9) = .ok (.athrow, 1)) (hxt : ∀ x ∈ c.exceptionTable.toList, False) (hlk : meth.locks = false) (hxp : xp cls)
    (hcls : Bundle.fit cls = true) (hnames : ∀ n ∈ names, Bundle.fit n = true) (hRf : names.length + 3 < d) (hRl : (rest.map fun v => v.category).sum + (13 * (names.length + 1) + 43) ≤ 40 * d) (hc : cells + 1 ≤ mc) (hs : slots + 6 ≤ ms) :
    W p l e (Rm d mc ms) s m args below meth c H locs cells slots (ExJ D cl s below args mc ms L0 F post xp) (F0 m pc ls rest) := by
  obtain ⟨sa, hsa⟩ := hST.1.2.2.2 _ hxs
  exact vx_throwS S.1 S.2.1 hst S.2.2.2.1 hcls hnames (S.2.2.2.2 _ hk) (S.2.2.2.2 _ hini) hsa (fun w hw => (hat w hw).elim (S.2.2.2.2 w) (fun q => va_Nw.use (nw_ot w q) (hST.1.1 w q))) hgood hST.1.2.1 hST.1.2.2.1 hW.2.2 (hsz.trans S.2.2.1.symm) d0 d3 d4 d6 d9 (fun x hx => (hxt x hx).elim) hRf hRl hc hs hlk
    (fun t hvm hz hq => ⟨(), trivial, ⟨hxp, hW.1.kept (fun k q hk => hq q.1 (hW.lt (pl_mem hk)))⟩, Nat.le_trans hW.2.2.1 hz, fun q hq1 hA => (hq q (Nat.lt_of_lt_of_le hq1 hW.2.2.1)).trans (hW.2.2.2.1 q hq1 hA)⟩) hW.2.2.2.2 hc hs
theorem xk_throwV (S : CallFix p m c cc nL s args Gw own) (hst : l.stackTraces = false) (hW : HW D cl L0 s H locs L0 F) (hST : ST ζ (AL L0 s.heap.size) s s.heap) {post : List Nat → (Nat → va_E) → Prop} {xp : String → Prop} {ik is ic : Nat} {cls text : String} {names : List String} (hk : Cond.classLink own ik cls ∈ Gw) (hini : Cond.initialized cls ∈ Gw) (hxs : (own, is, text) ∈ XsL) (hat : ∀ w ∈ vx_atS own ic cls names, w ∈ Gw ∨ w ∈ NwL) (hgood : ∀ w ∈ Cond.classLink own ik cls :: Cond.initialized cls :: vx_atS own ic cls names, vx_ot w = true) (hsz : ls.size = nL)
    (d0 : decode cc pc = .ok (.new ik, 3)) (d3 : decode cc (pc + 3) = .ok (.dup, 1)) (d4 : decode cc (pc + 4) = .ok (.ldc is, 2)) (d6 : decode cc (pc + 6) = .ok (.invokespecial ic, 3)) (d9 : decode cc (pc + 9) = .ok (.athrow, 1)) (hxt : ∀ x ∈ c.exceptionTable.toList, False) (hlk : meth.locks = false) (hxp : xp cls)
    (hcls : Bundle.fit cls = true) (hnames : ∀ n ∈ names, Bundle.fit n = true) (hRf : names.length + 3 < d) (hRl : (rest.map fun v => v.category).sum + (13 * (names.length + 1) + 43) ≤ 40 * d) (hc : cells + 1 ≤ mc) (hs : slots + 6 ≤ ms) :
    W p l e (Rm d mc ms) s m args below meth c H locs cells slots (ExV D cl s below args mc ms L0 F post xp) (F0 m pc ls rest) := by
  obtain ⟨sa, hsa⟩ := hST.1.2.2.2 _ hxs
  exact vx_throwS S.1 S.2.1 hst S.2.2.2.1 hcls hnames (S.2.2.2.2 _ hk) (S.2.2.2.2 _ hini) hsa (fun w hw => (hat w hw).elim (S.2.2.2.2 w) (fun q => va_Nw.use (nw_ot w q) (hST.1.1 w q))) hgood hST.1.2.1 hST.1.2.2.1 hW.2.2 (hsz.trans S.2.2.1.symm) d0 d3 d4 d6 d9 (fun x hx => (hxt x hx).elim) hRf hRl hc hs hlk
    (fun t hvm hz hq => ⟨(), trivial, ⟨hxp, hW.1.kept (fun k q hk => hq q.1 (hW.lt (pl_mem hk)))⟩, Nat.le_trans hW.2.2.1 hz, fun q hq1 hA => (hq q (Nat.lt_of_lt_of_le hq1 hW.2.2.1)).trans (hW.2.2.2.1 q hq1 hA)⟩) hW.2.2.2.2 hc hs
theorem xk_throwR (S : CallFix p m c cc nL s args Gw own) (hst : l.stackTraces = false) (hW : HW D cl L0 s H locs L0 F) (hST : ST ζ (AL L0 s.heap.size) s s.heap) {post : Nat → List Nat → (Nat → va_E) → Prop} {xp : String → Prop} {ik is ic : Nat} {cls text : String} {names : List String} (hk : Cond.classLink own ik cls ∈ Gw) (hini : Cond.initialized cls ∈ Gw) (hxs : (own, is, text) ∈ XsL) (hat : ∀ w ∈ vx_atS own ic cls names, w ∈ Gw ∨ w ∈ NwL) (hgood : ∀ w ∈ Cond.classLink own ik cls :: Cond.initialized cls :: vx_atS own ic cls names, vx_ot w = true) (hsz : ls.size = nL)
    (d0 : decode cc pc = .ok (.new ik, 3)) (d3 : decode cc (pc + 3) = .ok (.dup, 1)) (d4 : decode cc (pc + 4) = .ok (.ldc is, 2)) (d6 : decode cc (pc + 6) = .ok (.invokespecial ic, 3)) (d9 : decode cc (pc + 9) = .ok (.athrow, 1)) (hxt : ∀ x ∈ c.exceptionTable.toList, False) (hlk : meth.locks = false) (hxp : xp cls)
    (hcls : Bundle.fit cls = true) (hnames : ∀ n ∈ names, Bundle.fit n = true) (hRf : names.length + 3 < d) (hRl : (rest.map fun v => v.category).sum + (13 * (names.length + 1) + 43) ≤ 40 * d) (hc : cells + 1 ≤ mc) (hs : slots + 6 ≤ ms) :
    W p l e (Rm d mc ms) s m args below meth c H locs cells slots (ExR D cl s below args mc ms L0 F post xp) (F0 m pc ls rest) := by
  obtain ⟨sa, hsa⟩ := hST.1.2.2.2 _ hxs
  exact vx_throwS S.1 S.2.1 hst S.2.2.2.1 hcls hnames (S.2.2.2.2 _ hk) (S.2.2.2.2 _ hini) hsa (fun w hw => (hat w hw).elim (S.2.2.2.2 w) (fun q => va_Nw.use (nw_ot w q) (hST.1.1 w q))) hgood hST.1.2.1 hST.1.2.2.1 hW.2.2 (hsz.trans S.2.2.1.symm) d0 d3 d4 d6 d9 (fun x hx => (hxt x hx).elim) hRf hRl hc hs hlk
    (fun t hvm hz hq => ⟨(), trivial, ⟨hxp, hW.1.kept (fun k q hk => hq q.1 (hW.lt (pl_mem hk)))⟩, Nat.le_trans hW.2.2.1 hz, fun q hq1 hA => (hq q (Nat.lt_of_lt_of_le hq1 hW.2.2.1)).trans (hW.2.2.2.1 q hq1 hA)⟩) hW.2.2.2.2 hc hs
theorem xk_throwWI (S : CallFix p m c cc nL s args Gw own) (hst : l.stackTraces = false) (hW : HW D cl L0 s H locs L0 F) (hST : ST ζ (AL L0 s.heap.size) s s.heap) {post : Int32 → List Nat → (Nat → va_E) → Prop} {xp : String → Prop} {ik is ic : Nat} {cls text : String} {names : List String} (hk : Cond.classLink own ik cls ∈ Gw) (hini : Cond.initialized cls ∈ Gw) (hxs : (own, is, text) ∈ XsL) (hat : ∀ w ∈ vx_atS own ic cls names, w ∈ Gw ∨ w ∈ NwL) (hgood : ∀ w ∈ Cond.classLink own ik cls :: Cond.initialized cls :: vx_atS own ic cls names, vx_ot w = true) (hsz : ls.size = nL)
    (d0 : decode cc pc = .ok (.new ik, 3)) (d3 : decode cc (pc + 3) = .ok (.dup, 1)) (d4 : decode cc (pc + 4) = .ok (.ldc_w is, 3)) (d6 : decode cc (pc + 7) = .ok (.invokespecial ic, 3)) (d9 : decode cc (pc + 10) = .ok (.athrow, 1)) (hxt : ∀ x ∈ c.exceptionTable.toList, False) (hlk : meth.locks = false) (hxp : xp cls)
    (hcls : Bundle.fit cls = true) (hnames : ∀ n ∈ names, Bundle.fit n = true) (hRf : names.length + 3 < d) (hRl : (rest.map fun v => v.category).sum + (13 * (names.length + 1) + 43) ≤ 40 * d) (hc : cells + 1 ≤ mc) (hs : slots + 6 ≤ ms) :
    W p l e (Rm d mc ms) s m args below meth c H locs cells slots (ExI D cl s below args mc ms L0 F post xp) (F0 m pc ls rest) := by
  obtain ⟨sa, hsa⟩ := hST.1.2.2.2 _ hxs
  exact vx_throwSW S.1 S.2.1 hst S.2.2.2.1 hcls hnames (S.2.2.2.2 _ hk) (S.2.2.2.2 _ hini) hsa (fun w hw => (hat w hw).elim (S.2.2.2.2 w) (fun q => va_Nw.use (nw_ot w q) (hST.1.1 w q))) hgood hST.1.2.1 hST.1.2.2.1 hW.2.2 (hsz.trans S.2.2.1.symm) d0 d3 d4 d6 d9 (fun x hx => (hxt x hx).elim) hRf hRl hc hs hlk
    (fun t hvm hz hq => ⟨(), trivial, ⟨hxp, hW.1.kept (fun k q hk => hq q.1 (hW.lt (pl_mem hk)))⟩, Nat.le_trans hW.2.2.1 hz, fun q hq1 hA => (hq q (Nat.lt_of_lt_of_le hq1 hW.2.2.1)).trans (hW.2.2.2.1 q hq1 hA)⟩) hW.2.2.2.2 hc hs
theorem xk_throwWJ (S : CallFix p m c cc nL s args Gw own) (hst : l.stackTraces = false) (hW : HW D cl L0 s H locs L0 F) (hST : ST ζ (AL L0 s.heap.size) s s.heap) {post : Int64 → List Nat → (Nat → va_E) → Prop} {xp : String → Prop} {ik is ic : Nat} {cls text : String} {names : List String} (hk : Cond.classLink own ik cls ∈ Gw) (hini : Cond.initialized cls ∈ Gw) (hxs : (own, is, text) ∈ XsL) (hat : ∀ w ∈ vx_atS own ic cls names, w ∈ Gw ∨ w ∈ NwL) (hgood : ∀ w ∈ Cond.classLink own ik cls :: Cond.initialized cls :: vx_atS own ic cls names, vx_ot w = true) (hsz : ls.size = nL)
    (d0 : decode cc pc = .ok (.new ik, 3)) (d3 : decode cc (pc + 3) = .ok (.dup, 1)) (d4 : decode cc (pc + 4) = .ok (.ldc_w is, 3)) (d6 : decode cc (pc + 7) = .ok (.invokespecial ic, 3)) (d9 : decode cc (pc + 10) = .ok (.athrow, 1)) (hxt : ∀ x ∈ c.exceptionTable.toList, False) (hlk : meth.locks = false) (hxp : xp cls)
    (hcls : Bundle.fit cls = true) (hnames : ∀ n ∈ names, Bundle.fit n = true) (hRf : names.length + 3 < d) (hRl : (rest.map fun v => v.category).sum + (13 * (names.length + 1) + 43) ≤ 40 * d) (hc : cells + 1 ≤ mc) (hs : slots + 6 ≤ ms) :
    W p l e (Rm d mc ms) s m args below meth c H locs cells slots (ExJ D cl s below args mc ms L0 F post xp) (F0 m pc ls rest) := by
  obtain ⟨sa, hsa⟩ := hST.1.2.2.2 _ hxs
  exact vx_throwSW S.1 S.2.1 hst S.2.2.2.1 hcls hnames (S.2.2.2.2 _ hk) (S.2.2.2.2 _ hini) hsa (fun w hw => (hat w hw).elim (S.2.2.2.2 w) (fun q => va_Nw.use (nw_ot w q) (hST.1.1 w q))) hgood hST.1.2.1 hST.1.2.2.1 hW.2.2 (hsz.trans S.2.2.1.symm) d0 d3 d4 d6 d9 (fun x hx => (hxt x hx).elim) hRf hRl hc hs hlk
    (fun t hvm hz hq => ⟨(), trivial, ⟨hxp, hW.1.kept (fun k q hk => hq q.1 (hW.lt (pl_mem hk)))⟩, Nat.le_trans hW.2.2.1 hz, fun q hq1 hA => (hq q (Nat.lt_of_lt_of_le hq1 hW.2.2.1)).trans (hW.2.2.2.1 q hq1 hA)⟩) hW.2.2.2.2 hc hs
theorem xk_throwWV (S : CallFix p m c cc nL s args Gw own) (hst : l.stackTraces = false) (hW : HW D cl L0 s H locs L0 F) (hST : ST ζ (AL L0 s.heap.size) s s.heap) {post : List Nat → (Nat → va_E) → Prop} {xp : String → Prop} {ik is ic : Nat} {cls text : String} {names : List String} (hk : Cond.classLink own ik cls ∈ Gw) (hini : Cond.initialized cls ∈ Gw) (hxs : (own, is, text) ∈ XsL) (hat : ∀ w ∈ vx_atS own ic cls names, w ∈ Gw ∨ w ∈ NwL) (hgood : ∀ w ∈ Cond.classLink own ik cls :: Cond.initialized cls :: vx_atS own ic cls names, vx_ot w = true) (hsz : ls.size = nL)
    (d0 : decode cc pc = .ok (.new ik, 3)) (d3 : decode cc (pc + 3) = .ok (.dup, 1)) (d4 : decode cc (pc + 4) = .ok (.ldc_w is, 3)) (d6 : decode cc (pc + 7) = .ok (.invokespecial ic, 3)) (d9 : decode cc (pc + 10) = .ok (.athrow, 1)) (hxt : ∀ x ∈ c.exceptionTable.toList, False) (hlk : meth.locks = false) (hxp : xp cls)
    (hcls : Bundle.fit cls = true) (hnames : ∀ n ∈ names, Bundle.fit n = true) (hRf : names.length + 3 < d) (hRl : (rest.map fun v => v.category).sum + (13 * (names.length + 1) + 43) ≤ 40 * d) (hc : cells + 1 ≤ mc) (hs : slots + 6 ≤ ms) :
    W p l e (Rm d mc ms) s m args below meth c H locs cells slots (ExV D cl s below args mc ms L0 F post xp) (F0 m pc ls rest) := by
  obtain ⟨sa, hsa⟩ := hST.1.2.2.2 _ hxs
  exact vx_throwSW S.1 S.2.1 hst S.2.2.2.1 hcls hnames (S.2.2.2.2 _ hk) (S.2.2.2.2 _ hini) hsa (fun w hw => (hat w hw).elim (S.2.2.2.2 w) (fun q => va_Nw.use (nw_ot w q) (hST.1.1 w q))) hgood hST.1.2.1 hST.1.2.2.1 hW.2.2 (hsz.trans S.2.2.1.symm) d0 d3 d4 d6 d9 (fun x hx => (hxt x hx).elim) hRf hRl hc hs hlk
    (fun t hvm hz hq => ⟨(), trivial, ⟨hxp, hW.1.kept (fun k q hk => hq q.1 (hW.lt (pl_mem hk)))⟩, Nat.le_trans hW.2.2.1 hz, fun q hq1 hA => (hq q (Nat.lt_of_lt_of_le hq1 hW.2.2.1)).trans (hW.2.2.2.1 q hq1 hA)⟩) hW.2.2.2.2 hc hs
theorem xk_throwWR (S : CallFix p m c cc nL s args Gw own) (hst : l.stackTraces = false) (hW : HW D cl L0 s H locs L0 F) (hST : ST ζ (AL L0 s.heap.size) s s.heap) {post : Nat → List Nat → (Nat → va_E) → Prop} {xp : String → Prop} {ik is ic : Nat} {cls text : String} {names : List String} (hk : Cond.classLink own ik cls ∈ Gw) (hini : Cond.initialized cls ∈ Gw) (hxs : (own, is, text) ∈ XsL) (hat : ∀ w ∈ vx_atS own ic cls names, w ∈ Gw ∨ w ∈ NwL) (hgood : ∀ w ∈ Cond.classLink own ik cls :: Cond.initialized cls :: vx_atS own ic cls names, vx_ot w = true) (hsz : ls.size = nL)
    (d0 : decode cc pc = .ok (.new ik, 3)) (d3 : decode cc (pc + 3) = .ok (.dup, 1)) (d4 : decode cc (pc + 4) = .ok (.ldc_w is, 3)) (d6 : decode cc (pc + 7) = .ok (.invokespecial ic, 3)) (d9 : decode cc (pc + 10) = .ok (.athrow, 1)) (hxt : ∀ x ∈ c.exceptionTable.toList, False) (hlk : meth.locks = false) (hxp : xp cls)
    (hcls : Bundle.fit cls = true) (hnames : ∀ n ∈ names, Bundle.fit n = true) (hRf : names.length + 3 < d) (hRl : (rest.map fun v => v.category).sum + (13 * (names.length + 1) + 43) ≤ 40 * d) (hc : cells + 1 ≤ mc) (hs : slots + 6 ≤ ms) :
    W p l e (Rm d mc ms) s m args below meth c H locs cells slots (ExR D cl s below args mc ms L0 F post xp) (F0 m pc ls rest) := by
  obtain ⟨sa, hsa⟩ := hST.1.2.2.2 _ hxs
  exact vx_throwSW S.1 S.2.1 hst S.2.2.2.1 hcls hnames (S.2.2.2.2 _ hk) (S.2.2.2.2 _ hini) hsa (fun w hw => (hat w hw).elim (S.2.2.2.2 w) (fun q => va_Nw.use (nw_ot w q) (hST.1.1 w q))) hgood hST.1.2.1 hST.1.2.2.1 hW.2.2 (hsz.trans S.2.2.1.symm) d0 d3 d4 d6 d9 (fun x hx => (hxt x hx).elim) hRf hRl hc hs hlk
    (fun t hvm hz hq => ⟨(), trivial, ⟨hxp, hW.1.kept (fun k q hk => hq q.1 (hW.lt (pl_mem hk)))⟩, Nat.le_trans hW.2.2.1 hz, fun q hq1 hA => (hq q (Nat.lt_of_lt_of_le hq1 hW.2.2.1)).trans (hW.2.2.2.1 q hq1 hA)⟩) hW.2.2.2.2 hc hs
end XT
