/-! areSlips() -/
section CKf
variable {p : Program} {l : Launch} {e : Env} {R : Room} {s : State} {m : MethodId} {args : Array Value} {below : List Frame} {meth : Method} {c : Code} {cc : ByteArray} {nL : Nat} {own : String} {H : Heap} {locs : List Loc} {cells slots : Nat} {Q : State → Prop} {D : va_G} {cl : List vw_C} {tys : List (ClassId × FieldType)} {ζ : Nat → Nat} {pc : Nat} {ls : Array Slot} {rest st0 : List Value} {L0 L : List Nat} {F : Nat → va_E} {y : MethodName} {bytes : ByteArray} {n d mc ms index np : Nat} {rt : Option FieldType} {As : List Value}
theorem pk_cFI (S : CallFix p m c cc nL s args Gw own) (hK : va_K D cl tys s) (hST : ST ζ (AL L0 s.heap.size) s s.heap) (hW : HW D cl L0 s H locs L F) {post : Int32 → List Nat → (Nat → va_E) → Prop} {b ci : Nat} {fs : List Value} {r0 : vw_C} (hM : MtI l D cl tys ζ y bytes n rt d mc ms (.ref b :: As) L F post) (hcd : MCode y bytes n rt) {x : MethodName} {count : Nat} (hlink : Cond.methodLink own index x ∈ Gw) (hin : Cond.instanceMethod y ∈ Gw) (hsel : Cond.selects r0.1 x y ∈ Gw) (hF : va_Fw r0.1 x y s) (hxc : x.cls ≠ "java/lang/invoke/MethodHandle" ∧ x.cls ≠ "java/lang/invoke/VarHandle") (hnp : (parseMethodDescriptor x.desc).map (fun d => d.parameters.length) = some np) (hb : b ∈ L) (he : F b = .inr (ci, fs)) (hc : cl[ci]? = some r0) (hlen : As.length = np) (hsize : ls.size = nL) (hstk : st0 = As.reverse ++ .ref b :: rest) (hcat : (rest.map fun v => v.category).sum ≤ 8) (hdg : decode cc pc = .ok (.invokeinterface index count, 5)) (hR : d + 1 ≤ R.frames ∧ 8 + (n + 11) + 40 * d ≤ R.locals) (hf : cells + mc ≤ R.cells ∧ slots + ms ≤ R.slots)
    (kk : ∀ (r : Int32) (L1 : List Nat) (F1 : Nat → va_E) (H1 : Heap) (locs1 : List Loc), post r L1 F1 → HW D cl L0 s H1 locs1 L1 F1 → W p l e R s m args below meth c H1 locs1 (cells + mc) (slots + ms) Q (F0 m (pc + 5) ls (.int r :: rest))) : W p l e R s m args below meth c H locs cells slots Q (F0 m pc ls st0) := by
  exact va_callFi (va_runF (As := As) (rest := rest) (hK.1 _ _ hc).2 S (hM H.size) (va_cwF np S.2.2.2.2 (gw_cons (pre := [.methodLink own index x, .selects r0.1 x y, .instanceMethod y, .initialized y.cls]) hcd (List.forall_mem_cons.mpr ⟨hlink, List.forall_mem_cons.mpr ⟨hsel, List.forall_mem_cons.mpr ⟨hin, List.forall_mem_cons.mpr ⟨hcd.2.1, fun _ h => absurd h List.not_mem_nil⟩⟩⟩⟩)) rfl rfl rfl hF ⟨hxc.1, hxc.2, hnp⟩ hR) ⟨PrC.blind, pk_recv hK hW hb he hc, fun U hU hWm => ⟨rfl, PrC.of hK hW hST hU hWm⟩⟩ rfl hlen hsize hstk (lv_room hcat) hdg hf) hW.2.2 (fun q _ h => hW.sub q h) hW.sub (fun r u t H1 locs1 ht hvm hp hB hz hk hS1 => kk r u.1 u.2 H1 locs1 hp (hW.after (sz := 0) ht hB hS1))
theorem pk_cFR (S : CallFix p m c cc nL s args Gw own) (hK : va_K D cl tys s) (hST : ST ζ (AL L0 s.heap.size) s s.heap) (hW : HW D cl L0 s H locs L F) {post : Nat → List Nat → (Nat → va_E) → Prop} {b ci : Nat} {fs : List Value} {r0 : vw_C} (hM : MtR l D cl tys ζ y bytes n rt d mc ms (.ref b :: As) L F post) (hcd : MCode y bytes n rt) {x : MethodName} {count : Nat} (hlink : Cond.methodLink own index x ∈ Gw) (hin : Cond.instanceMethod y ∈ Gw) (hsel : Cond.selects r0.1 x y ∈ Gw) (hF : va_Fw r0.1 x y s) (hxc : x.cls ≠ "java/lang/invoke/MethodHandle" ∧ x.cls ≠ "java/lang/invoke/VarHandle") (hnp : (parseMethodDescriptor x.desc).map (fun d => d.parameters.length) = some np) (hb : b ∈ L) (he : F b = .inr (ci, fs)) (hc : cl[ci]? = some r0) (hlen : As.length = np) (hsize : ls.size = nL) (hstk : st0 = As.reverse ++ .ref b :: rest) (hcat : (rest.map fun v => v.category).sum ≤ 8) (hdg : decode cc pc = .ok (.invokeinterface index count, 5)) (hR : d + 1 ≤ R.frames ∧ 8 + (n + 11) + 40 * d ≤ R.locals) (hf : cells + mc ≤ R.cells ∧ slots + ms ≤ R.slots)
    (kk : ∀ (r : Nat) (L1 : List Nat) (F1 : Nat → va_E) (H1 : Heap) (locs1 : List Loc), post r L1 F1 → HW D cl L0 s H1 locs1 L1 F1 → W p l e R s m args below meth c H1 locs1 (cells + mc) (slots + ms) Q (F0 m (pc + 5) ls (.ref r :: rest))) : W p l e R s m args below meth c H locs cells slots Q (F0 m pc ls st0) := by
  exact va_callFr (va_runF (As := As) (rest := rest) (hK.1 _ _ hc).2 S (hM H.size) (va_cwF np S.2.2.2.2 (gw_cons (pre := [.methodLink own index x, .selects r0.1 x y, .instanceMethod y, .initialized y.cls]) hcd (List.forall_mem_cons.mpr ⟨hlink, List.forall_mem_cons.mpr ⟨hsel, List.forall_mem_cons.mpr ⟨hin, List.forall_mem_cons.mpr ⟨hcd.2.1, fun _ h => absurd h List.not_mem_nil⟩⟩⟩⟩)) rfl rfl rfl hF ⟨hxc.1, hxc.2, hnp⟩ hR) ⟨PrC.blind, pk_recv hK hW hb he hc, fun U hU hWm => ⟨rfl, PrC.of hK hW hST hU hWm⟩⟩ rfl hlen hsize hstk (lv_room hcat) hdg hf) hW.2.2 (fun q _ h => hW.sub q h) hW.sub (fun u r t H1 locs1 ht hvm hp hB hz hk hS1 => kk r u.1 u.2 H1 locs1 hB.1 (hW.after (sz := 0) ht hB.2 hS1))
end CKf
theorem MI.li {κ : Nat → ClassId} {ζ : Nat → Nat} {B : Nat → Nat} {τ : MS} {L : List Nat} {F : Nat → va_E} (hI : MI κ ζ B τ L F) {j : Nat} (hj : j < 4) : ∃ ar, LI κ ζ (B (3 + j)) ar (τ.1 j) L F := by
  obtain ⟨ar, h, -⟩ := hI.list hj
  exact ⟨ar, h⟩
theorem LI.keep0 {κ : Nat → ClassId} {ζ : Nat → Nat} {h ar : Nat} {xs : List Int32} {L L' : List Nat} {F F' : Nat → va_E} (hI : LI κ ζ h ar xs L F) (hsub : ∀ x ∈ L, x ∈ L') (hfr : ∀ x ∈ L, F' x = F x) : LI κ ζ h ar xs L' F' :=
  hI.keep hsub (hfr _ hI.obj.1) (fun ha => hfr _ ha) (fun _ _ hb => hb.keep0 hsub hfr)
theorem RA.keep0 {κ : Nat → ClassId} {h ar n : Nat} {f : Nat → Option Nat} {md sz : Int32} {L L' : List Nat} {F F' : Nat → va_E} (hR : RA κ h ar n f md sz L F) (hsub : ∀ x ∈ L, x ∈ L') (hfr : ∀ x ∈ L, F' x = F x) : RA κ h ar n f md sz L' F' :=
  ⟨hsub _ hR.1, (hfr _ hR.1).trans hR.2.1, hsub _ hR.2.2.1, hR.2.2.2.1, (hfr _ hR.2.2.1).trans hR.2.2.2.2⟩
theorem LI.elem {κ : Nat → ClassId} {ζ : Nat → Nat} {h ar : Nat} {xs : List Int32} {L : List Nat} {F : Nat → va_E} (hI : LI κ ζ h ar xs L F) : ∃ md : Int32, F h = .inr (4, [.int md, .ref ar, .int (nI xs.length)]) ∧ ∀ j, j < xs.length → ∃ (n : Nat) (f : Nat → Option Nat) (y : Nat), RA κ h ar n f md (nI xs.length) L F ∧ xs.length ≤ n ∧ n ≤ 32 ∧ f j = some y ∧ bx ζ L F y (xs.getD j 0) := by
  obtain ⟨n, f, md, h1, h2, h3, h4, h5, h6⟩ := hI
  refine ⟨md, h2, fun j hj => ?_⟩
  obtain ⟨y, hy, hb⟩ := h6 j hj
  rcases h3 with ⟨a, b, c, d⟩ | ⟨a, b⟩
  · exact ⟨n, f, y, ⟨h1, h2, a, b, c⟩, h4, h5, hy, hb⟩
  · omega
theorem LI.lenEq {κ : Nat → ClassId} {ζ : Nat → Nat} {h ar ar' : Nat} {xs ys : List Int32} {L : List Nat} {F : Nat → va_E} (h1 : LI κ ζ h ar xs L F) (h2 : LI κ ζ h ar' ys L F) : ys.length = xs.length := by
  obtain ⟨m1, md1, e1⟩ := h1.obj
  obtain ⟨m2, md2, e2⟩ := h2.obj
  have l1 := h1.le
  have l2 := h2.le
  rw [e1] at e2
  injection e2 with e3
  injection e3 with _ e4
  injection e4 with _ e5
  injection e5 with _ e6
  injection e6 with e7 _
  injection e7 with e8
  exact ((nI_eq (by omega) (by omega)).mp e8).symm
def isIt (e : va_E) : Prop := ∃ w : List Value, e = .inr (3, w)
/-- the paper: a new list of m new lists, that hold b j; nothing of it is of the pool Lo -/
def PW (κ : Nat → ClassId) (ζ : Nat → Nat) (Lo : List Nat) (pl pa : Nat) (p : Nat → Nat) (m : Nat) (b : Nat → List Int32) (L : List Nat) (F : Nat → va_E) : Prop :=
  pl ∈ L ∧ pl ∉ Lo ∧ (∃ md : Int32, F pl = .inr (4, [.int md, .ref pa, .int (nI m)])) ∧ pa ∈ L ∧ pa ∉ Lo ∧ (∃ f, F pa = rfA (κ 3) 10 f ∧ ∀ j, j < m → f j = some (p j)) ∧ ζ 256 ∉ L ∧ (∀ i j, i < m → j < m → p i = p j → i = j) ∧
  ∃ ar : Nat → Nat, (∀ j, j < m → p j ∉ Lo ∧ p j ≠ pl ∧ (∃ xs, xs = b j ∧ LI κ ζ (p j) (ar j) xs L F) ∧ (ar j ∈ L → ar j ∉ Lo) ∧ ar j ≠ pa) ∧ ∀ i j, i < m → j < m → ar i = ar j → ar i ∈ L → i = j
section PWs
variable {κ : Nat → ClassId} {ζ : Nat → Nat} {Lo : List Nat} {pl pa : Nat} {p : Nat → Nat} {m : Nat} {b : Nat → List Int32} {L L' : List Nat} {F F' : Nat → va_E}
theorem PW.keep (h : PW κ ζ Lo pl pa p m b L F) (hsub : ∀ x ∈ L, x ∈ L') (hfr : ∀ x ∈ L, ¬ isIt (F x) → F' x = F x) (hz : ζ 256 ∉ L') : PW κ ζ Lo pl pa p m b L' F' := by
  obtain ⟨h1, h2, ⟨md, h3⟩, h4, h5, ⟨f, h6, h6a⟩, h7, h8, ar, h9, h10⟩ := h
  refine ⟨hsub _ h1, h2, ⟨md, (hfr _ h1 (by rw [h3]; rintro ⟨w, hw⟩; cases hw)).trans h3⟩, hsub _ h4, h5, ⟨f, (hfr _ h4 (by rw [h6]; rintro ⟨w, hw⟩; cases hw)).trans h6, h6a⟩, hz, h8, ar, fun j hj => ?_, fun i j hi hj e ha => ?_⟩
  · obtain ⟨a1, a2, ⟨xs, a3, a4⟩, a5, a6⟩ := h9 j hj
    have ha4 := a4
    obtain ⟨mo, mdj, ej⟩ := a4.obj
    refine ⟨a1, a2, ⟨xs, a3, a4.keep hsub (hfr _ mo (by rw [ej]; rintro ⟨w, hw⟩; cases hw)) (fun ha => hfr _ ha ?_) (fun y v hb => ?_)⟩, fun hL' => ?_, a6⟩
    · obtain ⟨n, f9, md9, c1, c2, c3, -⟩ := ha4
      rcases c3 with ⟨a, _, c, _⟩ | ⟨a, _⟩
      · rw [c]; rintro ⟨w, hw⟩; cases hw
      · exact absurd (a ▸ ha) h7
    · rcases hb with ⟨b1, b2⟩ | hb
      · exact Or.inl ⟨hsub _ b1, (hfr _ b1 (by rw [b2]; rintro ⟨w, hw⟩; cases hw)).trans b2⟩
      · exact Or.inr hb
    · obtain ⟨n, f9, md9, c1, c2, c3, -⟩ := ha4
      rcases c3 with ⟨a, _⟩ | ⟨a, _⟩
      · exact a5 a
      · exact absurd (a ▸ hL') hz
  · by_cases hL : ar i ∈ L
    · exact h10 i j hi hj e hL
    · exfalso
      obtain ⟨-, -, ⟨xs, -, a4⟩, -, -⟩ := h9 i hi
      obtain ⟨n, f9, md9, c1, c2, c3, -⟩ := a4
      rcases c3 with ⟨a, _⟩ | ⟨a, _⟩
      · exact hL a
      · exact hz (a ▸ ha)
theorem PW.row (h : PW κ ζ Lo pl pa p m b L F) {j : Nat} (hj : j < m) : ∃ ar xs, xs = b j ∧ LI κ ζ (p j) ar xs L F ∧ ∀ (ar' : Nat) (xs' : List Int32) (L' : List Nat) (F' : Nat → va_E) (b' : List Int32), (∀ x ∈ Lo, x ∈ L) → LI κ ζ (p j) ar' xs' L' F' → FrN (p j) ar ar' L F L' F' → ζ 256 ∉ L' → xs' = b' → PW κ ζ Lo pl pa p m (va_up b j b') L' F' ∧ (∀ x ∈ L, x ∈ L') ∧ ∀ x ∈ Lo, F' x = F x := by
  obtain ⟨h1, h2, ⟨md, h3⟩, h4, h5, ⟨f, h6, h6a⟩, h7, h8, ar, h9, h10⟩ := h
  obtain ⟨r1, r2, ⟨xs, r3, r4⟩, r5, r6⟩ := h9 j hj
  refine ⟨ar j, xs, r3, r4, fun ar' xs' L' F' b' hso hL hF hz hb' => ?_⟩
  obtain ⟨hsub, hfr, har⟩ := hF
  obtain ⟨mo, mdj, ej⟩ := r4.obj
  have hisA : ∀ i, i < m → ar i ∈ L → ∃ n f, F (ar i) = rfA (κ 3) n f := by
    intro i hi ha
    obtain ⟨-, -, ⟨ys, -, a4⟩, -, -⟩ := h9 i hi
    obtain ⟨n, f9, md9, c1, c2, c3, -⟩ := a4
    rcases c3 with ⟨a, _, c, _⟩ | ⟨a, _⟩
    · exact ⟨n, f9, c⟩
    · exact absurd (a ▸ ha) h7
  have hobj : ∀ (x : Nat) (w : Nat × List Value), x ∈ L → F x = .inr w → x ≠ ar j := by
    intro x w hx he e
    obtain ⟨n, f9, hf9⟩ := hisA j hj (e ▸ hx)
    rw [← e, he] at hf9
    cases hf9
  have hbx : ∀ y v, bx ζ L F y v → bx ζ L' F' y v := by
    intro y v hb
    rcases hb with ⟨b1, b2⟩ | hb
    · exact Or.inl ⟨hsub _ b1, (hfr _ b1 (fun e => by rw [e, ej] at b2; cases b2) (hobj _ _ b1 b2)).trans b2⟩
    · exact Or.inr hb
  have hnewo : ar' ∈ L' → ar' ∉ Lo := by
    intro h hlo
    rcases har with e | ⟨e, -⟩
    · exact r5 (e ▸ hso _ hlo) (e ▸ hlo)
    · exact e (hso _ hlo)
  have hnewp : ar' ≠ pa := by
    rcases har with e | ⟨e, -⟩
    · rw [e]; exact r6
    · exact fun q => e (q ▸ h4)
  refine ⟨⟨hsub _ h1, h2, ⟨md, (hfr _ h1 (fun e => r2 e.symm) (hobj _ _ h1 h3)).trans h3⟩, hsub _ h4, h5, ⟨f, (hfr _ h4 (fun e => by rw [e, ej] at h6; cases h6) (fun e => r6 e.symm)).trans h6, h6a⟩, hz, h8, va_up ar j ar', fun i hi => ?_, fun i k hi hk e ha => ?_⟩, hsub, fun x hx => hfr _ (hso _ hx) (fun e => r1 (e ▸ hx)) (fun e => r5 (e ▸ hso _ hx) (e ▸ hx))⟩
  · by_cases e : i = j
    · subst e
      rw [up_eq, up_eq]
      exact ⟨r1, r2, ⟨xs', hb', hL⟩, hnewo, hnewp⟩
    · rw [up_ne e, up_ne e]
      obtain ⟨a1, a2, ⟨ys, a3, a4⟩, a5, a6⟩ := h9 i hi
      have ha4 := a4
      obtain ⟨mi, mdi, ei⟩ := a4.obj
      refine ⟨a1, a2, ⟨ys, a3, a4.keep hsub (hfr _ mi (fun e2 => e (h8 i j hi hj e2)) (hobj _ _ mi ei)) (fun ha => hfr _ ha (fun e2 => ?_) (fun e2 => e (h10 i j hi hj e2 ha))) hbx⟩, fun hL' => ?_, a6⟩
      · obtain ⟨n, f9, hf9⟩ := hisA i hi ha
        rw [e2, ej] at hf9; cases hf9
      · obtain ⟨n, f9, md9, c1, c2, c3, -⟩ := ha4
        rcases c3 with ⟨a, _⟩ | ⟨a, _⟩
        · exact a5 a
        · exact absurd (a ▸ hL') hz
  · have hold : ∀ i, i < m → ar i ∈ L' → ar i ∈ L := by
      intro i hi hm
      obtain ⟨-, -, ⟨ys, -, a4⟩, -, -⟩ := h9 i hi
      obtain ⟨n, f9, md9, c1, c2, c3, -⟩ := a4
      rcases c3 with ⟨a, _⟩ | ⟨a, _⟩
      · exact a
      · exact absurd (a ▸ hm) hz
    have hnew : ∀ i, i < m → ar' = ar i → ar' ∈ L' → i = j := by
      intro i hi e2 ha2
      have hiL := hold i hi (e2 ▸ ha2)
      rcases har with e3 | ⟨hn, -⟩
      · exact h10 i j hi hj (e2.symm.trans e3) hiL
      · exact absurd (e2 ▸ hiL) hn
    by_cases ei : i = j
    · by_cases ek : k = j
      · rw [ei, ek]
      · rw [ei, up_eq] at e ha
        rw [up_ne ek] at e
        exact ei.trans (hnew k hk e ha).symm
    · by_cases ek : k = j
      · rw [up_ne ei] at e ha
        rw [ek, up_eq] at e
        exact (hnew i hi e.symm (e ▸ ha)).trans ek.symm
      · rw [up_ne ei] at e ha
        rw [up_ne ek] at e
        exact h10 i k hi hk e (hold i hi ha)
theorem PW.get (h : PW κ ζ Lo pl pa p m b L F) {l : Launch} {D : va_G} {j : Nat} (hj : j < m) (hm : m ≤ 10) : MtR l D cls (ty5 κ) ζ yJx4a65c_get_915e3 cJx4a65c_get_915e3 2 (some (.object "java/lang/Object")) 3 0 0 [.ref pl, .int (nI j)] L F (fun r L' F' => L = L' ∧ F = F' ∧ p j = r) := by
  obtain ⟨h1, h2, ⟨md, h3⟩, h4, h5, ⟨f, h6, h6a⟩, -⟩ := h
  exact c_Jx4a65c_get_915e3 ⟨h1, h3, h4, (fun e => by rw [e, h6] at h3; cases h3), h6⟩ (nI_pos (by omega)) (nI_lt hj (by omega)) (vp_in_nI (by omega) (by omega)) (by rw [nI_clamp (by omega)]; exact h6a j hj)
end PWs
def dn (r : Nat) : Int32 := nI r - 1
theorem dn_0 : dn 0 < 0 := by decide
theorem dn_s (r : Nat) : dn (r + 1) = nI r := nI_pred r
theorem dn_m (r : Nat) : nI r + (-1) = dn r := (Int32.sub_eq_add_neg _ _).symm
theorem nI_div {a b : Nat} (ha : a < 2147483648) (hb : b < 2147483648) : nI a / nI b = nI (a / b) := by
  apply Int32.toInt_inj.mp
  have h1 : a / b ≤ a := Nat.div_le_self a b
  rw [Int32.toInt_div, nI_toInt (by omega), nI_toInt (by omega), nI_toInt (by omega)]
  show Int.bmod (Int.tdiv (a : Int) (b : Int)) (2 ^ 32) = _
  rw [Int.tdiv_eq_ediv_of_nonneg (by omega), ← Int.natCast_ediv]
  generalize a / b = q at h1 ⊢
  exact Int.bmod_eq_of_le (by omega) (by omega)
/-! undone on paper: v is a slip's number -/
def unT (v : Nat) (xs : List Int32) : Option (List Int32) := if v / 1000 % 2 = 1 then (if xs.length = 0 then none else if xs.getD (if v / 2000 % 2 = 1 then xs.length - 1 else 0) 0 = nI (v % 1000) then some (delAt xs (if v / 2000 % 2 = 1 then xs.length - 1 else 0)) else none) else if xs.length < 20 then some (insAt xs (if v / 2000 % 2 = 1 then xs.length else 0) (nI (v % 1000))) else none
def unR (sv : Nat → Nat) : Nat → (Nat → List Int32) → Bool
  | 0, _ => true
  | r + 1, pp => match unT (sv r) (pp (sv r / 4000)) with
    | none => false
    | some ys => unR sv r (va_up pp (sv r / 4000) ys)
def svN (xs : List Int32) (j : Nat) : Nat := (xs.getD j 0).toNatClampNeg
def ub (b : Bool) : Int32 := if b = true then 1 else 0
theorem unR_n {sv : Nat → Nat} {r v : Nat} {pp : Nat → List Int32} (hv : sv r = v) (h : unT v (pp (v / 4000)) = none) : unR sv (r + 1) pp = false := by
  subst hv
  show (match unT (sv r) (pp (sv r / 4000)) with | none => false | some ys => unR sv r (va_up pp (sv r / 4000) ys)) = false
  rw [h]
theorem unR_s {sv : Nat → Nat} {r v : Nat} {pp : Nat → List Int32} {ys : List Int32} (hv : sv r = v) (h : unT v (pp (v / 4000)) = some ys) : unR sv (r + 1) pp = unR sv r (va_up pp (v / 4000) ys) := by
  subst hv
  show (match unT (sv r) (pp (sv r / 4000)) with | none => false | some ys => unR sv r (va_up pp (sv r / 4000) ys)) = _
  rw [h]
theorem unR_cg {sv : Nat → Nat} : ∀ (r : Nat) (p q : Nat → List Int32), (∀ j, j < r → sv j / 4000 < 2) → (∀ j, j < 2 → p j = q j) → unR sv r p = unR sv r q := by
  intro r
  induction r with
  | zero => intro p q _ _; rfl
  | succ r ih =>
    intro p q hs h
    have e := h _ (hs r (by omega))
    cases hu : unT (sv r) (p (sv r / 4000)) with
    | none => rw [unR_n rfl hu, unR_n rfl (by rw [← e]; exact hu)]
    | some ys =>
      rw [unR_s rfl hu, unR_s rfl (by rw [← e]; exact hu)]
      refine ih _ _ (fun j hj => hs j (by omega)) fun j hj => ?_
      by_cases ej : j = sv r / 4000
      · rw [ej, up_eq, up_eq]
      · rw [up_ne ej, up_ne ej]; exact h j hj
theorem unT_e {v : Nat} {xs : List Int32} (h1 : v / 1000 % 2 = 1) (h0 : xs.length = 0) : unT v xs = none := by
  unfold unT
  rw [if_pos h1, if_pos h0]
theorem unT_d0 {v : Nat} {xs : List Int32} (h1 : v / 1000 % 2 = 1) (h0 : ¬ xs.length = 0) (h2 : ¬ v / 2000 % 2 = 1) : unT v xs = if xs.getD 0 0 = nI (v % 1000) then some (delAt xs 0) else none := by
  unfold unT
  rw [if_pos h1, if_neg h0, if_neg h2]
theorem unT_d1 {v : Nat} {xs : List Int32} (h1 : v / 1000 % 2 = 1) (h0 : ¬ xs.length = 0) (h2 : v / 2000 % 2 = 1) : unT v xs = if xs.getD (xs.length - 1) 0 = nI (v % 1000) then some (delAt xs (xs.length - 1)) else none := by
  unfold unT
  rw [if_pos h1, if_neg h0, if_pos h2]
theorem unT_a0 {v : Nat} {xs : List Int32} (h1 : ¬ v / 1000 % 2 = 1) (h2 : ¬ v / 2000 % 2 = 1) : unT v xs = if xs.length < 20 then some (insAt xs 0 (nI (v % 1000))) else none := by
  unfold unT
  rw [if_neg h1, if_neg h2]
theorem unT_a1 {v : Nat} {xs : List Int32} (h1 : ¬ v / 1000 % 2 = 1) (h2 : v / 2000 % 2 = 1) : unT v xs = if xs.length < 20 then some (insAt xs xs.length (nI (v % 1000))) else none := by
  unfold unT
  rw [if_neg h1, if_pos h2]
theorem jrN {a b : Nat} (ha : a < 2147483648) (hb : b < 2147483648) : jrem (nI a) (nI b) = nI (a % b) := by
  unfold jrem
  rw [nI_div ha hb]
  apply Int32.toInt_inj.mp
  have hd : a / b * b ≤ a := Nat.div_mul_le_self a b
  have hm : a % b + a / b * b = a := by rw [Nat.mul_comm]; exact Nat.mod_add_div a b
  have hle : a / b ≤ a := Nat.div_le_self a b
  have ec : ((a / b * b : Nat) : Int) = ((a / b : Nat) : Int) * (b : Int) := Int.natCast_mul _ _
  rw [Int32.toInt_sub, Int32.toInt_mul, nI_toInt (by omega), nI_toInt (by omega), nI_toInt (by omega), nI_toInt (by omega), ← ec, Int.bmod_eq_of_le (n := ((a / b * b : Nat) : Int)) (by omega) (by omega), Int.bmod_eq_of_le (by omega) (by omega)]
  omega
theorem takeS {xs : List Int32} {m : Nat} (h : m < xs.length) : xs.take (m + 1) = xs.take m ++ [xs.getD m 0] := by
  rw [List.take_add_one, List.getD_eq_getElem?_getD, List.getElem?_eq_getElem h]
  rfl
theorem gtr_nI {k : Nat} (hk : k < 2) : gtr (nI k) = some k := by
  match k, hk with
  | 0, _ => rfl
  | 1, _ => rfl
  | k + 2, hk => exact absurd hk (by omega)
theorem mc_X6_areSlips : MCode yX6_areSlips cX6_areSlips 6 (some .boolean) := ⟨wd_1604, wd_5, by decide, by decide⟩
theorem np_X6_areSlips : (parseMethodDescriptor yX6_areSlips.desc).map (fun d => d.parameters.length) = some 0 := by decide +kernel
set_option maxHeartbeats 8000000 in
set_option maxRecDepth 100000 in
theorem c_X6_areSlips {l : Launch} {D : va_G} {κ : Nat → ClassId} {ζ : Nat → Nat} {L : List Nat} {F : Nat → va_E} {τ : MS} {B : Nat → Nat} (hI : MI κ ζ B τ L F) (hlen2 : ∀ k, k < 2 → (τ.1 k).length ≤ 20) (hs12 : (τ.1 2).length ≤ 12) (hsl : ∀ j, j < (τ.1 2).length → ∃ v, v < 8000 ∧ (τ.1 2).getD j 0 = nI v) : MtI l D cls (ty5 κ) ζ yX6_areSlips cX6_areSlips 6 (some .boolean) 8 112 3696 ([.ref (B 0)] : List Value) L F (fun r L' F' => r = ub (unR (svN (τ.1 2)) (τ.1 2).length τ.1) ∧ (∀ x ∈ L, x ∈ L') ∧ ∀ x ∈ L, F' x = F x) := by
  refine MtI.of (by decide) (Nat.le_of_ble_eq_true rfl) ?_
  intro p e s m below meth c S hr hlk hini hK hW hST ls hl
  have hl : lv_has ls 6 [(0, .ref (B 0))] := hl
  have T27 : ∀ (k M : Nat), k < 2 → M ≤ 112 → ∀ (pl pa : Nat) (pr : Nat → Nat), (∀ (L9 : List Nat) (F9 : Nat → va_E) (b : Nat → List Int32) (c9 s9 : Nat), (∀ x ∈ L, x ∈ L9) → (∀ x ∈ L, F9 x = F x) → PW κ ζ L pl pa pr (k + 1) b L9 F9 → (∀ j, j < k + 1 → b j = τ.1 j) → c9 ≤ M → s9 ≤ 33 * c9 → ∀ (H9 : Heap) (l9 : List Loc) (ls : Array Slot), HW D cls L s H9 l9 L9 F9 → lv_has ls 6 [(2, .int (nI k)), (1, .ref pl), (0, .ref (B 0))] → W p l e (Rm 8 112 3696) s m ([.ref (B 0)] : List Value).toArray below meth c H9 l9 c9 s9 (EnI D cls s below ([.ref (B 0)] : List Value).toArray 112 3696 L (fun r L' F' => r = ub (unR (svN (τ.1 2)) (τ.1 2).length τ.1) ∧ (∀ x ∈ L, x ∈ L') ∧ ∀ x ∈ L, F' x = F x)) (F0 m 85 ls [])) → ∀ (L9 : List Nat) (F9 : Nat → va_E) (b : Nat → List Int32) (c9 s9 : Nat), (∀ x ∈ L, x ∈ L9) → (∀ x ∈ L, F9 x = F x) → PW κ ζ L pl pa pr (k + 1) b L9 F9 → b k = [] → (∀ j, j < k → b j = τ.1 j) → c9 + 41 ≤ M → s9 ≤ 33 * c9 → ∀ (H9 : Heap) (l9 : List Loc) (ls : Array Slot), HW D cls L s H9 l9 L9 F9 → lv_has ls 6 [(2, .int (nI k)), (1, .ref pl), (0, .ref (B 0))] → W p l e (Rm 8 112 3696) s m ([.ref (B 0)] : List Value).toArray below meth c H9 l9 c9 s9 (EnI D cls s below ([.ref (B 0)] : List Value).toArray 112 3696 L (fun r L' F' => r = ub (unR (svN (τ.1 2)) (τ.1 2).length τ.1) ∧ (∀ x ∈ L, x ∈ L') ∧ ∀ x ∈ L, F' x = F x)) (F0 m 27 ls []) := by
    intro k M hk hM pl pa pr kont
    obtain ⟨ark, hLk⟩ := hI.li (j := k) (by omega)
    obtain ⟨md, ehk, hel⟩ := hLk.elem
    have hlen := hlen2 k hk
    have B42 : ∀ (N i : Nat), N + i = (τ.1 k).length → ∀ (t : Nat) (la : Int32) (L9 : List Nat) (F9 : Nat → va_E) (b : Nat → List Int32) (c9 s9 : Nat), (∀ x ∈ L, x ∈ L9) → (∀ x ∈ L, F9 x = F x) → t ∈ L9 → t ∉ L → F9 t = .inr (3, [.int (nI i), .int la, .int md, .ref (B (3 + k))]) → PW κ ζ L pl pa pr (k + 1) b L9 F9 → b k = (τ.1 k).take i → (∀ j, j < k → b j = τ.1 j) → c9 + 2 * N ≤ M → s9 ≤ 33 * c9 → ∀ (H9 : Heap) (l9 : List Loc) (ls : Array Slot), HW D cls L s H9 l9 L9 F9 → lv_has ls 6 [(3, .ref t), (2, .int (nI k)), (1, .ref pl), (0, .ref (B 0))] → W p l e (Rm 8 112 3696) s m ([.ref (B 0)] : List Value).toArray below meth c H9 l9 c9 s9 (EnI D cls s below ([.ref (B 0)] : List Value).toArray 112 3696 L (fun r L' F' => r = ub (unR (svN (τ.1 2)) (τ.1 2).length τ.1) ∧ (∀ x ∈ L, x ∈ L') ∧ ∀ x ∈ L, F' x = F x)) (F0 m 42 ls []) := by
      intro N
      induction N with
      | zero =>
        intro i hN t la L9 F9 b c9 s9 hsub hfr m_t ntL e_t hP hbk hbj hc9 hs9 H9 l9 ls hW hl
        refine lv_aload_n S.1 S.2.1 dX6_areSlips_42 rfl (lv_at hl 0 rfl) ?_
        refine pk_cFI (As := []) (rest := []) S hK hST hW (c_Jx35411_hasNext_aae02 m_t e_t (hsub _ hLk.obj.1) ((hfr _ hLk.obj.1).trans ehk)) mc_Jx35411_hasNext_aae02 wd_1624 wd_1628 wd_1626 hST.2.fwHas (by decide) (np := 0) (by decide +kernel) m_t e_t rfl rfl hl.1 rfl (Nat.le_of_ble_eq_true rfl) dX6_areSlips_43 ⟨Nat.le_of_ble_eq_true rfl, Nat.le_of_ble_eq_true rfl⟩ ⟨by show c9 + 0 ≤ 112; omega, by show s9 + 0 ≤ 3696; omega⟩ (fun r L8 F8 H8 l8 hp hW => ?_)
        obtain ⟨rfl, rfl, rfl⟩ := hp
        rw [Nat.add_zero, Nat.add_zero]
        rw [if_pos (by rw [show i = (τ.1 k).length by omega])]
        refine lv_if_eq (tgt := 85) S.1 S.2.1 dX6_areSlips_48 (by decide) (fun _ => ?_) (fun c1 => absurd rfl c1)
        exact kont _ _ b _ _ hsub hfr hP (fun j hj => by rcases Nat.lt_or_ge j k with q | q; exact hbj j q; rw [show j = k by omega, hbk, List.take_of_length_le (by omega)]) (by omega) hs9 _ _ _ hW (lv_sub hl [1, 2, 3] rfl)
      | succ N ih =>
        intro i hN t la L9 F9 b c9 s9 hsub hfr m_t ntL e_t hP hbk hbj hc9 hs9 H9 l9 ls hW hl
        refine lv_aload_n S.1 S.2.1 dX6_areSlips_42 rfl (lv_at hl 0 rfl) ?_
        refine pk_cFI (As := []) (rest := []) S hK hST hW (c_Jx35411_hasNext_aae02 m_t e_t (hsub _ hLk.obj.1) ((hfr _ hLk.obj.1).trans ehk)) mc_Jx35411_hasNext_aae02 wd_1624 wd_1628 wd_1626 hST.2.fwHas (by decide) (np := 0) (by decide +kernel) m_t e_t rfl rfl hl.1 rfl (Nat.le_of_ble_eq_true rfl) dX6_areSlips_43 ⟨Nat.le_of_ble_eq_true rfl, Nat.le_of_ble_eq_true rfl⟩ ⟨by show c9 + 0 ≤ 112; omega, by show s9 + 0 ≤ 3696; omega⟩ (fun r L8 F8 H8 l8 hp hW => ?_)
        obtain ⟨rfl, rfl, rfl⟩ := hp
        rw [Nat.add_zero, Nat.add_zero]
        rw [if_neg (fun q => by have := (nI_eq (by omega) (by omega)).mp q; omega)]
        refine lv_if_eq (tgt := 85) S.1 S.2.1 dX6_areSlips_48 (by decide) (fun c1 => absurd c1 (by decide)) (fun _ => ?_)
        obtain ⟨n, f, y, hR, hn1, hn2, hfy, hby⟩ := hel i (by omega)
        refine lv_aload_n S.1 S.2.1 dX6_areSlips_51 rfl (lv_at hl 0 rfl) ?_
        refine pk_cFR (As := []) (rest := []) S hK hST hW (c_Jx35411_next_0502b m_t e_t (hR.keep0 hsub hfr) (by omega) hn1 hn2 hfy) mc_Jx35411_next_0502b wd_1631 wd_1635 wd_1633 hST.2.fwNext (by decide) (np := 0) (by decide +kernel) m_t e_t rfl rfl hl.1 rfl (Nat.le_of_ble_eq_true rfl) dX6_areSlips_52 ⟨Nat.le_of_ble_eq_true rfl, Nat.le_of_ble_eq_true rfl⟩ ⟨by show c9 + 0 ≤ 112; omega, by show s9 + 0 ≤ 3696; omega⟩ (fun r L8 F8 H8 l8 hp hW => ?_)
        obtain ⟨rfl, rfl, e_t8, hf8⟩ := hp
        rw [Nat.add_zero, Nat.add_zero]
        have hfr8 : ∀ x ∈ L, F8 x = F x := fun x hx => (hf8 x (fun ee => ntL (ee ▸ hx))).trans (hfr x hx)
        have hP8 := hP.keep (fun _ h => h) (fun x hx hn => hf8 x (fun ee => hn ⟨_, ee ▸ e_t⟩)) (noE hW hST)
        have hby8 := hby.keep0 hsub hfr8
        refine va_castS S.1 S.2.1 S.2.2.2.1 (S.2.2.2.2 _ wd_1303) (hK.1 2 _ rfl).2 (bx_cell hK hW hST hby8) dX6_areSlips_57 ?_
        refine pk_cVIr (As := []) (rest := []) S hK hST hW (c_J6_intValue_8abf5 hby8) mc_J6_intValue_8abf5 wd_1304 wd_1305 wd_1306 rfl np_J6_intValue_8abf5 (bx_cell hK hW hST hby8) rfl hl.1 rfl (Nat.le_of_ble_eq_true rfl) dX6_areSlips_60 ⟨Nat.le_of_ble_eq_true rfl, Nat.le_of_ble_eq_true rfl⟩ ⟨by show c9 + 0 ≤ 112; omega, by show s9 + 0 ≤ 3696; omega⟩ (fun r L7 F7 H7 l7 hp hW => ?_)
        obtain ⟨rfl, rfl, rfl⟩ := hp
        rw [Nat.add_zero, Nat.add_zero]
        refine lv_istore (lv' := [(4, .int ((τ.1 k).getD i 0)), (3, .ref t), (2, .int (nI k)), (1, .ref pl), (0, .ref (B 0))]) S.1 S.2.1 dX6_areSlips_63 hl (Nat.le_of_ble_eq_true rfl) rfl (fun ls hl => ?_)
        refine lv_aload_n S.1 S.2.1 dX6_areSlips_65 rfl (lv_at hl 3 rfl) ?_
        refine lv_iload_n S.1 S.2.1 dX6_areSlips_66 rfl (lv_at hl 2 rfl) ?_
        obtain ⟨arj, xs, hxl, hLj, hset⟩ := hP8.row (j := k) (by omega)
        refine pk_cVR (As := [.int (nI k)]) (rest := []) S hK hST hW (hP8.get (j := k) (by omega) (by omega)) mc_Jx4a65c_get_915e3 wd_1203 wd_1204 wd_1205 rfl np_Jx4a65c_get_915e3 hP8.1 hP8.2.2.1.choose_spec rfl rfl hl.1 rfl (Nat.le_of_ble_eq_true rfl) dX6_areSlips_67 ⟨Nat.le_of_ble_eq_true rfl, Nat.le_of_ble_eq_true rfl⟩ ⟨by show c9 + 0 ≤ 112; omega, by show s9 + 0 ≤ 3696; omega⟩ (fun r L8 F8 H8 l8 hp hW => ?_)
        obtain ⟨rfl, rfl, rfl⟩ := hp
        rw [Nat.add_zero, Nat.add_zero]
        refine va_castS S.1 S.2.1 S.2.2.2.1 (S.2.2.2.2 _ wd_1070) (hK.1 4 _ rfl).2 (pk_recv (r := (RJx4a65c, TJx4a65c, 3)) hK hW hLj.obj.1 hLj.obj.2.choose_spec rfl) dX6_areSlips_70 ?_
        refine lv_iload S.1 S.2.1 dX6_areSlips_73 (lv_at hl 0 rfl) ?_
        refine pk_cSR (As := [.int ((τ.1 k).getD i 0)]) (rest := [.ref (pr k)]) S hK hST hW (c_J6_valueOf_2dffe (v := (τ.1 k).getD i 0)) mc_J6_valueOf_2dffe wd_1233 wd_1234 np_J6_valueOf_2dffe rfl hl.1 rfl (Nat.le_of_ble_eq_true rfl) dX6_areSlips_75 ⟨Nat.le_of_ble_eq_true rfl, Nat.le_of_ble_eq_true rfl⟩ ⟨by show c9 + 1 ≤ 112; omega, by show s9 + 1 ≤ 3696; omega⟩ (fun y6 L6 F6 H6 l6 hp hW => ?_)
        obtain ⟨hs6, hb6, hf6⟩ := hp
        have hP6 := hP8.keep hs6 (fun x hx _ => hf6 x hx) (noE hW hST)
        obtain ⟨ar6, xs6, hxl6, hLj6, hset6⟩ := hP6.row (j := k) (by omega)
        have hx6 : xs6.length = i := by rw [hxl6, hbk, List.length_take]; omega
        refine pk_cVI (As := [.ref y6]) (rest := []) S hK hST hW (c_ladd hLj6 (by omega) hb6) mc_Jx4a65c_add_9ea2d wd_1108 wd_1109 wd_1110 rfl np_Jx4a65c_add_9ea2d hLj6.obj.1 hLj6.obj.2.choose_spec rfl rfl hl.1 rfl (Nat.le_of_ble_eq_true rfl) dX6_areSlips_78 ⟨Nat.le_of_ble_eq_true rfl, Nat.le_of_ble_eq_true rfl⟩ ⟨by show c9 + 1 + 1 ≤ 112; omega, by show s9 + 1 + 32 ≤ 3696; omega⟩ (fun r5 L5 F5 H5 l5 hp hW => ?_)
        obtain ⟨ar5, hL5, hF5⟩ := hp
        obtain ⟨hP5, hs5, hf5⟩ := hset6 ar5 _ _ _ ((τ.1 k).take (i + 1)) (fun x hx => hs6 x (hsub x hx)) hL5 hF5 (noE hW hST) (by rw [hxl6, hbk, takeS (by omega)])
        refine lv_pop S.1 S.2.1 dX6_areSlips_81 rfl ?_
        refine lv_goto (tgt := 42) S.1 S.2.1 dX6_areSlips_82 (by decide) ?_
        have nt6 : F6 t = _ := (hf6 t m_t).trans e_t8
        have ne1 : t ≠ pr k := fun ee => by
          obtain ⟨_, mq, eq⟩ := hLj6.obj
          rw [ee, eq] at nt6
          cases nt6
        have ne2 : t ≠ ar6 := fun ee => by
          obtain ⟨n9, f9, md9, c1, c2, c3, -⟩ := hLj6
          rcases c3 with ⟨a, _, c, _⟩ | ⟨a, _⟩
          · rw [ee, c] at nt6; cases nt6
          · exact noE hW hST (hs5 _ (a ▸ ee ▸ hs6 t m_t))
        have e_t5 : F5 t = _ := (hF5.2.1 t (hs6 t m_t) ne1 ne2).trans nt6
        exact ih (i + 1) (by omega) t _ _ _ _ _ _ (fun x hx => hs5 x (hs6 x (hsub x hx))) (fun x hx => (hf5 x hx).trans ((hf6 x (hsub x hx)).trans (hfr8 x hx))) (hs5 _ (hs6 _ m_t)) ntL e_t5 hP5 up_eq (fun j hj => by rw [up_ne (by omega)]; exact hbj j hj) (by omega) (by omega) _ _ _ hW (lv_sub hl [1, 2, 3, 4] rfl)
    intro L9 F9 b c9 s9 hsub hfr hP hbk hbj hc9 hs9 H9 l9 ls hW hl
    have hI9 := hI.keep0 hsub hfr (noE hW hST)
    refine lv_aload_n S.1 S.2.1 dX6_areSlips_27 rfl (lv_at hl 2 rfl) ?_
    refine pk_get S hK hW 1 (hI9.mem (by decide)) hI9.this rfl hinX6 (by decide) wd_1156 rfl dX6_areSlips_28 ?_
    refine lv_iload_n S.1 S.2.1 dX6_areSlips_31 rfl (lv_at hl 0 rfl) ?_
    refine pk_cVR (As := [.int (nI k)]) (rest := []) S hK hST hW (c_tracks hI9 (gtr_nI hk)) mc_Jx4a65c_get_915e3 wd_1203 wd_1204 wd_1205 rfl np_Jx4a65c_get_915e3 (hI9.mem (by decide)) hI9.2.2.2.1.choose_spec rfl rfl hl.1 rfl (Nat.le_of_ble_eq_true rfl) dX6_areSlips_32 ⟨Nat.le_of_ble_eq_true rfl, Nat.le_of_ble_eq_true rfl⟩ ⟨by show c9 + 0 ≤ 112; omega, by show s9 + 0 ≤ 3696; omega⟩ (fun r L8 F8 H8 l8 hp hW => ?_)
    obtain ⟨rfl, rfl, rfl⟩ := hp
    rw [Nat.add_zero, Nat.add_zero]
    refine va_castS S.1 S.2.1 S.2.2.2.1 (S.2.2.2.2 _ wd_1070) (hK.1 4 _ rfl).2 (pk_recv (r := (RJx4a65c, TJx4a65c, 3)) hK hW (hsub _ hLk.obj.1) ((hfr _ hLk.obj.1).trans ehk) rfl) dX6_areSlips_35 ?_
    refine pk_cVR (As := []) (rest := []) S hK hST hW (c_Jx4a65c_iterator_32c93 (hsub _ hLk.obj.1) ((hfr _ hLk.obj.1).trans ehk)) mc_Jx4a65c_iterator_32c93 wd_1605 wd_1606 wd_1607 rfl np_Jx4a65c_iterator_32c93 (hsub _ hLk.obj.1) ((hfr _ hLk.obj.1).trans ehk) rfl rfl hl.1 rfl (Nat.le_of_ble_eq_true rfl) dX6_areSlips_38 ⟨Nat.le_of_ble_eq_true rfl, Nat.le_of_ble_eq_true rfl⟩ ⟨by show c9 + 1 ≤ 112; omega, by show s9 + 4 ≤ 3696; omega⟩ (fun t L8 F8 H8 l8 hp hW => ?_)
    obtain ⟨hs8, m_t, ntL9, e_t, hf8⟩ := hp
    refine lv_astore_n (lv' := [(3, .ref t), (2, .int (nI k)), (1, .ref pl), (0, .ref (B 0))]) S.1 S.2.1 dX6_areSlips_41 rfl hl (Nat.le_of_ble_eq_true rfl) rfl (fun ls hl => ?_)
    exact B42 _ 0 (Nat.add_zero _) t _ _ _ b _ _ (fun x hx => hs8 x (hsub x hx)) (fun x hx => (hf8 x (hsub x hx)).trans (hfr x hx)) m_t (fun ee => ntL9 (hsub _ ee)) e_t (hP.keep hs8 (fun x hx _ => hf8 x hx) (noE hW hST)) (hbk.trans List.take_zero.symm) hbj (by omega) (by omega) _ _ _ hW hl
  have B101 : ∀ (pl pa : Nat) (pr : Nat → Nat) (r : Nat), r ≤ (τ.1 2).length → ∀ (L9 : List Nat) (F9 : Nat → va_E) (b : Nat → List Int32) (c9 s9 : Nat), (∀ x ∈ L, x ∈ L9) → (∀ x ∈ L, F9 x = F x) → PW κ ζ L pl pa pr 2 b L9 F9 → (∀ j, j < 2 → (b j).length ≤ 20) → unR (svN (τ.1 2)) r b = (unR (svN (τ.1 2)) (τ.1 2).length τ.1) → c9 + 2 * r ≤ 112 → s9 ≤ 33 * c9 → ∀ (H9 : Heap) (l9 : List Loc) (ls : Array Slot), HW D cls L s H9 l9 L9 F9 → lv_has ls 6 [(2, .int (dn r)), (1, .ref pl), (0, .ref (B 0))] → W p l e (Rm 8 112 3696) s m ([.ref (B 0)] : List Value).toArray below meth c H9 l9 c9 s9 (EnI D cls s below ([.ref (B 0)] : List Value).toArray 112 3696 L (fun r L' F' => r = ub (unR (svN (τ.1 2)) (τ.1 2).length τ.1) ∧ (∀ x ∈ L, x ∈ L') ∧ ∀ x ∈ L, F' x = F x)) (F0 m 101 ls []) := by
    intro pl pa pr r
    induction r with
    | zero =>
      intro hr9 L9 F9 b c9 s9 hsub hfr hP hbj hU hc9 hs9 H9 l9 ls hW hl
      refine lv_iload_n S.1 S.2.1 dX6_areSlips_101 rfl (lv_at hl 0 rfl) ?_
      refine lv_if_lt (tgt := 255) S.1 S.2.1 dX6_areSlips_102 (by decide) (fun _ => ?_) (fun c1 => absurd dn_0 c1)
      refine lv_iconst (v := 1) S.1 S.2.1 dX6_areSlips_255 (by decide) ?_
      exact pk_zret S hr hlk hW (by decide) ⟨by rw [← hU]; rfl, hsub, hfr⟩ (by omega) (by omega) dX6_areSlips_256
    | succ r ih =>
      intro hr9 L9 F9 b c9 s9 hsub hfr hP hbj hU hc9 hs9 H9 l9 ls hW hl
      rw [dn_s] at hl
      have hI9 := hI.keep0 hsub hfr (noE hW hST)
      obtain ⟨ar2, hL2⟩ := hI9.li (j := 2) (by decide)
      obtain ⟨v, hv, hvr⟩ := hsl r (by omega)
      have hsv : svN (τ.1 2) r = v := by unfold svN; rw [hvr, nI_clamp (by omega)]
      have eM : jrem (nI v) 1000 = nI (v % 1000) := jrN (b := 1000) (by omega) (by omega)
      have eB : jrem (nI v / 2000) 2 = nI (v / 2000 % 2) := by rw [show nI v / 2000 = nI (v / 2000) from nI_div (b := 2000) (by omega) (by omega)]; exact jrN (b := 2) (by omega) (by omega)
      have eP : jrem (nI v / 1000) 2 = nI (v / 1000 % 2) := by rw [show nI v / 1000 = nI (v / 1000) from nI_div (b := 1000) (by omega) (by omega)]; exact jrN (b := 2) (by omega) (by omega)
      have hget : lget (τ.1 2) (nI r) = some (nI v) := by rw [lget_in (by omega) (by omega), hvr]
      refine lv_iload_n S.1 S.2.1 dX6_areSlips_101 rfl (lv_at hl 0 rfl) ?_
      refine lv_if_lt (tgt := 255) S.1 S.2.1 dX6_areSlips_102 (by decide) (fun c1 => absurd c1 (nI_pos (by omega))) (fun _ => ?_)
      refine lv_aload_n S.1 S.2.1 dX6_areSlips_105 rfl (lv_at hl 2 rfl) ?_
      refine pk_get S hK hW 2 (hI9.mem (by decide)) hI9.this rfl hinX6 (by decide) wd_1157 rfl dX6_areSlips_106 ?_
      refine lv_iload_n S.1 S.2.1 dX6_areSlips_109 rfl (lv_at hl 0 rfl) ?_
      refine pk_cVR (As := [.int (nI r)]) (rest := []) S hK hST hW (c_mget hL2 hget) mc_Jx4a65c_get_915e3 wd_1203 wd_1204 wd_1205 rfl np_Jx4a65c_get_915e3 hL2.obj.1 hL2.obj.2.choose_spec rfl rfl hl.1 rfl (Nat.le_of_ble_eq_true rfl) dX6_areSlips_110 ⟨Nat.le_of_ble_eq_true rfl, Nat.le_of_ble_eq_true rfl⟩ ⟨by show c9 + 0 ≤ 112; omega, by show s9 + 0 ≤ 3696; omega⟩ (fun y8 L8 F8 H8 l8 hp hW => ?_)
      obtain ⟨rfl, rfl, hby⟩ := hp
      rw [Nat.add_zero, Nat.add_zero]
      refine va_castS S.1 S.2.1 S.2.2.2.1 (S.2.2.2.2 _ wd_1303) (hK.1 2 _ rfl).2 (bx_cell hK hW hST hby) dX6_areSlips_113 ?_
      refine pk_cVIr (As := []) (rest := []) S hK hST hW (c_J6_intValue_8abf5 hby) mc_J6_intValue_8abf5 wd_1304 wd_1305 wd_1306 rfl np_J6_intValue_8abf5 (bx_cell hK hW hST hby) rfl hl.1 rfl (Nat.le_of_ble_eq_true rfl) dX6_areSlips_116 ⟨Nat.le_of_ble_eq_true rfl, Nat.le_of_ble_eq_true rfl⟩ ⟨by show c9 + 0 ≤ 112; omega, by show s9 + 0 ≤ 3696; omega⟩ (fun r L7 F7 H7 l7 hp hW => ?_)
      obtain ⟨rfl, rfl, rfl⟩ := hp
      rw [Nat.add_zero, Nat.add_zero]
      refine lv_istore_n (lv' := [(3, .int (nI v)), (2, .int (nI r)), (1, .ref pl), (0, .ref (B 0))]) S.1 S.2.1 dX6_areSlips_119 rfl hl (Nat.le_of_ble_eq_true rfl) rfl (fun ls hl => ?_)
      refine lv_aload_n S.1 S.2.1 dX6_areSlips_120 rfl (lv_at hl 2 rfl) ?_
      refine lv_iload_n S.1 S.2.1 dX6_areSlips_121 rfl (lv_at hl 0 rfl) ?_
      refine lv_sipush (v := 4000) S.1 S.2.1 dX6_areSlips_122 (by decide) ?_
      refine lv_idiv S.1 S.2.1 dX6_areSlips_125 (by decide) ?_
      refine lv_topi (fun y9 ey => ?_)
      have ey : y9 = nI (v / 4000) := ey.trans (nI_div (b := 4000) (by omega) (by decide))
      subst ey
      have hj2 : v / 4000 < 2 := by omega
      obtain ⟨arj, xs, hxl, hLj, hset⟩ := hP.row (j := v / 4000) hj2
      have hx20 : xs.length ≤ 20 := by rw [hxl]; exact hbj _ hj2
      refine pk_cVR (As := [.int (nI (v / 4000))]) (rest := []) S hK hST hW (hP.get (j := v / 4000) (by omega) (by omega)) mc_Jx4a65c_get_915e3 wd_1203 wd_1204 wd_1205 rfl np_Jx4a65c_get_915e3 hP.1 hP.2.2.1.choose_spec rfl rfl hl.1 rfl (Nat.le_of_ble_eq_true rfl) dX6_areSlips_126 ⟨Nat.le_of_ble_eq_true rfl, Nat.le_of_ble_eq_true rfl⟩ ⟨by show c9 + 0 ≤ 112; omega, by show s9 + 0 ≤ 3696; omega⟩ (fun r L8 F8 H8 l8 hp hW => ?_)
      obtain ⟨rfl, rfl, rfl⟩ := hp
      rw [Nat.add_zero, Nat.add_zero]
      refine va_castS S.1 S.2.1 S.2.2.2.1 (S.2.2.2.2 _ wd_1070) (hK.1 4 _ rfl).2 (pk_recv (r := (RJx4a65c, TJx4a65c, 3)) hK hW hLj.obj.1 hLj.obj.2.choose_spec rfl) dX6_areSlips_129 ?_
      refine lv_astore (lv' := [(4, .ref (pr (v / 4000))), (3, .int (nI v)), (2, .int (nI r)), (1, .ref pl), (0, .ref (B 0))]) S.1 S.2.1 dX6_areSlips_132 hl (Nat.le_of_ble_eq_true rfl) rfl (fun ls hl => ?_)
      have T237 : ∀ (L9 : List Nat) (F9 : Nat → va_E) (b2 : List Int32) (c2 s2 : Nat), (∀ x ∈ L, x ∈ L9) → (∀ x ∈ L, F9 x = F x) → PW κ ζ L pl pa pr 2 (va_up b (v / 4000) b2) L9 F9 → b2.length ≤ 21 → (b2.length ≤ 20 → unT v xs = some b2) → (¬ b2.length ≤ 20 → unT v xs = none) → c2 ≤ c9 + 2 → s2 ≤ 33 * c2 → ∀ (H9 : Heap) (l9 : List Loc) (ls : Array Slot) (w : Int32), HW D cls L s H9 l9 L9 F9 → lv_has ls 6 [(5, .int w), (4, .ref (pr (v / 4000))), (3, .int (nI v)), (2, .int (nI r)), (1, .ref pl), (0, .ref (B 0))] → W p l e (Rm 8 112 3696) s m ([.ref (B 0)] : List Value).toArray below meth c H9 l9 c2 s2 (EnI D cls s below ([.ref (B 0)] : List Value).toArray 112 3696 L (fun r L' F' => r = ub (unR (svN (τ.1 2)) (τ.1 2).length τ.1) ∧ (∀ x ∈ L, x ∈ L') ∧ ∀ x ∈ L, F' x = F x)) (F0 m 237 ls []) := by
        intro L9 F9 b2 c2 s2 hsub hfr hP hb2 hgo hno hc2 hs2 H9 l9 ls w hW hl
        obtain ⟨ar7, xs7, hx7, hL7, hset7⟩ := hP.row (j := v / 4000) (by omega)
        rw [up_eq] at hx7
        refine lv_aload S.1 S.2.1 dX6_areSlips_237 (lv_at hl 1 rfl) ?_
        refine pk_cVI (As := []) (rest := []) S hK hST hW (c_lsize hL7) mc_Jx4a65c_size_8abf5 wd_1215 wd_1216 wd_1217 rfl np_Jx4a65c_size_8abf5 hL7.obj.1 hL7.obj.2.choose_spec rfl rfl hl.1 rfl (Nat.le_of_ble_eq_true rfl) dX6_areSlips_239 ⟨Nat.le_of_ble_eq_true rfl, Nat.le_of_ble_eq_true rfl⟩ ⟨by show c2 + 0 ≤ 112; omega, by show s2 + 0 ≤ 3696; omega⟩ (fun r L8 F8 H8 l8 hp hW => ?_)
        obtain ⟨rfl, rfl, rfl⟩ := hp
        rw [Nat.add_zero, Nat.add_zero]
        refine lv_bipush (v := 20) S.1 S.2.1 dX6_areSlips_242 (by decide) ?_
        refine lv_icmp_le (tgt := 249) S.1 S.2.1 dX6_areSlips_244 (by decide) (fun c1 => ?_) (fun c1 => ?_)
        · have hb20 : b2.length ≤ 20 := by rw [hx7] at c1; exact (nI_leI (b := 20) (by omega) (by decide)).mp c1
          refine lv_iinc (lv' := [(2, .int (dn r)), (5, .int w), (4, .ref (pr (v / 4000))), (3, .int (nI v)), (1, .ref pl), (0, .ref (B 0))]) S.1 S.2.1 dX6_areSlips_249 hl (k := 3) rfl (dn_m r) (by decide) rfl (fun ls hl => ?_)
          refine lv_goto (tgt := 101) S.1 S.2.1 dX6_areSlips_252 (by decide) ?_
          exact ih (by omega) _ _ _ _ _ hsub hfr hP (fun j hj => by by_cases e : j = v / 4000; rw [e, up_eq]; exact hb20; rw [up_ne e]; exact hbj j hj) ((unR_s hsv (by rw [← hxl]; exact hgo hb20)).symm.trans hU) (by omega) hs2 _ _ _ hW (lv_sub hl [0, 4, 5] rfl)
        · refine lv_iconst (v := 0) S.1 S.2.1 dX6_areSlips_247 (by decide) ?_
          have hb20 : ¬ b2.length ≤ 20 := fun q => c1 (by rw [hx7]; exact (nI_leI (b := 20) (by omega) (by decide)).mpr q)
          exact pk_zret S hr hlk hW (by decide) ⟨by rw [← hU, unR_n hsv (by rw [← hxl]; exact hno hb20)]; rfl, hsub, hfr⟩ (by omega) (by omega) dX6_areSlips_248
      have T150 : ∀ (w : Int32), (w = if v / 2000 % 2 = 1 then 1 else 0) → ∀ (H9 : Heap) (l9 : List Loc) (ls : Array Slot), HW D cls L s H9 l9 L9 F9 → lv_has ls 6 [(4, .ref (pr (v / 4000))), (3, .int (nI v)), (2, .int (nI r)), (1, .ref pl), (0, .ref (B 0))] → W p l e (Rm 8 112 3696) s m ([.ref (B 0)] : List Value).toArray below meth c H9 l9 c9 s9 (EnI D cls s below ([.ref (B 0)] : List Value).toArray 112 3696 L (fun r L' F' => r = ub (unR (svN (τ.1 2)) (τ.1 2).length τ.1) ∧ (∀ x ∈ L, x ∈ L') ∧ ∀ x ∈ L, F' x = F x)) (F0 m 150 ls [.int w]) := by
        intro w hw H9 l9 ls hW hl
        have hw0 : w = 0 → ¬ v / 2000 % 2 = 1 := fun q c => by rw [if_pos c] at hw; rw [hw] at q; exact absurd q (by decide)
        have hw1 : ¬ w = 0 → v / 2000 % 2 = 1 := fun q => Classical.byContradiction fun c => by rw [if_neg c] at hw; exact q hw
        refine lv_istore (lv' := [(5, .int w), (4, .ref (pr (v / 4000))), (3, .int (nI v)), (2, .int (nI r)), (1, .ref pl), (0, .ref (B 0))]) S.1 S.2.1 dX6_areSlips_150 hl (Nat.le_of_ble_eq_true rfl) rfl (fun ls hl => ?_)
        refine lv_iload_n S.1 S.2.1 dX6_areSlips_152 rfl (lv_at hl 2 rfl) ?_
        refine lv_sipush (v := 1000) S.1 S.2.1 dX6_areSlips_153 (by decide) ?_
        refine lv_idiv S.1 S.2.1 dX6_areSlips_156 (by decide) ?_
        refine lv_iconst (v := 2) S.1 S.2.1 dX6_areSlips_157 (by decide) ?_
        refine pk_irem S dX6_areSlips_158 (by decide) ?_
        have T178 : ∀ (q : Nat), q ≤ xs.length → (unT v xs = if xs.length < 20 then some (insAt xs q (nI (v % 1000))) else none) → ∀ (H9 : Heap) (l9 : List Loc), HW D cls L s H9 l9 L9 F9 → W p l e (Rm 8 112 3696) s m ([.ref (B 0)] : List Value).toArray below meth c H9 l9 c9 s9 (EnI D cls s below ([.ref (B 0)] : List Value).toArray 112 3696 L (fun r L' F' => r = ub (unR (svN (τ.1 2)) (τ.1 2).length τ.1) ∧ (∀ x ∈ L, x ∈ L') ∧ ∀ x ∈ L, F' x = F x)) (F0 m 178 ls [.int (nI q), .ref (pr (v / 4000))]) := by
          intro q hq hT H9 l9 hW
          refine lv_iload_n S.1 S.2.1 dX6_areSlips_178 rfl (lv_at hl 2 rfl) ?_
          refine lv_sipush (v := 1000) S.1 S.2.1 dX6_areSlips_179 (by decide) ?_
          refine pk_irem S dX6_areSlips_182 (by decide) ?_
          refine pk_cSR (As := [.int (jrem ((nI v)) 1000)]) (rest := [.int (nI q), .ref (pr (v / 4000))]) S hK hST hW (c_J6_valueOf_2dffe (v := jrem (nI v) 1000)) mc_J6_valueOf_2dffe wd_1233 wd_1234 np_J6_valueOf_2dffe rfl hl.1 rfl (Nat.le_of_ble_eq_true rfl) dX6_areSlips_183 ⟨Nat.le_of_ble_eq_true rfl, Nat.le_of_ble_eq_true rfl⟩ ⟨by show c9 + 1 ≤ 112; omega, by show s9 + 1 ≤ 3696; omega⟩ (fun y6 L6 F6 H6 l6 hp hW => ?_)
          obtain ⟨hs6, hb6, hf6⟩ := hp
          have hP6 := hP.keep hs6 (fun x hx _ => hf6 x hx) (noE hW hST)
          have hLj6 := hLj.keep0 hs6 hf6
          obtain ⟨ar6, xs6, hxl6, hLj6b, hset6⟩ := hP6.row (j := v / 4000) (by omega)
          have eX : xs6 = xs := hxl6.trans hxl.symm
          rw [eX] at hLj6b
          refine pk_cVV (As := [.int (nI q), .ref y6]) (rest := []) S hK hST hW (c_lins hLj6b (by omega) (by omega) hb6) mc_Jx4a65c_add_7a177 wd_1250 wd_1251 wd_1252 rfl np_Jx4a65c_add_7a177 hLj6b.obj.1 hLj6b.obj.2.choose_spec rfl rfl hl.1 rfl (Nat.le_of_ble_eq_true rfl) dX6_areSlips_186 ⟨Nat.le_of_ble_eq_true rfl, Nat.le_of_ble_eq_true rfl⟩ ⟨by show c9 + 1 + 1 ≤ 112; omega, by show s9 + 1 + 32 ≤ 3696; omega⟩ (fun L5 F5 H5 l5 hp hW => ?_)
          obtain ⟨ar5, hL5, hF5⟩ := hp
          obtain ⟨hP5, hs5, hf5⟩ := hset6 ar5 _ _ _ (insAt xs q (jrem (nI v) 1000)) (fun x hx => hs6 x (hsub x hx)) hL5 hF5 (noE hW hST) rfl
          have il : (insAt xs q (jrem (nI v) 1000)).length = xs.length + 1 := insAt_len hq
          refine lv_goto (tgt := 237) S.1 S.2.1 dX6_areSlips_189 (by decide) ?_
          exact T237 _ _ _ _ _ (fun x hx => hs5 x (hs6 x (hsub x hx))) (fun x hx => (hf5 x hx).trans ((hf6 x (hsub x hx)).trans (hfr x hx))) hP5 (by omega) (fun c => by rw [hT, if_pos (by omega), eM]) (fun c => by rw [hT, if_neg (by omega)]) (by omega) (by omega) _ _ _ w hW hl
        have T218 : ∀ (q : Nat), q < xs.length → (unT v xs = if xs.getD q 0 = nI (v % 1000) then some (delAt xs q) else none) → ∀ (H9 : Heap) (l9 : List Loc), HW D cls L s H9 l9 L9 F9 → W p l e (Rm 8 112 3696) s m ([.ref (B 0)] : List Value).toArray below meth c H9 l9 c9 s9 (EnI D cls s below ([.ref (B 0)] : List Value).toArray 112 3696 L (fun r L' F' => r = ub (unR (svN (τ.1 2)) (τ.1 2).length τ.1) ∧ (∀ x ∈ L, x ∈ L') ∧ ∀ x ∈ L, F' x = F x)) (F0 m 218 ls [.int (nI q), .ref (pr (v / 4000))]) := by
          intro q hq hT H9 l9 hW
          refine pk_cVR (As := [.int (nI q)]) (rest := []) S hK hST hW (c_ldel hLj hq) mc_Jx4a65c_remove_915e3 wd_1280 wd_1281 wd_1282 rfl np_Jx4a65c_remove_915e3 hLj.obj.1 hLj.obj.2.choose_spec rfl rfl hl.1 rfl (Nat.le_of_ble_eq_true rfl) dX6_areSlips_218 ⟨Nat.le_of_ble_eq_true rfl, Nat.le_of_ble_eq_true rfl⟩ ⟨by show c9 + 0 ≤ 112; omega, by show s9 + 0 ≤ 3696; omega⟩ (fun y6 L6 F6 H6 l6 hp hW => ?_)
          obtain ⟨hb6, hL6, hF6⟩ := hp
          rw [Nat.add_zero, Nat.add_zero]
          obtain ⟨hP6, hs6, hf6⟩ := hset arj _ _ _ (delAt xs q) hsub hL6 hF6 (noE hW hST) rfl
          have dl : (delAt xs q).length = xs.length - 1 := delAt_len hq
          refine va_castS S.1 S.2.1 S.2.2.2.1 (S.2.2.2.2 _ wd_1303) (hK.1 2 _ rfl).2 (bx_cell hK hW hST hb6) dX6_areSlips_221 ?_
          refine pk_cVIr (As := []) (rest := []) S hK hST hW (c_J6_intValue_8abf5 hb6) mc_J6_intValue_8abf5 wd_1304 wd_1305 wd_1306 rfl np_J6_intValue_8abf5 (bx_cell hK hW hST hb6) rfl hl.1 rfl (Nat.le_of_ble_eq_true rfl) dX6_areSlips_224 ⟨Nat.le_of_ble_eq_true rfl, Nat.le_of_ble_eq_true rfl⟩ ⟨by show c9 + 0 ≤ 112; omega, by show s9 + 0 ≤ 3696; omega⟩ (fun r L7 F7 H7 l7 hp hW => ?_)
          obtain ⟨rfl, rfl, rfl⟩ := hp
          rw [Nat.add_zero, Nat.add_zero]
          refine lv_iload_n S.1 S.2.1 dX6_areSlips_227 rfl (lv_at hl 2 rfl) ?_
          refine lv_sipush (v := 1000) S.1 S.2.1 dX6_areSlips_228 (by decide) ?_
          refine pk_irem S dX6_areSlips_231 (by decide) ?_
          refine lv_icmp_eq (tgt := 237) S.1 S.2.1 dX6_areSlips_232 (by decide) (fun c1 => ?_) (fun c1 => ?_)
          · exact T237 _ _ _ _ _ (fun x hx => hs6 x (hsub x hx)) (fun x hx => (hf6 x hx).trans (hfr x hx)) hP6 (by omega) (fun _ => by rw [hT, if_pos (c1.trans eM)]) (fun c => absurd c (by omega)) (by omega) hs9 _ _ _ w hW hl
          · refine lv_iconst (v := 0) S.1 S.2.1 dX6_areSlips_235 (by decide) ?_
            exact pk_zret S hr hlk hW (by decide) ⟨by rw [← hU, unR_n hsv (by rw [← hxl]; exact (hT.trans (if_neg (fun q9 => c1 (q9.trans eM.symm)))))]; rfl, fun x hx => hs6 x (hsub x hx), fun x hx => (hf6 x hx).trans (hfr x hx)⟩ (by omega) (by omega) dX6_areSlips_236
        refine lv_if_ne (tgt := 192) S.1 S.2.1 dX6_areSlips_159 (by decide) (fun cp => ?_) (fun cp => ?_)
        · have hput : v / 1000 % 2 = 1 := Classical.byContradiction fun q => cp (by rw [eP, show v / 1000 % 2 = 0 by omega]; rfl)
          refine lv_aload S.1 S.2.1 dX6_areSlips_192 (lv_at hl 1 rfl) ?_
          refine pk_cVI (As := []) (rest := []) S hK hST hW (c_lempty hLj) mc_Jx4a65c_isEmpty_aae02 wd_1354 wd_1355 wd_1356 rfl np_Jx4a65c_isEmpty_aae02 hLj.obj.1 hLj.obj.2.choose_spec rfl rfl hl.1 rfl (Nat.le_of_ble_eq_true rfl) dX6_areSlips_194 ⟨Nat.le_of_ble_eq_true rfl, Nat.le_of_ble_eq_true rfl⟩ ⟨by show c9 + 0 ≤ 112; omega, by show s9 + 0 ≤ 3696; omega⟩ (fun r L8 F8 H8 l8 hp hW => ?_)
          obtain ⟨rfl, rfl, rfl⟩ := hp
          rw [Nat.add_zero, Nat.add_zero]
          refine lv_if_ne (tgt := 235) S.1 S.2.1 dX6_areSlips_197 (by decide) (fun c1 => ?_) (fun c1 => ?_)
          · refine lv_iconst (v := 0) S.1 S.2.1 dX6_areSlips_235 (by decide) ?_
            exact pk_zret S hr hlk hW (by decide) ⟨by rw [← hU, unR_n hsv (by rw [← hxl]; exact (unT_e hput (Classical.byContradiction fun q => c1 (by rw [if_neg q]))))]; rfl, hsub, hfr⟩ (by omega) (by omega) dX6_areSlips_236
          · have hpos : 0 < xs.length := Nat.pos_of_ne_zero (fun q => by rw [if_pos q] at c1; exact absurd c1 (by decide))
            refine lv_aload S.1 S.2.1 dX6_areSlips_200 (lv_at hl 1 rfl) ?_
            refine lv_iload S.1 S.2.1 dX6_areSlips_202 (lv_at hl 0 rfl) ?_
            refine lv_if_eq (tgt := 217) S.1 S.2.1 dX6_areSlips_204 (by decide) (fun cw => ?_) (fun cw => ?_)
            · refine lv_iconst (v := 0) S.1 S.2.1 dX6_areSlips_217 (by decide) ?_
              exact T218 0 hpos (unT_d0 hput (by omega) (hw0 cw)) _ _ hW
            · refine lv_aload S.1 S.2.1 dX6_areSlips_207 (lv_at hl 1 rfl) ?_
              refine pk_cVI (As := []) (rest := [.ref (pr (v / 4000))]) S hK hST hW (c_lsize hLj) mc_Jx4a65c_size_8abf5 wd_1215 wd_1216 wd_1217 rfl np_Jx4a65c_size_8abf5 hLj.obj.1 hLj.obj.2.choose_spec rfl rfl hl.1 rfl (Nat.le_of_ble_eq_true rfl) dX6_areSlips_209 ⟨Nat.le_of_ble_eq_true rfl, Nat.le_of_ble_eq_true rfl⟩ ⟨by show c9 + 0 ≤ 112; omega, by show s9 + 0 ≤ 3696; omega⟩ (fun r L8 F8 H8 l8 hp hW => ?_)
              obtain ⟨rfl, rfl, rfl⟩ := hp
              rw [Nat.add_zero, Nat.add_zero]
              refine lv_iconst (v := 1) S.1 S.2.1 dX6_areSlips_212 (by decide) ?_
              refine lv_isub S.1 S.2.1 dX6_areSlips_213 ?_
              refine lv_topi (fun y9 ey => ?_)
              have ey : y9 = nI (xs.length - 1) := ey.trans (pk_sub (b := 1) hpos)
              subst ey
              refine lv_goto (tgt := 218) S.1 S.2.1 dX6_areSlips_214 (by decide) ?_
              exact T218 (xs.length - 1) (by omega) (unT_d1 hput (by omega) (hw1 cw)) _ _ hW
        · have hput : ¬ v / 1000 % 2 = 1 := fun q => by rw [eP, q] at cp; exact absurd cp (by decide)
          refine lv_aload S.1 S.2.1 dX6_areSlips_162 (lv_at hl 1 rfl) ?_
          refine lv_iload S.1 S.2.1 dX6_areSlips_164 (lv_at hl 0 rfl) ?_
          refine lv_if_eq (tgt := 177) S.1 S.2.1 dX6_areSlips_166 (by decide) (fun cw => ?_) (fun cw => ?_)
          · refine lv_iconst (v := 0) S.1 S.2.1 dX6_areSlips_177 (by decide) ?_
            exact T178 0 (Nat.zero_le _) (unT_a0 hput (hw0 cw)) _ _ hW
          · refine lv_aload S.1 S.2.1 dX6_areSlips_169 (lv_at hl 1 rfl) ?_
            refine pk_cVI (As := []) (rest := [.ref (pr (v / 4000))]) S hK hST hW (c_lsize hLj) mc_Jx4a65c_size_8abf5 wd_1215 wd_1216 wd_1217 rfl np_Jx4a65c_size_8abf5 hLj.obj.1 hLj.obj.2.choose_spec rfl rfl hl.1 rfl (Nat.le_of_ble_eq_true rfl) dX6_areSlips_171 ⟨Nat.le_of_ble_eq_true rfl, Nat.le_of_ble_eq_true rfl⟩ ⟨by show c9 + 0 ≤ 112; omega, by show s9 + 0 ≤ 3696; omega⟩ (fun r L8 F8 H8 l8 hp hW => ?_)
            obtain ⟨rfl, rfl, rfl⟩ := hp
            rw [Nat.add_zero, Nat.add_zero]
            refine lv_goto (tgt := 178) S.1 S.2.1 dX6_areSlips_174 (by decide) ?_
            exact T178 xs.length (Nat.le_refl _) (unT_a1 hput (hw1 cw)) _ _ hW
      refine lv_iload_n S.1 S.2.1 dX6_areSlips_134 rfl (lv_at hl 1 rfl) ?_
      refine lv_sipush (v := 2000) S.1 S.2.1 dX6_areSlips_135 (by decide) ?_
      refine lv_idiv S.1 S.2.1 dX6_areSlips_138 (by decide) ?_
      refine lv_iconst (v := 2) S.1 S.2.1 dX6_areSlips_139 (by decide) ?_
      refine pk_irem S dX6_areSlips_140 (by decide) ?_
      refine lv_iconst (v := 1) S.1 S.2.1 dX6_areSlips_141 (by decide) ?_
      refine lv_icmp_ne (tgt := 149) S.1 S.2.1 dX6_areSlips_142 (by decide) (fun cb => ?_) (fun cb => ?_)
      · refine lv_iconst (v := 0) S.1 S.2.1 dX6_areSlips_149 (by decide) ?_
        exact T150 0 (by rw [if_neg (fun q => cb (by rw [eB, q]; rfl))]) _ _ _ hW hl
      · refine lv_iconst (v := 1) S.1 S.2.1 dX6_areSlips_145 (by decide) ?_
        refine lv_goto (tgt := 150) S.1 S.2.1 dX6_areSlips_146 (by decide) ?_
        exact T150 1 (by rw [if_pos (Classical.byContradiction fun q => by rw [eB, show v / 2000 % 2 = 0 by omega] at cb; exact absurd cb (by decide))]) _ _ _ hW hl
  have hsub : ∀ x ∈ L, x ∈ L := fun x hx => hx
  have hfr : ∀ x ∈ L, True → F x = F x := fun _ _ _ => rfl
  refine pk_new (fs := [.int 0, .null, .int 0]) (ci := 4) S hK hW hinJx4a65c tyJx4a65c_ok wd_1070 wd_1071 wd_8 rfl (fun j hj => by match j, hj with | 0, _ => rfl | 1, _ => rfl | 2, _ => rfl | j + 3, hj => exact absurd hj (by omega)) (by decide) (by decide) dX6_areSlips_0 (fun pl H_1 hq_pl hW => ?_)
  have e_pl : (va_up F pl (.inr (4, [.int 0, .null, .int 0]))) pl = .inr (4, [.int 0, .null, .int 0]) := up_eq
  have m_pl : pl ∈ L ++ [pl] := List.mem_append_right _ (List.mem_singleton.mpr rfl)
  have hnw_pl : pl ∉ L := fun ee => hq_pl (hsub _ ee)
  have hfr : ∀ x ∈ L, True → (va_up F pl (.inr (4, [.int 0, .null, .int 0]))) x = F x := fun x hx ht => (up_ne (fun (ee : x = pl) => hnw_pl (ee ▸ hx))).trans (hfr x hx ht)
  have hsub : ∀ x ∈ L, x ∈ L ++ [pl] := fun x hx => List.mem_append_left _ (hsub x hx)
  generalize va_up F pl (.inr (4, [.int 0, .null, .int 0])) = F_2 at hW e_pl hfr
  generalize L ++ [pl] = L_3 at hW m_pl hsub
  refine lv_dup S.1 S.2.1 dX6_areSlips_3 rfl ?_
  refine pk_cIV (As := []) (rest := [.ref pl]) S hK hST hW (c_Jx4a65c_init_da8c8 m_pl e_pl) mc_Jx4a65c_init_da8c8 wd_1072 wd_1073 rfl rfl np_Jx4a65c_init_da8c8 rfl hl.1 rfl (Nat.le_of_ble_eq_true rfl) dX6_areSlips_4 ⟨Nat.le_of_ble_eq_true rfl, Nat.le_of_ble_eq_true rfl⟩ ⟨Nat.le_of_ble_eq_true rfl, Nat.le_of_ble_eq_true rfl⟩ (fun L_4 F_5 H_6 l_7 hp hW => ?_)
  obtain ⟨rfl, hRE_pl, hf9⟩ := hp
  have hfr : ∀ x ∈ L, True → F_5 x = F x := fun x hx ht => (hf9 x (fun (ee : x = pl) => hnw_pl (ee ▸ hx))).trans (hfr x hx ht)
  have e_pl := hRE_pl.2
  refine lv_astore_n (lv' := [(1, .ref pl), (0, .ref (B 0))]) S.1 S.2.1 dX6_areSlips_7 rfl hl (Nat.le_of_ble_eq_true rfl) rfl (fun ls hl => ?_)
  refine lv_iconst (v := 0) S.1 S.2.1 dX6_areSlips_8 (by decide) ?_
  refine lv_istore_n (lv' := [(2, .int 0), (1, .ref pl), (0, .ref (B 0))]) S.1 S.2.1 dX6_areSlips_9 rfl hl (Nat.le_of_ble_eq_true rfl) rfl (fun ls hl => ?_)
  refine lv_iload_n S.1 S.2.1 dX6_areSlips_10 rfl (lv_at hl 0 rfl) ?_
  refine lv_iconst (v := 2) S.1 S.2.1 dX6_areSlips_11 (by decide) ?_
  refine lv_icmp_ge (tgt := 91) S.1 S.2.1 dX6_areSlips_12 (by decide) (fun c1 => absurd c1 (by decide)) (fun _ => ?_)
  refine lv_aload_n S.1 S.2.1 dX6_areSlips_15 rfl (lv_at hl 1 rfl) ?_
  refine pk_new (fs := [.int 0, .null, .int 0]) (ci := 4) S hK hW hinJx4a65c tyJx4a65c_ok wd_1070 wd_1071 wd_8 rfl (fun j hj => by match j, hj with | 0, _ => rfl | 1, _ => rfl | 2, _ => rfl | j + 3, hj => exact absurd hj (by omega)) (by decide) (by decide) dX6_areSlips_16 (fun p0 H_8 hq_p0 hW => ?_)
  have n_pl_p0 : pl ≠ p0 := fun ee => hq_p0 (ee ▸ m_pl)
  have e_pl : (va_up F_5 p0 (.inr (4, [.int 0, .null, .int 0]))) pl = .inr (4, [.int 0, .ref (ζ 256), .int 0]) := (up_ne n_pl_p0).trans e_pl
  have m_pl := List.mem_append_left [p0] m_pl
  have e_p0 : (va_up F_5 p0 (.inr (4, [.int 0, .null, .int 0]))) p0 = .inr (4, [.int 0, .null, .int 0]) := up_eq
  have m_p0 : p0 ∈ L_3 ++ [p0] := List.mem_append_right _ (List.mem_singleton.mpr rfl)
  have hnw_p0 : p0 ∉ L := fun ee => hq_p0 (hsub _ ee)
  have hfr : ∀ x ∈ L, True → (va_up F_5 p0 (.inr (4, [.int 0, .null, .int 0]))) x = F x := fun x hx ht => (up_ne (fun (ee : x = p0) => hnw_p0 (ee ▸ hx))).trans (hfr x hx ht)
  have hsub : ∀ x ∈ L, x ∈ L_3 ++ [p0] := fun x hx => List.mem_append_left _ (hsub x hx)
  generalize va_up F_5 p0 (.inr (4, [.int 0, .null, .int 0])) = F_9 at hW e_pl e_p0 hfr
  generalize L_3 ++ [p0] = L_10 at hW m_pl m_p0 hsub
  refine lv_dup S.1 S.2.1 dX6_areSlips_19 rfl ?_
  refine pk_cIV (As := []) (rest := [.ref p0, .ref pl]) S hK hST hW (c_Jx4a65c_init_da8c8 m_p0 e_p0) mc_Jx4a65c_init_da8c8 wd_1072 wd_1073 rfl rfl np_Jx4a65c_init_da8c8 rfl hl.1 rfl (Nat.le_of_ble_eq_true rfl) dX6_areSlips_20 ⟨Nat.le_of_ble_eq_true rfl, Nat.le_of_ble_eq_true rfl⟩ ⟨Nat.le_of_ble_eq_true rfl, Nat.le_of_ble_eq_true rfl⟩ (fun L_11 F_12 H_13 l_14 hp hW => ?_)
  obtain ⟨rfl, hRE_p0, hf9⟩ := hp
  have hfr : ∀ x ∈ L, True → F_12 x = F x := fun x hx ht => (hf9 x (fun (ee : x = p0) => hnw_p0 (ee ▸ hx))).trans (hfr x hx ht)
  have e_pl : F_12 pl = .inr (4, [.int 0, .ref (ζ 256), .int 0]) := (hf9 pl n_pl_p0).trans e_pl
  have e_p0 := hRE_p0.2
  refine pk_cVI (As := [.ref p0]) (rest := []) S hK hST hW (c_Jx4a65c_add_9ea2d_newL (h := pl) ⟨m_pl, e_pl⟩ n_pl_p0.symm ⟨m_p0, e_p0⟩) mc_Jx4a65c_add_9ea2d wd_1108 wd_1109 wd_1110 rfl np_Jx4a65c_add_9ea2d m_pl e_pl rfl rfl hl.1 rfl (Nat.le_of_ble_eq_true rfl) dX6_areSlips_23 ⟨Nat.le_of_ble_eq_true rfl, Nat.le_of_ble_eq_true rfl⟩ ⟨Nat.le_of_ble_eq_true rfl, Nat.le_of_ble_eq_true rfl⟩ (fun r L1 F1 H1 l1 hp hW => ?_)
  obtain ⟨hsub1, pa, hq_pa, hRpl, hf1⟩ := hp
  refine lv_pop S.1 S.2.1 dX6_areSlips_26 rfl ?_
  have hs1 : ∀ x ∈ L, x ∈ L1 := fun x hx => hsub1 x (hsub x hx)
  have hf1L : ∀ x ∈ L, F1 x = F x := fun x hx => (hf1 x (hsub x hx) (fun (ee : x = pl) => hnw_pl (ee ▸ hx))).trans (hfr x hx trivial)
  have hP1 : PW κ ζ L pl pa (fun j => if j = 0 then p0 else 0) 1 (fun _ => []) L1 F1 := by
    refine ⟨hRpl.1, hnw_pl, ⟨_, hRpl.2.1⟩, hRpl.2.2.1, fun ee => hq_pa (hsub _ ee), ⟨_, hRpl.2.2.2.2, fun j hj => by rw [show j = 0 by omega]; rfl⟩, noE hW hST, fun i j hi hj _ => by omega, fun _ => ζ 256, fun j hj => ?_, fun i j hi hj _ _ => by omega⟩
    rw [show j = 0 by omega]
    exact ⟨hnw_p0, n_pl_p0.symm, ⟨[], rfl, LI.new (hsub1 _ m_p0) ((hf1 _ m_p0 n_pl_p0.symm).trans e_p0)⟩, fun q => absurd q (noE hW hST), fun ee => noE hW hST ((show ζ 256 = pa from ee) ▸ hRpl.2.2.1)⟩
  refine T27 0 44 (by decide) (by decide) pl pa _ ?_ _ _ _ _ _ hs1 hf1L hP1 rfl (fun j hj => absurd hj (Nat.not_lt_zero j)) (by decide) (by decide) _ _ _ hW (show lv_has ls 6 [(2, .int (nI 0)), (1, .ref pl), (0, .ref (B 0))] from hl)
  intro L9 F9 b c9 s9 hsub hfr hP hbj hc9 hs9 H9 l9 ls hW hl
  have hp0 : p0 ∈ L9 := by obtain ⟨-, -, -, -, -, -, -, -, ar0, h90, -⟩ := hP; obtain ⟨-, -, ⟨x0, -, h0⟩, -⟩ := h90 0 (by decide); exact h0.obj.1
  refine lv_iinc (lv' := [(2, .int (nI 1)), (1, .ref pl), (0, .ref (B 0))]) S.1 S.2.1 dX6_areSlips_85 hl (k := 0) rfl (nI_1 0) (by decide) rfl (fun ls hl => ?_)
  refine lv_goto (tgt := 10) S.1 S.2.1 dX6_areSlips_88 (by decide) ?_
  refine lv_iload_n S.1 S.2.1 dX6_areSlips_10 rfl (lv_at hl 0 rfl) ?_
  refine lv_iconst (v := 2) S.1 S.2.1 dX6_areSlips_11 (by decide) ?_
  refine lv_icmp_ge (tgt := 91) S.1 S.2.1 dX6_areSlips_12 (by decide) (fun c1 => absurd c1 (by decide)) (fun _ => ?_)
  refine lv_aload_n S.1 S.2.1 dX6_areSlips_15 rfl (lv_at hl 1 rfl) ?_
  refine pk_new (fs := [.int 0, .null, .int 0]) (ci := 4) S hK hW hinJx4a65c tyJx4a65c_ok wd_1070 wd_1071 wd_8 rfl (fun j hj => by match j, hj with | 0, _ => rfl | 1, _ => rfl | 2, _ => rfl | j + 3, hj => exact absurd hj (by omega)) (by show c9 + 1 ≤ 112; omega) (by show s9 + 3 ≤ 3696; omega) dX6_areSlips_16 (fun p1 H2 hq_p1 hW => ?_)
  have m_p1 : p1 ∈ L9 ++ [p1] := List.mem_append_right _ (List.mem_singleton.mpr rfl)
  have e_p1 : va_up F9 p1 (.inr (4, [.int 0, .null, .int 0])) p1 = .inr (4, [.int 0, .null, .int 0]) := up_eq
  have hfA : ∀ x ∈ L9, va_up F9 p1 (.inr (4, [.int 0, .null, .int 0])) x = F9 x := fun x hx => up_ne (fun (ee : x = p1) => hq_p1 (ee ▸ hx))
  have hsA : ∀ x ∈ L9, x ∈ L9 ++ [p1] := fun x hx => List.mem_append_left _ hx
  generalize va_up F9 p1 (.inr (4, [.int 0, .null, .int 0])) = FA at hW e_p1 hfA
  generalize L9 ++ [p1] = LA at hW m_p1 hsA
  refine lv_dup S.1 S.2.1 dX6_areSlips_19 rfl ?_
  refine pk_cIV (As := []) (rest := [.ref p1, .ref pl]) S hK hST hW (c_Jx4a65c_init_da8c8 m_p1 e_p1) mc_Jx4a65c_init_da8c8 wd_1072 wd_1073 rfl rfl np_Jx4a65c_init_da8c8 rfl hl.1 rfl (Nat.le_of_ble_eq_true rfl) dX6_areSlips_20 ⟨Nat.le_of_ble_eq_true rfl, Nat.le_of_ble_eq_true rfl⟩ ⟨by show c9 + 1 + 0 ≤ 112; omega, by show s9 + 3 + 0 ≤ 3696; omega⟩ (fun LB FB HB lB hp hW => ?_)
  obtain ⟨rfl, hREp1, hfB⟩ := hp
  rw [Nat.add_zero, Nat.add_zero]
  have hfB9 : ∀ x ∈ L9, FB x = F9 x := fun x hx => (hfB x (fun (ee : x = p1) => hq_p1 (ee ▸ hx))).trans (hfA x hx)
  have hPB := hP.keep hsA (fun x hx _ => hfB9 x hx) (noE hW hST)
  have npl1 : p1 ≠ pl := fun ee => hq_p1 (ee ▸ hP.1)
  obtain ⟨q1, q2, ⟨mdp, q3⟩, q4, q5, ⟨fp, q6, q6a⟩, q7, q8, arp, q9, q10⟩ := hPB
  refine pk_cVI (As := [.ref p1]) (rest := []) S hK hST hW (c_Jx4a65c_add_9ea2d_fitL (h := pl) (k := 1) ⟨q1, q3, q4, (fun e => by rw [e, q6] at q3; cases q3), q6⟩ (by decide) (by decide) npl1 ⟨m_p1, hREp1.2⟩) mc_Jx4a65c_add_9ea2d wd_1108 wd_1109 wd_1110 rfl np_Jx4a65c_add_9ea2d q1 q3 rfl rfl hl.1 rfl (Nat.le_of_ble_eq_true rfl) dX6_areSlips_23 ⟨Nat.le_of_ble_eq_true rfl, Nat.le_of_ble_eq_true rfl⟩ ⟨by show c9 + 1 + 1 ≤ 112; omega, by show s9 + 3 + 32 ≤ 3696; omega⟩ (fun r LC FC HC lC hp hW => ?_)
  obtain ⟨rfl, hRC, hfC⟩ := hp
  refine lv_pop S.1 S.2.1 dX6_areSlips_26 rfl ?_
  have npa1 : p1 ≠ pa := fun ee => by have q := hREp1.2; rw [ee, q6] at q; cases q
  obtain ⟨r1, r2, ⟨xs0, r3, r4⟩, r5, r6⟩ := q9 0 (by decide)
  have hbxC : ∀ y v, bx ζ LA FB y v → bx ζ LA FC y v := by
    intro y v hb
    rcases hb with ⟨b1, b2⟩ | hb
    · exact Or.inl ⟨b1, (hfC y (fun e => by rw [e, q3] at b2; cases b2) (fun e => by rw [e, q6] at b2; cases b2)).trans b2⟩
    · exact Or.inr hb
  have np0pa : ∀ (x : Nat) (w : Nat × List Value), FB x = .inr w → x ≠ pa := fun x w he e => by rw [e, q6] at he; cases he
  have hPC : PW κ ζ L pl pa (fun j => if j = 0 then (if (0 : Nat) = 0 then p0 else 0) else p1) 2 (va_up b 1 []) LA FC := by
    refine ⟨q1, q2, ⟨_, hRC.2.1⟩, q4, q5, ⟨_, hRC.2.2.2.2, fun j hj => ?_⟩, noE hW hST, fun i j hi hj e => ?_, va_up arp 1 (ζ 256), fun j hj => ?_, fun i j hi hj e ha => ?_⟩
    · match j, hj with
      | 0, _ => exact (up_ne (by decide)).trans (q6a 0 (by decide))
      | 1, _ => exact up_eq
      | j + 2, hj => exact absurd hj (by omega)
    · have hne : p0 ≠ p1 := fun ee => hq_p1 (ee ▸ hp0)
      match i, j, hi, hj with
      | 0, 0, _, _ => rfl
      | 1, 1, _, _ => rfl
      | 0, 1, _, _ => exact absurd e hne
      | 1, 0, _, _ => exact absurd (Eq.symm e) hne
      | i + 2, _, hi, _ => exact absurd hi (by omega)
      | 0, j + 2, _, hj => exact absurd hj (by omega)
      | 1, j + 2, _, hj => exact absurd hj (by omega)
    · match j, hj with
      | 0, _ =>
        rw [up_ne (by decide), up_ne (by decide)]
        refine ⟨r1, r2, ⟨xs0, r3, r4.keep (fun _ h => h) (hfC _ r2 (np0pa _ _ r4.obj.2.choose_spec)) (fun ha => hfC _ (fun e => by
        obtain ⟨n9, f9, md9, c1, c2, c3, -⟩ := r4
        rcases c3 with ⟨_, _, c, _⟩ | ⟨a, _⟩
        · rw [e, q3] at c; cases c
        · exact q7 (a ▸ ha)) r6) hbxC⟩, r5, r6⟩
      | 1, _ =>
        rw [up_eq, up_eq]
        exact ⟨fun ee => hq_p1 (hsub _ ee), npl1, ⟨[], rfl, LI.new m_p1 ((hfC _ npl1 npa1).trans hREp1.2)⟩, fun q => absurd q (noE hW hST), fun ee => noE hW hST (ee ▸ q4)⟩
      | j + 2, hj => exact absurd hj (by omega)
    · match i, j, hi, hj with
      | 0, 0, _, _ => rfl
      | 1, 1, _, _ => rfl
      | 0, 1, _, _ => rw [up_ne (by decide), up_eq] at e; rw [up_ne (by decide), e] at ha; exact absurd ha (noE hW hST)
      | 1, 0, _, _ => rw [up_eq] at ha; exact absurd ha (noE hW hST)
      | i + 2, _, hi, _ => exact absurd hi (by omega)
      | 0, j + 2, _, hj => exact absurd hj (by omega)
      | 1, j + 2, _, hj => exact absurd hj (by omega)
  refine T27 1 87 (by decide) (by decide) pl pa _ ?_ _ _ _ _ _ (fun x hx => hsA x (hsub x hx)) (fun x hx => (hfC x (fun e => q2 (e ▸ hx)) (fun e => q5 (e ▸ hx))).trans ((hfB9 x (hsub x hx)).trans (hfr x hx))) hPC up_eq (fun j hj => by rw [up_ne (by omega)]; exact hbj j hj) (by omega) (by omega) _ _ _ hW hl
  intro L9 F9 b c9 s9 hsub hfr hP hbj hc9 hs9 H9 l9 ls hW hl
  refine lv_iinc (lv' := [(2, .int (nI 2)), (1, .ref pl), (0, .ref (B 0))]) S.1 S.2.1 dX6_areSlips_85 hl (k := 0) rfl (nI_1 1) (by decide) rfl (fun ls hl => ?_)
  refine lv_goto (tgt := 10) S.1 S.2.1 dX6_areSlips_88 (by decide) ?_
  refine lv_iload_n S.1 S.2.1 dX6_areSlips_10 rfl (lv_at hl 0 rfl) ?_
  refine lv_iconst (v := 2) S.1 S.2.1 dX6_areSlips_11 (by decide) ?_
  refine lv_icmp_ge (tgt := 91) S.1 S.2.1 dX6_areSlips_12 (by decide) (fun _ => ?_) (fun c1 => absurd (by decide) c1)
  have hI9 := hI.keep0 hsub hfr (noE hW hST)
  obtain ⟨ar2, hL2⟩ := hI9.li (j := 2) (by decide)
  refine lv_aload_n S.1 S.2.1 dX6_areSlips_91 rfl (lv_at hl 2 rfl) ?_
  refine pk_get S hK hW 2 (hI9.mem (by decide)) hI9.this rfl hinX6 (by decide) wd_1157 rfl dX6_areSlips_92 ?_
  refine pk_cVI (As := []) (rest := []) S hK hST hW (c_lsize hL2) mc_Jx4a65c_size_8abf5 wd_1215 wd_1216 wd_1217 rfl np_Jx4a65c_size_8abf5 hL2.obj.1 hL2.obj.2.choose_spec rfl rfl hl.1 rfl (Nat.le_of_ble_eq_true rfl) dX6_areSlips_95 ⟨Nat.le_of_ble_eq_true rfl, Nat.le_of_ble_eq_true rfl⟩ ⟨by show c9 + 0 ≤ 112; omega, by show s9 + 0 ≤ 3696; omega⟩ (fun r L8 F8 H8 l8 hp hW => ?_)
  obtain ⟨rfl, rfl, rfl⟩ := hp
  rw [Nat.add_zero, Nat.add_zero]
  refine lv_iconst (v := 1) S.1 S.2.1 dX6_areSlips_98 (by decide) ?_
  refine lv_isub S.1 S.2.1 dX6_areSlips_99 ?_
  refine lv_istore_n (lv' := [(2, .int (dn (τ.1 2).length)), (1, .ref pl), (0, .ref (B 0))]) S.1 S.2.1 dX6_areSlips_100 rfl hl (Nat.le_of_ble_eq_true rfl) rfl (fun ls hl => ?_)
  exact B101 pl pa _ _ (Nat.le_refl _) _ _ b _ _ hsub hfr hP (fun j hj => by rw [hbj j hj]; exact hlen2 j hj) (unR_cg _ _ _ (fun j hj => by obtain ⟨v, hv, e⟩ := hsl j hj; unfold svN; rw [e, nI_clamp (by omega)]; omega) hbj) (by omega) hs9 _ _ _ hW hl
