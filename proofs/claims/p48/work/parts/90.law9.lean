/-! the law: from its entry; the claim -/
set_option maxHeartbeats 4000000 in
set_option maxRecDepth 100000 in
theorem whole_start {p : Program} {e : Env} {s : State} {m : MethodId} {below : List Frame} {meth : Method} {c : Code} (l : Launch) (hflags : l.flags = flags0) {b L : Nat} {xs : Nat → Int32} (hL : L ≤ 2560) (C0 : lw_At p s m meth c b L xs) : W p l e room_1 s m #[Value.ref b] below meth c s.heap [] 0 0 (lw_Z below #[Value.ref b] s) (entryFrame m ([Value.ref b] : List Value).toArray 7) := by
  obtain ⟨hx, hb, hr, hml, hown, hts, hX, hbl, hlk, hgv⟩ := id C0
  have S : CallFix p m c code 7 s #[Value.ref b] Gw R_law := ⟨hx, hb, hml, hown, gw_hts hts⟩
  have hst : l.stackTraces = false := by rw [Launch.stackTraces, hflags]; decide
  obtain ⟨ζ, hST⟩ := st_entry hts hgv
  have hN := ncx_entry hgv
  obtain ⟨D, κ, hK⟩ := k_entry hts hST.2.aoObj hST.2.aoWk
  have hW : HW D cls [] s s.heap [] [] (fun _ => .inr (0, [])) := ⟨fun k q h => by simp [va_pl] at h, ⟨fun i j p q h => by simp [va_pl] at h, fun k q h => by simp [va_pl] at h⟩, va_S.rf⟩
  have hl := lv_entry ([.ref b]) (n := 7) (Nat.le_of_ble_eq_true rfl)
  rw [lg_entry_eq]
  generalize (lg_sl ([.ref b]) ++ List.replicate (7 - (lg_sl ([.ref b])).length) Slot.unset).toArray = ls at hl ⊢
  have hl : lv_has ls 7 [(0, .ref b)] := hl
  generalize (fun _ => .inr (0, []) : Nat → va_E) = F0_ at hW
  refine pk_new (fs := [.null, .null, .null, .null, .null, .null, .null, .int 0, .null, .null, .null]) (ci := 8) S hK hW hinX3 tyX3_ok wd_32 wd_33 wd_1 rfl (fun j hj => by match j, hj with | 0, _ => rfl | 1, _ => rfl | 2, _ => rfl | 3, _ => rfl | 4, _ => rfl | 5, _ => rfl | 6, _ => rfl | 7, _ => rfl | 8, _ => rfl | 9, _ => rfl | 10, _ => rfl | j + 11, hj => exact absurd hj (by omega)) (Nat.le_of_ble_eq_true rfl) (Nat.le_of_ble_eq_true rfl) dW_0 (fun a H_a hq_a hW => ?_)
  refine lv_dup S.1 S.2.1 dW_3 rfl ?_
  have m_a : a ∈ [] ++ [a] := List.mem_append_right _ (List.mem_singleton.mpr rfl)
  refine pk_cIV (As := []) (rest := [.ref a]) S hK hST hW (c_X3_init m_a up_eq) mc_X3_init wd_34 wd_35 rfl rfl np_X3_init rfl hl.1 rfl (Nat.le_of_ble_eq_true rfl) dW_4 ⟨Nat.le_of_ble_eq_true rfl, Nat.le_of_ble_eq_true rfl⟩ ⟨Nat.le_of_ble_eq_true rfl, Nat.le_of_ble_eq_true rfl⟩ (fun L1 F1 H1 l1 hp hW1 => ?_)
  obtain ⟨hs1, A, hA0, hI, -, -⟩ := hp
  clear hW
  have hW := hW1
  clear hW1
  subst hA0
  clear hs1 m_a
  refine lv_astore_n (lv' := [(1, .ref (A 0)), (0, .ref b)]) S.1 S.2.1 dW_7 rfl hl (Nat.le_of_ble_eq_true rfl) rfl (fun ls hl => ?_)
  refine pk_new (fs := [.int 0, .null, .null, .null, .null, .int 0, .int 0, .int 0, .int 0]) (ci := 11) S hK hW hinX6 tyX6_ok wd_1064 wd_1065 wd_5 rfl (fun j hj => by match j, hj with | 0, _ => rfl | 1, _ => rfl | 2, _ => rfl | 3, _ => rfl | 4, _ => rfl | 5, _ => rfl | 6, _ => rfl | 7, _ => rfl | 8, _ => rfl | j + 9, hj => exact absurd hj (by omega)) (Nat.le_of_ble_eq_true rfl) (Nat.le_of_ble_eq_true rfl) dW_8 (fun d H_d hq_d hW => ?_)
  refine lv_dup S.1 S.2.1 dW_11 rfl ?_
  have m_d : d ∈ L1 ++ [d] := List.mem_append_right _ (List.mem_singleton.mpr rfl)
  have hI := hI.keepA (L' := L1 ++ [d]) (F' := va_up F1 d (.inr (11, [.int 0, .null, .null, .null, .null, .int 0, .int 0, .int 0, .int 0]))) (fun x h => List.mem_append_left _ h) (fun i hi => up_ne (fun ee => hq_d (ee ▸ hI.mem i hi)))
  refine pk_cIV (As := []) (rest := [.ref d]) S hK hST hW (c_X6_init m_d up_eq) mc_X6_init wd_1066 wd_1067 rfl rfl np_X6_init rfl hl.1 rfl (Nat.le_of_ble_eq_true rfl) dW_12 ⟨Nat.le_of_ble_eq_true rfl, Nat.le_of_ble_eq_true rfl⟩ ⟨Nat.le_of_ble_eq_true rfl, Nat.le_of_ble_eq_true rfl⟩ (fun L2 F2 H2 l2 hp hW2 => ?_)
  obtain ⟨hs2, B, hB0, hJ, hf2, -⟩ := hp
  clear hW
  have hW := hW2
  clear hW2
  have hI2 := hI.keepA hs2 (fun i hi => hf2 _ (hI.mem i hi) (hI.notD up_eq i hi))
  clear hI
  have hI := hI2
  clear hI2
  subst hB0
  clear hs2 m_d hf2
  refine lv_astore_n (lv' := [(2, .ref (B 0)), (1, .ref (A 0)), (0, .ref b)]) S.1 S.2.1 dW_15 rfl hl (Nat.le_of_ble_eq_true rfl) rfl (fun ls hl => ?_)
  refine pk_new (fs := [.long 0, .null]) (ci := 9) S hK hW hinX4 tyX4_ok wd_338 wd_339 wd_14 rfl (fun j hj => by match j, hj with | 0, _ => rfl | 1, _ => rfl | j + 2, hj => exact absurd hj (by omega)) (Nat.le_of_ble_eq_true rfl) (Nat.le_of_ble_eq_true rfl) dW_16 (fun q H_q hq_q hW => ?_)
  refine lv_dup S.1 S.2.1 dW_19 rfl ?_
  have m_q : q ∈ L2 ++ [q] := List.mem_append_right _ (List.mem_singleton.mpr rfl)
  have hI := hI.keepA (L' := L2 ++ [q]) (F' := va_up F2 q (.inr (9, [.long 0, .null]))) (fun x h => List.mem_append_left _ h) (fun i hi => up_ne (fun ee => hq_q (ee ▸ hI.mem i hi)))
  have hJ := hJ.push (e := .inr (9, [.long 0, .null])) hq_q (noE hW hST)
  refine pk_cJN (As := []) (rest := [.ref q]) S hK hST hW c_X4_init mc_X4_init wn_7 wd_340 rfl rfl np_X4_init rfl hl.1 rfl (Nat.le_of_ble_eq_true rfl) dW_20 ⟨Nat.le_of_ble_eq_true rfl, Nat.le_of_ble_eq_true rfl⟩ ⟨Nat.le_of_ble_eq_true rfl, Nat.le_of_ble_eq_true rfl⟩ (fun L3 F3 H3 l3 hp hW => ?_)
  obtain ⟨rfl, rfl⟩ := hp
  have hO : OUT q (L2 ++ [q]) (va_up F2 q (.inr (9, [.long 0, .null]))) := ⟨m_q, _, _, up_eq⟩
  refine lv_astore_n (lv' := [(3, .ref q), (2, .ref (B 0)), (1, .ref (A 0)), (0, .ref b)]) S.1 S.2.1 dW_23 rfl hl (Nat.le_of_ble_eq_true rfl) rfl (fun ls hl => ?_)
  refine lv_iconst (v := 0) S.1 S.2.1 dW_24 (by decide) ?_
  refine lv_istore (lv' := [(4, .int 0), (3, .ref q), (2, .ref (B 0)), (1, .ref (A 0)), (0, .ref b)]) S.1 S.2.1 dW_25 hl (Nat.le_of_ble_eq_true rfl) rfl (fun ls hl => ?_)
  refine W.widen (k := 100) (n := 1000) (Nat.le_of_ble_eq_true rfl) (Nat.le_of_ble_eq_true rfl) ?_
  exact lw_loop ⟨hst, S, hr, hlk, hN, hK, hST, hX, hbl⟩ hL 513 0 100 1000 rfl (by omega) (by omega) (by omega) _ _ _ _ _ _ _ ⟨hW, hI, hJ, hO, invx0⟩ (lv_sub hl [0, 4, 3, 2, 1] rfl)
set_option maxHeartbeats 4000000 in
theorem lw_walk (l : Launch) (hflags : l.flags = flags0) (b : Addr) (xs : List Int32) : MetFree l x (headSpec (Jvm.Cond.code x code maxLocals ret :: tables_1) room_1) (lw_P b xs) (fun _ _ _ _ _ => True) lw_Q := by
  refine MetFree.of_bodyS (code := code) (maxLocals := maxLocals) (ret := ret) (by decide) ?_ ?_
  · intro args s m h hn
    obtain ⟨meth, c, h1, h2, h3, h4, h5, h6, -, -⟩ := Cond.code_spec hn (atoms_spec (ws := Jvm.Cond.code x code maxLocals ret :: tables_1) h _ List.mem_cons_self)
    exact ⟨meth, c, h1, h2, h3, h4, h5, h6⟩
  · intro p e s m args below meth c s₁ B hml0 hP _
    obtain ⟨rfl, hx, hbd, hgv⟩ := hP
    obtain ⟨scr, harrAt, hlist, hof, hsmall⟩ := hx
    obtain ⟨hcb, hkn, -, -⟩ := State.arrayAt?_spec harrAt
    have hown : s.vm.findClass R_law = some m.cls := findClass_of_methodNamed B.named
    have hts0 : ∀ c ∈ (Jvm.Cond.code x code maxLocals ret :: tables_1), c.before #[Value.ref b] s = true := atoms_spec (ws := Jvm.Cond.code x code maxLocals ret :: tables_1) B.pre
    have hts : ∀ w ∈ lw_tbl, w.before #[Value.ref b] s = true := k2_hts_sels lw_privs (fun w hw => hts0 w (List.mem_cons_of_mem _ hw)) lw_privs_ok
    have hml : c.maxLocals = 7 := B.maxLocals_eq (hts0 _ List.mem_cons_self)
    have X₀ : Stand p l e room_1 s m #[Value.ref b] below meth c s₁ [] 0 0 := Stand.of_body B
    have hh0 : s₁.heap = s.heap := by rw [B.state]; rfl
    have hsz : scr.slots.size = xs.length := by rw [← Array.length_toList, hlist, List.length_map]
    have hval : ∀ j : Nat, j < xs.length → scr.slots[j]? = some (.int (xs.getD j 0)) := fun j hj => by
      rw [← Array.getElem?_toList, hlist]
      simp [hj]
    have hbl : b < s.heap.size := (Array.getElem?_eq_some_iff.mp hcb).1
    have hX : va_X b xs.length (fun j => xs.getD j 0) s s.heap := ⟨scr, hcb, hof, hkn, hsz, hval⟩
    have K : W p l e room_1 s m #[Value.ref b] below meth c s₁.heap [] 0 0 (lw_Z below #[Value.ref b] s) (entryFrame m ([Value.ref b] : List Value).toArray 7) := by
      rw [hh0]
      exact whole_start l hflags hbd ⟨B.exec, B.bytes, B.returns, hml, hown, hts, hX, hbl, B.notSynchronized, hgv⟩
    obtain ⟨t, a1, o, b1, b2, b3⟩ := K s₁ rfl X₀
    exact ⟨t, o, a1, b1, b2, b3⟩
theorem lw_pre_spec {args : Array Value} {s : State} (h : (Jvm.Cond.and given_1 narrow_1).before args s = true) (hr : rest_1_c.before args s = true) : ∃ (b : Addr) (xs : List Int32), lw_P b xs args s := by
  have hs := flat_of_before _ h
  have hq := flat_of_before _ hr
  have hc : (Cond.count 1).before args s = true := hs _ (by decide +kernel)
  have harr : (Cond.arrayOf (.arg 0) .int).before args s = true := hs _ (by decide +kernel)
  have hle : (Cond.le (.length (.arg 0)) (.int 2560)).before args s = true := hs _ (by decide +kernel)
  have hlen : (Cond.isInt (.length (.arg 0))).before args s = true := hq _ (by decide +kernel)
  have hall : (Cond.all (.arg 0) (.isInt (.elem (.arg 0) (.index 0)))).before args s = true := hq _ (by decide +kernel)
  obtain ⟨b, xs, hb, hx⟩ := State.ints_of_pre rfl harr hlen hall
  have hsm : xs.length < 2 ^ 31 := hx.choose_spec.2.2.2
  have hev : (Term.length (.arg 0)).eval args s none [] s = some (.int xs.length.toInt32) := hx.length_eval hb
  have hv := Cond.le_ints hev (show (Term.int 2560).eval args s none [] s = some (.int 2560) from rfl)
  have hd : xs.length.toInt32 ≤ 2560 := by
    simpa [Cond.before, Cond.holds, hv] using hle
  have hN : xs.length ≤ 2560 := (Int32.ofNat_le_ofNat hsm (by decide)).mp (show Int32.ofNat xs.length ≤ Int32.ofNat 2560 from hd)
  exact ⟨b, xs, Cond.one_arg hc (show args[0]? = some (.ref b) from hb), hx, hN, h⟩
theorem lw_comes (l : Launch) (hflags : l.flags = flags0) : Comes l x (Jvm.Cond.code x code maxLocals ret :: tables_1) room_1 (fun tb e args s => Calls_1 tb e args s ∧ rest_1 tb e args s ∧ Pre_1 tb e args s)
    (fun _ _ args s o t => lw_Q args s o t) := by
  intro p e ha hc hk s m args below hf hfit hheap happ hpre
  obtain ⟨b, xs, hP⟩ := lw_pre_spec hpre.2.2 hpre.2.1
  obtain ⟨k, o, h1, h2, h3, hQ⟩ := lw_walk l hflags b xs p e ha hc hk s m args below hf ((Spec.applies_iff_loose hf).mp happ).1 hP trivial
  exact ⟨k, o, h1, h2, h3, hQ⟩
theorem lw_frame {s t : State} {o : Outcome} {args : Array Value} (h : Framed s o t [] 697565 7003408) :
    Framed s o t (fieldLocs frame_1_writes args s ++ arrayLocs frame_1_arrays args s ++ staticLocs frame_1_statics s) 697565 7003408 := h
theorem lw_limb (L : Cond) (hL : ∀ (args : Array Value) (s t : State), L.after args s (.returned (some (.int 1))) t = true) :
    ArmFor flags0 classFile x code maxLocals ret World_1 tables_1 room_1 Calls_1 rest_1 Pre_1
      (fun tb e a s o t => postC L tb e a s o t ∧ Framed s o t (fieldLocs frame_1_writes a s ++ arrayLocs frame_1_arrays a s ++ staticLocs frame_1_statics s) 697565 7003408) := by
  intro l hflags _ _ p e ha hc hk s m args below hf hfit hheap happ hpre
  obtain ⟨k, o, h1, h2, h3, rfl, hF⟩ := lw_comes l hflags p e ha hc hk s m args below hf hfit hheap happ hpre
  exact ⟨k, _, h1, h2, h3, hL args s _, lw_frame hF⟩
theorem i_vc : Claimed_1_1 ∧ Claimed_1_2 := ⟨lw_limb limb_1_1 (fun args s t => by simp [limb_1_1, Cond.after, Cond.holds, Cond.value]), lw_limb limb_1_2 (fun args s t => Cond.after_iff.mpr (by
  first | (rw [show limb_1_2 = Cond.eq .result (.int 1) from rfl, Cond.eq_ints (x := 1) (y := 1) rfl rfl]; simp; done) | (simp [limb_1_2, Cond.value, Term.eval]; done)))⟩
