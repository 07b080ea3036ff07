/-! the law: its loop, and the whole -/
set_option maxHeartbeats 8000000 in
set_option maxRecDepth 100000 in
theorem lw_loop {p : Program} {l : Launch} {e : Env} {s : State} {m : MethodId} {b : Nat} {below : List Frame} {meth : Method} {c : Code} {D : va_G} {κ : Nat → ClassId} {ζ : Nat → Nat} {A B : Nat → Nat} {q LL : Nat} {xs : Nat → Int32} (E : LWE p l e s m b below meth c D κ ζ LL xs) (hL : LL ≤ 2560) : ∀ (n x cells slots : Nat), x + n = 513 → 5 * x ≤ LL → cells + 256 * n ≤ 697565 → slots + 8192 * n ≤ 7003408 → ∀ (H : Heap) (locs : List Loc) (L : List Nat) (F : Nat → va_E) (σ : CS) (τ : MS) (ls : Array Slot), LST D κ ζ A B q s H locs L F σ τ → lv_has ls 7 [(4, .int (nI (5 * x))), (0, .ref b), (1, .ref (A 0)), (2, .ref (B 0)), (3, .ref q)] → W p l e room_1 s m #[Value.ref b] below meth c H locs cells slots (lw_Z below #[Value.ref b] s) (F0 m 27 ls []) := by
  intro n
  induction n with
  | zero =>
    intro x cells slots hn hx
    exact absurd hx (by omega)
  | succ n ih =>
    intro x cells slots hn hx hc hs H locs L F σ τ ls Z hl
    obtain ⟨hst, S, hr, hlk, hN, hK, hST, hX, hbl⟩ := id E
    obtain ⟨hW, hI, hJ, hO, hV⟩ := id Z
    have hbA : ¬ AL [] s.heap.size b := fun q => q.elim (fun q => absurd q List.not_mem_nil) (fun q => absurd hbl (by omega))
    refine lv_iload S.1 S.2.1 dW_27 (lv_at hl 0 rfl) ?_
    refine lv_aload_n S.1 S.2.1 dW_29 rfl (lv_at hl 1 rfl) ?_
    refine va_slen S.1 S.2.1 hX hbl hbA hW.2.2 dW_30 ?_
    refine lv_iconst (v := 5) S.1 S.2.1 dW_31 (by decide) ?_
    refine lv_isub S.1 S.2.1 dW_32 ?_
    refine lv_icmp_gt (tgt := 2362) S.1 S.2.1 dW_33 (by decide) (fun _ => ?_) (fun c1 => ?_)
    · refine lv_iconst (v := 1) S.1 S.2.1 dW_2362 (by decide) ?_
      refine va_forget (fun l9 h9 => (hW.2.2.2.2 l9 h9).elim (fun q => absurd q List.not_mem_nil) (fun q => q)) ?_
      refine W.widen (k := 697565) (n := 7003408) (by omega) (by omega) ?_
      exact lw_ret S.1 S.2.1 hr hlk dW_2363
    · have hx5 : 5 * x + 5 ≤ LL := sc_go hL hx c1
      refine lv_aload_n S.1 S.2.1 dW_36 rfl (lv_at hl 1 rfl) ?_
      refine lv_iload S.1 S.2.1 dW_37 (lv_at hl 0 rfl) ?_
      refine va_sld S.1 S.2.1 hX hbl hbA hW.2.2 (vp_in_nI (by omega) (by omega)) dW_39 ?_
      refine lv_bipush (v := 63) S.1 S.2.1 dW_40 (by decide) ?_
      refine lv_iand S.1 S.2.1 dW_42 ?_
      refine lv_topi (fun y _ => ?_)
      have T : TL p l e s m b below meth c D κ ζ A B q x (cells + 256) (slots + 8192) := by
        intro H locs L F σ τ ls Z hl
        refine lv_iinc (lv' := [(4, .int (nI (5 * (x + 1)))), (0, .ref b), (1, .ref (A 0)), (2, .ref (B 0)), (3, .ref q)]) S.1 S.2.1 dW_2356 hl (k := 0) rfl (sc_5 x) (by decide) rfl (fun ls hl => ?_)
        refine lv_goto (tgt := 27) S.1 S.2.1 dW_2359 (by decide) ?_
        exact ih (x + 1) _ _ (by omega) (by omega) (by omega) (by omega) _ _ _ _ _ _ _ Z hl
      have o1 : cells + 256 ≤ 697565 := by omega
      have o2 : slots + 8192 ≤ 7003408 := by omega
      by_cases h0 : y = nI 0
      · exact lv_tableIn (tgt := 256) S.1 S.2.1 dW_43 (by rw [tbl_in (by decide) h0]; decide +kernel) (by rw [tbl_in (by decide) h0]; decide +kernel) (by rw [tbl_in (by decide) h0]; rfl) (by decide) (cs_0 E hx5 hL o1 o2 T Z hl)
      by_cases h1 : y = nI 1
      · exact lv_tableIn (tgt := 336) S.1 S.2.1 dW_43 (by rw [tbl_in (by decide) h1]; decide +kernel) (by rw [tbl_in (by decide) h1]; decide +kernel) (by rw [tbl_in (by decide) h1]; rfl) (by decide) (cs_1 E hx5 hL o1 o2 T Z hl)
      by_cases h2 : y = nI 2
      · exact lv_tableIn (tgt := 416) S.1 S.2.1 dW_43 (by rw [tbl_in (by decide) h2]; decide +kernel) (by rw [tbl_in (by decide) h2]; decide +kernel) (by rw [tbl_in (by decide) h2]; rfl) (by decide) (cs_2 E hx5 hL o1 o2 T Z hl)
      by_cases h3 : y = nI 3
      · exact lv_tableIn (tgt := 468) S.1 S.2.1 dW_43 (by rw [tbl_in (by decide) h3]; decide +kernel) (by rw [tbl_in (by decide) h3]; decide +kernel) (by rw [tbl_in (by decide) h3]; rfl) (by decide) (cs_3 E hx5 hL o1 o2 T Z hl)
      by_cases h4 : y = nI 4
      · exact lv_tableIn (tgt := 520) S.1 S.2.1 dW_43 (by rw [tbl_in (by decide) h4]; decide +kernel) (by rw [tbl_in (by decide) h4]; decide +kernel) (by rw [tbl_in (by decide) h4]; rfl) (by decide) (cs_4 E hx5 hL o1 o2 T Z hl)
      by_cases h5 : y = nI 5
      · exact lv_tableIn (tgt := 584) S.1 S.2.1 dW_43 (by rw [tbl_in (by decide) h5]; decide +kernel) (by rw [tbl_in (by decide) h5]; decide +kernel) (by rw [tbl_in (by decide) h5]; rfl) (by decide) (cs_5 E hx5 hL o1 o2 T Z hl)
      by_cases h6 : y = nI 6
      · exact lv_tableIn (tgt := 640) S.1 S.2.1 dW_43 (by rw [tbl_in (by decide) h6]; decide +kernel) (by rw [tbl_in (by decide) h6]; decide +kernel) (by rw [tbl_in (by decide) h6]; rfl) (by decide) (cs_6 E hx5 hL o1 o2 T Z hl)
      by_cases h7 : y = nI 7
      · exact lv_tableIn (tgt := 696) S.1 S.2.1 dW_43 (by rw [tbl_in (by decide) h7]; decide +kernel) (by rw [tbl_in (by decide) h7]; decide +kernel) (by rw [tbl_in (by decide) h7]; rfl) (by decide) (cs_7 E hx5 hL o1 o2 T Z hl)
      by_cases h8 : y = nI 8
      · exact lv_tableIn (tgt := 724) S.1 S.2.1 dW_43 (by rw [tbl_in (by decide) h8]; decide +kernel) (by rw [tbl_in (by decide) h8]; decide +kernel) (by rw [tbl_in (by decide) h8]; rfl) (by decide) (cs_8 E hx5 hL o1 o2 T Z hl)
      by_cases h9 : y = nI 9
      · exact lv_tableIn (tgt := 780) S.1 S.2.1 dW_43 (by rw [tbl_in (by decide) h9]; decide +kernel) (by rw [tbl_in (by decide) h9]; decide +kernel) (by rw [tbl_in (by decide) h9]; rfl) (by decide) (cs_9 E hx5 hL o1 o2 T Z hl)
      by_cases h10 : y = nI 10
      · exact lv_tableIn (tgt := 820) S.1 S.2.1 dW_43 (by rw [tbl_in (by decide) h10]; decide +kernel) (by rw [tbl_in (by decide) h10]; decide +kernel) (by rw [tbl_in (by decide) h10]; rfl) (by decide) (cs_10 E hx5 hL o1 o2 T Z hl)
      by_cases h11 : y = nI 11
      · exact lv_tableIn (tgt := 833) S.1 S.2.1 dW_43 (by rw [tbl_in (by decide) h11]; decide +kernel) (by rw [tbl_in (by decide) h11]; decide +kernel) (by rw [tbl_in (by decide) h11]; rfl) (by decide) (cs_11 E hx5 hL o1 o2 T Z hl)
      by_cases h12 : y = nI 12
      · exact lv_tableIn (tgt := 901) S.1 S.2.1 dW_43 (by rw [tbl_in (by decide) h12]; decide +kernel) (by rw [tbl_in (by decide) h12]; decide +kernel) (by rw [tbl_in (by decide) h12]; rfl) (by decide) (cs_12 E hx5 hL o1 o2 T Z hl)
      by_cases h13 : y = nI 13
      · exact lv_tableIn (tgt := 941) S.1 S.2.1 dW_43 (by rw [tbl_in (by decide) h13]; decide +kernel) (by rw [tbl_in (by decide) h13]; decide +kernel) (by rw [tbl_in (by decide) h13]; rfl) (by decide) (cs_13 E hx5 hL o1 o2 T Z hl)
      by_cases h14 : y = nI 14
      · exact lv_tableIn (tgt := 1021) S.1 S.2.1 dW_43 (by rw [tbl_in (by decide) h14]; decide +kernel) (by rw [tbl_in (by decide) h14]; decide +kernel) (by rw [tbl_in (by decide) h14]; rfl) (by decide) (cs_14 E hx5 hL o1 o2 T Z hl)
      by_cases h15 : y = nI 15
      · exact lv_tableIn (tgt := 1089) S.1 S.2.1 dW_43 (by rw [tbl_in (by decide) h15]; decide +kernel) (by rw [tbl_in (by decide) h15]; decide +kernel) (by rw [tbl_in (by decide) h15]; rfl) (by decide) (cs_15 E hx5 hL o1 o2 T Z hl)
      by_cases h16 : y = nI 16
      · exact lv_tableIn (tgt := 1117) S.1 S.2.1 dW_43 (by rw [tbl_in (by decide) h16]; decide +kernel) (by rw [tbl_in (by decide) h16]; decide +kernel) (by rw [tbl_in (by decide) h16]; rfl) (by decide) (cs_16 E hx5 hL o1 o2 T Z hl)
      by_cases h17 : y = nI 17
      · exact lv_tableIn (tgt := 1145) S.1 S.2.1 dW_43 (by rw [tbl_in (by decide) h17]; decide +kernel) (by rw [tbl_in (by decide) h17]; decide +kernel) (by rw [tbl_in (by decide) h17]; rfl) (by decide) (cs_17 E hx5 hL o1 o2 T Z hl)
      by_cases h18 : y = nI 18
      · exact lv_tableIn (tgt := 1186) S.1 S.2.1 dW_43 (by rw [tbl_in (by decide) h18]; decide +kernel) (by rw [tbl_in (by decide) h18]; decide +kernel) (by rw [tbl_in (by decide) h18]; rfl) (by decide) (cs_18 E hx5 hL o1 o2 T Z hl)
      by_cases h19 : y = nI 19
      · exact lv_tableIn (tgt := 1227) S.1 S.2.1 dW_43 (by rw [tbl_in (by decide) h19]; decide +kernel) (by rw [tbl_in (by decide) h19]; decide +kernel) (by rw [tbl_in (by decide) h19]; rfl) (by decide) (cs_19 E hx5 hL o1 o2 T Z hl)
      by_cases h20 : y = nI 20
      · exact lv_tableIn (tgt := 1243) S.1 S.2.1 dW_43 (by rw [tbl_in (by decide) h20]; decide +kernel) (by rw [tbl_in (by decide) h20]; decide +kernel) (by rw [tbl_in (by decide) h20]; rfl) (by decide) (cs_20 E hx5 hL o1 o2 T Z hl)
      by_cases h21 : y = nI 21
      · exact lv_tableIn (tgt := 1259) S.1 S.2.1 dW_43 (by rw [tbl_in (by decide) h21]; decide +kernel) (by rw [tbl_in (by decide) h21]; decide +kernel) (by rw [tbl_in (by decide) h21]; rfl) (by decide) (cs_21 E hx5 hL o1 o2 T Z hl)
      by_cases h22 : y = nI 22
      · exact lv_tableIn (tgt := 1311) S.1 S.2.1 dW_43 (by rw [tbl_in (by decide) h22]; decide +kernel) (by rw [tbl_in (by decide) h22]; decide +kernel) (by rw [tbl_in (by decide) h22]; rfl) (by decide) (cs_22 E hx5 hL o1 o2 T Z hl)
      by_cases h23 : y = nI 23
      · exact lv_tableIn (tgt := 1339) S.1 S.2.1 dW_43 (by rw [tbl_in (by decide) h23]; decide +kernel) (by rw [tbl_in (by decide) h23]; decide +kernel) (by rw [tbl_in (by decide) h23]; rfl) (by decide) (cs_23 E hx5 hL o1 o2 T Z hl)
      by_cases h24 : y = nI 24
      · exact lv_tableIn (tgt := 1391) S.1 S.2.1 dW_43 (by rw [tbl_in (by decide) h24]; decide +kernel) (by rw [tbl_in (by decide) h24]; decide +kernel) (by rw [tbl_in (by decide) h24]; rfl) (by decide) (cs_24 E hx5 hL o1 o2 T Z hl)
      by_cases h25 : y = nI 25
      · exact lv_tableIn (tgt := 1419) S.1 S.2.1 dW_43 (by rw [tbl_in (by decide) h25]; decide +kernel) (by rw [tbl_in (by decide) h25]; decide +kernel) (by rw [tbl_in (by decide) h25]; rfl) (by decide) (cs_25 E hx5 hL o1 o2 T Z hl)
      by_cases h26 : y = nI 26
      · exact lv_tableIn (tgt := 1475) S.1 S.2.1 dW_43 (by rw [tbl_in (by decide) h26]; decide +kernel) (by rw [tbl_in (by decide) h26]; decide +kernel) (by rw [tbl_in (by decide) h26]; rfl) (by decide) (cs_26 E hx5 hL o1 o2 T Z hl)
      by_cases h27 : y = nI 27
      · exact lv_tableIn (tgt := 1503) S.1 S.2.1 dW_43 (by rw [tbl_in (by decide) h27]; decide +kernel) (by rw [tbl_in (by decide) h27]; decide +kernel) (by rw [tbl_in (by decide) h27]; rfl) (by decide) (cs_27 E hx5 hL o1 o2 T Z hl)
      by_cases h28 : y = nI 28
      · exact lv_tableIn (tgt := 1543) S.1 S.2.1 dW_43 (by rw [tbl_in (by decide) h28]; decide +kernel) (by rw [tbl_in (by decide) h28]; decide +kernel) (by rw [tbl_in (by decide) h28]; rfl) (by decide) (cs_28 E hx5 hL o1 o2 T Z hl)
      by_cases h29 : y = nI 29
      · exact lv_tableIn (tgt := 1583) S.1 S.2.1 dW_43 (by rw [tbl_in (by decide) h29]; decide +kernel) (by rw [tbl_in (by decide) h29]; decide +kernel) (by rw [tbl_in (by decide) h29]; rfl) (by decide) (cs_29 E hx5 hL o1 o2 T Z hl)
      by_cases h30 : y = nI 30
      · exact lv_tableIn (tgt := 1611) S.1 S.2.1 dW_43 (by rw [tbl_in (by decide) h30]; decide +kernel) (by rw [tbl_in (by decide) h30]; decide +kernel) (by rw [tbl_in (by decide) h30]; rfl) (by decide) (cs_30 E hx5 hL o1 o2 T Z hl)
      by_cases h31 : y = nI 31
      · exact lv_tableIn (tgt := 1639) S.1 S.2.1 dW_43 (by rw [tbl_in (by decide) h31]; decide +kernel) (by rw [tbl_in (by decide) h31]; decide +kernel) (by rw [tbl_in (by decide) h31]; rfl) (by decide) (cs_31 E hx5 hL o1 o2 T Z hl)
      by_cases h32 : y = nI 32
      · exact lv_tableIn (tgt := 1667) S.1 S.2.1 dW_43 (by rw [tbl_in (by decide) h32]; decide +kernel) (by rw [tbl_in (by decide) h32]; decide +kernel) (by rw [tbl_in (by decide) h32]; rfl) (by decide) (cs_32 E hx5 hL o1 o2 T Z hl)
      by_cases h33 : y = nI 33
      · exact lv_tableIn (tgt := 1719) S.1 S.2.1 dW_43 (by rw [tbl_in (by decide) h33]; decide +kernel) (by rw [tbl_in (by decide) h33]; decide +kernel) (by rw [tbl_in (by decide) h33]; rfl) (by decide) (cs_33 E hx5 hL o1 o2 T Z hl)
      by_cases h34 : y = nI 34
      · exact lv_tableIn (tgt := 1771) S.1 S.2.1 dW_43 (by rw [tbl_in (by decide) h34]; decide +kernel) (by rw [tbl_in (by decide) h34]; decide +kernel) (by rw [tbl_in (by decide) h34]; rfl) (by decide) (cs_34 E hx5 hL o1 o2 T Z hl)
      by_cases h35 : y = nI 35
      · exact lv_tableIn (tgt := 1811) S.1 S.2.1 dW_43 (by rw [tbl_in (by decide) h35]; decide +kernel) (by rw [tbl_in (by decide) h35]; decide +kernel) (by rw [tbl_in (by decide) h35]; rfl) (by decide) (cs_35 E hx5 hL o1 o2 T Z hl)
      by_cases h36 : y = nI 36
      · exact lv_tableIn (tgt := 1839) S.1 S.2.1 dW_43 (by rw [tbl_in (by decide) h36]; decide +kernel) (by rw [tbl_in (by decide) h36]; decide +kernel) (by rw [tbl_in (by decide) h36]; rfl) (by decide) (cs_36 E hx5 hL o1 o2 T Z hl)
      by_cases h37 : y = nI 37
      · exact lv_tableIn (tgt := 1867) S.1 S.2.1 dW_43 (by rw [tbl_in (by decide) h37]; decide +kernel) (by rw [tbl_in (by decide) h37]; decide +kernel) (by rw [tbl_in (by decide) h37]; rfl) (by decide) (cs_37 E hx5 hL o1 o2 T Z hl)
      by_cases h38 : y = nI 38
      · exact lv_tableIn (tgt := 1923) S.1 S.2.1 dW_43 (by rw [tbl_in (by decide) h38]; decide +kernel) (by rw [tbl_in (by decide) h38]; decide +kernel) (by rw [tbl_in (by decide) h38]; rfl) (by decide) (cs_38 E hx5 hL o1 o2 T Z hl)
      by_cases h39 : y = nI 39
      · exact lv_tableIn (tgt := 1963) S.1 S.2.1 dW_43 (by rw [tbl_in (by decide) h39]; decide +kernel) (by rw [tbl_in (by decide) h39]; decide +kernel) (by rw [tbl_in (by decide) h39]; rfl) (by decide) (cs_39 E hx5 hL o1 o2 T Z hl)
      by_cases h40 : y = nI 40
      · exact lv_tableIn (tgt := 2003) S.1 S.2.1 dW_43 (by rw [tbl_in (by decide) h40]; decide +kernel) (by rw [tbl_in (by decide) h40]; decide +kernel) (by rw [tbl_in (by decide) h40]; rfl) (by decide) (cs_40 E hx5 hL o1 o2 T Z hl)
      by_cases h41 : y = nI 41
      · exact lv_tableIn (tgt := 2043) S.1 S.2.1 dW_43 (by rw [tbl_in (by decide) h41]; decide +kernel) (by rw [tbl_in (by decide) h41]; decide +kernel) (by rw [tbl_in (by decide) h41]; rfl) (by decide) (cs_41 E hx5 hL o1 o2 T Z hl)
      by_cases h42 : y = nI 42
      · exact lv_tableIn (tgt := 2084) S.1 S.2.1 dW_43 (by rw [tbl_in (by decide) h42]; decide +kernel) (by rw [tbl_in (by decide) h42]; decide +kernel) (by rw [tbl_in (by decide) h42]; rfl) (by decide) (cs_42 E hx5 hL o1 o2 T Z hl)
      by_cases h43 : y = nI 43
      · exact lv_tableIn (tgt := 2140) S.1 S.2.1 dW_43 (by rw [tbl_in (by decide) h43]; decide +kernel) (by rw [tbl_in (by decide) h43]; decide +kernel) (by rw [tbl_in (by decide) h43]; rfl) (by decide) (cs_43 E hx5 hL o1 o2 T Z hl)
      by_cases h44 : y = nI 44
      · exact lv_tableIn (tgt := 2168) S.1 S.2.1 dW_43 (by rw [tbl_in (by decide) h44]; decide +kernel) (by rw [tbl_in (by decide) h44]; decide +kernel) (by rw [tbl_in (by decide) h44]; rfl) (by decide) (cs_44 E hx5 hL o1 o2 T Z hl)
      by_cases h45 : y = nI 45
      · exact lv_tableIn (tgt := 2220) S.1 S.2.1 dW_43 (by rw [tbl_in (by decide) h45]; decide +kernel) (by rw [tbl_in (by decide) h45]; decide +kernel) (by rw [tbl_in (by decide) h45]; rfl) (by decide) (cs_45 E hx5 hL o1 o2 T Z hl)
      by_cases h46 : y = nI 46
      · exact lv_tableIn (tgt := 2260) S.1 S.2.1 dW_43 (by rw [tbl_in (by decide) h46]; decide +kernel) (by rw [tbl_in (by decide) h46]; decide +kernel) (by rw [tbl_in (by decide) h46]; rfl) (by decide) (cs_46 E hx5 hL o1 o2 T Z hl)
      by_cases h47 : y = nI 47
      · exact lv_tableIn (tgt := 2317) S.1 S.2.1 dW_43 (by rw [tbl_in (by decide) h47]; decide +kernel) (by rw [tbl_in (by decide) h47]; decide +kernel) (by rw [tbl_in (by decide) h47]; rfl) (by decide) (cs_47 E hx5 hL o1 o2 T Z hl)
      by_cases h48 : y = nI 48
      · exact lv_tableIn (tgt := 2330) S.1 S.2.1 dW_43 (by rw [tbl_in (by decide) h48]; decide +kernel) (by rw [tbl_in (by decide) h48]; decide +kernel) (by rw [tbl_in (by decide) h48]; rfl) (by decide) (cs_48 E hx5 hL o1 o2 T Z hl)
      by_cases h49 : y = nI 49
      · exact lv_tableIn (tgt := 2343) S.1 S.2.1 dW_43 (by rw [tbl_in (by decide) h49]; decide +kernel) (by rw [tbl_in (by decide) h49]; decide +kernel) (by rw [tbl_in (by decide) h49]; rfl) (by decide) (cs_49 E hx5 hL o1 o2 T Z hl)
      refine lv_tableOut (tgt := 2356) S.1 S.2.1 dW_43 (tbl_out 50 (by decide) (fun k hk => by match k, hk with | 0, _ => exact h0 | 1, _ => exact h1 | 2, _ => exact h2 | 3, _ => exact h3 | 4, _ => exact h4 | 5, _ => exact h5 | 6, _ => exact h6 | 7, _ => exact h7 | 8, _ => exact h8 | 9, _ => exact h9 | 10, _ => exact h10 | 11, _ => exact h11 | 12, _ => exact h12 | 13, _ => exact h13 | 14, _ => exact h14 | 15, _ => exact h15 | 16, _ => exact h16 | 17, _ => exact h17 | 18, _ => exact h18 | 19, _ => exact h19 | 20, _ => exact h20 | 21, _ => exact h21 | 22, _ => exact h22 | 23, _ => exact h23 | 24, _ => exact h24 | 25, _ => exact h25 | 26, _ => exact h26 | 27, _ => exact h27 | 28, _ => exact h28 | 29, _ => exact h29 | 30, _ => exact h30 | 31, _ => exact h31 | 32, _ => exact h32 | 33, _ => exact h33 | 34, _ => exact h34 | 35, _ => exact h35 | 36, _ => exact h36 | 37, _ => exact h37 | 38, _ => exact h38 | 39, _ => exact h39 | 40, _ => exact h40 | 41, _ => exact h41 | 42, _ => exact h42 | 43, _ => exact h43 | 44, _ => exact h44 | 45, _ => exact h45 | 46, _ => exact h46 | 47, _ => exact h47 | 48, _ => exact h48 | 49, _ => exact h49 | k + 50, hk => exact absurd hk (by omega))) (by decide) ?_
      refine W.widen (k := cells + 256) (n := slots + 8192) (by omega) (by omega) ?_
      exact T _ _ _ _ _ _ _ Z hl
