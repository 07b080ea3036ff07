/-! the law: what each order of the script comes to -/
set_option maxHeartbeats 4000000 in
set_option maxRecDepth 100000 in
theorem cs_34 {p : Program} {l : Launch} {e : Env} {s : State} {m : MethodId} {b : Nat} {below : List Frame} {meth : Method} {c : Code} {D : va_G} {κ : Nat → ClassId} {ζ : Nat → Nat} {A B : Nat → Nat} {q LL x : Nat} {xs : Nat → Int32} {cells slots : Nat} {H : Heap} {locs : List Loc} {L : List Nat} {F : Nat → va_E} {σ : CS} {τ : MS} {ls : Array Slot} (E : LWE p l e s m b below meth c D κ ζ LL xs) (hx : 5 * x + 5 ≤ LL) (hL : LL ≤ 2560) (hc : cells + 256 ≤ 697565) (hs : slots + 8192 ≤ 7003408) (T : TL p l e s m b below meth c D κ ζ A B q x (cells + 256) (slots + 8192)) (Z : LST D κ ζ A B q s H locs L F σ τ) (hl : lv_has ls 7 [(4, .int (nI (5 * x))), (0, .ref b), (1, .ref (A 0)), (2, .ref (B 0)), (3, .ref q)]) : W p l e room_1 s m #[Value.ref b] below meth c H locs cells slots (lw_Z below #[Value.ref b] s) (F0 m 1771 ls []) := by
  obtain ⟨hst, S, hr, hlk, hN, hK, hST, hX, hbl⟩ := E
  obtain ⟨hW, hI, hJ, hO, hV⟩ := Z
  have i1 : vp_in (nI (5 * x) + 1) LL := sc_in (k := 1) hx hL (by decide)
  obtain ⟨x1, hy1⟩ : ∃ v, xs (nI (5 * x) + 1).toNatClampNeg = v := ⟨_, rfl⟩
  have i2 : vp_in (nI (5 * x) + 2) LL := sc_in (k := 2) hx hL (by decide)
  obtain ⟨x2, hy2⟩ : ∃ v, xs (nI (5 * x) + 2).toNatClampNeg = v := ⟨_, rfl⟩
  refine lv_aload_n S.1 S.2.1 dW_1771 rfl (lv_at hl 2 rfl) ?_
  refine lv_aload_n S.1 S.2.1 dW_1772 rfl (lv_at hl 1 rfl) ?_
  refine lv_iload S.1 S.2.1 dW_1773 (lv_at hl 0 rfl) ?_
  refine lv_iconst (v := 1) S.1 S.2.1 dW_1775 (by decide) ?_
  refine lv_iadd S.1 S.2.1 dW_1776 ?_
  refine pk_sld S hX hbl hW i1 hy1 dW_1777 ?_
  refine lv_aload_n S.1 S.2.1 dW_1778 rfl (lv_at hl 1 rfl) ?_
  refine lv_iload S.1 S.2.1 dW_1779 (lv_at hl 0 rfl) ?_
  refine lv_iconst (v := 2) S.1 S.2.1 dW_1781 (by decide) ?_
  refine lv_iadd S.1 S.2.1 dW_1782 ?_
  refine pk_sld S hX hbl hW i2 hy2 dW_1783 ?_
  refine lv_aload_n S.1 S.2.1 dW_1784 rfl (lv_at hl 4 rfl) ?_
  obtain ⟨res, res2, hf, hk, hg, hV2, hag⟩ := sx_where hV x1 x2
  refine pk_cLI (As := [.ref (A 0), .int x1, .int x2, .ref q]) (rest := []) S hK hST hW hN (c_L_where hst hI hO x1 x2 hf hk) mw_L_where wd_724 wd_725 np_L_where rfl hl.1 rfl (Nat.le_of_ble_eq_true rfl) dW_1785 ⟨Nat.le_of_ble_eq_true rfl, Nat.le_of_ble_eq_true rfl⟩ ⟨by show cells + 3 ≤ 697565; omega, by show slots + 18 ≤ 7003408; omega⟩ (fun r L1 F1 H1 l1 hp hW => ?_)
  obtain ⟨hs1, hI1, ⟨w0, w1, e_q1, ha1⟩, hf1⟩ := hp
  have hJ1 := hJ.keepC hI hO hs1 hf1 (noE hW hST)
  have hO1 : OUT q L1 F1 := ⟨hs1 _ hO.1, w0, w1, e_q1⟩
  refine lv_istore (lv' := [(5, .int r), (4, .int (nI (5 * x))), (0, .ref b), (1, .ref (A 0)), (2, .ref (B 0)), (3, .ref q)]) S.1 S.2.1 dW_1788 hl (Nat.le_of_ble_eq_true rfl) rfl (fun ls hl => ?_)
  refine lv_aload_n S.1 S.2.1 dW_1790 rfl (lv_at hl 4 rfl) ?_
  refine lv_aload_n S.1 S.2.1 dW_1791 rfl (lv_at hl 2 rfl) ?_
  refine lv_iload S.1 S.2.1 dW_1792 (lv_at hl 1 rfl) ?_
  refine lv_iconst (v := 1) S.1 S.2.1 dW_1794 (by decide) ?_
  refine lv_iadd S.1 S.2.1 dW_1795 ?_
  refine pk_sld S hX hbl hW i1 hy1 dW_1796 ?_
  refine lv_aload_n S.1 S.2.1 dW_1797 rfl (lv_at hl 2 rfl) ?_
  refine lv_iload S.1 S.2.1 dW_1798 (lv_at hl 1 rfl) ?_
  refine lv_iconst (v := 2) S.1 S.2.1 dW_1800 (by decide) ?_
  refine lv_iadd S.1 S.2.1 dW_1801 ?_
  refine pk_sld S hX hbl hW i2 hy2 dW_1802 ?_
  refine pk_cVI (As := [.int x1, .int x2]) (rest := []) S hK hST hW (c_X6_where hJ1 x1 x2 hg) mc_X6_where wd_1497 wd_1498 wd_1499 rfl np_X6_where (hJ1.mem (by decide)) hJ1.this rfl rfl hl.1 rfl (Nat.le_of_ble_eq_true rfl) dW_1803 ⟨Nat.le_of_ble_eq_true rfl, Nat.le_of_ble_eq_true rfl⟩ ⟨by show cells + 3 + 1 ≤ 697565; omega, by show slots + 18 + 33 ≤ 7003408; omega⟩ (fun r2 L2 F2 H2 l2 hp hW => ?_)
  obtain ⟨rfl, hJ2, hM2⟩ := hp
  have hI2 := hI1.keepM hM2
  have hO2 := hO1.keepM hM2
  refine lv_istore (lv' := [(6, .int res2.1), (5, .int r), (4, .int (nI (5 * x))), (0, .ref b), (1, .ref (A 0)), (2, .ref (B 0)), (3, .ref q)]) S.1 S.2.1 dW_1806 hl (Nat.le_of_ble_eq_true rfl) rfl (fun ls hl => ?_)
  refine lv_goto (tgt := 2356) S.1 S.2.1 dW_1808 (by decide) ?_
  refine W.widen (k := cells + 256) (n := slots + 8192) (by omega) (by omega) ?_
  exact T _ _ _ _ _ _ _ ⟨hW, hI2, hJ2, hO2, hV2⟩ (lv_sub hl [2, 3, 4, 5, 6] rfl)
set_option maxHeartbeats 4000000 in
set_option maxRecDepth 100000 in
theorem cs_35 {p : Program} {l : Launch} {e : Env} {s : State} {m : MethodId} {b : Nat} {below : List Frame} {meth : Method} {c : Code} {D : va_G} {κ : Nat → ClassId} {ζ : Nat → Nat} {A B : Nat → Nat} {q LL x : Nat} {xs : Nat → Int32} {cells slots : Nat} {H : Heap} {locs : List Loc} {L : List Nat} {F : Nat → va_E} {σ : CS} {τ : MS} {ls : Array Slot} (E : LWE p l e s m b below meth c D κ ζ LL xs) (hx : 5 * x + 5 ≤ LL) (hL : LL ≤ 2560) (hc : cells + 256 ≤ 697565) (hs : slots + 8192 ≤ 7003408) (T : TL p l e s m b below meth c D κ ζ A B q x (cells + 256) (slots + 8192)) (Z : LST D κ ζ A B q s H locs L F σ τ) (hl : lv_has ls 7 [(4, .int (nI (5 * x))), (0, .ref b), (1, .ref (A 0)), (2, .ref (B 0)), (3, .ref q)]) : W p l e room_1 s m #[Value.ref b] below meth c H locs cells slots (lw_Z below #[Value.ref b] s) (F0 m 1811 ls []) := by
  obtain ⟨hst, S, hr, hlk, hN, hK, hST, hX, hbl⟩ := E
  obtain ⟨hW, hI, hJ, hO, hV⟩ := Z
  have i1 : vp_in (nI (5 * x) + 1) LL := sc_in (k := 1) hx hL (by decide)
  obtain ⟨x1, hy1⟩ : ∃ v, xs (nI (5 * x) + 1).toNatClampNeg = v := ⟨_, rfl⟩
  refine lv_aload_n S.1 S.2.1 dW_1811 rfl (lv_at hl 2 rfl) ?_
  refine lv_aload_n S.1 S.2.1 dW_1812 rfl (lv_at hl 1 rfl) ?_
  refine lv_iload S.1 S.2.1 dW_1813 (lv_at hl 0 rfl) ?_
  refine lv_iconst (v := 1) S.1 S.2.1 dW_1815 (by decide) ?_
  refine lv_iadd S.1 S.2.1 dW_1816 ?_
  refine pk_sld S hX hbl hW i1 hy1 dW_1817 ?_
  refine lv_aload_n S.1 S.2.1 dW_1818 rfl (lv_at hl 4 rfl) ?_
  obtain ⟨res, res2, hf, hk, hg, hV2, hag⟩ := sx_order hV x1
  refine pk_cLI (As := [.ref (A 0), .int x1, .ref q]) (rest := []) S hK hST hW hN (c_L_order hst hI hO x1 hf hk) mw_L_order wd_731 wd_732 np_L_order rfl hl.1 rfl (Nat.le_of_ble_eq_true rfl) dW_1819 ⟨Nat.le_of_ble_eq_true rfl, Nat.le_of_ble_eq_true rfl⟩ ⟨by show cells + 2 ≤ 697565; omega, by show slots + 12 ≤ 7003408; omega⟩ (fun r L1 F1 H1 l1 hp hW => ?_)
  obtain ⟨hs1, hI1, ⟨w0, w1, e_q1, ha1⟩, hf1⟩ := hp
  have hJ1 := hJ.keepC hI hO hs1 hf1 (noE hW hST)
  have hO1 : OUT q L1 F1 := ⟨hs1 _ hO.1, w0, w1, e_q1⟩
  refine lv_istore (lv' := [(5, .int r), (4, .int (nI (5 * x))), (0, .ref b), (1, .ref (A 0)), (2, .ref (B 0)), (3, .ref q)]) S.1 S.2.1 dW_1822 hl (Nat.le_of_ble_eq_true rfl) rfl (fun ls hl => ?_)
  refine lv_aload_n S.1 S.2.1 dW_1824 rfl (lv_at hl 4 rfl) ?_
  refine lv_aload_n S.1 S.2.1 dW_1825 rfl (lv_at hl 2 rfl) ?_
  refine lv_iload S.1 S.2.1 dW_1826 (lv_at hl 1 rfl) ?_
  refine lv_iconst (v := 1) S.1 S.2.1 dW_1828 (by decide) ?_
  refine lv_iadd S.1 S.2.1 dW_1829 ?_
  refine pk_sld S hX hbl hW i1 hy1 dW_1830 ?_
  refine pk_cVI (As := [.int x1]) (rest := []) S hK hST hW (c_X6_order hJ1 x1 hg) mc_X6_order wd_1505 wd_1506 wd_1507 rfl np_X6_order (hJ1.mem (by decide)) hJ1.this rfl rfl hl.1 rfl (Nat.le_of_ble_eq_true rfl) dW_1831 ⟨Nat.le_of_ble_eq_true rfl, Nat.le_of_ble_eq_true rfl⟩ ⟨by show cells + 2 + 2 ≤ 697565; omega, by show slots + 12 + 66 ≤ 7003408; omega⟩ (fun r2 L2 F2 H2 l2 hp hW => ?_)
  obtain ⟨rfl, hJ2, hM2⟩ := hp
  have hI2 := hI1.keepM hM2
  have hO2 := hO1.keepM hM2
  refine lv_istore (lv' := [(6, .int res2.1), (5, .int r), (4, .int (nI (5 * x))), (0, .ref b), (1, .ref (A 0)), (2, .ref (B 0)), (3, .ref q)]) S.1 S.2.1 dW_1834 hl (Nat.le_of_ble_eq_true rfl) rfl (fun ls hl => ?_)
  refine lv_goto (tgt := 2356) S.1 S.2.1 dW_1836 (by decide) ?_
  refine W.widen (k := cells + 256) (n := slots + 8192) (by omega) (by omega) ?_
  exact T _ _ _ _ _ _ _ ⟨hW, hI2, hJ2, hO2, hV2⟩ (lv_sub hl [2, 3, 4, 5, 6] rfl)
set_option maxHeartbeats 4000000 in
set_option maxRecDepth 100000 in
theorem cs_36 {p : Program} {l : Launch} {e : Env} {s : State} {m : MethodId} {b : Nat} {below : List Frame} {meth : Method} {c : Code} {D : va_G} {κ : Nat → ClassId} {ζ : Nat → Nat} {A B : Nat → Nat} {q LL x : Nat} {xs : Nat → Int32} {cells slots : Nat} {H : Heap} {locs : List Loc} {L : List Nat} {F : Nat → va_E} {σ : CS} {τ : MS} {ls : Array Slot} (E : LWE p l e s m b below meth c D κ ζ LL xs) (hx : 5 * x + 5 ≤ LL) (hL : LL ≤ 2560) (hc : cells + 256 ≤ 697565) (hs : slots + 8192 ≤ 7003408) (T : TL p l e s m b below meth c D κ ζ A B q x (cells + 256) (slots + 8192)) (Z : LST D κ ζ A B q s H locs L F σ τ) (hl : lv_has ls 7 [(4, .int (nI (5 * x))), (0, .ref b), (1, .ref (A 0)), (2, .ref (B 0)), (3, .ref q)]) : W p l e room_1 s m #[Value.ref b] below meth c H locs cells slots (lw_Z below #[Value.ref b] s) (F0 m 1839 ls []) := by
  obtain ⟨hst, S, hr, hlk, hN, hK, hST, hX, hbl⟩ := E
  obtain ⟨hW, hI, hJ, hO, hV⟩ := Z
  have i1 : vp_in (nI (5 * x) + 1) LL := sc_in (k := 1) hx hL (by decide)
  obtain ⟨x1, hy1⟩ : ∃ v, xs (nI (5 * x) + 1).toNatClampNeg = v := ⟨_, rfl⟩
  refine lv_aload_n S.1 S.2.1 dW_1839 rfl (lv_at hl 2 rfl) ?_
  refine lv_aload_n S.1 S.2.1 dW_1840 rfl (lv_at hl 1 rfl) ?_
  refine lv_iload S.1 S.2.1 dW_1841 (lv_at hl 0 rfl) ?_
  refine lv_iconst (v := 1) S.1 S.2.1 dW_1843 (by decide) ?_
  refine lv_iadd S.1 S.2.1 dW_1844 ?_
  refine pk_sld S hX hbl hW i1 hy1 dW_1845 ?_
  refine lv_aload_n S.1 S.2.1 dW_1846 rfl (lv_at hl 4 rfl) ?_
  obtain ⟨res, res2, hf, hk, hg, hV2, hag⟩ := sx_work hV x1
  refine pk_cLI (As := [.ref (A 0), .int x1, .ref q]) (rest := []) S hK hST hW hN (c_L_work hst hI hO x1 hf hk) mw_L_work wd_738 wd_739 np_L_work rfl hl.1 rfl (Nat.le_of_ble_eq_true rfl) dW_1847 ⟨Nat.le_of_ble_eq_true rfl, Nat.le_of_ble_eq_true rfl⟩ ⟨by show cells + 1 ≤ 697565; omega, by show slots + 6 ≤ 7003408; omega⟩ (fun r L1 F1 H1 l1 hp hW => ?_)
  obtain ⟨hs1, hI1, ⟨w0, w1, e_q1, ha1⟩, hf1⟩ := hp
  have hJ1 := hJ.keepC hI hO hs1 hf1 (noE hW hST)
  have hO1 : OUT q L1 F1 := ⟨hs1 _ hO.1, w0, w1, e_q1⟩
  refine lv_istore (lv' := [(5, .int r), (4, .int (nI (5 * x))), (0, .ref b), (1, .ref (A 0)), (2, .ref (B 0)), (3, .ref q)]) S.1 S.2.1 dW_1850 hl (Nat.le_of_ble_eq_true rfl) rfl (fun ls hl => ?_)
  refine lv_aload_n S.1 S.2.1 dW_1852 rfl (lv_at hl 4 rfl) ?_
  refine lv_aload_n S.1 S.2.1 dW_1853 rfl (lv_at hl 2 rfl) ?_
  refine lv_iload S.1 S.2.1 dW_1854 (lv_at hl 1 rfl) ?_
  refine lv_iconst (v := 1) S.1 S.2.1 dW_1856 (by decide) ?_
  refine lv_iadd S.1 S.2.1 dW_1857 ?_
  refine pk_sld S hX hbl hW i1 hy1 dW_1858 ?_
  refine pk_cVI (As := [.int x1]) (rest := []) S hK hST hW (c_X6_work hJ1 x1 hg) mc_X6_work wd_1509 wd_1510 wd_1511 rfl np_X6_work (hJ1.mem (by decide)) hJ1.this rfl rfl hl.1 rfl (Nat.le_of_ble_eq_true rfl) dW_1859 ⟨Nat.le_of_ble_eq_true rfl, Nat.le_of_ble_eq_true rfl⟩ ⟨by show cells + 1 + 192 ≤ 697565; omega, by show slots + 6 + 6336 ≤ 7003408; omega⟩ (fun r2 L2 F2 H2 l2 hp hW => ?_)
  obtain ⟨rfl, hJ2, hM2⟩ := hp
  have hI2 := hI1.keepM hM2
  have hO2 := hO1.keepM hM2
  refine lv_istore (lv' := [(6, .int res2.1), (5, .int r), (4, .int (nI (5 * x))), (0, .ref b), (1, .ref (A 0)), (2, .ref (B 0)), (3, .ref q)]) S.1 S.2.1 dW_1862 hl (Nat.le_of_ble_eq_true rfl) rfl (fun ls hl => ?_)
  refine lv_goto (tgt := 2356) S.1 S.2.1 dW_1864 (by decide) ?_
  refine W.widen (k := cells + 256) (n := slots + 8192) (by omega) (by omega) ?_
  exact T _ _ _ _ _ _ _ ⟨hW, hI2, hJ2, hO2, hV2⟩ (lv_sub hl [2, 3, 4, 5, 6] rfl)
set_option maxHeartbeats 4000000 in
set_option maxRecDepth 100000 in
theorem cs_37 {p : Program} {l : Launch} {e : Env} {s : State} {m : MethodId} {b : Nat} {below : List Frame} {meth : Method} {c : Code} {D : va_G} {κ : Nat → ClassId} {ζ : Nat → Nat} {A B : Nat → Nat} {q LL x : Nat} {xs : Nat → Int32} {cells slots : Nat} {H : Heap} {locs : List Loc} {L : List Nat} {F : Nat → va_E} {σ : CS} {τ : MS} {ls : Array Slot} (E : LWE p l e s m b below meth c D κ ζ LL xs) (hx : 5 * x + 5 ≤ LL) (hL : LL ≤ 2560) (hc : cells + 256 ≤ 697565) (hs : slots + 8192 ≤ 7003408) (T : TL p l e s m b below meth c D κ ζ A B q x (cells + 256) (slots + 8192)) (Z : LST D κ ζ A B q s H locs L F σ τ) (hl : lv_has ls 7 [(4, .int (nI (5 * x))), (0, .ref b), (1, .ref (A 0)), (2, .ref (B 0)), (3, .ref q)]) : W p l e room_1 s m #[Value.ref b] below meth c H locs cells slots (lw_Z below #[Value.ref b] s) (F0 m 1867 ls []) := by
  obtain ⟨hst, S, hr, hlk, hN, hK, hST, hX, hbl⟩ := E
  obtain ⟨hW, hI, hJ, hO, hV⟩ := Z
  have i1 : vp_in (nI (5 * x) + 1) LL := sc_in (k := 1) hx hL (by decide)
  obtain ⟨x1, hy1⟩ : ∃ v, xs (nI (5 * x) + 1).toNatClampNeg = v := ⟨_, rfl⟩
  have i2 : vp_in (nI (5 * x) + 2) LL := sc_in (k := 2) hx hL (by decide)
  obtain ⟨x2, hy2⟩ : ∃ v, xs (nI (5 * x) + 2).toNatClampNeg = v := ⟨_, rfl⟩
  obtain ⟨y2, hz2⟩ : ∃ v, (if x2 = 0 then (0 : Int32) else 1) = v := ⟨_, rfl⟩
  have hq2 := nz01 hz2
  refine lv_aload_n S.1 S.2.1 dW_1867 rfl (lv_at hl 2 rfl) ?_
  refine lv_aload_n S.1 S.2.1 dW_1868 rfl (lv_at hl 1 rfl) ?_
  refine lv_iload S.1 S.2.1 dW_1869 (lv_at hl 0 rfl) ?_
  refine lv_iconst (v := 1) S.1 S.2.1 dW_1871 (by decide) ?_
  refine lv_iadd S.1 S.2.1 dW_1872 ?_
  refine pk_sld S hX hbl hW i1 hy1 dW_1873 ?_
  refine lv_aload_n S.1 S.2.1 dW_1874 rfl (lv_at hl 1 rfl) ?_
  refine lv_iload S.1 S.2.1 dW_1875 (lv_at hl 0 rfl) ?_
  refine lv_iconst (v := 2) S.1 S.2.1 dW_1877 (by decide) ?_
  refine lv_iadd S.1 S.2.1 dW_1878 ?_
  refine pk_sld S hX hbl hW i2 hy2 dW_1879 ?_
  refine pk_nz S.1 S.2.1 hz2 dW_1880 dW_1883 dW_1884 dW_1887 ?_
  refine lv_aload_n S.1 S.2.1 dW_1888 rfl (lv_at hl 4 rfl) ?_
  obtain ⟨res, res2, hf, hk, hg, hV2, hag⟩ := sx_cancel hV x1 y2 hq2
  refine pk_cLI (As := [.ref (A 0), .int x1, .int y2, .ref q]) (rest := []) S hK hST hW hN (c_L_cancel hst hI hO x1 y2 hf hk) mw_L_cancel wd_761 wd_762 np_L_cancel rfl hl.1 rfl (Nat.le_of_ble_eq_true rfl) dW_1889 ⟨Nat.le_of_ble_eq_true rfl, Nat.le_of_ble_eq_true rfl⟩ ⟨by show cells + 1 ≤ 697565; omega, by show slots + 6 ≤ 7003408; omega⟩ (fun r L1 F1 H1 l1 hp hW => ?_)
  obtain ⟨hs1, hI1, ⟨w0, w1, e_q1, ha1⟩, hf1⟩ := hp
  have hJ1 := hJ.keepC hI hO hs1 hf1 (noE hW hST)
  have hO1 : OUT q L1 F1 := ⟨hs1 _ hO.1, w0, w1, e_q1⟩
  refine lv_istore (lv' := [(5, .int r), (4, .int (nI (5 * x))), (0, .ref b), (1, .ref (A 0)), (2, .ref (B 0)), (3, .ref q)]) S.1 S.2.1 dW_1892 hl (Nat.le_of_ble_eq_true rfl) rfl (fun ls hl => ?_)
  refine lv_aload_n S.1 S.2.1 dW_1894 rfl (lv_at hl 4 rfl) ?_
  refine lv_aload_n S.1 S.2.1 dW_1895 rfl (lv_at hl 2 rfl) ?_
  refine lv_iload S.1 S.2.1 dW_1896 (lv_at hl 1 rfl) ?_
  refine lv_iconst (v := 1) S.1 S.2.1 dW_1898 (by decide) ?_
  refine lv_iadd S.1 S.2.1 dW_1899 ?_
  refine pk_sld S hX hbl hW i1 hy1 dW_1900 ?_
  refine lv_aload_n S.1 S.2.1 dW_1901 rfl (lv_at hl 2 rfl) ?_
  refine lv_iload S.1 S.2.1 dW_1902 (lv_at hl 1 rfl) ?_
  refine lv_iconst (v := 2) S.1 S.2.1 dW_1904 (by decide) ?_
  refine lv_iadd S.1 S.2.1 dW_1905 ?_
  refine pk_sld S hX hbl hW i2 hy2 dW_1906 ?_
  refine pk_nz S.1 S.2.1 hz2 dW_1907 dW_1910 dW_1911 dW_1914 ?_
  refine pk_cVI (As := [.int x1, .int y2]) (rest := []) S hK hST hW (c_X6_cancel hJ1 x1 y2 hg) mc_X6_cancel wd_1517 wd_1518 wd_1519 rfl np_X6_cancel (hJ1.mem (by decide)) hJ1.this rfl rfl hl.1 rfl (Nat.le_of_ble_eq_true rfl) dW_1915 ⟨Nat.le_of_ble_eq_true rfl, Nat.le_of_ble_eq_true rfl⟩ ⟨by show cells + 1 + 0 ≤ 697565; omega, by show slots + 6 + 0 ≤ 7003408; omega⟩ (fun r2 L2 F2 H2 l2 hp hW => ?_)
  obtain ⟨rfl, hJ2, hM2⟩ := hp
  have hI2 := hI1.keepM hM2
  have hO2 := hO1.keepM hM2
  refine lv_istore (lv' := [(6, .int res2.1), (5, .int r), (4, .int (nI (5 * x))), (0, .ref b), (1, .ref (A 0)), (2, .ref (B 0)), (3, .ref q)]) S.1 S.2.1 dW_1918 hl (Nat.le_of_ble_eq_true rfl) rfl (fun ls hl => ?_)
  refine lv_goto (tgt := 2356) S.1 S.2.1 dW_1920 (by decide) ?_
  refine W.widen (k := cells + 256) (n := slots + 8192) (by omega) (by omega) ?_
  exact T _ _ _ _ _ _ _ ⟨hW, hI2, hJ2, hO2, hV2⟩ (lv_sub hl [2, 3, 4, 5, 6] rfl)
set_option maxHeartbeats 4000000 in
set_option maxRecDepth 100000 in
theorem cs_38 {p : Program} {l : Launch} {e : Env} {s : State} {m : MethodId} {b : Nat} {below : List Frame} {meth : Method} {c : Code} {D : va_G} {κ : Nat → ClassId} {ζ : Nat → Nat} {A B : Nat → Nat} {q LL x : Nat} {xs : Nat → Int32} {cells slots : Nat} {H : Heap} {locs : List Loc} {L : List Nat} {F : Nat → va_E} {σ : CS} {τ : MS} {ls : Array Slot} (E : LWE p l e s m b below meth c D κ ζ LL xs) (hx : 5 * x + 5 ≤ LL) (hL : LL ≤ 2560) (hc : cells + 256 ≤ 697565) (hs : slots + 8192 ≤ 7003408) (T : TL p l e s m b below meth c D κ ζ A B q x (cells + 256) (slots + 8192)) (Z : LST D κ ζ A B q s H locs L F σ τ) (hl : lv_has ls 7 [(4, .int (nI (5 * x))), (0, .ref b), (1, .ref (A 0)), (2, .ref (B 0)), (3, .ref q)]) : W p l e room_1 s m #[Value.ref b] below meth c H locs cells slots (lw_Z below #[Value.ref b] s) (F0 m 1923 ls []) := by
  obtain ⟨hst, S, hr, hlk, hN, hK, hST, hX, hbl⟩ := E
  obtain ⟨hW, hI, hJ, hO, hV⟩ := Z
  have i1 : vp_in (nI (5 * x) + 1) LL := sc_in (k := 1) hx hL (by decide)
  obtain ⟨x1, hy1⟩ : ∃ v, xs (nI (5 * x) + 1).toNatClampNeg = v := ⟨_, rfl⟩
  have i2 : vp_in (nI (5 * x) + 2) LL := sc_in (k := 2) hx hL (by decide)
  obtain ⟨x2, hy2⟩ : ∃ v, xs (nI (5 * x) + 2).toNatClampNeg = v := ⟨_, rfl⟩
  refine lv_aload_n S.1 S.2.1 dW_1923 rfl (lv_at hl 2 rfl) ?_
  refine lv_aload_n S.1 S.2.1 dW_1924 rfl (lv_at hl 1 rfl) ?_
  refine lv_iload S.1 S.2.1 dW_1925 (lv_at hl 0 rfl) ?_
  refine lv_iconst (v := 1) S.1 S.2.1 dW_1927 (by decide) ?_
  refine lv_iadd S.1 S.2.1 dW_1928 ?_
  refine pk_sld S hX hbl hW i1 hy1 dW_1929 ?_
  refine lv_aload_n S.1 S.2.1 dW_1930 rfl (lv_at hl 1 rfl) ?_
  refine lv_iload S.1 S.2.1 dW_1931 (lv_at hl 0 rfl) ?_
  refine lv_iconst (v := 2) S.1 S.2.1 dW_1933 (by decide) ?_
  refine lv_iadd S.1 S.2.1 dW_1934 ?_
  refine pk_sld S hX hbl hW i2 hy2 dW_1935 ?_
  refine lv_aload_n S.1 S.2.1 dW_1936 rfl (lv_at hl 4 rfl) ?_
  obtain ⟨res, res2, hf, hk, hg, hV2, hag⟩ := sx_ask hV x1 x2
  refine pk_cLI (As := [.ref (A 0), .int x1, .int x2, .ref q]) (rest := []) S hK hST hW hN (c_L_ask hst hI hO x1 x2 hf hk) mw_L_ask wd_771 wd_772 np_L_ask rfl hl.1 rfl (Nat.le_of_ble_eq_true rfl) dW_1937 ⟨Nat.le_of_ble_eq_true rfl, Nat.le_of_ble_eq_true rfl⟩ ⟨by show cells + 2 ≤ 697565; omega, by show slots + 12 ≤ 7003408; omega⟩ (fun r L1 F1 H1 l1 hp hW => ?_)
  obtain ⟨hs1, hI1, ⟨w0, w1, e_q1, ha1⟩, hf1⟩ := hp
  have hJ1 := hJ.keepC hI hO hs1 hf1 (noE hW hST)
  have hO1 : OUT q L1 F1 := ⟨hs1 _ hO.1, w0, w1, e_q1⟩
  refine lv_istore (lv' := [(5, .int r), (4, .int (nI (5 * x))), (0, .ref b), (1, .ref (A 0)), (2, .ref (B 0)), (3, .ref q)]) S.1 S.2.1 dW_1940 hl (Nat.le_of_ble_eq_true rfl) rfl (fun ls hl => ?_)
  refine lv_aload_n S.1 S.2.1 dW_1942 rfl (lv_at hl 4 rfl) ?_
  refine lv_aload_n S.1 S.2.1 dW_1943 rfl (lv_at hl 2 rfl) ?_
  refine lv_iload S.1 S.2.1 dW_1944 (lv_at hl 1 rfl) ?_
  refine lv_iconst (v := 1) S.1 S.2.1 dW_1946 (by decide) ?_
  refine lv_iadd S.1 S.2.1 dW_1947 ?_
  refine pk_sld S hX hbl hW i1 hy1 dW_1948 ?_
  refine lv_aload_n S.1 S.2.1 dW_1949 rfl (lv_at hl 2 rfl) ?_
  refine lv_iload S.1 S.2.1 dW_1950 (lv_at hl 1 rfl) ?_
  refine lv_iconst (v := 2) S.1 S.2.1 dW_1952 (by decide) ?_
  refine lv_iadd S.1 S.2.1 dW_1953 ?_
  refine pk_sld S hX hbl hW i2 hy2 dW_1954 ?_
  refine pk_cVI (As := [.int x1, .int x2]) (rest := []) S hK hST hW (c_X6_ask hJ1 x1 x2 hg) mc_X6_ask wd_1521 wd_1522 wd_1523 rfl np_X6_ask (hJ1.mem (by decide)) hJ1.this rfl rfl hl.1 rfl (Nat.le_of_ble_eq_true rfl) dW_1955 ⟨Nat.le_of_ble_eq_true rfl, Nat.le_of_ble_eq_true rfl⟩ ⟨by show cells + 2 + 0 ≤ 697565; omega, by show slots + 12 + 0 ≤ 7003408; omega⟩ (fun r2 L2 F2 H2 l2 hp hW => ?_)
  obtain ⟨rfl, hJ2, hM2⟩ := hp
  have hI2 := hI1.keepM hM2
  have hO2 := hO1.keepM hM2
  refine lv_istore (lv' := [(6, .int res2.1), (5, .int r), (4, .int (nI (5 * x))), (0, .ref b), (1, .ref (A 0)), (2, .ref (B 0)), (3, .ref q)]) S.1 S.2.1 dW_1958 hl (Nat.le_of_ble_eq_true rfl) rfl (fun ls hl => ?_)
  refine lv_goto (tgt := 2356) S.1 S.2.1 dW_1960 (by decide) ?_
  refine W.widen (k := cells + 256) (n := slots + 8192) (by omega) (by omega) ?_
  exact T _ _ _ _ _ _ _ ⟨hW, hI2, hJ2, hO2, hV2⟩ (lv_sub hl [2, 3, 4, 5, 6] rfl)
set_option maxHeartbeats 4000000 in
set_option maxRecDepth 100000 in
theorem cs_39 {p : Program} {l : Launch} {e : Env} {s : State} {m : MethodId} {b : Nat} {below : List Frame} {meth : Method} {c : Code} {D : va_G} {κ : Nat → ClassId} {ζ : Nat → Nat} {A B : Nat → Nat} {q LL x : Nat} {xs : Nat → Int32} {cells slots : Nat} {H : Heap} {locs : List Loc} {L : List Nat} {F : Nat → va_E} {σ : CS} {τ : MS} {ls : Array Slot} (E : LWE p l e s m b below meth c D κ ζ LL xs) (hx : 5 * x + 5 ≤ LL) (hL : LL ≤ 2560) (hc : cells + 256 ≤ 697565) (hs : slots + 8192 ≤ 7003408) (T : TL p l e s m b below meth c D κ ζ A B q x (cells + 256) (slots + 8192)) (Z : LST D κ ζ A B q s H locs L F σ τ) (hl : lv_has ls 7 [(4, .int (nI (5 * x))), (0, .ref b), (1, .ref (A 0)), (2, .ref (B 0)), (3, .ref q)]) : W p l e room_1 s m #[Value.ref b] below meth c H locs cells slots (lw_Z below #[Value.ref b] s) (F0 m 1963 ls []) := by
  obtain ⟨hst, S, hr, hlk, hN, hK, hST, hX, hbl⟩ := E
  obtain ⟨hW, hI, hJ, hO, hV⟩ := Z
  have i1 : vp_in (nI (5 * x) + 1) LL := sc_in (k := 1) hx hL (by decide)
  obtain ⟨x1, hy1⟩ : ∃ v, xs (nI (5 * x) + 1).toNatClampNeg = v := ⟨_, rfl⟩
  have i2 : vp_in (nI (5 * x) + 2) LL := sc_in (k := 2) hx hL (by decide)
  obtain ⟨x2, hy2⟩ : ∃ v, xs (nI (5 * x) + 2).toNatClampNeg = v := ⟨_, rfl⟩
  refine lv_aload_n S.1 S.2.1 dW_1963 rfl (lv_at hl 2 rfl) ?_
  refine lv_aload_n S.1 S.2.1 dW_1964 rfl (lv_at hl 1 rfl) ?_
  refine lv_iload S.1 S.2.1 dW_1965 (lv_at hl 0 rfl) ?_
  refine lv_iconst (v := 1) S.1 S.2.1 dW_1967 (by decide) ?_
  refine lv_iadd S.1 S.2.1 dW_1968 ?_
  refine pk_sld S hX hbl hW i1 hy1 dW_1969 ?_
  refine lv_aload_n S.1 S.2.1 dW_1970 rfl (lv_at hl 1 rfl) ?_
  refine lv_iload S.1 S.2.1 dW_1971 (lv_at hl 0 rfl) ?_
  refine lv_iconst (v := 2) S.1 S.2.1 dW_1973 (by decide) ?_
  refine lv_iadd S.1 S.2.1 dW_1974 ?_
  refine pk_sld S hX hbl hW i2 hy2 dW_1975 ?_
  refine lv_aload_n S.1 S.2.1 dW_1976 rfl (lv_at hl 4 rfl) ?_
  obtain ⟨res, res2, hf, hk, hg, hV2, hag⟩ := sx_ofTrack hV x1 x2
  refine pk_cLI (As := [.ref (A 0), .int x1, .int x2, .ref q]) (rest := []) S hK hST hW hN (c_L_ofTrack hst hI hO x1 x2 hf hk) mw_L_ofTrack wd_777 wd_778 np_L_ofTrack rfl hl.1 rfl (Nat.le_of_ble_eq_true rfl) dW_1977 ⟨Nat.le_of_ble_eq_true rfl, Nat.le_of_ble_eq_true rfl⟩ ⟨by show cells + 2 ≤ 697565; omega, by show slots + 12 ≤ 7003408; omega⟩ (fun r L1 F1 H1 l1 hp hW => ?_)
  obtain ⟨hs1, hI1, ⟨w0, w1, e_q1, ha1⟩, hf1⟩ := hp
  have hJ1 := hJ.keepC hI hO hs1 hf1 (noE hW hST)
  have hO1 : OUT q L1 F1 := ⟨hs1 _ hO.1, w0, w1, e_q1⟩
  refine lv_istore (lv' := [(5, .int r), (4, .int (nI (5 * x))), (0, .ref b), (1, .ref (A 0)), (2, .ref (B 0)), (3, .ref q)]) S.1 S.2.1 dW_1980 hl (Nat.le_of_ble_eq_true rfl) rfl (fun ls hl => ?_)
  refine lv_aload_n S.1 S.2.1 dW_1982 rfl (lv_at hl 4 rfl) ?_
  refine lv_aload_n S.1 S.2.1 dW_1983 rfl (lv_at hl 2 rfl) ?_
  refine lv_iload S.1 S.2.1 dW_1984 (lv_at hl 1 rfl) ?_
  refine lv_iconst (v := 1) S.1 S.2.1 dW_1986 (by decide) ?_
  refine lv_iadd S.1 S.2.1 dW_1987 ?_
  refine pk_sld S hX hbl hW i1 hy1 dW_1988 ?_
  refine lv_aload_n S.1 S.2.1 dW_1989 rfl (lv_at hl 2 rfl) ?_
  refine lv_iload S.1 S.2.1 dW_1990 (lv_at hl 1 rfl) ?_
  refine lv_iconst (v := 2) S.1 S.2.1 dW_1992 (by decide) ?_
  refine lv_iadd S.1 S.2.1 dW_1993 ?_
  refine pk_sld S hX hbl hW i2 hy2 dW_1994 ?_
  refine pk_cVI (As := [.int x1, .int x2]) (rest := []) S hK hST hW (c_X6_ofTrack hJ1 x1 x2 hg) mc_X6_ofTrack wd_1529 wd_1530 wd_1531 rfl np_X6_ofTrack (hJ1.mem (by decide)) hJ1.this rfl rfl hl.1 rfl (Nat.le_of_ble_eq_true rfl) dW_1995 ⟨Nat.le_of_ble_eq_true rfl, Nat.le_of_ble_eq_true rfl⟩ ⟨by show cells + 2 + 1 ≤ 697565; omega, by show slots + 12 + 33 ≤ 7003408; omega⟩ (fun r2 L2 F2 H2 l2 hp hW => ?_)
  obtain ⟨rfl, hJ2, hM2⟩ := hp
  have hI2 := hI1.keepM hM2
  have hO2 := hO1.keepM hM2
  refine lv_istore (lv' := [(6, .int res2.1), (5, .int r), (4, .int (nI (5 * x))), (0, .ref b), (1, .ref (A 0)), (2, .ref (B 0)), (3, .ref q)]) S.1 S.2.1 dW_1998 hl (Nat.le_of_ble_eq_true rfl) rfl (fun ls hl => ?_)
  refine lv_goto (tgt := 2356) S.1 S.2.1 dW_2000 (by decide) ?_
  refine W.widen (k := cells + 256) (n := slots + 8192) (by omega) (by omega) ?_
  exact T _ _ _ _ _ _ _ ⟨hW, hI2, hJ2, hO2, hV2⟩ (lv_sub hl [2, 3, 4, 5, 6] rfl)
set_option maxHeartbeats 4000000 in
set_option maxRecDepth 100000 in
theorem cs_40 {p : Program} {l : Launch} {e : Env} {s : State} {m : MethodId} {b : Nat} {below : List Frame} {meth : Method} {c : Code} {D : va_G} {κ : Nat → ClassId} {ζ : Nat → Nat} {A B : Nat → Nat} {q LL x : Nat} {xs : Nat → Int32} {cells slots : Nat} {H : Heap} {locs : List Loc} {L : List Nat} {F : Nat → va_E} {σ : CS} {τ : MS} {ls : Array Slot} (E : LWE p l e s m b below meth c D κ ζ LL xs) (hx : 5 * x + 5 ≤ LL) (hL : LL ≤ 2560) (hc : cells + 256 ≤ 697565) (hs : slots + 8192 ≤ 7003408) (T : TL p l e s m b below meth c D κ ζ A B q x (cells + 256) (slots + 8192)) (Z : LST D κ ζ A B q s H locs L F σ τ) (hl : lv_has ls 7 [(4, .int (nI (5 * x))), (0, .ref b), (1, .ref (A 0)), (2, .ref (B 0)), (3, .ref q)]) : W p l e room_1 s m #[Value.ref b] below meth c H locs cells slots (lw_Z below #[Value.ref b] s) (F0 m 2003 ls []) := by
  obtain ⟨hst, S, hr, hlk, hN, hK, hST, hX, hbl⟩ := E
  obtain ⟨hW, hI, hJ, hO, hV⟩ := Z
  have i1 : vp_in (nI (5 * x) + 1) LL := sc_in (k := 1) hx hL (by decide)
  obtain ⟨x1, hy1⟩ : ∃ v, xs (nI (5 * x) + 1).toNatClampNeg = v := ⟨_, rfl⟩
  have i2 : vp_in (nI (5 * x) + 2) LL := sc_in (k := 2) hx hL (by decide)
  obtain ⟨x2, hy2⟩ : ∃ v, xs (nI (5 * x) + 2).toNatClampNeg = v := ⟨_, rfl⟩
  refine lv_aload_n S.1 S.2.1 dW_2003 rfl (lv_at hl 2 rfl) ?_
  refine lv_aload_n S.1 S.2.1 dW_2004 rfl (lv_at hl 1 rfl) ?_
  refine lv_iload S.1 S.2.1 dW_2005 (lv_at hl 0 rfl) ?_
  refine lv_iconst (v := 1) S.1 S.2.1 dW_2007 (by decide) ?_
  refine lv_iadd S.1 S.2.1 dW_2008 ?_
  refine pk_sld S hX hbl hW i1 hy1 dW_2009 ?_
  refine lv_aload_n S.1 S.2.1 dW_2010 rfl (lv_at hl 1 rfl) ?_
  refine lv_iload S.1 S.2.1 dW_2011 (lv_at hl 0 rfl) ?_
  refine lv_iconst (v := 2) S.1 S.2.1 dW_2013 (by decide) ?_
  refine lv_iadd S.1 S.2.1 dW_2014 ?_
  refine pk_sld S hX hbl hW i2 hy2 dW_2015 ?_
  refine lv_aload_n S.1 S.2.1 dW_2016 rfl (lv_at hl 4 rfl) ?_
  obtain ⟨res, res2, hf, hk, hg, hV2, hag⟩ := sx_has hV x1 x2
  refine pk_cLI (As := [.ref (A 0), .int x1, .int x2, .ref q]) (rest := []) S hK hST hW hN (c_L_has hst hI hO x1 x2 hf hk) mw_L_has wd_783 wd_784 np_L_has rfl hl.1 rfl (Nat.le_of_ble_eq_true rfl) dW_2017 ⟨Nat.le_of_ble_eq_true rfl, Nat.le_of_ble_eq_true rfl⟩ ⟨by show cells + 2 ≤ 697565; omega, by show slots + 12 ≤ 7003408; omega⟩ (fun r L1 F1 H1 l1 hp hW => ?_)
  obtain ⟨hs1, hI1, ⟨w0, w1, e_q1, ha1⟩, hf1⟩ := hp
  have hJ1 := hJ.keepC hI hO hs1 hf1 (noE hW hST)
  have hO1 : OUT q L1 F1 := ⟨hs1 _ hO.1, w0, w1, e_q1⟩
  refine lv_istore (lv' := [(5, .int r), (4, .int (nI (5 * x))), (0, .ref b), (1, .ref (A 0)), (2, .ref (B 0)), (3, .ref q)]) S.1 S.2.1 dW_2020 hl (Nat.le_of_ble_eq_true rfl) rfl (fun ls hl => ?_)
  refine lv_aload_n S.1 S.2.1 dW_2022 rfl (lv_at hl 4 rfl) ?_
  refine lv_aload_n S.1 S.2.1 dW_2023 rfl (lv_at hl 2 rfl) ?_
  refine lv_iload S.1 S.2.1 dW_2024 (lv_at hl 1 rfl) ?_
  refine lv_iconst (v := 1) S.1 S.2.1 dW_2026 (by decide) ?_
  refine lv_iadd S.1 S.2.1 dW_2027 ?_
  refine pk_sld S hX hbl hW i1 hy1 dW_2028 ?_
  refine lv_aload_n S.1 S.2.1 dW_2029 rfl (lv_at hl 2 rfl) ?_
  refine lv_iload S.1 S.2.1 dW_2030 (lv_at hl 1 rfl) ?_
  refine lv_iconst (v := 2) S.1 S.2.1 dW_2032 (by decide) ?_
  refine lv_iadd S.1 S.2.1 dW_2033 ?_
  refine pk_sld S hX hbl hW i2 hy2 dW_2034 ?_
  refine pk_cVI (As := [.int x1, .int x2]) (rest := []) S hK hST hW (c_X6_has hJ1 x1 x2 hg) mc_X6_has wd_1537 wd_1538 wd_1539 rfl np_X6_has (hJ1.mem (by decide)) hJ1.this rfl rfl hl.1 rfl (Nat.le_of_ble_eq_true rfl) dW_2035 ⟨Nat.le_of_ble_eq_true rfl, Nat.le_of_ble_eq_true rfl⟩ ⟨by show cells + 2 + 0 ≤ 697565; omega, by show slots + 12 + 0 ≤ 7003408; omega⟩ (fun r2 L2 F2 H2 l2 hp hW => ?_)
  obtain ⟨rfl, hJ2, hM2⟩ := hp
  have hI2 := hI1.keepM hM2
  have hO2 := hO1.keepM hM2
  refine lv_istore (lv' := [(6, .int res2.1), (5, .int r), (4, .int (nI (5 * x))), (0, .ref b), (1, .ref (A 0)), (2, .ref (B 0)), (3, .ref q)]) S.1 S.2.1 dW_2038 hl (Nat.le_of_ble_eq_true rfl) rfl (fun ls hl => ?_)
  refine lv_goto (tgt := 2356) S.1 S.2.1 dW_2040 (by decide) ?_
  refine W.widen (k := cells + 256) (n := slots + 8192) (by omega) (by omega) ?_
  exact T _ _ _ _ _ _ _ ⟨hW, hI2, hJ2, hO2, hV2⟩ (lv_sub hl [2, 3, 4, 5, 6] rfl)
set_option maxHeartbeats 4000000 in
set_option maxRecDepth 100000 in
theorem cs_41 {p : Program} {l : Launch} {e : Env} {s : State} {m : MethodId} {b : Nat} {below : List Frame} {meth : Method} {c : Code} {D : va_G} {κ : Nat → ClassId} {ζ : Nat → Nat} {A B : Nat → Nat} {q LL x : Nat} {xs : Nat → Int32} {cells slots : Nat} {H : Heap} {locs : List Loc} {L : List Nat} {F : Nat → va_E} {σ : CS} {τ : MS} {ls : Array Slot} (E : LWE p l e s m b below meth c D κ ζ LL xs) (hx : 5 * x + 5 ≤ LL) (hL : LL ≤ 2560) (hc : cells + 256 ≤ 697565) (hs : slots + 8192 ≤ 7003408) (T : TL p l e s m b below meth c D κ ζ A B q x (cells + 256) (slots + 8192)) (Z : LST D κ ζ A B q s H locs L F σ τ) (hl : lv_has ls 7 [(4, .int (nI (5 * x))), (0, .ref b), (1, .ref (A 0)), (2, .ref (B 0)), (3, .ref q)]) : W p l e room_1 s m #[Value.ref b] below meth c H locs cells slots (lw_Z below #[Value.ref b] s) (F0 m 2043 ls []) := by
  obtain ⟨hst, S, hr, hlk, hN, hK, hST, hX, hbl⟩ := E
  obtain ⟨hW, hI, hJ, hO, hV⟩ := Z
  have i1 : vp_in (nI (5 * x) + 1) LL := sc_in (k := 1) hx hL (by decide)
  obtain ⟨x1, hy1⟩ : ∃ v, xs (nI (5 * x) + 1).toNatClampNeg = v := ⟨_, rfl⟩
  obtain ⟨y1, hz1⟩ : ∃ v, (if x1 = 0 then (0 : Int32) else 1) = v := ⟨_, rfl⟩
  have hq1 := nz01 hz1
  refine lv_aload_n S.1 S.2.1 dW_2043 rfl (lv_at hl 2 rfl) ?_
  refine lv_aload_n S.1 S.2.1 dW_2044 rfl (lv_at hl 1 rfl) ?_
  refine lv_iload S.1 S.2.1 dW_2045 (lv_at hl 0 rfl) ?_
  refine lv_iconst (v := 1) S.1 S.2.1 dW_2047 (by decide) ?_
  refine lv_iadd S.1 S.2.1 dW_2048 ?_
  refine pk_sld S hX hbl hW i1 hy1 dW_2049 ?_
  refine pk_nz S.1 S.2.1 hz1 dW_2050 dW_2053 dW_2054 dW_2057 ?_
  obtain ⟨res, res2, hf, hg, hV2, hag⟩ := sx_compare hV y1 hq1
  refine pk_cVI (As := [.int y1]) (rest := []) S hK hST hW (c_X3_compare hI y1 hf) mc_X3_compare wd_202 wd_203 wd_204 rfl np_X3_compare (hI.mem 0 (by decide)) hI.this rfl rfl hl.1 rfl (Nat.le_of_ble_eq_true rfl) dW_2058 ⟨Nat.le_of_ble_eq_true rfl, Nat.le_of_ble_eq_true rfl⟩ ⟨by show cells + 0 ≤ 697565; omega, by show slots + 0 ≤ 7003408; omega⟩ (fun r L1 F1 H1 l1 hp hW => ?_)
  obtain ⟨rfl, rfl, rfl⟩ := hp
  have hI1 := hI
  have hJ1 := hJ
  have hO1 := hO
  refine lv_pop S.1 S.2.1 dW_2061 rfl ?_
  refine lv_aload_n S.1 S.2.1 dW_2062 rfl (lv_at hl 3 rfl) ?_
  refine lv_aload_n S.1 S.2.1 dW_2063 rfl (lv_at hl 1 rfl) ?_
  refine lv_iload S.1 S.2.1 dW_2064 (lv_at hl 0 rfl) ?_
  refine lv_iconst (v := 1) S.1 S.2.1 dW_2066 (by decide) ?_
  refine lv_iadd S.1 S.2.1 dW_2067 ?_
  refine pk_sld S hX hbl hW i1 hy1 dW_2068 ?_
  refine pk_nz S.1 S.2.1 hz1 dW_2069 dW_2072 dW_2073 dW_2076 ?_
  refine pk_cVI (As := [.int y1]) (rest := []) S hK hST hW (c_X6_compare hJ1 y1 hg) mc_X6_compare wd_1541 wd_1542 wd_1543 rfl np_X6_compare (hJ1.mem (by decide)) hJ1.this rfl rfl hl.1 rfl (Nat.le_of_ble_eq_true rfl) dW_2077 ⟨Nat.le_of_ble_eq_true rfl, Nat.le_of_ble_eq_true rfl⟩ ⟨by show cells + 0 + 0 ≤ 697565; omega, by show slots + 0 + 0 ≤ 7003408; omega⟩ (fun r2 L2 F2 H2 l2 hp hW => ?_)
  obtain ⟨rfl, hJ2, hM2⟩ := hp
  have hI2 := hI1.keepM hM2
  have hO2 := hO1.keepM hM2
  refine lv_pop S.1 S.2.1 dW_2080 rfl ?_
  refine lv_goto (tgt := 2356) S.1 S.2.1 dW_2081 (by decide) ?_
  refine W.widen (k := cells + 256) (n := slots + 8192) (by omega) (by omega) ?_
  exact T _ _ _ _ _ _ _ ⟨hW, hI2, hJ2, hO2, hV2⟩ (lv_sub hl [0, 1, 2, 3, 4] rfl)
set_option maxHeartbeats 4000000 in
set_option maxRecDepth 100000 in
theorem cs_42 {p : Program} {l : Launch} {e : Env} {s : State} {m : MethodId} {b : Nat} {below : List Frame} {meth : Method} {c : Code} {D : va_G} {κ : Nat → ClassId} {ζ : Nat → Nat} {A B : Nat → Nat} {q LL x : Nat} {xs : Nat → Int32} {cells slots : Nat} {H : Heap} {locs : List Loc} {L : List Nat} {F : Nat → va_E} {σ : CS} {τ : MS} {ls : Array Slot} (E : LWE p l e s m b below meth c D κ ζ LL xs) (hx : 5 * x + 5 ≤ LL) (hL : LL ≤ 2560) (hc : cells + 256 ≤ 697565) (hs : slots + 8192 ≤ 7003408) (T : TL p l e s m b below meth c D κ ζ A B q x (cells + 256) (slots + 8192)) (Z : LST D κ ζ A B q s H locs L F σ τ) (hl : lv_has ls 7 [(4, .int (nI (5 * x))), (0, .ref b), (1, .ref (A 0)), (2, .ref (B 0)), (3, .ref q)]) : W p l e room_1 s m #[Value.ref b] below meth c H locs cells slots (lw_Z below #[Value.ref b] s) (F0 m 2084 ls []) := by
  obtain ⟨hst, S, hr, hlk, hN, hK, hST, hX, hbl⟩ := E
  obtain ⟨hW, hI, hJ, hO, hV⟩ := Z
  have i1 : vp_in (nI (5 * x) + 1) LL := sc_in (k := 1) hx hL (by decide)
  obtain ⟨x1, hy1⟩ : ∃ v, xs (nI (5 * x) + 1).toNatClampNeg = v := ⟨_, rfl⟩
  have i2 : vp_in (nI (5 * x) + 2) LL := sc_in (k := 2) hx hL (by decide)
  obtain ⟨x2, hy2⟩ : ∃ v, xs (nI (5 * x) + 2).toNatClampNeg = v := ⟨_, rfl⟩
  obtain ⟨y2, hz2⟩ : ∃ v, (if x2 = 0 then (0 : Int32) else 1) = v := ⟨_, rfl⟩
  have hq2 := nz01 hz2
  refine lv_aload_n S.1 S.2.1 dW_2084 rfl (lv_at hl 2 rfl) ?_
  refine lv_aload_n S.1 S.2.1 dW_2085 rfl (lv_at hl 1 rfl) ?_
  refine lv_iload S.1 S.2.1 dW_2086 (lv_at hl 0 rfl) ?_
  refine lv_iconst (v := 1) S.1 S.2.1 dW_2088 (by decide) ?_
  refine lv_iadd S.1 S.2.1 dW_2089 ?_
  refine pk_sld S hX hbl hW i1 hy1 dW_2090 ?_
  refine lv_aload_n S.1 S.2.1 dW_2091 rfl (lv_at hl 1 rfl) ?_
  refine lv_iload S.1 S.2.1 dW_2092 (lv_at hl 0 rfl) ?_
  refine lv_iconst (v := 2) S.1 S.2.1 dW_2094 (by decide) ?_
  refine lv_iadd S.1 S.2.1 dW_2095 ?_
  refine pk_sld S hX hbl hW i2 hy2 dW_2096 ?_
  refine pk_nz S.1 S.2.1 hz2 dW_2097 dW_2100 dW_2101 dW_2104 ?_
  refine lv_aload_n S.1 S.2.1 dW_2105 rfl (lv_at hl 4 rfl) ?_
  obtain ⟨hcn, hcc, hk, zn, res2, hzn, hzs, hcc2, hV2⟩ := sx_text hV x1 y2 hq2
  refine pk_cLI (As := [.ref (A 0), .int x1, .int y2, .ref q]) (rest := []) S hK hST hW hN (c_L_text hst hI hO x1 y2 hcn hcc hk) mw_L_text wd_789 wd_790 np_L_text rfl hl.1 rfl (Nat.le_of_ble_eq_true rfl) dW_2106 ⟨Nat.le_of_ble_eq_true rfl, Nat.le_of_ble_eq_true rfl⟩ ⟨by show cells + 13 ≤ 697565; omega, by show slots + 400 ≤ 7003408; omega⟩ (fun r L1 F1 H1 l1 hp hW => ?_)
  obtain ⟨hs1, hI1, ⟨w0, w1, e_q1, ha1⟩, hf1⟩ := hp
  have hJ1 := hJ.keepC hI hO hs1 hf1 (noE hW hST)
  have hO1 : OUT q L1 F1 := ⟨hs1 _ hO.1, w0, w1, e_q1⟩
  refine lv_istore (lv' := [(5, .int r), (4, .int (nI (5 * x))), (0, .ref b), (1, .ref (A 0)), (2, .ref (B 0)), (3, .ref q)]) S.1 S.2.1 dW_2109 hl (Nat.le_of_ble_eq_true rfl) rfl (fun ls hl => ?_)
  refine lv_aload_n S.1 S.2.1 dW_2111 rfl (lv_at hl 4 rfl) ?_
  refine lv_aload_n S.1 S.2.1 dW_2112 rfl (lv_at hl 2 rfl) ?_
  refine lv_iload S.1 S.2.1 dW_2113 (lv_at hl 1 rfl) ?_
  refine lv_iconst (v := 1) S.1 S.2.1 dW_2115 (by decide) ?_
  refine lv_iadd S.1 S.2.1 dW_2116 ?_
  refine pk_sld S hX hbl hW i1 hy1 dW_2117 ?_
  refine lv_aload_n S.1 S.2.1 dW_2118 rfl (lv_at hl 2 rfl) ?_
  refine lv_iload S.1 S.2.1 dW_2119 (lv_at hl 1 rfl) ?_
  refine lv_iconst (v := 2) S.1 S.2.1 dW_2121 (by decide) ?_
  refine lv_iadd S.1 S.2.1 dW_2122 ?_
  refine pk_sld S hX hbl hW i2 hy2 dW_2123 ?_
  refine pk_nz S.1 S.2.1 hz2 dW_2124 dW_2127 dW_2128 dW_2131 ?_
  refine pk_cVR (As := [.int x1, .int y2]) (rest := []) S hK hST hW (c_X6_text hJ1 x1 y2 hzn hzs hcc2) mc_X6_text wd_1549 wd_1550 wd_1551 rfl np_X6_text (hJ1.mem (by decide)) hJ1.this rfl rfl hl.1 rfl (Nat.le_of_ble_eq_true rfl) dW_2132 ⟨Nat.le_of_ble_eq_true rfl, Nat.le_of_ble_eq_true rfl⟩ ⟨by show cells + 13 + 13 ≤ 697565; omega, by show slots + 400 + 429 ≤ 7003408; omega⟩ (fun r2 L2 F2 H2 l2 hp hW => ?_)
  obtain ⟨hJ2, hM2⟩ := hp
  have hI2 := hI1.keepM hM2
  have hO2 := hO1.keepM hM2
  refine lv_astore (lv' := [(6, .ref r2), (5, .int r), (4, .int (nI (5 * x))), (0, .ref b), (1, .ref (A 0)), (2, .ref (B 0)), (3, .ref q)]) S.1 S.2.1 dW_2135 hl (Nat.le_of_ble_eq_true rfl) rfl (fun ls hl => ?_)
  refine lv_goto (tgt := 2356) S.1 S.2.1 dW_2137 (by decide) ?_
  refine W.widen (k := cells + 256) (n := slots + 8192) (by omega) (by omega) ?_
  exact T _ _ _ _ _ _ _ ⟨hW, hI2, hJ2, hO2, hV2⟩ (lv_sub hl [2, 3, 4, 5, 6] rfl)
set_option maxHeartbeats 4000000 in
set_option maxRecDepth 100000 in
theorem cs_43 {p : Program} {l : Launch} {e : Env} {s : State} {m : MethodId} {b : Nat} {below : List Frame} {meth : Method} {c : Code} {D : va_G} {κ : Nat → ClassId} {ζ : Nat → Nat} {A B : Nat → Nat} {q LL x : Nat} {xs : Nat → Int32} {cells slots : Nat} {H : Heap} {locs : List Loc} {L : List Nat} {F : Nat → va_E} {σ : CS} {τ : MS} {ls : Array Slot} (E : LWE p l e s m b below meth c D κ ζ LL xs) (hx : 5 * x + 5 ≤ LL) (hL : LL ≤ 2560) (hc : cells + 256 ≤ 697565) (hs : slots + 8192 ≤ 7003408) (T : TL p l e s m b below meth c D κ ζ A B q x (cells + 256) (slots + 8192)) (Z : LST D κ ζ A B q s H locs L F σ τ) (hl : lv_has ls 7 [(4, .int (nI (5 * x))), (0, .ref b), (1, .ref (A 0)), (2, .ref (B 0)), (3, .ref q)]) : W p l e room_1 s m #[Value.ref b] below meth c H locs cells slots (lw_Z below #[Value.ref b] s) (F0 m 2140 ls []) := by
  obtain ⟨hst, S, hr, hlk, hN, hK, hST, hX, hbl⟩ := E
  obtain ⟨hW, hI, hJ, hO, hV⟩ := Z
  have i1 : vp_in (nI (5 * x) + 1) LL := sc_in (k := 1) hx hL (by decide)
  obtain ⟨x1, hy1⟩ : ∃ v, xs (nI (5 * x) + 1).toNatClampNeg = v := ⟨_, rfl⟩
  refine lv_aload_n S.1 S.2.1 dW_2140 rfl (lv_at hl 2 rfl) ?_
  refine lv_aload_n S.1 S.2.1 dW_2141 rfl (lv_at hl 1 rfl) ?_
  refine lv_iload S.1 S.2.1 dW_2142 (lv_at hl 0 rfl) ?_
  refine lv_iconst (v := 1) S.1 S.2.1 dW_2144 (by decide) ?_
  refine lv_iadd S.1 S.2.1 dW_2145 ?_
  refine pk_sld S hX hbl hW i1 hy1 dW_2146 ?_
  refine lv_aload_n S.1 S.2.1 dW_2147 rfl (lv_at hl 4 rfl) ?_
  obtain ⟨res, res2, hf, hk, hg, hV2, hag⟩ := sx_nested hV x1
  refine pk_cLI (As := [.ref (A 0), .int x1, .ref q]) (rest := []) S hK hST hW hN (c_L_nested hst hI hO x1 hf hk) mw_L_nested wd_1040 wd_1041 np_L_nested rfl hl.1 rfl (Nat.le_of_ble_eq_true rfl) dW_2148 ⟨Nat.le_of_ble_eq_true rfl, Nat.le_of_ble_eq_true rfl⟩ ⟨by show cells + 1 ≤ 697565; omega, by show slots + 6 ≤ 7003408; omega⟩ (fun r L1 F1 H1 l1 hp hW => ?_)
  obtain ⟨hs1, hI1, ⟨w0, w1, e_q1, ha1⟩, hf1⟩ := hp
  have hJ1 := hJ.keepC hI hO hs1 hf1 (noE hW hST)
  have hO1 : OUT q L1 F1 := ⟨hs1 _ hO.1, w0, w1, e_q1⟩
  refine lv_istore (lv' := [(5, .int r), (4, .int (nI (5 * x))), (0, .ref b), (1, .ref (A 0)), (2, .ref (B 0)), (3, .ref q)]) S.1 S.2.1 dW_2151 hl (Nat.le_of_ble_eq_true rfl) rfl (fun ls hl => ?_)
  refine lv_aload_n S.1 S.2.1 dW_2153 rfl (lv_at hl 4 rfl) ?_
  refine lv_aload_n S.1 S.2.1 dW_2154 rfl (lv_at hl 2 rfl) ?_
  refine lv_iload S.1 S.2.1 dW_2155 (lv_at hl 1 rfl) ?_
  refine lv_iconst (v := 1) S.1 S.2.1 dW_2157 (by decide) ?_
  refine lv_iadd S.1 S.2.1 dW_2158 ?_
  refine pk_sld S hX hbl hW i1 hy1 dW_2159 ?_
  refine pk_cVI (As := [.int x1]) (rest := []) S hK hST hW (c_X6_nested hJ1 x1 hg) mc_X6_nested wd_1564 wd_1565 wd_1566 rfl np_X6_nested (hJ1.mem (by decide)) hJ1.this rfl rfl hl.1 rfl (Nat.le_of_ble_eq_true rfl) dW_2160 ⟨Nat.le_of_ble_eq_true rfl, Nat.le_of_ble_eq_true rfl⟩ ⟨by show cells + 1 + 1 ≤ 697565; omega, by show slots + 6 + 33 ≤ 7003408; omega⟩ (fun r2 L2 F2 H2 l2 hp hW => ?_)
  obtain ⟨rfl, hJ2, hM2⟩ := hp
  have hI2 := hI1.keepM hM2
  have hO2 := hO1.keepM hM2
  refine lv_istore (lv' := [(6, .int res2.1), (5, .int r), (4, .int (nI (5 * x))), (0, .ref b), (1, .ref (A 0)), (2, .ref (B 0)), (3, .ref q)]) S.1 S.2.1 dW_2163 hl (Nat.le_of_ble_eq_true rfl) rfl (fun ls hl => ?_)
  refine lv_goto (tgt := 2356) S.1 S.2.1 dW_2165 (by decide) ?_
  refine W.widen (k := cells + 256) (n := slots + 8192) (by omega) (by omega) ?_
  exact T _ _ _ _ _ _ _ ⟨hW, hI2, hJ2, hO2, hV2⟩ (lv_sub hl [2, 3, 4, 5, 6] rfl)
set_option maxHeartbeats 4000000 in
set_option maxRecDepth 100000 in
theorem cs_44 {p : Program} {l : Launch} {e : Env} {s : State} {m : MethodId} {b : Nat} {below : List Frame} {meth : Method} {c : Code} {D : va_G} {κ : Nat → ClassId} {ζ : Nat → Nat} {A B : Nat → Nat} {q LL x : Nat} {xs : Nat → Int32} {cells slots : Nat} {H : Heap} {locs : List Loc} {L : List Nat} {F : Nat → va_E} {σ : CS} {τ : MS} {ls : Array Slot} (E : LWE p l e s m b below meth c D κ ζ LL xs) (hx : 5 * x + 5 ≤ LL) (hL : LL ≤ 2560) (hc : cells + 256 ≤ 697565) (hs : slots + 8192 ≤ 7003408) (T : TL p l e s m b below meth c D κ ζ A B q x (cells + 256) (slots + 8192)) (Z : LST D κ ζ A B q s H locs L F σ τ) (hl : lv_has ls 7 [(4, .int (nI (5 * x))), (0, .ref b), (1, .ref (A 0)), (2, .ref (B 0)), (3, .ref q)]) : W p l e room_1 s m #[Value.ref b] below meth c H locs cells slots (lw_Z below #[Value.ref b] s) (F0 m 2168 ls []) := by
  obtain ⟨hst, S, hr, hlk, hN, hK, hST, hX, hbl⟩ := E
  obtain ⟨hW, hI, hJ, hO, hV⟩ := Z
  have i1 : vp_in (nI (5 * x) + 1) LL := sc_in (k := 1) hx hL (by decide)
  obtain ⟨x1, hy1⟩ : ∃ v, xs (nI (5 * x) + 1).toNatClampNeg = v := ⟨_, rfl⟩
  have i2 : vp_in (nI (5 * x) + 2) LL := sc_in (k := 2) hx hL (by decide)
  obtain ⟨x2, hy2⟩ : ∃ v, xs (nI (5 * x) + 2).toNatClampNeg = v := ⟨_, rfl⟩
  have i3 : vp_in (nI (5 * x) + 3) LL := sc_in (k := 3) hx hL (by decide)
  obtain ⟨x3, hy3⟩ : ∃ v, xs (nI (5 * x) + 3).toNatClampNeg = v := ⟨_, rfl⟩
  refine lv_aload_n S.1 S.2.1 dW_2168 rfl (lv_at hl 2 rfl) ?_
  refine lv_aload_n S.1 S.2.1 dW_2169 rfl (lv_at hl 1 rfl) ?_
  refine lv_iload S.1 S.2.1 dW_2170 (lv_at hl 0 rfl) ?_
  refine lv_iconst (v := 1) S.1 S.2.1 dW_2172 (by decide) ?_
  refine lv_iadd S.1 S.2.1 dW_2173 ?_
  refine pk_sld S hX hbl hW i1 hy1 dW_2174 ?_
  refine lv_aload_n S.1 S.2.1 dW_2175 rfl (lv_at hl 1 rfl) ?_
  refine lv_iload S.1 S.2.1 dW_2176 (lv_at hl 0 rfl) ?_
  refine lv_iconst (v := 2) S.1 S.2.1 dW_2178 (by decide) ?_
  refine lv_iadd S.1 S.2.1 dW_2179 ?_
  refine pk_sld S hX hbl hW i2 hy2 dW_2180 ?_
  refine lv_aload_n S.1 S.2.1 dW_2181 rfl (lv_at hl 1 rfl) ?_
  refine lv_iload S.1 S.2.1 dW_2182 (lv_at hl 0 rfl) ?_
  refine lv_iconst (v := 3) S.1 S.2.1 dW_2184 (by decide) ?_
  refine lv_iadd S.1 S.2.1 dW_2185 ?_
  refine pk_sld S hX hbl hW i3 hy3 dW_2186 ?_
  refine lv_aload_n S.1 S.2.1 dW_2187 rfl (lv_at hl 4 rfl) ?_
  obtain ⟨res, res2, hf, hk, hg, hV2, hag⟩ := sx_heaviest hV x1 x2 x3
  refine pk_cLI (As := [.ref (A 0), .int x1, .int x2, .int x3, .ref q]) (rest := []) S hK hST hW hN (c_L_heaviest hst hI hO x1 x2 x3 hf hk) mw_L_heaviest wd_1046 wd_1047 np_L_heaviest rfl hl.1 rfl (Nat.le_of_ble_eq_true rfl) dW_2188 ⟨Nat.le_of_ble_eq_true rfl, Nat.le_of_ble_eq_true rfl⟩ ⟨by show cells + 3 ≤ 697565; omega, by show slots + 18 ≤ 7003408; omega⟩ (fun r L1 F1 H1 l1 hp hW => ?_)
  obtain ⟨hs1, hI1, ⟨w0, w1, e_q1, ha1⟩, hf1⟩ := hp
  have hJ1 := hJ.keepC hI hO hs1 hf1 (noE hW hST)
  have hO1 : OUT q L1 F1 := ⟨hs1 _ hO.1, w0, w1, e_q1⟩
  refine lv_istore (lv' := [(5, .int r), (4, .int (nI (5 * x))), (0, .ref b), (1, .ref (A 0)), (2, .ref (B 0)), (3, .ref q)]) S.1 S.2.1 dW_2191 hl (Nat.le_of_ble_eq_true rfl) rfl (fun ls hl => ?_)
  refine lv_aload_n S.1 S.2.1 dW_2193 rfl (lv_at hl 4 rfl) ?_
  refine lv_aload_n S.1 S.2.1 dW_2194 rfl (lv_at hl 2 rfl) ?_
  refine lv_iload S.1 S.2.1 dW_2195 (lv_at hl 1 rfl) ?_
  refine lv_iconst (v := 1) S.1 S.2.1 dW_2197 (by decide) ?_
  refine lv_iadd S.1 S.2.1 dW_2198 ?_
  refine pk_sld S hX hbl hW i1 hy1 dW_2199 ?_
  refine lv_aload_n S.1 S.2.1 dW_2200 rfl (lv_at hl 2 rfl) ?_
  refine lv_iload S.1 S.2.1 dW_2201 (lv_at hl 1 rfl) ?_
  refine lv_iconst (v := 2) S.1 S.2.1 dW_2203 (by decide) ?_
  refine lv_iadd S.1 S.2.1 dW_2204 ?_
  refine pk_sld S hX hbl hW i2 hy2 dW_2205 ?_
  refine lv_aload_n S.1 S.2.1 dW_2206 rfl (lv_at hl 2 rfl) ?_
  refine lv_iload S.1 S.2.1 dW_2207 (lv_at hl 1 rfl) ?_
  refine lv_iconst (v := 3) S.1 S.2.1 dW_2209 (by decide) ?_
  refine lv_iadd S.1 S.2.1 dW_2210 ?_
  refine pk_sld S hX hbl hW i3 hy3 dW_2211 ?_
  refine pk_cVI (As := [.int x1, .int x2, .int x3]) (rest := []) S hK hST hW (c_X6_heaviest hJ1 x1 x2 x3 hg) mc_X6_heaviest wd_1573 wd_1574 wd_1575 rfl np_X6_heaviest (hJ1.mem (by decide)) hJ1.this rfl rfl hl.1 rfl (Nat.le_of_ble_eq_true rfl) dW_2212 ⟨Nat.le_of_ble_eq_true rfl, Nat.le_of_ble_eq_true rfl⟩ ⟨by show cells + 3 + 0 ≤ 697565; omega, by show slots + 18 + 0 ≤ 7003408; omega⟩ (fun r2 L2 F2 H2 l2 hp hW => ?_)
  obtain ⟨rfl, hJ2, hM2⟩ := hp
  have hI2 := hI1.keepM hM2
  have hO2 := hO1.keepM hM2
  refine lv_istore (lv' := [(6, .int res2.1), (5, .int r), (4, .int (nI (5 * x))), (0, .ref b), (1, .ref (A 0)), (2, .ref (B 0)), (3, .ref q)]) S.1 S.2.1 dW_2215 hl (Nat.le_of_ble_eq_true rfl) rfl (fun ls hl => ?_)
  refine lv_goto (tgt := 2356) S.1 S.2.1 dW_2217 (by decide) ?_
  refine W.widen (k := cells + 256) (n := slots + 8192) (by omega) (by omega) ?_
  exact T _ _ _ _ _ _ _ ⟨hW, hI2, hJ2, hO2, hV2⟩ (lv_sub hl [2, 3, 4, 5, 6] rfl)
set_option maxHeartbeats 4000000 in
set_option maxRecDepth 100000 in
theorem cs_45 {p : Program} {l : Launch} {e : Env} {s : State} {m : MethodId} {b : Nat} {below : List Frame} {meth : Method} {c : Code} {D : va_G} {κ : Nat → ClassId} {ζ : Nat → Nat} {A B : Nat → Nat} {q LL x : Nat} {xs : Nat → Int32} {cells slots : Nat} {H : Heap} {locs : List Loc} {L : List Nat} {F : Nat → va_E} {σ : CS} {τ : MS} {ls : Array Slot} (E : LWE p l e s m b below meth c D κ ζ LL xs) (hx : 5 * x + 5 ≤ LL) (hL : LL ≤ 2560) (hc : cells + 256 ≤ 697565) (hs : slots + 8192 ≤ 7003408) (T : TL p l e s m b below meth c D κ ζ A B q x (cells + 256) (slots + 8192)) (Z : LST D κ ζ A B q s H locs L F σ τ) (hl : lv_has ls 7 [(4, .int (nI (5 * x))), (0, .ref b), (1, .ref (A 0)), (2, .ref (B 0)), (3, .ref q)]) : W p l e room_1 s m #[Value.ref b] below meth c H locs cells slots (lw_Z below #[Value.ref b] s) (F0 m 2220 ls []) := by
  obtain ⟨hst, S, hr, hlk, hN, hK, hST, hX, hbl⟩ := E
  obtain ⟨hW, hI, hJ, hO, hV⟩ := Z
  have i1 : vp_in (nI (5 * x) + 1) LL := sc_in (k := 1) hx hL (by decide)
  obtain ⟨x1, hy1⟩ : ∃ v, xs (nI (5 * x) + 1).toNatClampNeg = v := ⟨_, rfl⟩
  have i2 : vp_in (nI (5 * x) + 2) LL := sc_in (k := 2) hx hL (by decide)
  obtain ⟨x2, hy2⟩ : ∃ v, xs (nI (5 * x) + 2).toNatClampNeg = v := ⟨_, rfl⟩
  refine lv_aload_n S.1 S.2.1 dW_2220 rfl (lv_at hl 2 rfl) ?_
  refine lv_aload_n S.1 S.2.1 dW_2221 rfl (lv_at hl 1 rfl) ?_
  refine lv_iload S.1 S.2.1 dW_2222 (lv_at hl 0 rfl) ?_
  refine lv_iconst (v := 1) S.1 S.2.1 dW_2224 (by decide) ?_
  refine lv_iadd S.1 S.2.1 dW_2225 ?_
  refine pk_sld S hX hbl hW i1 hy1 dW_2226 ?_
  refine lv_aload_n S.1 S.2.1 dW_2227 rfl (lv_at hl 1 rfl) ?_
  refine lv_iload S.1 S.2.1 dW_2228 (lv_at hl 0 rfl) ?_
  refine lv_iconst (v := 2) S.1 S.2.1 dW_2230 (by decide) ?_
  refine lv_iadd S.1 S.2.1 dW_2231 ?_
  refine pk_sld S hX hbl hW i2 hy2 dW_2232 ?_
  refine lv_aload_n S.1 S.2.1 dW_2233 rfl (lv_at hl 4 rfl) ?_
  obtain ⟨res, res2, hf, hk, hg, hV2, hag⟩ := sx_ahead hV x1 x2
  refine pk_cLI (As := [.ref (A 0), .int x1, .int x2, .ref q]) (rest := []) S hK hST hW hN (c_L_ahead hst hI hO x1 x2 hf hk) mw_L_ahead wd_1052 wd_1053 np_L_ahead rfl hl.1 rfl (Nat.le_of_ble_eq_true rfl) dW_2234 ⟨Nat.le_of_ble_eq_true rfl, Nat.le_of_ble_eq_true rfl⟩ ⟨by show cells + 2 ≤ 697565; omega, by show slots + 12 ≤ 7003408; omega⟩ (fun r L1 F1 H1 l1 hp hW => ?_)
  obtain ⟨hs1, hI1, ⟨w0, w1, e_q1, ha1⟩, hf1⟩ := hp
  have hJ1 := hJ.keepC hI hO hs1 hf1 (noE hW hST)
  have hO1 : OUT q L1 F1 := ⟨hs1 _ hO.1, w0, w1, e_q1⟩
  refine lv_istore (lv' := [(5, .int r), (4, .int (nI (5 * x))), (0, .ref b), (1, .ref (A 0)), (2, .ref (B 0)), (3, .ref q)]) S.1 S.2.1 dW_2237 hl (Nat.le_of_ble_eq_true rfl) rfl (fun ls hl => ?_)
  refine lv_aload_n S.1 S.2.1 dW_2239 rfl (lv_at hl 4 rfl) ?_
  refine lv_aload_n S.1 S.2.1 dW_2240 rfl (lv_at hl 2 rfl) ?_
  refine lv_iload S.1 S.2.1 dW_2241 (lv_at hl 1 rfl) ?_
  refine lv_iconst (v := 1) S.1 S.2.1 dW_2243 (by decide) ?_
  refine lv_iadd S.1 S.2.1 dW_2244 ?_
  refine pk_sld S hX hbl hW i1 hy1 dW_2245 ?_
  refine lv_aload_n S.1 S.2.1 dW_2246 rfl (lv_at hl 2 rfl) ?_
  refine lv_iload S.1 S.2.1 dW_2247 (lv_at hl 1 rfl) ?_
  refine lv_iconst (v := 2) S.1 S.2.1 dW_2249 (by decide) ?_
  refine lv_iadd S.1 S.2.1 dW_2250 ?_
  refine pk_sld S hX hbl hW i2 hy2 dW_2251 ?_
  refine pk_cVI (As := [.int x1, .int x2]) (rest := []) S hK hST hW (c_X6_ahead hJ1 x1 x2 hg) mc_X6_ahead wd_1577 wd_1578 wd_1579 rfl np_X6_ahead (hJ1.mem (by decide)) hJ1.this rfl rfl hl.1 rfl (Nat.le_of_ble_eq_true rfl) dW_2252 ⟨Nat.le_of_ble_eq_true rfl, Nat.le_of_ble_eq_true rfl⟩ ⟨by show cells + 2 + 0 ≤ 697565; omega, by show slots + 12 + 0 ≤ 7003408; omega⟩ (fun r2 L2 F2 H2 l2 hp hW => ?_)
  obtain ⟨rfl, hJ2, hM2⟩ := hp
  have hI2 := hI1.keepM hM2
  have hO2 := hO1.keepM hM2
  refine lv_istore (lv' := [(6, .int res2.1), (5, .int r), (4, .int (nI (5 * x))), (0, .ref b), (1, .ref (A 0)), (2, .ref (B 0)), (3, .ref q)]) S.1 S.2.1 dW_2255 hl (Nat.le_of_ble_eq_true rfl) rfl (fun ls hl => ?_)
  refine lv_goto (tgt := 2356) S.1 S.2.1 dW_2257 (by decide) ?_
  refine W.widen (k := cells + 256) (n := slots + 8192) (by omega) (by omega) ?_
  exact T _ _ _ _ _ _ _ ⟨hW, hI2, hJ2, hO2, hV2⟩ (lv_sub hl [2, 3, 4, 5, 6] rfl)
set_option maxHeartbeats 4000000 in
set_option maxRecDepth 100000 in
theorem cs_46 {p : Program} {l : Launch} {e : Env} {s : State} {m : MethodId} {b : Nat} {below : List Frame} {meth : Method} {c : Code} {D : va_G} {κ : Nat → ClassId} {ζ : Nat → Nat} {A B : Nat → Nat} {q LL x : Nat} {xs : Nat → Int32} {cells slots : Nat} {H : Heap} {locs : List Loc} {L : List Nat} {F : Nat → va_E} {σ : CS} {τ : MS} {ls : Array Slot} (E : LWE p l e s m b below meth c D κ ζ LL xs) (hx : 5 * x + 5 ≤ LL) (hL : LL ≤ 2560) (hc : cells + 256 ≤ 697565) (hs : slots + 8192 ≤ 7003408) (T : TL p l e s m b below meth c D κ ζ A B q x (cells + 256) (slots + 8192)) (Z : LST D κ ζ A B q s H locs L F σ τ) (hl : lv_has ls 7 [(4, .int (nI (5 * x))), (0, .ref b), (1, .ref (A 0)), (2, .ref (B 0)), (3, .ref q)]) : W p l e room_1 s m #[Value.ref b] below meth c H locs cells slots (lw_Z below #[Value.ref b] s) (F0 m 2260 ls []) := by
  obtain ⟨hst, S, hr, hlk, hN, hK, hST, hX, hbl⟩ := E
  obtain ⟨hW, hI, hJ, hO, hV⟩ := Z
  have i1 : vp_in (nI (5 * x) + 1) LL := sc_in (k := 1) hx hL (by decide)
  obtain ⟨x1, hy1⟩ : ∃ v, xs (nI (5 * x) + 1).toNatClampNeg = v := ⟨_, rfl⟩
  refine lv_aload_n S.1 S.2.1 dW_2260 rfl (lv_at hl 2 rfl) ?_
  refine lv_aload_n S.1 S.2.1 dW_2261 rfl (lv_at hl 1 rfl) ?_
  refine lv_iload S.1 S.2.1 dW_2262 (lv_at hl 0 rfl) ?_
  refine lv_iconst (v := 1) S.1 S.2.1 dW_2264 (by decide) ?_
  refine lv_iadd S.1 S.2.1 dW_2265 ?_
  refine pk_sld S hX hbl hW i1 hy1 dW_2266 ?_
  refine lv_aload_n S.1 S.2.1 dW_2267 rfl (lv_at hl 4 rfl) ?_
  obtain ⟨res, res2, hf, hk, hg, hV2, hag⟩ := sx_yard hV x1
  refine pk_cLI (As := [.ref (A 0), .int x1, .ref q]) (rest := []) S hK hST hW hN (c_L_yard hst hI hO x1 hf hk) mw_L_yard wd_1058 wd_1059 np_L_yard rfl hl.1 rfl (Nat.le_of_ble_eq_true rfl) dW_2268 ⟨Nat.le_of_ble_eq_true rfl, Nat.le_of_ble_eq_true rfl⟩ ⟨by show cells + 1 ≤ 697565; omega, by show slots + 6 ≤ 7003408; omega⟩ (fun r L1 F1 H1 l1 hp hW => ?_)
  obtain ⟨hs1, hI1, ⟨w0, w1, e_q1, ha1⟩, hf1⟩ := hp
  have hJ1 := hJ.keepC hI hO hs1 hf1 (noE hW hST)
  have hO1 : OUT q L1 F1 := ⟨hs1 _ hO.1, w0, w1, e_q1⟩
  refine lv_istore (lv' := [(5, .int r), (4, .int (nI (5 * x))), (0, .ref b), (1, .ref (A 0)), (2, .ref (B 0)), (3, .ref q)]) S.1 S.2.1 dW_2271 hl (Nat.le_of_ble_eq_true rfl) rfl (fun ls hl => ?_)
  refine lv_aload_n S.1 S.2.1 dW_2273 rfl (lv_at hl 4 rfl) ?_
  refine lv_aload_n S.1 S.2.1 dW_2274 rfl (lv_at hl 2 rfl) ?_
  refine lv_iload S.1 S.2.1 dW_2275 (lv_at hl 1 rfl) ?_
  refine lv_iconst (v := 1) S.1 S.2.1 dW_2277 (by decide) ?_
  refine lv_iadd S.1 S.2.1 dW_2278 ?_
  refine pk_sld S hX hbl hW i1 hy1 dW_2279 ?_
  refine pk_cVI (As := [.int x1]) (rest := []) S hK hST hW (c_X6_yard hJ1 x1 hg) mc_X6_yard wd_1581 wd_1582 wd_1583 rfl np_X6_yard (hJ1.mem (by decide)) hJ1.this rfl rfl hl.1 rfl (Nat.le_of_ble_eq_true rfl) dW_2280 ⟨Nat.le_of_ble_eq_true rfl, Nat.le_of_ble_eq_true rfl⟩ ⟨by show cells + 1 + 0 ≤ 697565; omega, by show slots + 6 + 0 ≤ 7003408; omega⟩ (fun r2 L2 F2 H2 l2 hp hW => ?_)
  obtain ⟨rfl, hJ2, hM2⟩ := hp
  have hI2 := hI1.keepM hM2
  have hO2 := hO1.keepM hM2
  have e_q2 := outM hO1.1 e_q1 hM2
  refine lv_istore (lv' := [(6, .int res2.1), (5, .int r), (4, .int (nI (5 * x))), (0, .ref b), (1, .ref (A 0)), (2, .ref (B 0)), (3, .ref q)]) S.1 S.2.1 dW_2283 hl (Nat.le_of_ble_eq_true rfl) rfl (fun ls hl => ?_)
  refine lv_aload_n S.1 S.2.1 dW_2285 rfl (lv_at hl 5 rfl) ?_
  refine pk_cVI (As := []) (rest := []) S hK hST hW (c_X6_thrown hJ2 (res := res2.2.2 0) rfl) mc_X6_thrown wd_3004 wd_3005 wd_3006 rfl np_X6_thrown (hJ2.mem (by decide)) hJ2.this rfl rfl hl.1 rfl (Nat.le_of_ble_eq_true rfl) dW_2286 ⟨Nat.le_of_ble_eq_true rfl, Nat.le_of_ble_eq_true rfl⟩ ⟨by show cells + 1 + 0 + 0 ≤ 697565; omega, by show slots + 6 + 0 + 0 ≤ 7003408; omega⟩ (fun r3 L3 F3 H3 l3 hp hW => ?_)
  obtain ⟨rfl, rfl, rfl⟩ := hp
  have thr_eq := cmp_thrN (RK := fun k => 1) rk_C11 hag (fun k h => ha1.1 k h) (fun z h => (ha1.2 z h).1)
  refine lv_iload S.1 S.2.1 dW_2289 (lv_at hl 1 rfl) ?_
  refine lv_icmp_eq (tgt := 2296) S.1 S.2.1 dW_2291 (by decide) (fun _ => ?_) (fun c9 => absurd (thr_eq) c9)
  refine lv_iload S.1 S.2.1 dW_2296 (lv_at hl 1 rfl) ?_
  refine lv_if_ne (tgt := 2314) S.1 S.2.1 dW_2298 (by decide) (fun _ => ?_) (fun c8 => ?_)
  · refine lv_goto (tgt := 2356) S.1 S.2.1 dW_2314 (by decide) ?_
    refine W.widen (k := cells + 256) (n := slots + 8192) (by omega) (by omega) ?_
    exact T _ _ _ _ _ _ _ ⟨hW, hI2, hJ2, hO2, hV2⟩ (lv_sub hl [2, 3, 4, 5, 6] rfl)
  have hv0 := cmp_valN (V := (fun v => .long (Int32.toInt64 v))) (RK := fun k => 1) rk_C11 hag (fun k h => ha1.1 k h) (fun z h => ha1.2 z h) c8
  rw [hv0] at e_q2
  refine lv_aload_n S.1 S.2.1 dW_2301 rfl (lv_at hl 6 rfl) ?_
  refine pk_getN (v := .long (Int32.toInt64 res2.1)) S hK hW 0 hO2.1 e_q2 rfl hinX4 (by decide) (va_Nw.use rfl (hST.1.1 _ wn_8)) rfl dW_2302 ?_
  refine lv_iload S.1 S.2.1 dW_2305 (lv_at hl 0 rfl) ?_
  refine lv_i2l (v := Int32.toInt64 res2.1) S.1 S.2.1 dW_2307 rfl ?_
  refine pk_lceq S.1 S.2.1 rfl dW_2308 ?_
  refine lv_if_eq (tgt := 2314) S.1 S.2.1 dW_2309 (by decide) (fun _ => ?_) (fun c7 => absurd rfl c7)
  refine lv_goto (tgt := 2356) S.1 S.2.1 dW_2314 (by decide) ?_
  refine W.widen (k := cells + 256) (n := slots + 8192) (by omega) (by omega) ?_
  exact T _ _ _ _ _ _ _ ⟨hW, hI2, hJ2, hO2, hV2⟩ (lv_sub hl [2, 3, 4, 5, 6] rfl)
set_option maxHeartbeats 4000000 in
set_option maxRecDepth 100000 in
theorem cs_47 {p : Program} {l : Launch} {e : Env} {s : State} {m : MethodId} {b : Nat} {below : List Frame} {meth : Method} {c : Code} {D : va_G} {κ : Nat → ClassId} {ζ : Nat → Nat} {A B : Nat → Nat} {q LL x : Nat} {xs : Nat → Int32} {cells slots : Nat} {H : Heap} {locs : List Loc} {L : List Nat} {F : Nat → va_E} {σ : CS} {τ : MS} {ls : Array Slot} (E : LWE p l e s m b below meth c D κ ζ LL xs) (hx : 5 * x + 5 ≤ LL) (hL : LL ≤ 2560) (hc : cells + 256 ≤ 697565) (hs : slots + 8192 ≤ 7003408) (T : TL p l e s m b below meth c D κ ζ A B q x (cells + 256) (slots + 8192)) (Z : LST D κ ζ A B q s H locs L F σ τ) (hl : lv_has ls 7 [(4, .int (nI (5 * x))), (0, .ref b), (1, .ref (A 0)), (2, .ref (B 0)), (3, .ref q)]) : W p l e room_1 s m #[Value.ref b] below meth c H locs cells slots (lw_Z below #[Value.ref b] s) (F0 m 2317 ls []) := by
  obtain ⟨hst, S, hr, hlk, hN, hK, hST, hX, hbl⟩ := E
  obtain ⟨hW, hI, hJ, hO, hV⟩ := Z
  refine lv_aload_n S.1 S.2.1 dW_2317 rfl (lv_at hl 2 rfl) ?_
  obtain ⟨res, res2, hf, hg, hV2, hag⟩ := sx_knock hV 
  refine pk_cVI (As := []) (rest := []) S hK hST hW (c_X3_knock hI  hf) mc_X3_knock wd_3001 wd_215 wd_216 rfl np_X3_knock (hI.mem 0 (by decide)) hI.this rfl rfl hl.1 rfl (Nat.le_of_ble_eq_true rfl) dW_2318 ⟨Nat.le_of_ble_eq_true rfl, Nat.le_of_ble_eq_true rfl⟩ ⟨by show cells + 0 ≤ 697565; omega, by show slots + 0 ≤ 7003408; omega⟩ (fun r L1 F1 H1 l1 hp hW => ?_)
  obtain ⟨rfl, rfl, hI1, hf1⟩ := hp
  have hJ1 := hJ.keepC hI hO (fun _ h => h) (fun x _ h _ => hf1 x h) (noE hW hST)
  have hO1 := hO.keepA hI hf1
  refine lv_pop S.1 S.2.1 dW_2321 rfl ?_
  refine lv_aload_n S.1 S.2.1 dW_2322 rfl (lv_at hl 3 rfl) ?_
  refine pk_cVI (As := []) (rest := []) S hK hST hW (c_X6_knock hJ1  hg) mc_X6_knock wd_3008 wd_1590 wd_1591 rfl np_X6_knock (hJ1.mem (by decide)) hJ1.this rfl rfl hl.1 rfl (Nat.le_of_ble_eq_true rfl) dW_2323 ⟨Nat.le_of_ble_eq_true rfl, Nat.le_of_ble_eq_true rfl⟩ ⟨by show cells + 0 + 0 ≤ 697565; omega, by show slots + 0 + 0 ≤ 7003408; omega⟩ (fun r2 L2 F2 H2 l2 hp hW => ?_)
  obtain ⟨rfl, hJ2, hM2⟩ := hp
  have hI2 := hI1.keepM hM2
  have hO2 := hO1.keepM hM2
  refine lv_pop S.1 S.2.1 dW_2326 rfl ?_
  refine lv_goto (tgt := 2356) S.1 S.2.1 dW_2327 (by decide) ?_
  refine W.widen (k := cells + 256) (n := slots + 8192) (by omega) (by omega) ?_
  exact T _ _ _ _ _ _ _ ⟨hW, hI2, hJ2, hO2, hV2⟩ (lv_sub hl [0, 1, 2, 3, 4] rfl)
set_option maxHeartbeats 4000000 in
set_option maxRecDepth 100000 in
theorem cs_48 {p : Program} {l : Launch} {e : Env} {s : State} {m : MethodId} {b : Nat} {below : List Frame} {meth : Method} {c : Code} {D : va_G} {κ : Nat → ClassId} {ζ : Nat → Nat} {A B : Nat → Nat} {q LL x : Nat} {xs : Nat → Int32} {cells slots : Nat} {H : Heap} {locs : List Loc} {L : List Nat} {F : Nat → va_E} {σ : CS} {τ : MS} {ls : Array Slot} (E : LWE p l e s m b below meth c D κ ζ LL xs) (hx : 5 * x + 5 ≤ LL) (hL : LL ≤ 2560) (hc : cells + 256 ≤ 697565) (hs : slots + 8192 ≤ 7003408) (T : TL p l e s m b below meth c D κ ζ A B q x (cells + 256) (slots + 8192)) (Z : LST D κ ζ A B q s H locs L F σ τ) (hl : lv_has ls 7 [(4, .int (nI (5 * x))), (0, .ref b), (1, .ref (A 0)), (2, .ref (B 0)), (3, .ref q)]) : W p l e room_1 s m #[Value.ref b] below meth c H locs cells slots (lw_Z below #[Value.ref b] s) (F0 m 2330 ls []) := by
  obtain ⟨hst, S, hr, hlk, hN, hK, hST, hX, hbl⟩ := E
  obtain ⟨hW, hI, hJ, hO, hV⟩ := Z
  refine lv_aload_n S.1 S.2.1 dW_2330 rfl (lv_at hl 2 rfl) ?_
  obtain ⟨res, hf, hlen2, hs12, hsl, hV2, hwho, hag⟩ := sx_isSound hV
  refine pk_cVI (As := []) (rest := []) S hK hST hW (c_X3_isSound hI  hf) mc_X3_isSound wd_3002 wd_219 wd_220 rfl np_X3_isSound (hI.mem 0 (by decide)) hI.this rfl rfl hl.1 rfl (Nat.le_of_ble_eq_true rfl) dW_2331 ⟨Nat.le_of_ble_eq_true rfl, Nat.le_of_ble_eq_true rfl⟩ ⟨by show cells + 0 ≤ 697565; omega, by show slots + 0 ≤ 7003408; omega⟩ (fun r L1 F1 H1 l1 hp hW => ?_)
  obtain ⟨rfl, rfl, hI1, hf1⟩ := hp
  have hJ1 := hJ.keepC hI hO (fun _ h => h) (fun x _ h _ => hf1 x h) (noE hW hST)
  have hO1 := hO.keepA hI hf1
  refine lv_pop S.1 S.2.1 dW_2334 rfl ?_
  refine lv_aload_n S.1 S.2.1 dW_2335 rfl (lv_at hl 3 rfl) ?_
  refine pk_cVI (As := []) (rest := []) S hK hST hW (c_X6_isSound hJ1 hlen2 hs12 hsl hwho) mc_X6_isSound wd_3009 wd_1594 wd_1595 rfl np_X6_isSound (hJ1.mem (by decide)) hJ1.this rfl rfl hl.1 rfl (Nat.le_of_ble_eq_true rfl) dW_2336 ⟨Nat.le_of_ble_eq_true rfl, Nat.le_of_ble_eq_true rfl⟩ ⟨by show cells + 0 + 112 ≤ 697565; omega, by show slots + 0 + 3696 ≤ 7003408; omega⟩ (fun r2 L2 F2 H2 l2 hp hW => ?_)
  obtain ⟨hr2, hJ2, hM2⟩ := hp
  have hI2 := hI1.keepM hM2
  have hO2 := hO1.keepM hM2
  refine lv_pop S.1 S.2.1 dW_2339 rfl ?_
  refine lv_goto (tgt := 2356) S.1 S.2.1 dW_2340 (by decide) ?_
  refine W.widen (k := cells + 256) (n := slots + 8192) (by omega) (by omega) ?_
  exact T _ _ _ _ _ _ _ ⟨hW, hI2, hJ2, hO2, hV2⟩ (lv_sub hl [0, 1, 2, 3, 4] rfl)
set_option maxHeartbeats 4000000 in
set_option maxRecDepth 100000 in
theorem cs_49 {p : Program} {l : Launch} {e : Env} {s : State} {m : MethodId} {b : Nat} {below : List Frame} {meth : Method} {c : Code} {D : va_G} {κ : Nat → ClassId} {ζ : Nat → Nat} {A B : Nat → Nat} {q LL x : Nat} {xs : Nat → Int32} {cells slots : Nat} {H : Heap} {locs : List Loc} {L : List Nat} {F : Nat → va_E} {σ : CS} {τ : MS} {ls : Array Slot} (E : LWE p l e s m b below meth c D κ ζ LL xs) (hx : 5 * x + 5 ≤ LL) (hL : LL ≤ 2560) (hc : cells + 256 ≤ 697565) (hs : slots + 8192 ≤ 7003408) (T : TL p l e s m b below meth c D κ ζ A B q x (cells + 256) (slots + 8192)) (Z : LST D κ ζ A B q s H locs L F σ τ) (hl : lv_has ls 7 [(4, .int (nI (5 * x))), (0, .ref b), (1, .ref (A 0)), (2, .ref (B 0)), (3, .ref q)]) : W p l e room_1 s m #[Value.ref b] below meth c H locs cells slots (lw_Z below #[Value.ref b] s) (F0 m 2343 ls []) := by
  obtain ⟨hst, S, hr, hlk, hN, hK, hST, hX, hbl⟩ := E
  obtain ⟨hW, hI, hJ, hO, hV⟩ := Z
  refine lv_aload_n S.1 S.2.1 dW_2343 rfl (lv_at hl 2 rfl) ?_
  obtain ⟨res, hf, hD, hlen2, hcd, hs12, ho32, hsl, hV2, hwho, hag⟩ := sx_digest hV
  refine pk_cVJ (As := []) (rest := []) S hK hST hW (c_X3_digest hI  hf) mc_X3_digest wd_3003 wd_261 wd_262 rfl np_X3_digest (hI.mem 0 (by decide)) hI.this rfl rfl hl.1 rfl (Nat.le_of_ble_eq_true rfl) dW_2344 ⟨Nat.le_of_ble_eq_true rfl, Nat.le_of_ble_eq_true rfl⟩ ⟨by show cells + 0 ≤ 697565; omega, by show slots + 0 ≤ 7003408; omega⟩ (fun r L1 F1 H1 l1 hp hW => ?_)
  obtain ⟨rfl, rfl, hI1, hf1⟩ := hp
  have hJ1 := hJ.keepC hI hO (fun _ h => h) (fun x _ h _ => hf1 x h) (noE hW hST)
  have hO1 := hO.keepA hI hf1
  refine lv_pop2_2 S.1 S.2.1 dW_2347 rfl ?_
  refine lv_aload_n S.1 S.2.1 dW_2348 rfl (lv_at hl 3 rfl) ?_
  refine pk_cVJ (As := []) (rest := []) S hK hST hW (c_X6_digest hJ1 rfl hD hwho hlen2 hcd hs12 ho32 hsl) mc_X6_digest wd_3010 wd_1643 wd_1644 rfl np_X6_digest (hJ1.mem (by decide)) hJ1.this rfl rfl hl.1 rfl (Nat.le_of_ble_eq_true rfl) dW_2349 ⟨Nat.le_of_ble_eq_true rfl, Nat.le_of_ble_eq_true rfl⟩ ⟨by show cells + 0 + 160 ≤ 697565; omega, by show slots + 0 + 5280 ≤ 7003408; omega⟩ (fun r2 L2 F2 H2 l2 hp hW => ?_)
  obtain ⟨hr2, hJ2, hM2⟩ := hp
  have hI2 := hI1.keepM hM2
  have hO2 := hO1.keepM hM2
  refine lv_pop2_2 S.1 S.2.1 dW_2352 rfl ?_
  refine lv_goto (tgt := 2356) S.1 S.2.1 dW_2353 (by decide) ?_
  refine W.widen (k := cells + 256) (n := slots + 8192) (by omega) (by omega) ?_
  exact T _ _ _ _ _ _ _ ⟨hW, hI2, hJ2, hO2, hV2⟩ (lv_sub hl [0, 1, 2, 3, 4] rfl)
