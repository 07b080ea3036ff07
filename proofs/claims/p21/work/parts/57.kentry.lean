/-! the classes at the law's entry -/
set_option maxHeartbeats 4000000 in
theorem k_entry {args : Array Value} {s : State} (hts : ∀ w ∈ lw_tbl, w.before args s = true) (h3 : va_AO "java/lang/Object" s) (h4 : va_AO "TwoendsModel$Walker" s) : ∃ (D : va_G) (κ : Nat → ClassId), va_K D cls (ty5 κ) s := by
  have hG := gw_hts hts
  obtain ⟨c0, i0, u0⟩ := u_known (C := RJ0) (T := TJ0) (N := 4) (n := 4) hG hinJ0 (hG _ wd_944)
  obtain ⟨c1, i1, u1⟩ := u_known (C := RJ4) (T := TJ4) (N := 4) (n := 4) hG hinJ4 (hG _ wd_796)
  obtain ⟨c2, i2, u2⟩ := u_known (C := RJ6) (T := TJ6) (N := 1) (n := 1) hG hinJ6 (hG _ wd_1239)
  obtain ⟨c3, i3, u3⟩ := u_known (C := RJx35411) (T := TJx35411) (N := 4) (n := 4) hG hinJx35411 (hG _ wd_1610)
  obtain ⟨c4, i4, u4⟩ := u_known (C := RJx4a65c) (T := TJx4a65c) (N := 3) (n := 3) hG hinJx4a65c (hG _ wd_1071)
  obtain ⟨c5, i5, u5⟩ := u_known (C := RX0) (T := TX0) (N := 2) (n := 2) hG hinX0 (hG _ wd_41)
  obtain ⟨c6, i6, u6⟩ := u_known (C := RX1) (T := TX1) (N := 4) (n := 4) hG hinX1 (hG _ wd_53)
  obtain ⟨c7, i7, u7⟩ := u_known (C := RX2) (T := TX2) (N := 3) (n := 3) hG hinX2 (hG _ wd_68)
  obtain ⟨c8, i8, u8⟩ := u_known (C := RX3) (T := TX3) (N := 11) (n := 11) hG hinX3 (hG _ wd_33)
  obtain ⟨c9, i9, u9⟩ := u_known (C := RX4) (T := TX4) (N := 2) (n := 2) hG hinX4 (hG _ wd_339)
  obtain ⟨c10, i10, u10⟩ := u_known (C := RX5) (T := TX5) (N := 3) (n := 3) hG hinX5 (hG _ wd_1096)
  obtain ⟨c11, i11, u11⟩ := u_known (C := RX6) (T := TX6) (N := 9) (n := 9) hG hinX6 (hG _ wd_1065)
  obtain ⟨a0, k0, p0, f0, g0, e0⟩ := Cond.arrayClass_spec (hG _ wd_51)
  obtain ⟨a1, k1, p1, f1, g1, e1⟩ := Cond.arrayClass_spec (hG _ wd_412)
  obtain ⟨a2, k2, p2, f2, g2, e2⟩ := Cond.arrayClass_spec (hG _ wd_1389)
  obtain ⟨p3, a3, k3, q3, -, g3, e3, f3⟩ := Cond.arrayOver_spec (va_AO.use (A := args) h3)
  obtain ⟨p4, a4, k4, q4, -, g4, e4, f4⟩ := Cond.arrayOver_spec (va_AO.use (A := args) h4)
  refine ⟨(fun k => ([c0, c1, c2, c3, c4, c5, c6, c7, c8, c9, c10, c11] : List ClassId).getD k c0, fun k => ([i0, i1, i2, i3, i4, i5, i6, i7, i8, i9, i10, i11] : List (Nat → Nat)).getD k i0), fun k => ([a0, a1, a2, a3, a4] : List ClassId).getD k a0, ?_, ?_⟩
  · intro k q hq
    match k, hq with
    | 0, hq => cases hq; exact u0
    | 1, hq => cases hq; exact u1
    | 2, hq => cases hq; exact u2
    | 3, hq => cases hq; exact u3
    | 4, hq => cases hq; exact u4
    | 5, hq => cases hq; exact u5
    | 6, hq => cases hq; exact u6
    | 7, hq => cases hq; exact u7
    | 8, hq => cases hq; exact u8
    | 9, hq => cases hq; exact u9
    | 10, hq => cases hq; exact u10
    | 11, hq => cases hq; exact u11
    | k + 12, hq => cases hq
  · intro k q hq
    match k, hq with
    | 0, hq => cases hq; exact ⟨fun n z => ⟨fun k h => (by cases h), k0, g0, p0, e0⟩, f0⟩
    | 1, hq => cases hq; exact ⟨fun n z => ⟨fun k h => (by cases h), k1, g1, p1, e1⟩, f1⟩
    | 2, hq => cases hq; exact ⟨fun n z => ⟨fun k h => (by cases h), k2, g2, p2, e2⟩, f2⟩
    | 3, hq => cases hq; exact ⟨fun n z => ⟨fun k h => (by cases h), k3, g3, p3, e3⟩, k3, p3, g3, e3, q3, f3⟩
    | 4, hq => cases hq; exact ⟨fun n z => ⟨fun k h => (by cases h), k4, g4, p4, e4⟩, k4, p4, g4, e4, q4, f4⟩
    | k + 5, hq => cases hq
