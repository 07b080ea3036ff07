/-! decode rows by the bytes: a lemma an opcode, the bytes from a list a method -/
def vy_8 (A : ByteArray) (p : Nat) (b : UInt8) : Prop := ∃ h : p < A.size, A[p] = b
theorem vy_u1 {A : ByteArray} {p : Nat} {b : UInt8} (h : vy_8 A p b) : (Reader.u1 : Decoder Nat).runAt A p = .ok (b.toNat, p + 1) := by
  obtain ⟨h1, h2⟩ := h
  have e : (Reader.u1 : Decoder Nat).runAt A p = (if h : p < A.size then (do set (p + 1); pure (A[p].toNat) : Decoder Nat) else throw (HasTruncated.truncated p)).runAt A p := rfl
  rw [e, dif_pos h1, h2]
  rfl
theorem vy_run {α β : Type} (r : Decoder α) (f : α → Decoder β) (A : ByteArray) (p : Nat) {a : α} {q : Nat} (h : r.runAt A p = .ok (a, q)) : (r >>= f).runAt A p = (f a).runAt A q := by
  have e : (r >>= f).runAt A p = Except.bind (r.runAt A p) (fun x => (f x.1).runAt A x.2) := rfl
  rw [e, h]
  rfl
theorem vy_u2 {A : ByteArray} {p : Nat} {b c : UInt8} (h : vy_8 A p b) (h2 : vy_8 A (p + 1) c) : (Reader.u2 : Decoder Nat).runAt A p = .ok (b.toNat * 256 + c.toNat, p + 2) := by
  unfold Reader.u2
  rw [vy_run _ _ _ _ (vy_u1 h), vy_run _ _ _ _ (vy_u1 h2)]
  rfl
theorem vy_map {α β : Type} (r : Decoder α) (f : α → β) (A : ByteArray) (p : Nat) {a : α} {q : Nat} (h : r.runAt A p = .ok (a, q)) : (f <$> r).runAt A p = .ok (f a, q) := by
  have e : (f <$> r).runAt A p = Except.bind (r.runAt A p) (fun x => Except.ok (f x.1, x.2)) := rfl
  rw [e, h]
  rfl
theorem vy_s2 {A : ByteArray} {p : Nat} {b c : UInt8} (h : vy_8 A p b) (h2 : vy_8 A (p + 1) c) : (Reader.s2 : Decoder Int).runAt A p = .ok (Reader.signed 16 (b.toNat * 256 + c.toNat), p + 2) := vy_map _ _ _ _ (vy_u2 h h2)
theorem vy_s1 {A : ByteArray} {p : Nat} {b : UInt8} (h : vy_8 A p b) : (Reader.s1 : Decoder Int).runAt A p = .ok (Reader.signed 8 b.toNat, p + 1) := vy_map _ _ _ _ (vy_u1 h)
theorem vy_dec {A : ByteArray} {p n : Nat} {i : Instr} (h : (Decoder.instr p).runAt A p = .ok (i, p + n)) : decode A p = .ok (i, n) := by
  unfold decode
  rw [h]
  show Except.ok (i, p + n - p) = _
  rw [Nat.add_sub_cancel_left]
theorem vy_by {L : List UInt8} {A : ByteArray} {p : Nat} {b : UInt8} (hA : A.data.toList = L) (h : L[p]? = some b) : vy_8 A p b := by
  subst hA
  obtain ⟨h1, h2⟩ := List.getElem?_eq_some_iff.mp h
  exact ⟨h1, h2⟩
theorem vy_in {L : List UInt8} {A : ByteArray} {p n i : Nat} {b : UInt8} (hA : (A.data.toList.drop p).take n = L) (hi : L[i]? = some b) : vy_8 A (p + i) b := by
  subst hA
  rw [List.getElem?_take] at hi
  split at hi
  · rw [List.getElem?_drop] at hi
    exact vy_by rfl hi
  · cases hi
section VYD
variable {A : ByteArray} {p : Nat}
theorem vyd_1 (h : vy_8 A p 1) : decode A p = .ok (.aconst_null, 1) := vy_dec (by
  unfold Decoder.instr
  rw [vy_run _ _ _ _ (vy_u1 h)]
  rfl)
theorem vyd_2 (h : vy_8 A p 2) : decode A p = .ok (.iconst (-1), 1) := vy_dec (by
  unfold Decoder.instr
  rw [vy_run _ _ _ _ (vy_u1 h)]
  rfl)
theorem vyd_3 (h : vy_8 A p 3) : decode A p = .ok (.iconst 0, 1) := vy_dec (by
  unfold Decoder.instr
  rw [vy_run _ _ _ _ (vy_u1 h)]
  rfl)
theorem vyd_4 (h : vy_8 A p 4) : decode A p = .ok (.iconst 1, 1) := vy_dec (by
  unfold Decoder.instr
  rw [vy_run _ _ _ _ (vy_u1 h)]
  rfl)
theorem vyd_5 (h : vy_8 A p 5) : decode A p = .ok (.iconst 2, 1) := vy_dec (by
  unfold Decoder.instr
  rw [vy_run _ _ _ _ (vy_u1 h)]
  rfl)
theorem vyd_6 (h : vy_8 A p 6) : decode A p = .ok (.iconst 3, 1) := vy_dec (by
  unfold Decoder.instr
  rw [vy_run _ _ _ _ (vy_u1 h)]
  rfl)
theorem vyd_7 (h : vy_8 A p 7) : decode A p = .ok (.iconst 4, 1) := vy_dec (by
  unfold Decoder.instr
  rw [vy_run _ _ _ _ (vy_u1 h)]
  rfl)
theorem vyd_8 (h : vy_8 A p 8) : decode A p = .ok (.iconst 5, 1) := vy_dec (by
  unfold Decoder.instr
  rw [vy_run _ _ _ _ (vy_u1 h)]
  rfl)
theorem vyd_9 (h : vy_8 A p 9) : decode A p = .ok (.lconst 0, 1) := vy_dec (by
  unfold Decoder.instr
  rw [vy_run _ _ _ _ (vy_u1 h)]
  rfl)
theorem vyd_10 (h : vy_8 A p 10) : decode A p = .ok (.lconst 1, 1) := vy_dec (by
  unfold Decoder.instr
  rw [vy_run _ _ _ _ (vy_u1 h)]
  rfl)
theorem vyd_16 {b : UInt8} {x : Int} (h : vy_8 A p 16) (h1 : vy_8 A (p + 1) b) (hx : Reader.signed 8 b.toNat = x) : decode A p = .ok (.bipush x, 2) := vy_dec (by
  subst hx
  unfold Decoder.instr
  rw [vy_run _ _ _ _ (vy_u1 h)]
  show (Reader.s1 >>= fun x => pure (Instr.bipush x)).runAt A (p + 1) = _
  rw [vy_run _ _ _ _ (vy_s1 h1)]
  rfl)
theorem vyd_17 {b c : UInt8} {x : Int} (h : vy_8 A p 17) (h1 : vy_8 A (p + 1) b) (h2 : vy_8 A (p + 2) c) (hx : Reader.signed 16 (b.toNat * 256 + c.toNat) = x) : decode A p = .ok (.sipush x, 3) := vy_dec (by
  subst hx
  unfold Decoder.instr
  rw [vy_run _ _ _ _ (vy_u1 h)]
  show (Reader.s2 >>= fun x => pure (Instr.sipush x)).runAt A (p + 1) = _
  rw [vy_run _ _ _ _ (vy_s2 h1 h2)]
  rfl)
theorem vyd_18 {b : UInt8} {x : Nat} (h : vy_8 A p 18) (h1 : vy_8 A (p + 1) b) (hx : b.toNat = x) : decode A p = .ok (.ldc x, 2) := vy_dec (by
  subst hx
  unfold Decoder.instr
  rw [vy_run _ _ _ _ (vy_u1 h)]
  show (Reader.u1 >>= fun x => pure (Instr.ldc x)).runAt A (p + 1) = _
  rw [vy_run _ _ _ _ (vy_u1 h1)]
  rfl)
theorem vyd_19 {b c : UInt8} {x : Nat} (h : vy_8 A p 19) (h1 : vy_8 A (p + 1) b) (h2 : vy_8 A (p + 2) c) (hx : b.toNat * 256 + c.toNat = x) : decode A p = .ok (.ldc_w x, 3) := vy_dec (by
  subst hx
  unfold Decoder.instr
  rw [vy_run _ _ _ _ (vy_u1 h)]
  show (Reader.u2 >>= fun x => pure (Instr.ldc_w x)).runAt A (p + 1) = _
  rw [vy_run _ _ _ _ (vy_u2 h1 h2)]
  rfl)
theorem vyd_20 {b c : UInt8} {x : Nat} (h : vy_8 A p 20) (h1 : vy_8 A (p + 1) b) (h2 : vy_8 A (p + 2) c) (hx : b.toNat * 256 + c.toNat = x) : decode A p = .ok (.ldc2_w x, 3) := vy_dec (by
  subst hx
  unfold Decoder.instr
  rw [vy_run _ _ _ _ (vy_u1 h)]
  show (Reader.u2 >>= fun x => pure (Instr.ldc2_w x)).runAt A (p + 1) = _
  rw [vy_run _ _ _ _ (vy_u2 h1 h2)]
  rfl)
theorem vyd_21 {b : UInt8} {x : Nat} (h : vy_8 A p 21) (h1 : vy_8 A (p + 1) b) (hx : b.toNat = x) : decode A p = .ok (.iload x, 2) := vy_dec (by
  subst hx
  unfold Decoder.instr
  rw [vy_run _ _ _ _ (vy_u1 h)]
  show (Reader.u1 >>= fun x => pure (Instr.iload x)).runAt A (p + 1) = _
  rw [vy_run _ _ _ _ (vy_u1 h1)]
  rfl)
theorem vyd_22 {b : UInt8} {x : Nat} (h : vy_8 A p 22) (h1 : vy_8 A (p + 1) b) (hx : b.toNat = x) : decode A p = .ok (.lload x, 2) := vy_dec (by
  subst hx
  unfold Decoder.instr
  rw [vy_run _ _ _ _ (vy_u1 h)]
  show (Reader.u1 >>= fun x => pure (Instr.lload x)).runAt A (p + 1) = _
  rw [vy_run _ _ _ _ (vy_u1 h1)]
  rfl)
theorem vyd_25 {b : UInt8} {x : Nat} (h : vy_8 A p 25) (h1 : vy_8 A (p + 1) b) (hx : b.toNat = x) : decode A p = .ok (.aload x, 2) := vy_dec (by
  subst hx
  unfold Decoder.instr
  rw [vy_run _ _ _ _ (vy_u1 h)]
  show (Reader.u1 >>= fun x => pure (Instr.aload x)).runAt A (p + 1) = _
  rw [vy_run _ _ _ _ (vy_u1 h1)]
  rfl)
theorem vyd_26 (h : vy_8 A p 26) : decode A p = .ok (.iload_n 0, 1) := vy_dec (by
  unfold Decoder.instr
  rw [vy_run _ _ _ _ (vy_u1 h)]
  rfl)
theorem vyd_27 (h : vy_8 A p 27) : decode A p = .ok (.iload_n 1, 1) := vy_dec (by
  unfold Decoder.instr
  rw [vy_run _ _ _ _ (vy_u1 h)]
  rfl)
theorem vyd_28 (h : vy_8 A p 28) : decode A p = .ok (.iload_n 2, 1) := vy_dec (by
  unfold Decoder.instr
  rw [vy_run _ _ _ _ (vy_u1 h)]
  rfl)
theorem vyd_29 (h : vy_8 A p 29) : decode A p = .ok (.iload_n 3, 1) := vy_dec (by
  unfold Decoder.instr
  rw [vy_run _ _ _ _ (vy_u1 h)]
  rfl)
theorem vyd_30 (h : vy_8 A p 30) : decode A p = .ok (.lload_n 0, 1) := vy_dec (by
  unfold Decoder.instr
  rw [vy_run _ _ _ _ (vy_u1 h)]
  rfl)
theorem vyd_31 (h : vy_8 A p 31) : decode A p = .ok (.lload_n 1, 1) := vy_dec (by
  unfold Decoder.instr
  rw [vy_run _ _ _ _ (vy_u1 h)]
  rfl)
theorem vyd_32 (h : vy_8 A p 32) : decode A p = .ok (.lload_n 2, 1) := vy_dec (by
  unfold Decoder.instr
  rw [vy_run _ _ _ _ (vy_u1 h)]
  rfl)
theorem vyd_42 (h : vy_8 A p 42) : decode A p = .ok (.aload_n 0, 1) := vy_dec (by
  unfold Decoder.instr
  rw [vy_run _ _ _ _ (vy_u1 h)]
  rfl)
theorem vyd_43 (h : vy_8 A p 43) : decode A p = .ok (.aload_n 1, 1) := vy_dec (by
  unfold Decoder.instr
  rw [vy_run _ _ _ _ (vy_u1 h)]
  rfl)
theorem vyd_44 (h : vy_8 A p 44) : decode A p = .ok (.aload_n 2, 1) := vy_dec (by
  unfold Decoder.instr
  rw [vy_run _ _ _ _ (vy_u1 h)]
  rfl)
theorem vyd_45 (h : vy_8 A p 45) : decode A p = .ok (.aload_n 3, 1) := vy_dec (by
  unfold Decoder.instr
  rw [vy_run _ _ _ _ (vy_u1 h)]
  rfl)
theorem vyd_46 (h : vy_8 A p 46) : decode A p = .ok (.iaload, 1) := vy_dec (by
  unfold Decoder.instr
  rw [vy_run _ _ _ _ (vy_u1 h)]
  rfl)
theorem vyd_50 (h : vy_8 A p 50) : decode A p = .ok (.aaload, 1) := vy_dec (by
  unfold Decoder.instr
  rw [vy_run _ _ _ _ (vy_u1 h)]
  rfl)
theorem vyd_51 (h : vy_8 A p 51) : decode A p = .ok (.baload, 1) := vy_dec (by
  unfold Decoder.instr
  rw [vy_run _ _ _ _ (vy_u1 h)]
  rfl)
theorem vyd_54 {b : UInt8} {x : Nat} (h : vy_8 A p 54) (h1 : vy_8 A (p + 1) b) (hx : b.toNat = x) : decode A p = .ok (.istore x, 2) := vy_dec (by
  subst hx
  unfold Decoder.instr
  rw [vy_run _ _ _ _ (vy_u1 h)]
  show (Reader.u1 >>= fun x => pure (Instr.istore x)).runAt A (p + 1) = _
  rw [vy_run _ _ _ _ (vy_u1 h1)]
  rfl)
theorem vyd_55 {b : UInt8} {x : Nat} (h : vy_8 A p 55) (h1 : vy_8 A (p + 1) b) (hx : b.toNat = x) : decode A p = .ok (.lstore x, 2) := vy_dec (by
  subst hx
  unfold Decoder.instr
  rw [vy_run _ _ _ _ (vy_u1 h)]
  show (Reader.u1 >>= fun x => pure (Instr.lstore x)).runAt A (p + 1) = _
  rw [vy_run _ _ _ _ (vy_u1 h1)]
  rfl)
theorem vyd_58 {b : UInt8} {x : Nat} (h : vy_8 A p 58) (h1 : vy_8 A (p + 1) b) (hx : b.toNat = x) : decode A p = .ok (.astore x, 2) := vy_dec (by
  subst hx
  unfold Decoder.instr
  rw [vy_run _ _ _ _ (vy_u1 h)]
  show (Reader.u1 >>= fun x => pure (Instr.astore x)).runAt A (p + 1) = _
  rw [vy_run _ _ _ _ (vy_u1 h1)]
  rfl)
theorem vyd_59 (h : vy_8 A p 59) : decode A p = .ok (.istore_n 0, 1) := vy_dec (by
  unfold Decoder.instr
  rw [vy_run _ _ _ _ (vy_u1 h)]
  rfl)
theorem vyd_60 (h : vy_8 A p 60) : decode A p = .ok (.istore_n 1, 1) := vy_dec (by
  unfold Decoder.instr
  rw [vy_run _ _ _ _ (vy_u1 h)]
  rfl)
theorem vyd_61 (h : vy_8 A p 61) : decode A p = .ok (.istore_n 2, 1) := vy_dec (by
  unfold Decoder.instr
  rw [vy_run _ _ _ _ (vy_u1 h)]
  rfl)
theorem vyd_62 (h : vy_8 A p 62) : decode A p = .ok (.istore_n 3, 1) := vy_dec (by
  unfold Decoder.instr
  rw [vy_run _ _ _ _ (vy_u1 h)]
  rfl)
theorem vyd_64 (h : vy_8 A p 64) : decode A p = .ok (.lstore_n 1, 1) := vy_dec (by
  unfold Decoder.instr
  rw [vy_run _ _ _ _ (vy_u1 h)]
  rfl)
theorem vyd_76 (h : vy_8 A p 76) : decode A p = .ok (.astore_n 1, 1) := vy_dec (by
  unfold Decoder.instr
  rw [vy_run _ _ _ _ (vy_u1 h)]
  rfl)
theorem vyd_77 (h : vy_8 A p 77) : decode A p = .ok (.astore_n 2, 1) := vy_dec (by
  unfold Decoder.instr
  rw [vy_run _ _ _ _ (vy_u1 h)]
  rfl)
theorem vyd_78 (h : vy_8 A p 78) : decode A p = .ok (.astore_n 3, 1) := vy_dec (by
  unfold Decoder.instr
  rw [vy_run _ _ _ _ (vy_u1 h)]
  rfl)
theorem vyd_79 (h : vy_8 A p 79) : decode A p = .ok (.iastore, 1) := vy_dec (by
  unfold Decoder.instr
  rw [vy_run _ _ _ _ (vy_u1 h)]
  rfl)
theorem vyd_83 (h : vy_8 A p 83) : decode A p = .ok (.aastore, 1) := vy_dec (by
  unfold Decoder.instr
  rw [vy_run _ _ _ _ (vy_u1 h)]
  rfl)
theorem vyd_84 (h : vy_8 A p 84) : decode A p = .ok (.bastore, 1) := vy_dec (by
  unfold Decoder.instr
  rw [vy_run _ _ _ _ (vy_u1 h)]
  rfl)
theorem vyd_87 (h : vy_8 A p 87) : decode A p = .ok (.pop, 1) := vy_dec (by
  unfold Decoder.instr
  rw [vy_run _ _ _ _ (vy_u1 h)]
  rfl)
theorem vyd_89 (h : vy_8 A p 89) : decode A p = .ok (.dup, 1) := vy_dec (by
  unfold Decoder.instr
  rw [vy_run _ _ _ _ (vy_u1 h)]
  rfl)
theorem vyd_90 (h : vy_8 A p 90) : decode A p = .ok (.dup_x1, 1) := vy_dec (by
  unfold Decoder.instr
  rw [vy_run _ _ _ _ (vy_u1 h)]
  rfl)
theorem vyd_96 (h : vy_8 A p 96) : decode A p = .ok (.iadd, 1) := vy_dec (by
  unfold Decoder.instr
  rw [vy_run _ _ _ _ (vy_u1 h)]
  rfl)
theorem vyd_97 (h : vy_8 A p 97) : decode A p = .ok (.ladd, 1) := vy_dec (by
  unfold Decoder.instr
  rw [vy_run _ _ _ _ (vy_u1 h)]
  rfl)
theorem vyd_100 (h : vy_8 A p 100) : decode A p = .ok (.isub, 1) := vy_dec (by
  unfold Decoder.instr
  rw [vy_run _ _ _ _ (vy_u1 h)]
  rfl)
theorem vyd_104 (h : vy_8 A p 104) : decode A p = .ok (.imul, 1) := vy_dec (by
  unfold Decoder.instr
  rw [vy_run _ _ _ _ (vy_u1 h)]
  rfl)
theorem vyd_105 (h : vy_8 A p 105) : decode A p = .ok (.lmul, 1) := vy_dec (by
  unfold Decoder.instr
  rw [vy_run _ _ _ _ (vy_u1 h)]
  rfl)
theorem vyd_108 (h : vy_8 A p 108) : decode A p = .ok (.idiv, 1) := vy_dec (by
  unfold Decoder.instr
  rw [vy_run _ _ _ _ (vy_u1 h)]
  rfl)
theorem vyd_112 (h : vy_8 A p 112) : decode A p = .ok (.irem, 1) := vy_dec (by
  unfold Decoder.instr
  rw [vy_run _ _ _ _ (vy_u1 h)]
  rfl)
theorem vyd_116 (h : vy_8 A p 116) : decode A p = .ok (.ineg, 1) := vy_dec (by
  unfold Decoder.instr
  rw [vy_run _ _ _ _ (vy_u1 h)]
  rfl)
theorem vyd_120 (h : vy_8 A p 120) : decode A p = .ok (.ishl, 1) := vy_dec (by
  unfold Decoder.instr
  rw [vy_run _ _ _ _ (vy_u1 h)]
  rfl)
theorem vyd_122 (h : vy_8 A p 122) : decode A p = .ok (.ishr, 1) := vy_dec (by
  unfold Decoder.instr
  rw [vy_run _ _ _ _ (vy_u1 h)]
  rfl)
theorem vyd_133 (h : vy_8 A p 133) : decode A p = .ok (.i2l, 1) := vy_dec (by
  unfold Decoder.instr
  rw [vy_run _ _ _ _ (vy_u1 h)]
  rfl)
theorem vyd_145 (h : vy_8 A p 145) : decode A p = .ok (.i2b, 1) := vy_dec (by
  unfold Decoder.instr
  rw [vy_run _ _ _ _ (vy_u1 h)]
  rfl)
theorem vyd_153 {b c : UInt8} {x : Int} (h : vy_8 A p 153) (h1 : vy_8 A (p + 1) b) (h2 : vy_8 A (p + 2) c) (hx : Reader.signed 16 (b.toNat * 256 + c.toNat) = x) : decode A p = .ok (.ifCond .eq x, 3) := vy_dec (by
  subst hx
  unfold Decoder.instr
  rw [vy_run _ _ _ _ (vy_u1 h)]
  show (Reader.s2 >>= fun x => pure (Instr.ifCond .eq x)).runAt A (p + 1) = _
  rw [vy_run _ _ _ _ (vy_s2 h1 h2)]
  rfl)
theorem vyd_154 {b c : UInt8} {x : Int} (h : vy_8 A p 154) (h1 : vy_8 A (p + 1) b) (h2 : vy_8 A (p + 2) c) (hx : Reader.signed 16 (b.toNat * 256 + c.toNat) = x) : decode A p = .ok (.ifCond .ne x, 3) := vy_dec (by
  subst hx
  unfold Decoder.instr
  rw [vy_run _ _ _ _ (vy_u1 h)]
  show (Reader.s2 >>= fun x => pure (Instr.ifCond .ne x)).runAt A (p + 1) = _
  rw [vy_run _ _ _ _ (vy_s2 h1 h2)]
  rfl)
theorem vyd_155 {b c : UInt8} {x : Int} (h : vy_8 A p 155) (h1 : vy_8 A (p + 1) b) (h2 : vy_8 A (p + 2) c) (hx : Reader.signed 16 (b.toNat * 256 + c.toNat) = x) : decode A p = .ok (.ifCond .lt x, 3) := vy_dec (by
  subst hx
  unfold Decoder.instr
  rw [vy_run _ _ _ _ (vy_u1 h)]
  show (Reader.s2 >>= fun x => pure (Instr.ifCond .lt x)).runAt A (p + 1) = _
  rw [vy_run _ _ _ _ (vy_s2 h1 h2)]
  rfl)
theorem vyd_156 {b c : UInt8} {x : Int} (h : vy_8 A p 156) (h1 : vy_8 A (p + 1) b) (h2 : vy_8 A (p + 2) c) (hx : Reader.signed 16 (b.toNat * 256 + c.toNat) = x) : decode A p = .ok (.ifCond .ge x, 3) := vy_dec (by
  subst hx
  unfold Decoder.instr
  rw [vy_run _ _ _ _ (vy_u1 h)]
  show (Reader.s2 >>= fun x => pure (Instr.ifCond .ge x)).runAt A (p + 1) = _
  rw [vy_run _ _ _ _ (vy_s2 h1 h2)]
  rfl)
theorem vyd_157 {b c : UInt8} {x : Int} (h : vy_8 A p 157) (h1 : vy_8 A (p + 1) b) (h2 : vy_8 A (p + 2) c) (hx : Reader.signed 16 (b.toNat * 256 + c.toNat) = x) : decode A p = .ok (.ifCond .gt x, 3) := vy_dec (by
  subst hx
  unfold Decoder.instr
  rw [vy_run _ _ _ _ (vy_u1 h)]
  show (Reader.s2 >>= fun x => pure (Instr.ifCond .gt x)).runAt A (p + 1) = _
  rw [vy_run _ _ _ _ (vy_s2 h1 h2)]
  rfl)
theorem vyd_158 {b c : UInt8} {x : Int} (h : vy_8 A p 158) (h1 : vy_8 A (p + 1) b) (h2 : vy_8 A (p + 2) c) (hx : Reader.signed 16 (b.toNat * 256 + c.toNat) = x) : decode A p = .ok (.ifCond .le x, 3) := vy_dec (by
  subst hx
  unfold Decoder.instr
  rw [vy_run _ _ _ _ (vy_u1 h)]
  show (Reader.s2 >>= fun x => pure (Instr.ifCond .le x)).runAt A (p + 1) = _
  rw [vy_run _ _ _ _ (vy_s2 h1 h2)]
  rfl)
theorem vyd_159 {b c : UInt8} {x : Int} (h : vy_8 A p 159) (h1 : vy_8 A (p + 1) b) (h2 : vy_8 A (p + 2) c) (hx : Reader.signed 16 (b.toNat * 256 + c.toNat) = x) : decode A p = .ok (.if_icmp .eq x, 3) := vy_dec (by
  subst hx
  unfold Decoder.instr
  rw [vy_run _ _ _ _ (vy_u1 h)]
  show (Reader.s2 >>= fun x => pure (Instr.if_icmp .eq x)).runAt A (p + 1) = _
  rw [vy_run _ _ _ _ (vy_s2 h1 h2)]
  rfl)
theorem vyd_160 {b c : UInt8} {x : Int} (h : vy_8 A p 160) (h1 : vy_8 A (p + 1) b) (h2 : vy_8 A (p + 2) c) (hx : Reader.signed 16 (b.toNat * 256 + c.toNat) = x) : decode A p = .ok (.if_icmp .ne x, 3) := vy_dec (by
  subst hx
  unfold Decoder.instr
  rw [vy_run _ _ _ _ (vy_u1 h)]
  show (Reader.s2 >>= fun x => pure (Instr.if_icmp .ne x)).runAt A (p + 1) = _
  rw [vy_run _ _ _ _ (vy_s2 h1 h2)]
  rfl)
theorem vyd_161 {b c : UInt8} {x : Int} (h : vy_8 A p 161) (h1 : vy_8 A (p + 1) b) (h2 : vy_8 A (p + 2) c) (hx : Reader.signed 16 (b.toNat * 256 + c.toNat) = x) : decode A p = .ok (.if_icmp .lt x, 3) := vy_dec (by
  subst hx
  unfold Decoder.instr
  rw [vy_run _ _ _ _ (vy_u1 h)]
  show (Reader.s2 >>= fun x => pure (Instr.if_icmp .lt x)).runAt A (p + 1) = _
  rw [vy_run _ _ _ _ (vy_s2 h1 h2)]
  rfl)
theorem vyd_162 {b c : UInt8} {x : Int} (h : vy_8 A p 162) (h1 : vy_8 A (p + 1) b) (h2 : vy_8 A (p + 2) c) (hx : Reader.signed 16 (b.toNat * 256 + c.toNat) = x) : decode A p = .ok (.if_icmp .ge x, 3) := vy_dec (by
  subst hx
  unfold Decoder.instr
  rw [vy_run _ _ _ _ (vy_u1 h)]
  show (Reader.s2 >>= fun x => pure (Instr.if_icmp .ge x)).runAt A (p + 1) = _
  rw [vy_run _ _ _ _ (vy_s2 h1 h2)]
  rfl)
theorem vyd_163 {b c : UInt8} {x : Int} (h : vy_8 A p 163) (h1 : vy_8 A (p + 1) b) (h2 : vy_8 A (p + 2) c) (hx : Reader.signed 16 (b.toNat * 256 + c.toNat) = x) : decode A p = .ok (.if_icmp .gt x, 3) := vy_dec (by
  subst hx
  unfold Decoder.instr
  rw [vy_run _ _ _ _ (vy_u1 h)]
  show (Reader.s2 >>= fun x => pure (Instr.if_icmp .gt x)).runAt A (p + 1) = _
  rw [vy_run _ _ _ _ (vy_s2 h1 h2)]
  rfl)
theorem vyd_164 {b c : UInt8} {x : Int} (h : vy_8 A p 164) (h1 : vy_8 A (p + 1) b) (h2 : vy_8 A (p + 2) c) (hx : Reader.signed 16 (b.toNat * 256 + c.toNat) = x) : decode A p = .ok (.if_icmp .le x, 3) := vy_dec (by
  subst hx
  unfold Decoder.instr
  rw [vy_run _ _ _ _ (vy_u1 h)]
  show (Reader.s2 >>= fun x => pure (Instr.if_icmp .le x)).runAt A (p + 1) = _
  rw [vy_run _ _ _ _ (vy_s2 h1 h2)]
  rfl)
theorem vyd_165 {b c : UInt8} {x : Int} (h : vy_8 A p 165) (h1 : vy_8 A (p + 1) b) (h2 : vy_8 A (p + 2) c) (hx : Reader.signed 16 (b.toNat * 256 + c.toNat) = x) : decode A p = .ok (.if_acmp .eq x, 3) := vy_dec (by
  subst hx
  unfold Decoder.instr
  rw [vy_run _ _ _ _ (vy_u1 h)]
  show (Reader.s2 >>= fun x => pure (Instr.if_acmp .eq x)).runAt A (p + 1) = _
  rw [vy_run _ _ _ _ (vy_s2 h1 h2)]
  rfl)
theorem vyd_166 {b c : UInt8} {x : Int} (h : vy_8 A p 166) (h1 : vy_8 A (p + 1) b) (h2 : vy_8 A (p + 2) c) (hx : Reader.signed 16 (b.toNat * 256 + c.toNat) = x) : decode A p = .ok (.if_acmp .ne x, 3) := vy_dec (by
  subst hx
  unfold Decoder.instr
  rw [vy_run _ _ _ _ (vy_u1 h)]
  show (Reader.s2 >>= fun x => pure (Instr.if_acmp .ne x)).runAt A (p + 1) = _
  rw [vy_run _ _ _ _ (vy_s2 h1 h2)]
  rfl)
theorem vyd_167 {b c : UInt8} {x : Int} (h : vy_8 A p 167) (h1 : vy_8 A (p + 1) b) (h2 : vy_8 A (p + 2) c) (hx : Reader.signed 16 (b.toNat * 256 + c.toNat) = x) : decode A p = .ok (.goto x, 3) := vy_dec (by
  subst hx
  unfold Decoder.instr
  rw [vy_run _ _ _ _ (vy_u1 h)]
  show (Reader.s2 >>= fun x => pure (Instr.goto x)).runAt A (p + 1) = _
  rw [vy_run _ _ _ _ (vy_s2 h1 h2)]
  rfl)
theorem vyd_172 (h : vy_8 A p 172) : decode A p = .ok (.ireturn, 1) := vy_dec (by
  unfold Decoder.instr
  rw [vy_run _ _ _ _ (vy_u1 h)]
  rfl)
theorem vyd_173 (h : vy_8 A p 173) : decode A p = .ok (.lreturn, 1) := vy_dec (by
  unfold Decoder.instr
  rw [vy_run _ _ _ _ (vy_u1 h)]
  rfl)
theorem vyd_176 (h : vy_8 A p 176) : decode A p = .ok (.areturn, 1) := vy_dec (by
  unfold Decoder.instr
  rw [vy_run _ _ _ _ (vy_u1 h)]
  rfl)
theorem vyd_177 (h : vy_8 A p 177) : decode A p = .ok (.return_, 1) := vy_dec (by
  unfold Decoder.instr
  rw [vy_run _ _ _ _ (vy_u1 h)]
  rfl)
theorem vyd_178 {b c : UInt8} {x : Nat} (h : vy_8 A p 178) (h1 : vy_8 A (p + 1) b) (h2 : vy_8 A (p + 2) c) (hx : b.toNat * 256 + c.toNat = x) : decode A p = .ok (.getstatic x, 3) := vy_dec (by
  subst hx
  unfold Decoder.instr
  rw [vy_run _ _ _ _ (vy_u1 h)]
  show (Reader.u2 >>= fun x => pure (Instr.getstatic x)).runAt A (p + 1) = _
  rw [vy_run _ _ _ _ (vy_u2 h1 h2)]
  rfl)
theorem vyd_180 {b c : UInt8} {x : Nat} (h : vy_8 A p 180) (h1 : vy_8 A (p + 1) b) (h2 : vy_8 A (p + 2) c) (hx : b.toNat * 256 + c.toNat = x) : decode A p = .ok (.getfield x, 3) := vy_dec (by
  subst hx
  unfold Decoder.instr
  rw [vy_run _ _ _ _ (vy_u1 h)]
  show (Reader.u2 >>= fun x => pure (Instr.getfield x)).runAt A (p + 1) = _
  rw [vy_run _ _ _ _ (vy_u2 h1 h2)]
  rfl)
theorem vyd_181 {b c : UInt8} {x : Nat} (h : vy_8 A p 181) (h1 : vy_8 A (p + 1) b) (h2 : vy_8 A (p + 2) c) (hx : b.toNat * 256 + c.toNat = x) : decode A p = .ok (.putfield x, 3) := vy_dec (by
  subst hx
  unfold Decoder.instr
  rw [vy_run _ _ _ _ (vy_u1 h)]
  show (Reader.u2 >>= fun x => pure (Instr.putfield x)).runAt A (p + 1) = _
  rw [vy_run _ _ _ _ (vy_u2 h1 h2)]
  rfl)
theorem vyd_182 {b c : UInt8} {x : Nat} (h : vy_8 A p 182) (h1 : vy_8 A (p + 1) b) (h2 : vy_8 A (p + 2) c) (hx : b.toNat * 256 + c.toNat = x) : decode A p = .ok (.invokevirtual x, 3) := vy_dec (by
  subst hx
  unfold Decoder.instr
  rw [vy_run _ _ _ _ (vy_u1 h)]
  show (Reader.u2 >>= fun x => pure (Instr.invokevirtual x)).runAt A (p + 1) = _
  rw [vy_run _ _ _ _ (vy_u2 h1 h2)]
  rfl)
theorem vyd_183 {b c : UInt8} {x : Nat} (h : vy_8 A p 183) (h1 : vy_8 A (p + 1) b) (h2 : vy_8 A (p + 2) c) (hx : b.toNat * 256 + c.toNat = x) : decode A p = .ok (.invokespecial x, 3) := vy_dec (by
  subst hx
  unfold Decoder.instr
  rw [vy_run _ _ _ _ (vy_u1 h)]
  show (Reader.u2 >>= fun x => pure (Instr.invokespecial x)).runAt A (p + 1) = _
  rw [vy_run _ _ _ _ (vy_u2 h1 h2)]
  rfl)
theorem vyd_184 {b c : UInt8} {x : Nat} (h : vy_8 A p 184) (h1 : vy_8 A (p + 1) b) (h2 : vy_8 A (p + 2) c) (hx : b.toNat * 256 + c.toNat = x) : decode A p = .ok (.invokestatic x, 3) := vy_dec (by
  subst hx
  unfold Decoder.instr
  rw [vy_run _ _ _ _ (vy_u1 h)]
  show (Reader.u2 >>= fun x => pure (Instr.invokestatic x)).runAt A (p + 1) = _
  rw [vy_run _ _ _ _ (vy_u2 h1 h2)]
  rfl)
theorem vyd_187 {b c : UInt8} {x : Nat} (h : vy_8 A p 187) (h1 : vy_8 A (p + 1) b) (h2 : vy_8 A (p + 2) c) (hx : b.toNat * 256 + c.toNat = x) : decode A p = .ok (.new x, 3) := vy_dec (by
  subst hx
  unfold Decoder.instr
  rw [vy_run _ _ _ _ (vy_u1 h)]
  show (Reader.u2 >>= fun x => pure (Instr.new x)).runAt A (p + 1) = _
  rw [vy_run _ _ _ _ (vy_u2 h1 h2)]
  rfl)
theorem vyd_189 {b c : UInt8} {x : Nat} (h : vy_8 A p 189) (h1 : vy_8 A (p + 1) b) (h2 : vy_8 A (p + 2) c) (hx : b.toNat * 256 + c.toNat = x) : decode A p = .ok (.anewarray x, 3) := vy_dec (by
  subst hx
  unfold Decoder.instr
  rw [vy_run _ _ _ _ (vy_u1 h)]
  show (Reader.u2 >>= fun x => pure (Instr.anewarray x)).runAt A (p + 1) = _
  rw [vy_run _ _ _ _ (vy_u2 h1 h2)]
  rfl)
theorem vyd_190 (h : vy_8 A p 190) : decode A p = .ok (.arraylength, 1) := vy_dec (by
  unfold Decoder.instr
  rw [vy_run _ _ _ _ (vy_u1 h)]
  rfl)
theorem vyd_191 (h : vy_8 A p 191) : decode A p = .ok (.athrow, 1) := vy_dec (by
  unfold Decoder.instr
  rw [vy_run _ _ _ _ (vy_u1 h)]
  rfl)
theorem vyd_192 {b c : UInt8} {x : Nat} (h : vy_8 A p 192) (h1 : vy_8 A (p + 1) b) (h2 : vy_8 A (p + 2) c) (hx : b.toNat * 256 + c.toNat = x) : decode A p = .ok (.checkcast x, 3) := vy_dec (by
  subst hx
  unfold Decoder.instr
  rw [vy_run _ _ _ _ (vy_u1 h)]
  show (Reader.u2 >>= fun x => pure (Instr.checkcast x)).runAt A (p + 1) = _
  rw [vy_run _ _ _ _ (vy_u2 h1 h2)]
  rfl)
theorem vyd_199 {b c : UInt8} {x : Int} (h : vy_8 A p 199) (h1 : vy_8 A (p + 1) b) (h2 : vy_8 A (p + 2) c) (hx : Reader.signed 16 (b.toNat * 256 + c.toNat) = x) : decode A p = .ok (.ifnonnull x, 3) := vy_dec (by
  subst hx
  unfold Decoder.instr
  rw [vy_run _ _ _ _ (vy_u1 h)]
  show (Reader.s2 >>= fun x => pure (Instr.ifnonnull x)).runAt A (p + 1) = _
  rw [vy_run _ _ _ _ (vy_s2 h1 h2)]
  rfl)
end VYD
theorem vyb_cX0_init_0 {i : Nat} {b : UInt8} (h : ([0x2a, 0xb7, 0x00, 0x03, 0x2a, 0x1b, 0x9e, 0x00, 0x07, 0x1b] : List UInt8)[i]? = some b) : vy_8 cX0_init (0 + i) b := vy_in (n := 10) (by decide +kernel) h
theorem vyb_cX0_init_1 {i : Nat} {b : UInt8} (h : ([0xa7, 0x00, 0x04, 0x03, 0xbc, 0x0a, 0xb5, 0x00, 0x09, 0x2a] : List UInt8)[i]? = some b) : vy_8 cX0_init (10 + i) b := vy_in (n := 10) (by decide +kernel) h
theorem vyb_cX0_init_2 {i : Nat} {b : UInt8} (h : ([0x03, 0xb5, 0x00, 0x0f, 0xb1] : List UInt8)[i]? = some b) : vy_8 cX0_init (20 + i) b := vy_in (n := 5) (by decide +kernel) h
theorem dX0_init_0 : decode cX0_init 0 = Except.ok (Instr.aload_n 0, 1) := vyd_42 (vyb_cX0_init_0 (i := 0) rfl)
theorem dX0_init_1 : decode cX0_init 1 = Except.ok (Instr.invokespecial 3, 3) := vyd_183 (vyb_cX0_init_0 (i := 1) rfl) (vyb_cX0_init_0 (i := 2) rfl) (vyb_cX0_init_0 (i := 3) rfl) rfl
theorem dX0_init_4 : decode cX0_init 4 = Except.ok (Instr.aload_n 0, 1) := vyd_42 (vyb_cX0_init_0 (i := 4) rfl)
theorem dX0_init_5 : decode cX0_init 5 = Except.ok (Instr.iload_n 1, 1) := vyd_27 (vyb_cX0_init_0 (i := 5) rfl)
theorem dX0_init_6 : decode cX0_init 6 = Except.ok (Instr.ifCond .le 7, 3) := vyd_158 (vyb_cX0_init_0 (i := 6) rfl) (vyb_cX0_init_0 (i := 7) rfl) (vyb_cX0_init_0 (i := 8) rfl) (by decide +kernel)
theorem dX0_init_9 : decode cX0_init 9 = Except.ok (Instr.iload_n 1, 1) := vyd_27 (vyb_cX0_init_0 (i := 9) rfl)
theorem dX0_init_10 : decode cX0_init 10 = Except.ok (Instr.goto 4, 3) := vyd_167 (vyb_cX0_init_1 (i := 0) rfl) (vyb_cX0_init_1 (i := 1) rfl) (vyb_cX0_init_1 (i := 2) rfl) (by decide +kernel)
theorem dX0_init_14 : decode cX0_init 14 = .ok (.newarray .int, 2) := by decide +kernel
theorem dX0_init_16 : decode cX0_init 16 = Except.ok (Instr.putfield 9, 3) := vyd_181 (vyb_cX0_init_1 (i := 6) rfl) (vyb_cX0_init_1 (i := 7) rfl) (vyb_cX0_init_1 (i := 8) rfl) rfl
theorem dX0_init_19 : decode cX0_init 19 = Except.ok (Instr.aload_n 0, 1) := vyd_42 (vyb_cX0_init_1 (i := 9) rfl)
theorem dX0_init_20 : decode cX0_init 20 = Except.ok (Instr.iconst 0, 1) := vyd_3 (vyb_cX0_init_2 (i := 0) rfl)
theorem dX0_init_21 : decode cX0_init 21 = Except.ok (Instr.putfield 15, 3) := vyd_181 (vyb_cX0_init_2 (i := 1) rfl) (vyb_cX0_init_2 (i := 2) rfl) (vyb_cX0_init_2 (i := 3) rfl) rfl
theorem dX0_init_24 : decode cX0_init 24 = Except.ok (Instr.return_, 1) := vyd_177 (vyb_cX0_init_2 (i := 4) rfl)
theorem vyb_cX0_size_0 {i : Nat} {b : UInt8} (h : ([0x2a, 0xb4, 0x00, 0x0f, 0xac] : List UInt8)[i]? = some b) : vy_8 cX0_size (0 + i) b := vy_in (n := 5) (by decide +kernel) h
theorem dX0_size_0 : decode cX0_size 0 = Except.ok (Instr.aload_n 0, 1) := vyd_42 (vyb_cX0_size_0 (i := 0) rfl)
theorem dX0_size_1 : decode cX0_size 1 = Except.ok (Instr.getfield 15, 3) := vyd_180 (vyb_cX0_size_0 (i := 1) rfl) (vyb_cX0_size_0 (i := 2) rfl) (vyb_cX0_size_0 (i := 3) rfl) rfl
theorem dX0_size_4 : decode cX0_size 4 = Except.ok (Instr.ireturn, 1) := vyd_172 (vyb_cX0_size_0 (i := 4) rfl)
theorem vyb_cX0_isEmpty_0 {i : Nat} {b : UInt8} (h : ([0x2a, 0xb4, 0x00, 0x0f, 0x9a, 0x00, 0x07, 0x04, 0xa7, 0x00] : List UInt8)[i]? = some b) : vy_8 cX0_isEmpty (0 + i) b := vy_in (n := 10) (by decide +kernel) h
theorem vyb_cX0_isEmpty_1 {i : Nat} {b : UInt8} (h : ([0x04, 0x03, 0xac] : List UInt8)[i]? = some b) : vy_8 cX0_isEmpty (10 + i) b := vy_in (n := 3) (by decide +kernel) h
theorem dX0_isEmpty_0 : decode cX0_isEmpty 0 = Except.ok (Instr.aload_n 0, 1) := vyd_42 (vyb_cX0_isEmpty_0 (i := 0) rfl)
theorem dX0_isEmpty_1 : decode cX0_isEmpty 1 = Except.ok (Instr.getfield 15, 3) := vyd_180 (vyb_cX0_isEmpty_0 (i := 1) rfl) (vyb_cX0_isEmpty_0 (i := 2) rfl) (vyb_cX0_isEmpty_0 (i := 3) rfl) rfl
theorem dX0_isEmpty_4 : decode cX0_isEmpty 4 = Except.ok (Instr.ifCond .ne 7, 3) := vyd_154 (vyb_cX0_isEmpty_0 (i := 4) rfl) (vyb_cX0_isEmpty_0 (i := 5) rfl) (vyb_cX0_isEmpty_0 (i := 6) rfl) (by decide +kernel)
theorem dX0_isEmpty_7 : decode cX0_isEmpty 7 = Except.ok (Instr.iconst 1, 1) := vyd_4 (vyb_cX0_isEmpty_0 (i := 7) rfl)
theorem dX0_isEmpty_8 : decode cX0_isEmpty 8 = Except.ok (Instr.goto 4, 3) := vyd_167 (vyb_cX0_isEmpty_0 (i := 8) rfl) (vyb_cX0_isEmpty_0 (i := 9) rfl) (vyb_cX0_isEmpty_1 (i := 0) rfl) (by decide +kernel)
theorem dX0_isEmpty_11 : decode cX0_isEmpty 11 = Except.ok (Instr.iconst 0, 1) := vyd_3 (vyb_cX0_isEmpty_1 (i := 1) rfl)
theorem dX0_isEmpty_12 : decode cX0_isEmpty 12 = Except.ok (Instr.ireturn, 1) := vyd_172 (vyb_cX0_isEmpty_1 (i := 2) rfl)
theorem vyb_cX0_isFull_0 {i : Nat} {b : UInt8} (h : ([0x2a, 0xb4, 0x00, 0x0f, 0x2a, 0xb4, 0x00, 0x09, 0xbe, 0xa1] : List UInt8)[i]? = some b) : vy_8 cX0_isFull (0 + i) b := vy_in (n := 10) (by decide +kernel) h
theorem vyb_cX0_isFull_1 {i : Nat} {b : UInt8} (h : ([0x00, 0x07, 0x04, 0xa7, 0x00, 0x04, 0x03, 0xac] : List UInt8)[i]? = some b) : vy_8 cX0_isFull (10 + i) b := vy_in (n := 8) (by decide +kernel) h
theorem dX0_isFull_0 : decode cX0_isFull 0 = Except.ok (Instr.aload_n 0, 1) := vyd_42 (vyb_cX0_isFull_0 (i := 0) rfl)
theorem dX0_isFull_1 : decode cX0_isFull 1 = Except.ok (Instr.getfield 15, 3) := vyd_180 (vyb_cX0_isFull_0 (i := 1) rfl) (vyb_cX0_isFull_0 (i := 2) rfl) (vyb_cX0_isFull_0 (i := 3) rfl) rfl
theorem dX0_isFull_4 : decode cX0_isFull 4 = Except.ok (Instr.aload_n 0, 1) := vyd_42 (vyb_cX0_isFull_0 (i := 4) rfl)
theorem dX0_isFull_5 : decode cX0_isFull 5 = Except.ok (Instr.getfield 9, 3) := vyd_180 (vyb_cX0_isFull_0 (i := 5) rfl) (vyb_cX0_isFull_0 (i := 6) rfl) (vyb_cX0_isFull_0 (i := 7) rfl) rfl
theorem dX0_isFull_8 : decode cX0_isFull 8 = Except.ok (Instr.arraylength, 1) := vyd_190 (vyb_cX0_isFull_0 (i := 8) rfl)
theorem dX0_isFull_9 : decode cX0_isFull 9 = Except.ok (Instr.if_icmp .lt 7, 3) := vyd_161 (vyb_cX0_isFull_0 (i := 9) rfl) (vyb_cX0_isFull_1 (i := 0) rfl) (vyb_cX0_isFull_1 (i := 1) rfl) (by decide +kernel)
theorem dX0_isFull_12 : decode cX0_isFull 12 = Except.ok (Instr.iconst 1, 1) := vyd_4 (vyb_cX0_isFull_1 (i := 2) rfl)
theorem dX0_isFull_13 : decode cX0_isFull 13 = Except.ok (Instr.goto 4, 3) := vyd_167 (vyb_cX0_isFull_1 (i := 3) rfl) (vyb_cX0_isFull_1 (i := 4) rfl) (vyb_cX0_isFull_1 (i := 5) rfl) (by decide +kernel)
theorem dX0_isFull_16 : decode cX0_isFull 16 = Except.ok (Instr.iconst 0, 1) := vyd_3 (vyb_cX0_isFull_1 (i := 6) rfl)
theorem dX0_isFull_17 : decode cX0_isFull 17 = Except.ok (Instr.ireturn, 1) := vyd_172 (vyb_cX0_isFull_1 (i := 7) rfl)
theorem vyb_cX0_read_0 {i : Nat} {b : UInt8} (h : ([0x1b, 0x9b, 0x00, 0x1d, 0x1b, 0x2a, 0xb4, 0x00, 0x0f, 0xa2] : List UInt8)[i]? = some b) : vy_8 cX0_read (0 + i) b := vy_in (n := 10) (by decide +kernel) h
theorem vyb_cX0_read_1 {i : Nat} {b : UInt8} (h : ([0x00, 0x15, 0x1b, 0x2a, 0xb4, 0x00, 0x09, 0xbe, 0xa2, 0x00] : List UInt8)[i]? = some b) : vy_8 cX0_read (10 + i) b := vy_in (n := 10) (by decide +kernel) h
theorem vyb_cX0_read_2 {i : Nat} {b : UInt8} (h : ([0x0c, 0x2a, 0xb4, 0x00, 0x09, 0x1b, 0x2e, 0xa7, 0x00, 0x04] : List UInt8)[i]? = some b) : vy_8 cX0_read (20 + i) b := vy_in (n := 10) (by decide +kernel) h
theorem vyb_cX0_read_3 {i : Nat} {b : UInt8} (h : ([0x03, 0xac] : List UInt8)[i]? = some b) : vy_8 cX0_read (30 + i) b := vy_in (n := 2) (by decide +kernel) h
theorem dX0_read_0 : decode cX0_read 0 = Except.ok (Instr.iload_n 1, 1) := vyd_27 (vyb_cX0_read_0 (i := 0) rfl)
theorem dX0_read_1 : decode cX0_read 1 = Except.ok (Instr.ifCond .lt 29, 3) := vyd_155 (vyb_cX0_read_0 (i := 1) rfl) (vyb_cX0_read_0 (i := 2) rfl) (vyb_cX0_read_0 (i := 3) rfl) (by decide +kernel)
theorem dX0_read_4 : decode cX0_read 4 = Except.ok (Instr.iload_n 1, 1) := vyd_27 (vyb_cX0_read_0 (i := 4) rfl)
theorem dX0_read_5 : decode cX0_read 5 = Except.ok (Instr.aload_n 0, 1) := vyd_42 (vyb_cX0_read_0 (i := 5) rfl)
theorem dX0_read_6 : decode cX0_read 6 = Except.ok (Instr.getfield 15, 3) := vyd_180 (vyb_cX0_read_0 (i := 6) rfl) (vyb_cX0_read_0 (i := 7) rfl) (vyb_cX0_read_0 (i := 8) rfl) rfl
theorem dX0_read_9 : decode cX0_read 9 = Except.ok (Instr.if_icmp .ge 21, 3) := vyd_162 (vyb_cX0_read_0 (i := 9) rfl) (vyb_cX0_read_1 (i := 0) rfl) (vyb_cX0_read_1 (i := 1) rfl) (by decide +kernel)
theorem dX0_read_12 : decode cX0_read 12 = Except.ok (Instr.iload_n 1, 1) := vyd_27 (vyb_cX0_read_1 (i := 2) rfl)
theorem dX0_read_13 : decode cX0_read 13 = Except.ok (Instr.aload_n 0, 1) := vyd_42 (vyb_cX0_read_1 (i := 3) rfl)
theorem dX0_read_14 : decode cX0_read 14 = Except.ok (Instr.getfield 9, 3) := vyd_180 (vyb_cX0_read_1 (i := 4) rfl) (vyb_cX0_read_1 (i := 5) rfl) (vyb_cX0_read_1 (i := 6) rfl) rfl
theorem dX0_read_17 : decode cX0_read 17 = Except.ok (Instr.arraylength, 1) := vyd_190 (vyb_cX0_read_1 (i := 7) rfl)
theorem dX0_read_18 : decode cX0_read 18 = Except.ok (Instr.if_icmp .ge 12, 3) := vyd_162 (vyb_cX0_read_1 (i := 8) rfl) (vyb_cX0_read_1 (i := 9) rfl) (vyb_cX0_read_2 (i := 0) rfl) (by decide +kernel)
theorem dX0_read_21 : decode cX0_read 21 = Except.ok (Instr.aload_n 0, 1) := vyd_42 (vyb_cX0_read_2 (i := 1) rfl)
theorem dX0_read_22 : decode cX0_read 22 = Except.ok (Instr.getfield 9, 3) := vyd_180 (vyb_cX0_read_2 (i := 2) rfl) (vyb_cX0_read_2 (i := 3) rfl) (vyb_cX0_read_2 (i := 4) rfl) rfl
theorem dX0_read_25 : decode cX0_read 25 = Except.ok (Instr.iload_n 1, 1) := vyd_27 (vyb_cX0_read_2 (i := 5) rfl)
theorem dX0_read_26 : decode cX0_read 26 = Except.ok (Instr.iaload, 1) := vyd_46 (vyb_cX0_read_2 (i := 6) rfl)
theorem dX0_read_27 : decode cX0_read 27 = Except.ok (Instr.goto 4, 3) := vyd_167 (vyb_cX0_read_2 (i := 7) rfl) (vyb_cX0_read_2 (i := 8) rfl) (vyb_cX0_read_2 (i := 9) rfl) (by decide +kernel)
theorem dX0_read_30 : decode cX0_read 30 = Except.ok (Instr.iconst 0, 1) := vyd_3 (vyb_cX0_read_3 (i := 0) rfl)
theorem dX0_read_31 : decode cX0_read 31 = Except.ok (Instr.ireturn, 1) := vyd_172 (vyb_cX0_read_3 (i := 1) rfl)
theorem vyb_cX0_readFrom_0 {i : Nat} {b : UInt8} (h : ([0x2a, 0x1b, 0x99, 0x00, 0x0e, 0x2a, 0xb4, 0x00, 0x0f, 0x04] : List UInt8)[i]? = some b) : vy_8 cX0_readFrom (0 + i) b := vy_in (n := 10) (by decide +kernel) h
theorem vyb_cX0_readFrom_1 {i : Nat} {b : UInt8} (h : ([0x64, 0x1c, 0x64, 0xa7, 0x00, 0x04, 0x1c, 0xb6, 0x00, 0x13] : List UInt8)[i]? = some b) : vy_8 cX0_readFrom (10 + i) b := vy_in (n := 10) (by decide +kernel) h
theorem vyb_cX0_readFrom_2 {i : Nat} {b : UInt8} (h : ([0xac] : List UInt8)[i]? = some b) : vy_8 cX0_readFrom (20 + i) b := vy_in (n := 1) (by decide +kernel) h
theorem dX0_readFrom_0 : decode cX0_readFrom 0 = Except.ok (Instr.aload_n 0, 1) := vyd_42 (vyb_cX0_readFrom_0 (i := 0) rfl)
theorem dX0_readFrom_1 : decode cX0_readFrom 1 = Except.ok (Instr.iload_n 1, 1) := vyd_27 (vyb_cX0_readFrom_0 (i := 1) rfl)
theorem dX0_readFrom_2 : decode cX0_readFrom 2 = Except.ok (Instr.ifCond .eq 14, 3) := vyd_153 (vyb_cX0_readFrom_0 (i := 2) rfl) (vyb_cX0_readFrom_0 (i := 3) rfl) (vyb_cX0_readFrom_0 (i := 4) rfl) (by decide +kernel)
theorem dX0_readFrom_5 : decode cX0_readFrom 5 = Except.ok (Instr.aload_n 0, 1) := vyd_42 (vyb_cX0_readFrom_0 (i := 5) rfl)
theorem dX0_readFrom_6 : decode cX0_readFrom 6 = Except.ok (Instr.getfield 15, 3) := vyd_180 (vyb_cX0_readFrom_0 (i := 6) rfl) (vyb_cX0_readFrom_0 (i := 7) rfl) (vyb_cX0_readFrom_0 (i := 8) rfl) rfl
theorem dX0_readFrom_9 : decode cX0_readFrom 9 = Except.ok (Instr.iconst 1, 1) := vyd_4 (vyb_cX0_readFrom_0 (i := 9) rfl)
theorem dX0_readFrom_10 : decode cX0_readFrom 10 = Except.ok (Instr.isub, 1) := vyd_100 (vyb_cX0_readFrom_1 (i := 0) rfl)
theorem dX0_readFrom_11 : decode cX0_readFrom 11 = Except.ok (Instr.iload_n 2, 1) := vyd_28 (vyb_cX0_readFrom_1 (i := 1) rfl)
theorem dX0_readFrom_12 : decode cX0_readFrom 12 = Except.ok (Instr.isub, 1) := vyd_100 (vyb_cX0_readFrom_1 (i := 2) rfl)
theorem dX0_readFrom_13 : decode cX0_readFrom 13 = Except.ok (Instr.goto 4, 3) := vyd_167 (vyb_cX0_readFrom_1 (i := 3) rfl) (vyb_cX0_readFrom_1 (i := 4) rfl) (vyb_cX0_readFrom_1 (i := 5) rfl) (by decide +kernel)
theorem dX0_readFrom_16 : decode cX0_readFrom 16 = Except.ok (Instr.iload_n 2, 1) := vyd_28 (vyb_cX0_readFrom_1 (i := 6) rfl)
theorem dX0_readFrom_17 : decode cX0_readFrom 17 = Except.ok (Instr.invokevirtual 19, 3) := vyd_182 (vyb_cX0_readFrom_1 (i := 7) rfl) (vyb_cX0_readFrom_1 (i := 8) rfl) (vyb_cX0_readFrom_1 (i := 9) rfl) rfl
theorem dX0_readFrom_20 : decode cX0_readFrom 20 = Except.ok (Instr.ireturn, 1) := vyd_172 (vyb_cX0_readFrom_2 (i := 0) rfl)
theorem vyb_cX0_overwrite_0 {i : Nat} {b : UInt8} (h : ([0x1b, 0x9b, 0x00, 0x1b, 0x1b, 0x2a, 0xb4, 0x00, 0x0f, 0xa2] : List UInt8)[i]? = some b) : vy_8 cX0_overwrite (0 + i) b := vy_in (n := 10) (by decide +kernel) h
theorem vyb_cX0_overwrite_1 {i : Nat} {b : UInt8} (h : ([0x00, 0x13, 0x1b, 0x2a, 0xb4, 0x00, 0x09, 0xbe, 0xa2, 0x00] : List UInt8)[i]? = some b) : vy_8 cX0_overwrite (10 + i) b := vy_in (n := 10) (by decide +kernel) h
theorem vyb_cX0_overwrite_2 {i : Nat} {b : UInt8} (h : ([0x0a, 0x2a, 0xb4, 0x00, 0x09, 0x1b, 0x1c, 0x4f, 0xb1] : List UInt8)[i]? = some b) : vy_8 cX0_overwrite (20 + i) b := vy_in (n := 9) (by decide +kernel) h
theorem dX0_overwrite_0 : decode cX0_overwrite 0 = Except.ok (Instr.iload_n 1, 1) := vyd_27 (vyb_cX0_overwrite_0 (i := 0) rfl)
theorem dX0_overwrite_1 : decode cX0_overwrite 1 = Except.ok (Instr.ifCond .lt 27, 3) := vyd_155 (vyb_cX0_overwrite_0 (i := 1) rfl) (vyb_cX0_overwrite_0 (i := 2) rfl) (vyb_cX0_overwrite_0 (i := 3) rfl) (by decide +kernel)
theorem dX0_overwrite_4 : decode cX0_overwrite 4 = Except.ok (Instr.iload_n 1, 1) := vyd_27 (vyb_cX0_overwrite_0 (i := 4) rfl)
theorem dX0_overwrite_5 : decode cX0_overwrite 5 = Except.ok (Instr.aload_n 0, 1) := vyd_42 (vyb_cX0_overwrite_0 (i := 5) rfl)
theorem dX0_overwrite_6 : decode cX0_overwrite 6 = Except.ok (Instr.getfield 15, 3) := vyd_180 (vyb_cX0_overwrite_0 (i := 6) rfl) (vyb_cX0_overwrite_0 (i := 7) rfl) (vyb_cX0_overwrite_0 (i := 8) rfl) rfl
theorem dX0_overwrite_9 : decode cX0_overwrite 9 = Except.ok (Instr.if_icmp .ge 19, 3) := vyd_162 (vyb_cX0_overwrite_0 (i := 9) rfl) (vyb_cX0_overwrite_1 (i := 0) rfl) (vyb_cX0_overwrite_1 (i := 1) rfl) (by decide +kernel)
theorem dX0_overwrite_12 : decode cX0_overwrite 12 = Except.ok (Instr.iload_n 1, 1) := vyd_27 (vyb_cX0_overwrite_1 (i := 2) rfl)
theorem dX0_overwrite_13 : decode cX0_overwrite 13 = Except.ok (Instr.aload_n 0, 1) := vyd_42 (vyb_cX0_overwrite_1 (i := 3) rfl)
theorem dX0_overwrite_14 : decode cX0_overwrite 14 = Except.ok (Instr.getfield 9, 3) := vyd_180 (vyb_cX0_overwrite_1 (i := 4) rfl) (vyb_cX0_overwrite_1 (i := 5) rfl) (vyb_cX0_overwrite_1 (i := 6) rfl) rfl
theorem dX0_overwrite_17 : decode cX0_overwrite 17 = Except.ok (Instr.arraylength, 1) := vyd_190 (vyb_cX0_overwrite_1 (i := 7) rfl)
theorem dX0_overwrite_18 : decode cX0_overwrite 18 = Except.ok (Instr.if_icmp .ge 10, 3) := vyd_162 (vyb_cX0_overwrite_1 (i := 8) rfl) (vyb_cX0_overwrite_1 (i := 9) rfl) (vyb_cX0_overwrite_2 (i := 0) rfl) (by decide +kernel)
theorem dX0_overwrite_21 : decode cX0_overwrite 21 = Except.ok (Instr.aload_n 0, 1) := vyd_42 (vyb_cX0_overwrite_2 (i := 1) rfl)
theorem dX0_overwrite_22 : decode cX0_overwrite 22 = Except.ok (Instr.getfield 9, 3) := vyd_180 (vyb_cX0_overwrite_2 (i := 2) rfl) (vyb_cX0_overwrite_2 (i := 3) rfl) (vyb_cX0_overwrite_2 (i := 4) rfl) rfl
theorem dX0_overwrite_25 : decode cX0_overwrite 25 = Except.ok (Instr.iload_n 1, 1) := vyd_27 (vyb_cX0_overwrite_2 (i := 5) rfl)
theorem dX0_overwrite_26 : decode cX0_overwrite 26 = Except.ok (Instr.iload_n 2, 1) := vyd_28 (vyb_cX0_overwrite_2 (i := 6) rfl)
theorem dX0_overwrite_27 : decode cX0_overwrite 27 = Except.ok (Instr.iastore, 1) := vyd_79 (vyb_cX0_overwrite_2 (i := 7) rfl)
theorem dX0_overwrite_28 : decode cX0_overwrite 28 = Except.ok (Instr.return_, 1) := vyd_177 (vyb_cX0_overwrite_2 (i := 8) rfl)
theorem vyb_cX0_enter_0 {i : Nat} {b : UInt8} (h : ([0x2a, 0xb6, 0x00, 0x17, 0x9a, 0x00, 0x0f, 0x1b, 0x9b, 0x00] : List UInt8)[i]? = some b) : vy_8 cX0_enter (0 + i) b := vy_in (n := 10) (by decide +kernel) h
theorem vyb_cX0_enter_1 {i : Nat} {b : UInt8} (h : ([0x0b, 0x1b, 0x2a, 0xb4, 0x00, 0x0f, 0xa4, 0x00, 0x04, 0xb1] : List UInt8)[i]? = some b) : vy_8 cX0_enter (10 + i) b := vy_in (n := 10) (by decide +kernel) h
theorem vyb_cX0_enter_2 {i : Nat} {b : UInt8} (h : ([0x2a, 0x59, 0xb4, 0x00, 0x0f, 0x04, 0x60, 0xb5, 0x00, 0x0f] : List UInt8)[i]? = some b) : vy_8 cX0_enter (20 + i) b := vy_in (n := 10) (by decide +kernel) h
theorem vyb_cX0_enter_3 {i : Nat} {b : UInt8} (h : ([0x2a, 0xb4, 0x00, 0x0f, 0x04, 0x64, 0x3e, 0x1d, 0x1b, 0xa4] : List UInt8)[i]? = some b) : vy_8 cX0_enter (30 + i) b := vy_in (n := 10) (by decide +kernel) h
theorem vyb_cX0_enter_4 {i : Nat} {b : UInt8} (h : ([0x00, 0x15, 0x2a, 0x1d, 0x2a, 0x1d, 0x04, 0x64, 0xb6, 0x00] : List UInt8)[i]? = some b) : vy_8 cX0_enter (40 + i) b := vy_in (n := 10) (by decide +kernel) h
theorem vyb_cX0_enter_5 {i : Nat} {b : UInt8} (h : ([0x13, 0xb6, 0x00, 0x1b, 0x84, 0x03, 0xff, 0xa7, 0xff, 0xec] : List UInt8)[i]? = some b) : vy_8 cX0_enter (50 + i) b := vy_in (n := 10) (by decide +kernel) h
theorem vyb_cX0_enter_6 {i : Nat} {b : UInt8} (h : ([0x2a, 0x1b, 0x1c, 0xb6, 0x00, 0x1b, 0xb1] : List UInt8)[i]? = some b) : vy_8 cX0_enter (60 + i) b := vy_in (n := 7) (by decide +kernel) h
theorem dX0_enter_0 : decode cX0_enter 0 = Except.ok (Instr.aload_n 0, 1) := vyd_42 (vyb_cX0_enter_0 (i := 0) rfl)
theorem dX0_enter_1 : decode cX0_enter 1 = Except.ok (Instr.invokevirtual 23, 3) := vyd_182 (vyb_cX0_enter_0 (i := 1) rfl) (vyb_cX0_enter_0 (i := 2) rfl) (vyb_cX0_enter_0 (i := 3) rfl) rfl
theorem dX0_enter_4 : decode cX0_enter 4 = Except.ok (Instr.ifCond .ne 15, 3) := vyd_154 (vyb_cX0_enter_0 (i := 4) rfl) (vyb_cX0_enter_0 (i := 5) rfl) (vyb_cX0_enter_0 (i := 6) rfl) (by decide +kernel)
theorem dX0_enter_7 : decode cX0_enter 7 = Except.ok (Instr.iload_n 1, 1) := vyd_27 (vyb_cX0_enter_0 (i := 7) rfl)
theorem dX0_enter_8 : decode cX0_enter 8 = Except.ok (Instr.ifCond .lt 11, 3) := vyd_155 (vyb_cX0_enter_0 (i := 8) rfl) (vyb_cX0_enter_0 (i := 9) rfl) (vyb_cX0_enter_1 (i := 0) rfl) (by decide +kernel)
theorem dX0_enter_11 : decode cX0_enter 11 = Except.ok (Instr.iload_n 1, 1) := vyd_27 (vyb_cX0_enter_1 (i := 1) rfl)
theorem dX0_enter_12 : decode cX0_enter 12 = Except.ok (Instr.aload_n 0, 1) := vyd_42 (vyb_cX0_enter_1 (i := 2) rfl)
theorem dX0_enter_13 : decode cX0_enter 13 = Except.ok (Instr.getfield 15, 3) := vyd_180 (vyb_cX0_enter_1 (i := 3) rfl) (vyb_cX0_enter_1 (i := 4) rfl) (vyb_cX0_enter_1 (i := 5) rfl) rfl
theorem dX0_enter_16 : decode cX0_enter 16 = Except.ok (Instr.if_icmp .le 4, 3) := vyd_164 (vyb_cX0_enter_1 (i := 6) rfl) (vyb_cX0_enter_1 (i := 7) rfl) (vyb_cX0_enter_1 (i := 8) rfl) (by decide +kernel)
theorem dX0_enter_19 : decode cX0_enter 19 = Except.ok (Instr.return_, 1) := vyd_177 (vyb_cX0_enter_1 (i := 9) rfl)
theorem dX0_enter_20 : decode cX0_enter 20 = Except.ok (Instr.aload_n 0, 1) := vyd_42 (vyb_cX0_enter_2 (i := 0) rfl)
theorem dX0_enter_21 : decode cX0_enter 21 = Except.ok (Instr.dup, 1) := vyd_89 (vyb_cX0_enter_2 (i := 1) rfl)
theorem dX0_enter_22 : decode cX0_enter 22 = Except.ok (Instr.getfield 15, 3) := vyd_180 (vyb_cX0_enter_2 (i := 2) rfl) (vyb_cX0_enter_2 (i := 3) rfl) (vyb_cX0_enter_2 (i := 4) rfl) rfl
theorem dX0_enter_25 : decode cX0_enter 25 = Except.ok (Instr.iconst 1, 1) := vyd_4 (vyb_cX0_enter_2 (i := 5) rfl)
theorem dX0_enter_26 : decode cX0_enter 26 = Except.ok (Instr.iadd, 1) := vyd_96 (vyb_cX0_enter_2 (i := 6) rfl)
theorem dX0_enter_27 : decode cX0_enter 27 = Except.ok (Instr.putfield 15, 3) := vyd_181 (vyb_cX0_enter_2 (i := 7) rfl) (vyb_cX0_enter_2 (i := 8) rfl) (vyb_cX0_enter_2 (i := 9) rfl) rfl
theorem dX0_enter_30 : decode cX0_enter 30 = Except.ok (Instr.aload_n 0, 1) := vyd_42 (vyb_cX0_enter_3 (i := 0) rfl)
theorem dX0_enter_31 : decode cX0_enter 31 = Except.ok (Instr.getfield 15, 3) := vyd_180 (vyb_cX0_enter_3 (i := 1) rfl) (vyb_cX0_enter_3 (i := 2) rfl) (vyb_cX0_enter_3 (i := 3) rfl) rfl
theorem dX0_enter_34 : decode cX0_enter 34 = Except.ok (Instr.iconst 1, 1) := vyd_4 (vyb_cX0_enter_3 (i := 4) rfl)
theorem dX0_enter_35 : decode cX0_enter 35 = Except.ok (Instr.isub, 1) := vyd_100 (vyb_cX0_enter_3 (i := 5) rfl)
theorem dX0_enter_36 : decode cX0_enter 36 = Except.ok (Instr.istore_n 3, 1) := vyd_62 (vyb_cX0_enter_3 (i := 6) rfl)
theorem dX0_enter_37 : decode cX0_enter 37 = Except.ok (Instr.iload_n 3, 1) := vyd_29 (vyb_cX0_enter_3 (i := 7) rfl)
theorem dX0_enter_38 : decode cX0_enter 38 = Except.ok (Instr.iload_n 1, 1) := vyd_27 (vyb_cX0_enter_3 (i := 8) rfl)
theorem dX0_enter_39 : decode cX0_enter 39 = Except.ok (Instr.if_icmp .le 21, 3) := vyd_164 (vyb_cX0_enter_3 (i := 9) rfl) (vyb_cX0_enter_4 (i := 0) rfl) (vyb_cX0_enter_4 (i := 1) rfl) (by decide +kernel)
theorem dX0_enter_42 : decode cX0_enter 42 = Except.ok (Instr.aload_n 0, 1) := vyd_42 (vyb_cX0_enter_4 (i := 2) rfl)
theorem dX0_enter_43 : decode cX0_enter 43 = Except.ok (Instr.iload_n 3, 1) := vyd_29 (vyb_cX0_enter_4 (i := 3) rfl)
theorem dX0_enter_44 : decode cX0_enter 44 = Except.ok (Instr.aload_n 0, 1) := vyd_42 (vyb_cX0_enter_4 (i := 4) rfl)
theorem dX0_enter_45 : decode cX0_enter 45 = Except.ok (Instr.iload_n 3, 1) := vyd_29 (vyb_cX0_enter_4 (i := 5) rfl)
theorem dX0_enter_46 : decode cX0_enter 46 = Except.ok (Instr.iconst 1, 1) := vyd_4 (vyb_cX0_enter_4 (i := 6) rfl)
theorem dX0_enter_47 : decode cX0_enter 47 = Except.ok (Instr.isub, 1) := vyd_100 (vyb_cX0_enter_4 (i := 7) rfl)
theorem dX0_enter_48 : decode cX0_enter 48 = Except.ok (Instr.invokevirtual 19, 3) := vyd_182 (vyb_cX0_enter_4 (i := 8) rfl) (vyb_cX0_enter_4 (i := 9) rfl) (vyb_cX0_enter_5 (i := 0) rfl) rfl
theorem dX0_enter_51 : decode cX0_enter 51 = Except.ok (Instr.invokevirtual 27, 3) := vyd_182 (vyb_cX0_enter_5 (i := 1) rfl) (vyb_cX0_enter_5 (i := 2) rfl) (vyb_cX0_enter_5 (i := 3) rfl) rfl
theorem dX0_enter_54 : decode cX0_enter 54 = .ok (.iinc 3 (-1), 3) := by decide +kernel
theorem dX0_enter_57 : decode cX0_enter 57 = Except.ok (Instr.goto (-20), 3) := vyd_167 (vyb_cX0_enter_5 (i := 7) rfl) (vyb_cX0_enter_5 (i := 8) rfl) (vyb_cX0_enter_5 (i := 9) rfl) (by decide +kernel)
theorem dX0_enter_60 : decode cX0_enter 60 = Except.ok (Instr.aload_n 0, 1) := vyd_42 (vyb_cX0_enter_6 (i := 0) rfl)
theorem dX0_enter_61 : decode cX0_enter 61 = Except.ok (Instr.iload_n 1, 1) := vyd_27 (vyb_cX0_enter_6 (i := 1) rfl)
theorem dX0_enter_62 : decode cX0_enter 62 = Except.ok (Instr.iload_n 2, 1) := vyd_28 (vyb_cX0_enter_6 (i := 2) rfl)
theorem dX0_enter_63 : decode cX0_enter 63 = Except.ok (Instr.invokevirtual 27, 3) := vyd_182 (vyb_cX0_enter_6 (i := 3) rfl) (vyb_cX0_enter_6 (i := 4) rfl) (vyb_cX0_enter_6 (i := 5) rfl) rfl
theorem dX0_enter_66 : decode cX0_enter 66 = Except.ok (Instr.return_, 1) := vyd_177 (vyb_cX0_enter_6 (i := 6) rfl)
theorem vyb_cX0_enterLast_0 {i : Nat} {b : UInt8} (h : ([0x2a, 0x2a, 0xb4, 0x00, 0x0f, 0x1b, 0xb6, 0x00, 0x1f, 0xb1] : List UInt8)[i]? = some b) : vy_8 cX0_enterLast (0 + i) b := vy_in (n := 10) (by decide +kernel) h
theorem dX0_enterLast_0 : decode cX0_enterLast 0 = Except.ok (Instr.aload_n 0, 1) := vyd_42 (vyb_cX0_enterLast_0 (i := 0) rfl)
theorem dX0_enterLast_1 : decode cX0_enterLast 1 = Except.ok (Instr.aload_n 0, 1) := vyd_42 (vyb_cX0_enterLast_0 (i := 1) rfl)
theorem dX0_enterLast_2 : decode cX0_enterLast 2 = Except.ok (Instr.getfield 15, 3) := vyd_180 (vyb_cX0_enterLast_0 (i := 2) rfl) (vyb_cX0_enterLast_0 (i := 3) rfl) (vyb_cX0_enterLast_0 (i := 4) rfl) rfl
theorem dX0_enterLast_5 : decode cX0_enterLast 5 = Except.ok (Instr.iload_n 1, 1) := vyd_27 (vyb_cX0_enterLast_0 (i := 5) rfl)
theorem dX0_enterLast_6 : decode cX0_enterLast 6 = Except.ok (Instr.invokevirtual 31, 3) := vyd_182 (vyb_cX0_enterLast_0 (i := 6) rfl) (vyb_cX0_enterLast_0 (i := 7) rfl) (vyb_cX0_enterLast_0 (i := 8) rfl) rfl
theorem dX0_enterLast_9 : decode cX0_enterLast 9 = Except.ok (Instr.return_, 1) := vyd_177 (vyb_cX0_enterLast_0 (i := 9) rfl)
theorem vyb_cX0_leave_0 {i : Nat} {b : UInt8} (h : ([0x1b, 0x9b, 0x00, 0x0b, 0x1b, 0x2a, 0xb4, 0x00, 0x0f, 0xa1] : List UInt8)[i]? = some b) : vy_8 cX0_leave (0 + i) b := vy_in (n := 10) (by decide +kernel) h
theorem vyb_cX0_leave_1 {i : Nat} {b : UInt8} (h : ([0x00, 0x05, 0x03, 0xac, 0x2a, 0x1b, 0xb6, 0x00, 0x13, 0x3d] : List UInt8)[i]? = some b) : vy_8 cX0_leave (10 + i) b := vy_in (n := 10) (by decide +kernel) h
theorem vyb_cX0_leave_2 {i : Nat} {b : UInt8} (h : ([0x1b, 0x3e, 0x1d, 0x2a, 0xb4, 0x00, 0x0f, 0x04, 0x64, 0xa2] : List UInt8)[i]? = some b) : vy_8 cX0_leave (20 + i) b := vy_in (n := 10) (by decide +kernel) h
theorem vyb_cX0_leave_3 {i : Nat} {b : UInt8} (h : ([0x00, 0x15, 0x2a, 0x1d, 0x2a, 0x1d, 0x04, 0x60, 0xb6, 0x00] : List UInt8)[i]? = some b) : vy_8 cX0_leave (30 + i) b := vy_in (n := 10) (by decide +kernel) h
theorem vyb_cX0_leave_4 {i : Nat} {b : UInt8} (h : ([0x13, 0xb6, 0x00, 0x1b, 0x84, 0x03, 0x01, 0xa7, 0xff, 0xe7] : List UInt8)[i]? = some b) : vy_8 cX0_leave (40 + i) b := vy_in (n := 10) (by decide +kernel) h
theorem vyb_cX0_leave_5 {i : Nat} {b : UInt8} (h : ([0x2a, 0x59, 0xb4, 0x00, 0x0f, 0x04, 0x64, 0xb5, 0x00, 0x0f] : List UInt8)[i]? = some b) : vy_8 cX0_leave (50 + i) b := vy_in (n := 10) (by decide +kernel) h
theorem vyb_cX0_leave_6 {i : Nat} {b : UInt8} (h : ([0x1c, 0xac] : List UInt8)[i]? = some b) : vy_8 cX0_leave (60 + i) b := vy_in (n := 2) (by decide +kernel) h
theorem dX0_leave_0 : decode cX0_leave 0 = Except.ok (Instr.iload_n 1, 1) := vyd_27 (vyb_cX0_leave_0 (i := 0) rfl)
theorem dX0_leave_1 : decode cX0_leave 1 = Except.ok (Instr.ifCond .lt 11, 3) := vyd_155 (vyb_cX0_leave_0 (i := 1) rfl) (vyb_cX0_leave_0 (i := 2) rfl) (vyb_cX0_leave_0 (i := 3) rfl) (by decide +kernel)
theorem dX0_leave_4 : decode cX0_leave 4 = Except.ok (Instr.iload_n 1, 1) := vyd_27 (vyb_cX0_leave_0 (i := 4) rfl)
theorem dX0_leave_5 : decode cX0_leave 5 = Except.ok (Instr.aload_n 0, 1) := vyd_42 (vyb_cX0_leave_0 (i := 5) rfl)
theorem dX0_leave_6 : decode cX0_leave 6 = Except.ok (Instr.getfield 15, 3) := vyd_180 (vyb_cX0_leave_0 (i := 6) rfl) (vyb_cX0_leave_0 (i := 7) rfl) (vyb_cX0_leave_0 (i := 8) rfl) rfl
theorem dX0_leave_9 : decode cX0_leave 9 = Except.ok (Instr.if_icmp .lt 5, 3) := vyd_161 (vyb_cX0_leave_0 (i := 9) rfl) (vyb_cX0_leave_1 (i := 0) rfl) (vyb_cX0_leave_1 (i := 1) rfl) (by decide +kernel)
theorem dX0_leave_12 : decode cX0_leave 12 = Except.ok (Instr.iconst 0, 1) := vyd_3 (vyb_cX0_leave_1 (i := 2) rfl)
theorem dX0_leave_13 : decode cX0_leave 13 = Except.ok (Instr.ireturn, 1) := vyd_172 (vyb_cX0_leave_1 (i := 3) rfl)
theorem dX0_leave_14 : decode cX0_leave 14 = Except.ok (Instr.aload_n 0, 1) := vyd_42 (vyb_cX0_leave_1 (i := 4) rfl)
theorem dX0_leave_15 : decode cX0_leave 15 = Except.ok (Instr.iload_n 1, 1) := vyd_27 (vyb_cX0_leave_1 (i := 5) rfl)
theorem dX0_leave_16 : decode cX0_leave 16 = Except.ok (Instr.invokevirtual 19, 3) := vyd_182 (vyb_cX0_leave_1 (i := 6) rfl) (vyb_cX0_leave_1 (i := 7) rfl) (vyb_cX0_leave_1 (i := 8) rfl) rfl
theorem dX0_leave_19 : decode cX0_leave 19 = Except.ok (Instr.istore_n 2, 1) := vyd_61 (vyb_cX0_leave_1 (i := 9) rfl)
theorem dX0_leave_20 : decode cX0_leave 20 = Except.ok (Instr.iload_n 1, 1) := vyd_27 (vyb_cX0_leave_2 (i := 0) rfl)
theorem dX0_leave_21 : decode cX0_leave 21 = Except.ok (Instr.istore_n 3, 1) := vyd_62 (vyb_cX0_leave_2 (i := 1) rfl)
theorem dX0_leave_22 : decode cX0_leave 22 = Except.ok (Instr.iload_n 3, 1) := vyd_29 (vyb_cX0_leave_2 (i := 2) rfl)
theorem dX0_leave_23 : decode cX0_leave 23 = Except.ok (Instr.aload_n 0, 1) := vyd_42 (vyb_cX0_leave_2 (i := 3) rfl)
theorem dX0_leave_24 : decode cX0_leave 24 = Except.ok (Instr.getfield 15, 3) := vyd_180 (vyb_cX0_leave_2 (i := 4) rfl) (vyb_cX0_leave_2 (i := 5) rfl) (vyb_cX0_leave_2 (i := 6) rfl) rfl
theorem dX0_leave_27 : decode cX0_leave 27 = Except.ok (Instr.iconst 1, 1) := vyd_4 (vyb_cX0_leave_2 (i := 7) rfl)
theorem dX0_leave_28 : decode cX0_leave 28 = Except.ok (Instr.isub, 1) := vyd_100 (vyb_cX0_leave_2 (i := 8) rfl)
theorem dX0_leave_29 : decode cX0_leave 29 = Except.ok (Instr.if_icmp .ge 21, 3) := vyd_162 (vyb_cX0_leave_2 (i := 9) rfl) (vyb_cX0_leave_3 (i := 0) rfl) (vyb_cX0_leave_3 (i := 1) rfl) (by decide +kernel)
theorem dX0_leave_32 : decode cX0_leave 32 = Except.ok (Instr.aload_n 0, 1) := vyd_42 (vyb_cX0_leave_3 (i := 2) rfl)
theorem dX0_leave_33 : decode cX0_leave 33 = Except.ok (Instr.iload_n 3, 1) := vyd_29 (vyb_cX0_leave_3 (i := 3) rfl)
theorem dX0_leave_34 : decode cX0_leave 34 = Except.ok (Instr.aload_n 0, 1) := vyd_42 (vyb_cX0_leave_3 (i := 4) rfl)
theorem dX0_leave_35 : decode cX0_leave 35 = Except.ok (Instr.iload_n 3, 1) := vyd_29 (vyb_cX0_leave_3 (i := 5) rfl)
theorem dX0_leave_36 : decode cX0_leave 36 = Except.ok (Instr.iconst 1, 1) := vyd_4 (vyb_cX0_leave_3 (i := 6) rfl)
theorem dX0_leave_37 : decode cX0_leave 37 = Except.ok (Instr.iadd, 1) := vyd_96 (vyb_cX0_leave_3 (i := 7) rfl)
theorem dX0_leave_38 : decode cX0_leave 38 = Except.ok (Instr.invokevirtual 19, 3) := vyd_182 (vyb_cX0_leave_3 (i := 8) rfl) (vyb_cX0_leave_3 (i := 9) rfl) (vyb_cX0_leave_4 (i := 0) rfl) rfl
theorem dX0_leave_41 : decode cX0_leave 41 = Except.ok (Instr.invokevirtual 27, 3) := vyd_182 (vyb_cX0_leave_4 (i := 1) rfl) (vyb_cX0_leave_4 (i := 2) rfl) (vyb_cX0_leave_4 (i := 3) rfl) rfl
theorem dX0_leave_44 : decode cX0_leave 44 = .ok (.iinc 3 1, 3) := by decide +kernel
theorem dX0_leave_47 : decode cX0_leave 47 = Except.ok (Instr.goto (-25), 3) := vyd_167 (vyb_cX0_leave_4 (i := 7) rfl) (vyb_cX0_leave_4 (i := 8) rfl) (vyb_cX0_leave_4 (i := 9) rfl) (by decide +kernel)
theorem dX0_leave_50 : decode cX0_leave 50 = Except.ok (Instr.aload_n 0, 1) := vyd_42 (vyb_cX0_leave_5 (i := 0) rfl)
theorem dX0_leave_51 : decode cX0_leave 51 = Except.ok (Instr.dup, 1) := vyd_89 (vyb_cX0_leave_5 (i := 1) rfl)
theorem dX0_leave_52 : decode cX0_leave 52 = Except.ok (Instr.getfield 15, 3) := vyd_180 (vyb_cX0_leave_5 (i := 2) rfl) (vyb_cX0_leave_5 (i := 3) rfl) (vyb_cX0_leave_5 (i := 4) rfl) rfl
theorem dX0_leave_55 : decode cX0_leave 55 = Except.ok (Instr.iconst 1, 1) := vyd_4 (vyb_cX0_leave_5 (i := 5) rfl)
theorem dX0_leave_56 : decode cX0_leave 56 = Except.ok (Instr.isub, 1) := vyd_100 (vyb_cX0_leave_5 (i := 6) rfl)
theorem dX0_leave_57 : decode cX0_leave 57 = Except.ok (Instr.putfield 15, 3) := vyd_181 (vyb_cX0_leave_5 (i := 7) rfl) (vyb_cX0_leave_5 (i := 8) rfl) (vyb_cX0_leave_5 (i := 9) rfl) rfl
theorem dX0_leave_60 : decode cX0_leave 60 = Except.ok (Instr.iload_n 2, 1) := vyd_28 (vyb_cX0_leave_6 (i := 0) rfl)
theorem dX0_leave_61 : decode cX0_leave 61 = Except.ok (Instr.ireturn, 1) := vyd_172 (vyb_cX0_leave_6 (i := 1) rfl)
theorem vyb_cX0_empty_0 {i : Nat} {b : UInt8} (h : ([0x2a, 0x03, 0xb5, 0x00, 0x0f, 0xb1] : List UInt8)[i]? = some b) : vy_8 cX0_empty (0 + i) b := vy_in (n := 6) (by decide +kernel) h
theorem dX0_empty_0 : decode cX0_empty 0 = Except.ok (Instr.aload_n 0, 1) := vyd_42 (vyb_cX0_empty_0 (i := 0) rfl)
theorem dX0_empty_1 : decode cX0_empty 1 = Except.ok (Instr.iconst 0, 1) := vyd_3 (vyb_cX0_empty_0 (i := 1) rfl)
theorem dX0_empty_2 : decode cX0_empty 2 = Except.ok (Instr.putfield 15, 3) := vyd_181 (vyb_cX0_empty_0 (i := 2) rfl) (vyb_cX0_empty_0 (i := 3) rfl) (vyb_cX0_empty_0 (i := 4) rfl) rfl
theorem dX0_empty_5 : decode cX0_empty 5 = Except.ok (Instr.return_, 1) := vyd_177 (vyb_cX0_empty_0 (i := 5) rfl)
theorem vyb_cX0_copyFrom_0 {i : Nat} {b : UInt8} (h : ([0x2a, 0xb6, 0x00, 0x22, 0x03, 0x3d, 0x1c, 0x2b, 0xb6, 0x00] : List UInt8)[i]? = some b) : vy_8 cX0_copyFrom (0 + i) b := vy_in (n := 10) (by decide +kernel) h
theorem vyb_cX0_copyFrom_1 {i : Nat} {b : UInt8} (h : ([0x25, 0xa2, 0x00, 0x12, 0x2a, 0x2b, 0x1c, 0xb6, 0x00, 0x13] : List UInt8)[i]? = some b) : vy_8 cX0_copyFrom (10 + i) b := vy_in (n := 10) (by decide +kernel) h
theorem vyb_cX0_copyFrom_2 {i : Nat} {b : UInt8} (h : ([0xb6, 0x00, 0x29, 0x84, 0x02, 0x01, 0xa7, 0xff, 0xec, 0xb1] : List UInt8)[i]? = some b) : vy_8 cX0_copyFrom (20 + i) b := vy_in (n := 10) (by decide +kernel) h
theorem dX0_copyFrom_0 : decode cX0_copyFrom 0 = Except.ok (Instr.aload_n 0, 1) := vyd_42 (vyb_cX0_copyFrom_0 (i := 0) rfl)
theorem dX0_copyFrom_1 : decode cX0_copyFrom 1 = Except.ok (Instr.invokevirtual 34, 3) := vyd_182 (vyb_cX0_copyFrom_0 (i := 1) rfl) (vyb_cX0_copyFrom_0 (i := 2) rfl) (vyb_cX0_copyFrom_0 (i := 3) rfl) rfl
theorem dX0_copyFrom_4 : decode cX0_copyFrom 4 = Except.ok (Instr.iconst 0, 1) := vyd_3 (vyb_cX0_copyFrom_0 (i := 4) rfl)
theorem dX0_copyFrom_5 : decode cX0_copyFrom 5 = Except.ok (Instr.istore_n 2, 1) := vyd_61 (vyb_cX0_copyFrom_0 (i := 5) rfl)
theorem dX0_copyFrom_6 : decode cX0_copyFrom 6 = Except.ok (Instr.iload_n 2, 1) := vyd_28 (vyb_cX0_copyFrom_0 (i := 6) rfl)
theorem dX0_copyFrom_7 : decode cX0_copyFrom 7 = Except.ok (Instr.aload_n 1, 1) := vyd_43 (vyb_cX0_copyFrom_0 (i := 7) rfl)
theorem dX0_copyFrom_8 : decode cX0_copyFrom 8 = Except.ok (Instr.invokevirtual 37, 3) := vyd_182 (vyb_cX0_copyFrom_0 (i := 8) rfl) (vyb_cX0_copyFrom_0 (i := 9) rfl) (vyb_cX0_copyFrom_1 (i := 0) rfl) rfl
theorem dX0_copyFrom_11 : decode cX0_copyFrom 11 = Except.ok (Instr.if_icmp .ge 18, 3) := vyd_162 (vyb_cX0_copyFrom_1 (i := 1) rfl) (vyb_cX0_copyFrom_1 (i := 2) rfl) (vyb_cX0_copyFrom_1 (i := 3) rfl) (by decide +kernel)
theorem dX0_copyFrom_14 : decode cX0_copyFrom 14 = Except.ok (Instr.aload_n 0, 1) := vyd_42 (vyb_cX0_copyFrom_1 (i := 4) rfl)
theorem dX0_copyFrom_15 : decode cX0_copyFrom 15 = Except.ok (Instr.aload_n 1, 1) := vyd_43 (vyb_cX0_copyFrom_1 (i := 5) rfl)
theorem dX0_copyFrom_16 : decode cX0_copyFrom 16 = Except.ok (Instr.iload_n 2, 1) := vyd_28 (vyb_cX0_copyFrom_1 (i := 6) rfl)
theorem dX0_copyFrom_17 : decode cX0_copyFrom 17 = Except.ok (Instr.invokevirtual 19, 3) := vyd_182 (vyb_cX0_copyFrom_1 (i := 7) rfl) (vyb_cX0_copyFrom_1 (i := 8) rfl) (vyb_cX0_copyFrom_1 (i := 9) rfl) rfl
theorem dX0_copyFrom_20 : decode cX0_copyFrom 20 = Except.ok (Instr.invokevirtual 41, 3) := vyd_182 (vyb_cX0_copyFrom_2 (i := 0) rfl) (vyb_cX0_copyFrom_2 (i := 1) rfl) (vyb_cX0_copyFrom_2 (i := 2) rfl) rfl
theorem dX0_copyFrom_23 : decode cX0_copyFrom 23 = .ok (.iinc 2 1, 3) := by decide +kernel
theorem dX0_copyFrom_26 : decode cX0_copyFrom 26 = Except.ok (Instr.goto (-20), 3) := vyd_167 (vyb_cX0_copyFrom_2 (i := 6) rfl) (vyb_cX0_copyFrom_2 (i := 7) rfl) (vyb_cX0_copyFrom_2 (i := 8) rfl) (by decide +kernel)
theorem dX0_copyFrom_29 : decode cX0_copyFrom 29 = Except.ok (Instr.return_, 1) := vyd_177 (vyb_cX0_copyFrom_2 (i := 9) rfl)
theorem vyb_cX0_endPlace_0 {i : Nat} {b : UInt8} (h : ([0x1b, 0x9a, 0x00, 0x0a, 0x2a, 0xb4, 0x00, 0x0f, 0x9a, 0x00] : List UInt8)[i]? = some b) : vy_8 cX0_endPlace (0 + i) b := vy_in (n := 10) (by decide +kernel) h
theorem vyb_cX0_endPlace_1 {i : Nat} {b : UInt8} (h : ([0x0c, 0x2a, 0xb4, 0x00, 0x0f, 0x04, 0x64, 0xa7, 0x00, 0x04] : List UInt8)[i]? = some b) : vy_8 cX0_endPlace (10 + i) b := vy_in (n := 10) (by decide +kernel) h
theorem vyb_cX0_endPlace_2 {i : Nat} {b : UInt8} (h : ([0x03, 0xac] : List UInt8)[i]? = some b) : vy_8 cX0_endPlace (20 + i) b := vy_in (n := 2) (by decide +kernel) h
theorem dX0_endPlace_0 : decode cX0_endPlace 0 = Except.ok (Instr.iload_n 1, 1) := vyd_27 (vyb_cX0_endPlace_0 (i := 0) rfl)
theorem dX0_endPlace_1 : decode cX0_endPlace 1 = Except.ok (Instr.ifCond .ne 10, 3) := vyd_154 (vyb_cX0_endPlace_0 (i := 1) rfl) (vyb_cX0_endPlace_0 (i := 2) rfl) (vyb_cX0_endPlace_0 (i := 3) rfl) (by decide +kernel)
theorem dX0_endPlace_4 : decode cX0_endPlace 4 = Except.ok (Instr.aload_n 0, 1) := vyd_42 (vyb_cX0_endPlace_0 (i := 4) rfl)
theorem dX0_endPlace_5 : decode cX0_endPlace 5 = Except.ok (Instr.getfield 15, 3) := vyd_180 (vyb_cX0_endPlace_0 (i := 5) rfl) (vyb_cX0_endPlace_0 (i := 6) rfl) (vyb_cX0_endPlace_0 (i := 7) rfl) rfl
theorem dX0_endPlace_8 : decode cX0_endPlace 8 = Except.ok (Instr.ifCond .ne 12, 3) := vyd_154 (vyb_cX0_endPlace_0 (i := 8) rfl) (vyb_cX0_endPlace_0 (i := 9) rfl) (vyb_cX0_endPlace_1 (i := 0) rfl) (by decide +kernel)
theorem dX0_endPlace_11 : decode cX0_endPlace 11 = Except.ok (Instr.aload_n 0, 1) := vyd_42 (vyb_cX0_endPlace_1 (i := 1) rfl)
theorem dX0_endPlace_12 : decode cX0_endPlace 12 = Except.ok (Instr.getfield 15, 3) := vyd_180 (vyb_cX0_endPlace_1 (i := 2) rfl) (vyb_cX0_endPlace_1 (i := 3) rfl) (vyb_cX0_endPlace_1 (i := 4) rfl) rfl
theorem dX0_endPlace_15 : decode cX0_endPlace 15 = Except.ok (Instr.iconst 1, 1) := vyd_4 (vyb_cX0_endPlace_1 (i := 5) rfl)
theorem dX0_endPlace_16 : decode cX0_endPlace 16 = Except.ok (Instr.isub, 1) := vyd_100 (vyb_cX0_endPlace_1 (i := 6) rfl)
theorem dX0_endPlace_17 : decode cX0_endPlace 17 = Except.ok (Instr.goto 4, 3) := vyd_167 (vyb_cX0_endPlace_1 (i := 7) rfl) (vyb_cX0_endPlace_1 (i := 8) rfl) (vyb_cX0_endPlace_1 (i := 9) rfl) (by decide +kernel)
theorem dX0_endPlace_20 : decode cX0_endPlace 20 = Except.ok (Instr.iconst 0, 1) := vyd_3 (vyb_cX0_endPlace_2 (i := 0) rfl)
theorem dX0_endPlace_21 : decode cX0_endPlace 21 = Except.ok (Instr.ireturn, 1) := vyd_172 (vyb_cX0_endPlace_2 (i := 1) rfl)
theorem vyb_cX0_placeOf_0 {i : Nat} {b : UInt8} (h : ([0x02, 0x3e, 0x03, 0x36, 0x04, 0x15, 0x04, 0x2a, 0xb4, 0x00] : List UInt8)[i]? = some b) : vy_8 cX0_placeOf (0 + i) b := vy_in (n := 10) (by decide +kernel) h
theorem vyb_cX0_placeOf_1 {i : Nat} {b : UInt8} (h : ([0x0f, 0xa2, 0x00, 0x1f, 0x2a, 0x15, 0x04, 0xb6, 0x00, 0x13] : List UInt8)[i]? = some b) : vy_8 cX0_placeOf (10 + i) b := vy_in (n := 10) (by decide +kernel) h
theorem vyb_cX0_placeOf_2 {i : Nat} {b : UInt8} (h : ([0x1b, 0xa0, 0x00, 0x0f, 0x1c, 0x9a, 0x00, 0x08, 0x1d, 0x02] : List UInt8)[i]? = some b) : vy_8 cX0_placeOf (20 + i) b := vy_in (n := 10) (by decide +kernel) h
theorem vyb_cX0_placeOf_3 {i : Nat} {b : UInt8} (h : ([0xa0, 0x00, 0x06, 0x15, 0x04, 0x3e, 0x84, 0x04, 0x01, 0xa7] : List UInt8)[i]? = some b) : vy_8 cX0_placeOf (30 + i) b := vy_in (n := 10) (by decide +kernel) h
theorem vyb_cX0_placeOf_4 {i : Nat} {b : UInt8} (h : ([0xff, 0xde, 0x1d, 0xac] : List UInt8)[i]? = some b) : vy_8 cX0_placeOf (40 + i) b := vy_in (n := 4) (by decide +kernel) h
theorem dX0_placeOf_0 : decode cX0_placeOf 0 = Except.ok (Instr.iconst (-1), 1) := vyd_2 (vyb_cX0_placeOf_0 (i := 0) rfl)
theorem dX0_placeOf_1 : decode cX0_placeOf 1 = Except.ok (Instr.istore_n 3, 1) := vyd_62 (vyb_cX0_placeOf_0 (i := 1) rfl)
theorem dX0_placeOf_2 : decode cX0_placeOf 2 = Except.ok (Instr.iconst 0, 1) := vyd_3 (vyb_cX0_placeOf_0 (i := 2) rfl)
theorem dX0_placeOf_3 : decode cX0_placeOf 3 = Except.ok (Instr.istore 4, 2) := vyd_54 (vyb_cX0_placeOf_0 (i := 3) rfl) (vyb_cX0_placeOf_0 (i := 4) rfl) rfl
theorem dX0_placeOf_5 : decode cX0_placeOf 5 = Except.ok (Instr.iload 4, 2) := vyd_21 (vyb_cX0_placeOf_0 (i := 5) rfl) (vyb_cX0_placeOf_0 (i := 6) rfl) rfl
theorem dX0_placeOf_7 : decode cX0_placeOf 7 = Except.ok (Instr.aload_n 0, 1) := vyd_42 (vyb_cX0_placeOf_0 (i := 7) rfl)
theorem dX0_placeOf_8 : decode cX0_placeOf 8 = Except.ok (Instr.getfield 15, 3) := vyd_180 (vyb_cX0_placeOf_0 (i := 8) rfl) (vyb_cX0_placeOf_0 (i := 9) rfl) (vyb_cX0_placeOf_1 (i := 0) rfl) rfl
theorem dX0_placeOf_11 : decode cX0_placeOf 11 = Except.ok (Instr.if_icmp .ge 31, 3) := vyd_162 (vyb_cX0_placeOf_1 (i := 1) rfl) (vyb_cX0_placeOf_1 (i := 2) rfl) (vyb_cX0_placeOf_1 (i := 3) rfl) (by decide +kernel)
theorem dX0_placeOf_14 : decode cX0_placeOf 14 = Except.ok (Instr.aload_n 0, 1) := vyd_42 (vyb_cX0_placeOf_1 (i := 4) rfl)
theorem dX0_placeOf_15 : decode cX0_placeOf 15 = Except.ok (Instr.iload 4, 2) := vyd_21 (vyb_cX0_placeOf_1 (i := 5) rfl) (vyb_cX0_placeOf_1 (i := 6) rfl) rfl
theorem dX0_placeOf_17 : decode cX0_placeOf 17 = Except.ok (Instr.invokevirtual 19, 3) := vyd_182 (vyb_cX0_placeOf_1 (i := 7) rfl) (vyb_cX0_placeOf_1 (i := 8) rfl) (vyb_cX0_placeOf_1 (i := 9) rfl) rfl
theorem dX0_placeOf_20 : decode cX0_placeOf 20 = Except.ok (Instr.iload_n 1, 1) := vyd_27 (vyb_cX0_placeOf_2 (i := 0) rfl)
theorem dX0_placeOf_21 : decode cX0_placeOf 21 = Except.ok (Instr.if_icmp .ne 15, 3) := vyd_160 (vyb_cX0_placeOf_2 (i := 1) rfl) (vyb_cX0_placeOf_2 (i := 2) rfl) (vyb_cX0_placeOf_2 (i := 3) rfl) (by decide +kernel)
theorem dX0_placeOf_24 : decode cX0_placeOf 24 = Except.ok (Instr.iload_n 2, 1) := vyd_28 (vyb_cX0_placeOf_2 (i := 4) rfl)
theorem dX0_placeOf_25 : decode cX0_placeOf 25 = Except.ok (Instr.ifCond .ne 8, 3) := vyd_154 (vyb_cX0_placeOf_2 (i := 5) rfl) (vyb_cX0_placeOf_2 (i := 6) rfl) (vyb_cX0_placeOf_2 (i := 7) rfl) (by decide +kernel)
theorem dX0_placeOf_28 : decode cX0_placeOf 28 = Except.ok (Instr.iload_n 3, 1) := vyd_29 (vyb_cX0_placeOf_2 (i := 8) rfl)
theorem dX0_placeOf_29 : decode cX0_placeOf 29 = Except.ok (Instr.iconst (-1), 1) := vyd_2 (vyb_cX0_placeOf_2 (i := 9) rfl)
theorem dX0_placeOf_30 : decode cX0_placeOf 30 = Except.ok (Instr.if_icmp .ne 6, 3) := vyd_160 (vyb_cX0_placeOf_3 (i := 0) rfl) (vyb_cX0_placeOf_3 (i := 1) rfl) (vyb_cX0_placeOf_3 (i := 2) rfl) (by decide +kernel)
theorem dX0_placeOf_33 : decode cX0_placeOf 33 = Except.ok (Instr.iload 4, 2) := vyd_21 (vyb_cX0_placeOf_3 (i := 3) rfl) (vyb_cX0_placeOf_3 (i := 4) rfl) rfl
theorem dX0_placeOf_35 : decode cX0_placeOf 35 = Except.ok (Instr.istore_n 3, 1) := vyd_62 (vyb_cX0_placeOf_3 (i := 5) rfl)
theorem dX0_placeOf_36 : decode cX0_placeOf 36 = .ok (.iinc 4 1, 3) := by decide +kernel
theorem dX0_placeOf_39 : decode cX0_placeOf 39 = Except.ok (Instr.goto (-34), 3) := vyd_167 (vyb_cX0_placeOf_3 (i := 9) rfl) (vyb_cX0_placeOf_4 (i := 0) rfl) (vyb_cX0_placeOf_4 (i := 1) rfl) (by decide +kernel)
theorem dX0_placeOf_42 : decode cX0_placeOf 42 = Except.ok (Instr.iload_n 3, 1) := vyd_29 (vyb_cX0_placeOf_4 (i := 2) rfl)
theorem dX0_placeOf_43 : decode cX0_placeOf 43 = Except.ok (Instr.ireturn, 1) := vyd_172 (vyb_cX0_placeOf_4 (i := 3) rfl)
theorem vyb_cX0_placeOfKind_0 {i : Nat} {b : UInt8} (h : ([0x02, 0x3e, 0x03, 0x36, 0x04, 0x15, 0x04, 0x2a, 0xb4, 0x00] : List UInt8)[i]? = some b) : vy_8 cX0_placeOfKind (0 + i) b := vy_in (n := 10) (by decide +kernel) h
theorem vyb_cX0_placeOfKind_1 {i : Nat} {b : UInt8} (h : ([0x0f, 0xa2, 0x00, 0x22, 0x2a, 0x15, 0x04, 0xb6, 0x00, 0x13] : List UInt8)[i]? = some b) : vy_8 cX0_placeOfKind (10 + i) b := vy_in (n := 10) (by decide +kernel) h
theorem vyb_cX0_placeOfKind_2 {i : Nat} {b : UInt8} (h : ([0xb8, 0x00, 0x2d, 0x1b, 0xa0, 0x00, 0x0f, 0x1c, 0x9a, 0x00] : List UInt8)[i]? = some b) : vy_8 cX0_placeOfKind (20 + i) b := vy_in (n := 10) (by decide +kernel) h
theorem vyb_cX0_placeOfKind_3 {i : Nat} {b : UInt8} (h : ([0x08, 0x1d, 0x02, 0xa0, 0x00, 0x06, 0x15, 0x04, 0x3e, 0x84] : List UInt8)[i]? = some b) : vy_8 cX0_placeOfKind (30 + i) b := vy_in (n := 10) (by decide +kernel) h
theorem vyb_cX0_placeOfKind_4 {i : Nat} {b : UInt8} (h : ([0x04, 0x01, 0xa7, 0xff, 0xdb, 0x1d, 0xac] : List UInt8)[i]? = some b) : vy_8 cX0_placeOfKind (40 + i) b := vy_in (n := 7) (by decide +kernel) h
theorem dX0_placeOfKind_0 : decode cX0_placeOfKind 0 = Except.ok (Instr.iconst (-1), 1) := vyd_2 (vyb_cX0_placeOfKind_0 (i := 0) rfl)
theorem dX0_placeOfKind_1 : decode cX0_placeOfKind 1 = Except.ok (Instr.istore_n 3, 1) := vyd_62 (vyb_cX0_placeOfKind_0 (i := 1) rfl)
theorem dX0_placeOfKind_2 : decode cX0_placeOfKind 2 = Except.ok (Instr.iconst 0, 1) := vyd_3 (vyb_cX0_placeOfKind_0 (i := 2) rfl)
theorem dX0_placeOfKind_3 : decode cX0_placeOfKind 3 = Except.ok (Instr.istore 4, 2) := vyd_54 (vyb_cX0_placeOfKind_0 (i := 3) rfl) (vyb_cX0_placeOfKind_0 (i := 4) rfl) rfl
theorem dX0_placeOfKind_5 : decode cX0_placeOfKind 5 = Except.ok (Instr.iload 4, 2) := vyd_21 (vyb_cX0_placeOfKind_0 (i := 5) rfl) (vyb_cX0_placeOfKind_0 (i := 6) rfl) rfl
theorem dX0_placeOfKind_7 : decode cX0_placeOfKind 7 = Except.ok (Instr.aload_n 0, 1) := vyd_42 (vyb_cX0_placeOfKind_0 (i := 7) rfl)
theorem dX0_placeOfKind_8 : decode cX0_placeOfKind 8 = Except.ok (Instr.getfield 15, 3) := vyd_180 (vyb_cX0_placeOfKind_0 (i := 8) rfl) (vyb_cX0_placeOfKind_0 (i := 9) rfl) (vyb_cX0_placeOfKind_1 (i := 0) rfl) rfl
theorem dX0_placeOfKind_11 : decode cX0_placeOfKind 11 = Except.ok (Instr.if_icmp .ge 34, 3) := vyd_162 (vyb_cX0_placeOfKind_1 (i := 1) rfl) (vyb_cX0_placeOfKind_1 (i := 2) rfl) (vyb_cX0_placeOfKind_1 (i := 3) rfl) (by decide +kernel)
theorem dX0_placeOfKind_14 : decode cX0_placeOfKind 14 = Except.ok (Instr.aload_n 0, 1) := vyd_42 (vyb_cX0_placeOfKind_1 (i := 4) rfl)
theorem dX0_placeOfKind_15 : decode cX0_placeOfKind 15 = Except.ok (Instr.iload 4, 2) := vyd_21 (vyb_cX0_placeOfKind_1 (i := 5) rfl) (vyb_cX0_placeOfKind_1 (i := 6) rfl) rfl
theorem dX0_placeOfKind_17 : decode cX0_placeOfKind 17 = Except.ok (Instr.invokevirtual 19, 3) := vyd_182 (vyb_cX0_placeOfKind_1 (i := 7) rfl) (vyb_cX0_placeOfKind_1 (i := 8) rfl) (vyb_cX0_placeOfKind_1 (i := 9) rfl) rfl
theorem dX0_placeOfKind_20 : decode cX0_placeOfKind 20 = Except.ok (Instr.invokestatic 45, 3) := vyd_184 (vyb_cX0_placeOfKind_2 (i := 0) rfl) (vyb_cX0_placeOfKind_2 (i := 1) rfl) (vyb_cX0_placeOfKind_2 (i := 2) rfl) rfl
theorem dX0_placeOfKind_23 : decode cX0_placeOfKind 23 = Except.ok (Instr.iload_n 1, 1) := vyd_27 (vyb_cX0_placeOfKind_2 (i := 3) rfl)
theorem dX0_placeOfKind_24 : decode cX0_placeOfKind 24 = Except.ok (Instr.if_icmp .ne 15, 3) := vyd_160 (vyb_cX0_placeOfKind_2 (i := 4) rfl) (vyb_cX0_placeOfKind_2 (i := 5) rfl) (vyb_cX0_placeOfKind_2 (i := 6) rfl) (by decide +kernel)
theorem dX0_placeOfKind_27 : decode cX0_placeOfKind 27 = Except.ok (Instr.iload_n 2, 1) := vyd_28 (vyb_cX0_placeOfKind_2 (i := 7) rfl)
theorem dX0_placeOfKind_28 : decode cX0_placeOfKind 28 = Except.ok (Instr.ifCond .ne 8, 3) := vyd_154 (vyb_cX0_placeOfKind_2 (i := 8) rfl) (vyb_cX0_placeOfKind_2 (i := 9) rfl) (vyb_cX0_placeOfKind_3 (i := 0) rfl) (by decide +kernel)
theorem dX0_placeOfKind_31 : decode cX0_placeOfKind 31 = Except.ok (Instr.iload_n 3, 1) := vyd_29 (vyb_cX0_placeOfKind_3 (i := 1) rfl)
theorem dX0_placeOfKind_32 : decode cX0_placeOfKind 32 = Except.ok (Instr.iconst (-1), 1) := vyd_2 (vyb_cX0_placeOfKind_3 (i := 2) rfl)
theorem dX0_placeOfKind_33 : decode cX0_placeOfKind 33 = Except.ok (Instr.if_icmp .ne 6, 3) := vyd_160 (vyb_cX0_placeOfKind_3 (i := 3) rfl) (vyb_cX0_placeOfKind_3 (i := 4) rfl) (vyb_cX0_placeOfKind_3 (i := 5) rfl) (by decide +kernel)
theorem dX0_placeOfKind_36 : decode cX0_placeOfKind 36 = Except.ok (Instr.iload 4, 2) := vyd_21 (vyb_cX0_placeOfKind_3 (i := 6) rfl) (vyb_cX0_placeOfKind_3 (i := 7) rfl) rfl
theorem dX0_placeOfKind_38 : decode cX0_placeOfKind 38 = Except.ok (Instr.istore_n 3, 1) := vyd_62 (vyb_cX0_placeOfKind_3 (i := 8) rfl)
theorem dX0_placeOfKind_39 : decode cX0_placeOfKind 39 = .ok (.iinc 4 1, 3) := by decide +kernel
theorem dX0_placeOfKind_42 : decode cX0_placeOfKind 42 = Except.ok (Instr.goto (-37), 3) := vyd_167 (vyb_cX0_placeOfKind_4 (i := 2) rfl) (vyb_cX0_placeOfKind_4 (i := 3) rfl) (vyb_cX0_placeOfKind_4 (i := 4) rfl) (by decide +kernel)
theorem dX0_placeOfKind_45 : decode cX0_placeOfKind 45 = Except.ok (Instr.iload_n 3, 1) := vyd_29 (vyb_cX0_placeOfKind_4 (i := 5) rfl)
theorem dX0_placeOfKind_46 : decode cX0_placeOfKind 46 = Except.ok (Instr.ireturn, 1) := vyd_172 (vyb_cX0_placeOfKind_4 (i := 6) rfl)
theorem vyb_cX1_init_0 {i : Nat} {b : UInt8} (h : ([0x2a, 0xb7, 0x00, 0x03, 0x2a, 0x03, 0xb5, 0x00, 0x09, 0x2a] : List UInt8)[i]? = some b) : vy_8 cX1_init (0 + i) b := vy_in (n := 10) (by decide +kernel) h
theorem vyb_cX1_init_1 {i : Nat} {b : UInt8} (h : ([0x03, 0xb5, 0x00, 0x0f, 0x2a, 0x03, 0xb5, 0x00, 0x12, 0x2a] : List UInt8)[i]? = some b) : vy_8 cX1_init (10 + i) b := vy_in (n := 10) (by decide +kernel) h
theorem vyb_cX1_init_2 {i : Nat} {b : UInt8} (h : ([0x02, 0xb5, 0x00, 0x16, 0xb1] : List UInt8)[i]? = some b) : vy_8 cX1_init (20 + i) b := vy_in (n := 5) (by decide +kernel) h
theorem dX1_init_0 : decode cX1_init 0 = Except.ok (Instr.aload_n 0, 1) := vyd_42 (vyb_cX1_init_0 (i := 0) rfl)
theorem dX1_init_1 : decode cX1_init 1 = Except.ok (Instr.invokespecial 3, 3) := vyd_183 (vyb_cX1_init_0 (i := 1) rfl) (vyb_cX1_init_0 (i := 2) rfl) (vyb_cX1_init_0 (i := 3) rfl) rfl
theorem dX1_init_4 : decode cX1_init 4 = Except.ok (Instr.aload_n 0, 1) := vyd_42 (vyb_cX1_init_0 (i := 4) rfl)
theorem dX1_init_5 : decode cX1_init 5 = Except.ok (Instr.iconst 0, 1) := vyd_3 (vyb_cX1_init_0 (i := 5) rfl)
theorem dX1_init_6 : decode cX1_init 6 = Except.ok (Instr.putfield 9, 3) := vyd_181 (vyb_cX1_init_0 (i := 6) rfl) (vyb_cX1_init_0 (i := 7) rfl) (vyb_cX1_init_0 (i := 8) rfl) rfl
theorem dX1_init_9 : decode cX1_init 9 = Except.ok (Instr.aload_n 0, 1) := vyd_42 (vyb_cX1_init_0 (i := 9) rfl)
theorem dX1_init_10 : decode cX1_init 10 = Except.ok (Instr.iconst 0, 1) := vyd_3 (vyb_cX1_init_1 (i := 0) rfl)
theorem dX1_init_11 : decode cX1_init 11 = Except.ok (Instr.putfield 15, 3) := vyd_181 (vyb_cX1_init_1 (i := 1) rfl) (vyb_cX1_init_1 (i := 2) rfl) (vyb_cX1_init_1 (i := 3) rfl) rfl
theorem dX1_init_14 : decode cX1_init 14 = Except.ok (Instr.aload_n 0, 1) := vyd_42 (vyb_cX1_init_1 (i := 4) rfl)
theorem dX1_init_15 : decode cX1_init 15 = Except.ok (Instr.iconst 0, 1) := vyd_3 (vyb_cX1_init_1 (i := 5) rfl)
theorem dX1_init_16 : decode cX1_init 16 = Except.ok (Instr.putfield 18, 3) := vyd_181 (vyb_cX1_init_1 (i := 6) rfl) (vyb_cX1_init_1 (i := 7) rfl) (vyb_cX1_init_1 (i := 8) rfl) rfl
theorem dX1_init_19 : decode cX1_init 19 = Except.ok (Instr.aload_n 0, 1) := vyd_42 (vyb_cX1_init_1 (i := 9) rfl)
theorem dX1_init_20 : decode cX1_init 20 = Except.ok (Instr.iconst (-1), 1) := vyd_2 (vyb_cX1_init_2 (i := 0) rfl)
theorem dX1_init_21 : decode cX1_init 21 = Except.ok (Instr.putfield 22, 3) := vyd_181 (vyb_cX1_init_2 (i := 1) rfl) (vyb_cX1_init_2 (i := 2) rfl) (vyb_cX1_init_2 (i := 3) rfl) rfl
theorem dX1_init_24 : decode cX1_init 24 = Except.ok (Instr.return_, 1) := vyd_177 (vyb_cX1_init_2 (i := 4) rfl)
theorem vyb_cX1_begin_0 {i : Nat} {b : UInt8} (h : ([0x2a, 0x04, 0xb5, 0x00, 0x09, 0x2a, 0x1b, 0xb5, 0x00, 0x0f] : List UInt8)[i]? = some b) : vy_8 cX1_begin (0 + i) b := vy_in (n := 10) (by decide +kernel) h
theorem vyb_cX1_begin_1 {i : Nat} {b : UInt8} (h : ([0x2a, 0x1b, 0x99, 0x00, 0x09, 0x1c, 0x04, 0x64, 0xa7, 0x00] : List UInt8)[i]? = some b) : vy_8 cX1_begin (10 + i) b := vy_in (n := 10) (by decide +kernel) h
theorem vyb_cX1_begin_2 {i : Nat} {b : UInt8} (h : ([0x04, 0x03, 0xb5, 0x00, 0x12, 0x2a, 0x02, 0xb5, 0x00, 0x16] : List UInt8)[i]? = some b) : vy_8 cX1_begin (20 + i) b := vy_in (n := 10) (by decide +kernel) h
theorem vyb_cX1_begin_3 {i : Nat} {b : UInt8} (h : ([0xb1] : List UInt8)[i]? = some b) : vy_8 cX1_begin (30 + i) b := vy_in (n := 1) (by decide +kernel) h
theorem dX1_begin_0 : decode cX1_begin 0 = Except.ok (Instr.aload_n 0, 1) := vyd_42 (vyb_cX1_begin_0 (i := 0) rfl)
theorem dX1_begin_1 : decode cX1_begin 1 = Except.ok (Instr.iconst 1, 1) := vyd_4 (vyb_cX1_begin_0 (i := 1) rfl)
theorem dX1_begin_2 : decode cX1_begin 2 = Except.ok (Instr.putfield 9, 3) := vyd_181 (vyb_cX1_begin_0 (i := 2) rfl) (vyb_cX1_begin_0 (i := 3) rfl) (vyb_cX1_begin_0 (i := 4) rfl) rfl
theorem dX1_begin_5 : decode cX1_begin 5 = Except.ok (Instr.aload_n 0, 1) := vyd_42 (vyb_cX1_begin_0 (i := 5) rfl)
theorem dX1_begin_6 : decode cX1_begin 6 = Except.ok (Instr.iload_n 1, 1) := vyd_27 (vyb_cX1_begin_0 (i := 6) rfl)
theorem dX1_begin_7 : decode cX1_begin 7 = Except.ok (Instr.putfield 15, 3) := vyd_181 (vyb_cX1_begin_0 (i := 7) rfl) (vyb_cX1_begin_0 (i := 8) rfl) (vyb_cX1_begin_0 (i := 9) rfl) rfl
theorem dX1_begin_10 : decode cX1_begin 10 = Except.ok (Instr.aload_n 0, 1) := vyd_42 (vyb_cX1_begin_1 (i := 0) rfl)
theorem dX1_begin_11 : decode cX1_begin 11 = Except.ok (Instr.iload_n 1, 1) := vyd_27 (vyb_cX1_begin_1 (i := 1) rfl)
theorem dX1_begin_12 : decode cX1_begin 12 = Except.ok (Instr.ifCond .eq 9, 3) := vyd_153 (vyb_cX1_begin_1 (i := 2) rfl) (vyb_cX1_begin_1 (i := 3) rfl) (vyb_cX1_begin_1 (i := 4) rfl) (by decide +kernel)
theorem dX1_begin_15 : decode cX1_begin 15 = Except.ok (Instr.iload_n 2, 1) := vyd_28 (vyb_cX1_begin_1 (i := 5) rfl)
theorem dX1_begin_16 : decode cX1_begin 16 = Except.ok (Instr.iconst 1, 1) := vyd_4 (vyb_cX1_begin_1 (i := 6) rfl)
theorem dX1_begin_17 : decode cX1_begin 17 = Except.ok (Instr.isub, 1) := vyd_100 (vyb_cX1_begin_1 (i := 7) rfl)
theorem dX1_begin_18 : decode cX1_begin 18 = Except.ok (Instr.goto 4, 3) := vyd_167 (vyb_cX1_begin_1 (i := 8) rfl) (vyb_cX1_begin_1 (i := 9) rfl) (vyb_cX1_begin_2 (i := 0) rfl) (by decide +kernel)
theorem dX1_begin_21 : decode cX1_begin 21 = Except.ok (Instr.iconst 0, 1) := vyd_3 (vyb_cX1_begin_2 (i := 1) rfl)
theorem dX1_begin_22 : decode cX1_begin 22 = Except.ok (Instr.putfield 18, 3) := vyd_181 (vyb_cX1_begin_2 (i := 2) rfl) (vyb_cX1_begin_2 (i := 3) rfl) (vyb_cX1_begin_2 (i := 4) rfl) rfl
theorem dX1_begin_25 : decode cX1_begin 25 = Except.ok (Instr.aload_n 0, 1) := vyd_42 (vyb_cX1_begin_2 (i := 5) rfl)
theorem dX1_begin_26 : decode cX1_begin 26 = Except.ok (Instr.iconst (-1), 1) := vyd_2 (vyb_cX1_begin_2 (i := 6) rfl)
theorem dX1_begin_27 : decode cX1_begin 27 = Except.ok (Instr.putfield 22, 3) := vyd_181 (vyb_cX1_begin_2 (i := 7) rfl) (vyb_cX1_begin_2 (i := 8) rfl) (vyb_cX1_begin_2 (i := 9) rfl) rfl
theorem dX1_begin_30 : decode cX1_begin 30 = Except.ok (Instr.return_, 1) := vyd_177 (vyb_cX1_begin_3 (i := 0) rfl)
theorem vyb_cX1_end_0 {i : Nat} {b : UInt8} (h : ([0x2a, 0x03, 0xb5, 0x00, 0x09, 0x2a, 0x02, 0xb5, 0x00, 0x16] : List UInt8)[i]? = some b) : vy_8 cX1_end (0 + i) b := vy_in (n := 10) (by decide +kernel) h
theorem vyb_cX1_end_1 {i : Nat} {b : UInt8} (h : ([0xb1] : List UInt8)[i]? = some b) : vy_8 cX1_end (10 + i) b := vy_in (n := 1) (by decide +kernel) h
theorem dX1_end_0 : decode cX1_end 0 = Except.ok (Instr.aload_n 0, 1) := vyd_42 (vyb_cX1_end_0 (i := 0) rfl)
theorem dX1_end_1 : decode cX1_end 1 = Except.ok (Instr.iconst 0, 1) := vyd_3 (vyb_cX1_end_0 (i := 1) rfl)
theorem dX1_end_2 : decode cX1_end 2 = Except.ok (Instr.putfield 9, 3) := vyd_181 (vyb_cX1_end_0 (i := 2) rfl) (vyb_cX1_end_0 (i := 3) rfl) (vyb_cX1_end_0 (i := 4) rfl) rfl
theorem dX1_end_5 : decode cX1_end 5 = Except.ok (Instr.aload_n 0, 1) := vyd_42 (vyb_cX1_end_0 (i := 5) rfl)
theorem dX1_end_6 : decode cX1_end 6 = Except.ok (Instr.iconst (-1), 1) := vyd_2 (vyb_cX1_end_0 (i := 6) rfl)
theorem dX1_end_7 : decode cX1_end 7 = Except.ok (Instr.putfield 22, 3) := vyd_181 (vyb_cX1_end_0 (i := 7) rfl) (vyb_cX1_end_0 (i := 8) rfl) (vyb_cX1_end_0 (i := 9) rfl) rfl
theorem dX1_end_10 : decode cX1_end 10 = Except.ok (Instr.return_, 1) := vyd_177 (vyb_cX1_end_1 (i := 0) rfl)
theorem vyb_cX1_hasNext_0 {i : Nat} {b : UInt8} (h : ([0x2a, 0xb4, 0x00, 0x09, 0x99, 0x00, 0x16, 0x2a, 0xb4, 0x00] : List UInt8)[i]? = some b) : vy_8 cX1_hasNext (0 + i) b := vy_in (n := 10) (by decide +kernel) h
theorem vyb_cX1_hasNext_1 {i : Nat} {b : UInt8} (h : ([0x12, 0x9b, 0x00, 0x0f, 0x2a, 0xb4, 0x00, 0x12, 0x1b, 0xa2] : List UInt8)[i]? = some b) : vy_8 cX1_hasNext (10 + i) b := vy_in (n := 10) (by decide +kernel) h
theorem vyb_cX1_hasNext_2 {i : Nat} {b : UInt8} (h : ([0x00, 0x07, 0x04, 0xa7, 0x00, 0x04, 0x03, 0xac] : List UInt8)[i]? = some b) : vy_8 cX1_hasNext (20 + i) b := vy_in (n := 8) (by decide +kernel) h
theorem dX1_hasNext_0 : decode cX1_hasNext 0 = Except.ok (Instr.aload_n 0, 1) := vyd_42 (vyb_cX1_hasNext_0 (i := 0) rfl)
theorem dX1_hasNext_1 : decode cX1_hasNext 1 = Except.ok (Instr.getfield 9, 3) := vyd_180 (vyb_cX1_hasNext_0 (i := 1) rfl) (vyb_cX1_hasNext_0 (i := 2) rfl) (vyb_cX1_hasNext_0 (i := 3) rfl) rfl
theorem dX1_hasNext_4 : decode cX1_hasNext 4 = Except.ok (Instr.ifCond .eq 22, 3) := vyd_153 (vyb_cX1_hasNext_0 (i := 4) rfl) (vyb_cX1_hasNext_0 (i := 5) rfl) (vyb_cX1_hasNext_0 (i := 6) rfl) (by decide +kernel)
theorem dX1_hasNext_7 : decode cX1_hasNext 7 = Except.ok (Instr.aload_n 0, 1) := vyd_42 (vyb_cX1_hasNext_0 (i := 7) rfl)
theorem dX1_hasNext_8 : decode cX1_hasNext 8 = Except.ok (Instr.getfield 18, 3) := vyd_180 (vyb_cX1_hasNext_0 (i := 8) rfl) (vyb_cX1_hasNext_0 (i := 9) rfl) (vyb_cX1_hasNext_1 (i := 0) rfl) rfl
theorem dX1_hasNext_11 : decode cX1_hasNext 11 = Except.ok (Instr.ifCond .lt 15, 3) := vyd_155 (vyb_cX1_hasNext_1 (i := 1) rfl) (vyb_cX1_hasNext_1 (i := 2) rfl) (vyb_cX1_hasNext_1 (i := 3) rfl) (by decide +kernel)
theorem dX1_hasNext_14 : decode cX1_hasNext 14 = Except.ok (Instr.aload_n 0, 1) := vyd_42 (vyb_cX1_hasNext_1 (i := 4) rfl)
theorem dX1_hasNext_15 : decode cX1_hasNext 15 = Except.ok (Instr.getfield 18, 3) := vyd_180 (vyb_cX1_hasNext_1 (i := 5) rfl) (vyb_cX1_hasNext_1 (i := 6) rfl) (vyb_cX1_hasNext_1 (i := 7) rfl) rfl
theorem dX1_hasNext_18 : decode cX1_hasNext 18 = Except.ok (Instr.iload_n 1, 1) := vyd_27 (vyb_cX1_hasNext_1 (i := 8) rfl)
theorem dX1_hasNext_19 : decode cX1_hasNext 19 = Except.ok (Instr.if_icmp .ge 7, 3) := vyd_162 (vyb_cX1_hasNext_1 (i := 9) rfl) (vyb_cX1_hasNext_2 (i := 0) rfl) (vyb_cX1_hasNext_2 (i := 1) rfl) (by decide +kernel)
theorem dX1_hasNext_22 : decode cX1_hasNext 22 = Except.ok (Instr.iconst 1, 1) := vyd_4 (vyb_cX1_hasNext_2 (i := 2) rfl)
theorem dX1_hasNext_23 : decode cX1_hasNext 23 = Except.ok (Instr.goto 4, 3) := vyd_167 (vyb_cX1_hasNext_2 (i := 3) rfl) (vyb_cX1_hasNext_2 (i := 4) rfl) (vyb_cX1_hasNext_2 (i := 5) rfl) (by decide +kernel)
theorem dX1_hasNext_26 : decode cX1_hasNext 26 = Except.ok (Instr.iconst 0, 1) := vyd_3 (vyb_cX1_hasNext_2 (i := 6) rfl)
theorem dX1_hasNext_27 : decode cX1_hasNext 27 = Except.ok (Instr.ireturn, 1) := vyd_172 (vyb_cX1_hasNext_2 (i := 7) rfl)
theorem vyb_cX1_goOn_0 {i : Nat} {b : UInt8} (h : ([0x2a, 0x2a, 0xb4, 0x00, 0x12, 0xb5, 0x00, 0x16, 0x2a, 0x59] : List UInt8)[i]? = some b) : vy_8 cX1_goOn (0 + i) b := vy_in (n := 10) (by decide +kernel) h
theorem vyb_cX1_goOn_1 {i : Nat} {b : UInt8} (h : ([0xb4, 0x00, 0x12, 0x2a, 0xb4, 0x00, 0x0f, 0x99, 0x00, 0x07] : List UInt8)[i]? = some b) : vy_8 cX1_goOn (10 + i) b := vy_in (n := 10) (by decide +kernel) h
theorem vyb_cX1_goOn_2 {i : Nat} {b : UInt8} (h : ([0x02, 0xa7, 0x00, 0x04, 0x04, 0x60, 0xb5, 0x00, 0x12, 0xb1] : List UInt8)[i]? = some b) : vy_8 cX1_goOn (20 + i) b := vy_in (n := 10) (by decide +kernel) h
theorem dX1_goOn_0 : decode cX1_goOn 0 = Except.ok (Instr.aload_n 0, 1) := vyd_42 (vyb_cX1_goOn_0 (i := 0) rfl)
theorem dX1_goOn_1 : decode cX1_goOn 1 = Except.ok (Instr.aload_n 0, 1) := vyd_42 (vyb_cX1_goOn_0 (i := 1) rfl)
theorem dX1_goOn_2 : decode cX1_goOn 2 = Except.ok (Instr.getfield 18, 3) := vyd_180 (vyb_cX1_goOn_0 (i := 2) rfl) (vyb_cX1_goOn_0 (i := 3) rfl) (vyb_cX1_goOn_0 (i := 4) rfl) rfl
theorem dX1_goOn_5 : decode cX1_goOn 5 = Except.ok (Instr.putfield 22, 3) := vyd_181 (vyb_cX1_goOn_0 (i := 5) rfl) (vyb_cX1_goOn_0 (i := 6) rfl) (vyb_cX1_goOn_0 (i := 7) rfl) rfl
theorem dX1_goOn_8 : decode cX1_goOn 8 = Except.ok (Instr.aload_n 0, 1) := vyd_42 (vyb_cX1_goOn_0 (i := 8) rfl)
theorem dX1_goOn_9 : decode cX1_goOn 9 = Except.ok (Instr.dup, 1) := vyd_89 (vyb_cX1_goOn_0 (i := 9) rfl)
theorem dX1_goOn_10 : decode cX1_goOn 10 = Except.ok (Instr.getfield 18, 3) := vyd_180 (vyb_cX1_goOn_1 (i := 0) rfl) (vyb_cX1_goOn_1 (i := 1) rfl) (vyb_cX1_goOn_1 (i := 2) rfl) rfl
theorem dX1_goOn_13 : decode cX1_goOn 13 = Except.ok (Instr.aload_n 0, 1) := vyd_42 (vyb_cX1_goOn_1 (i := 3) rfl)
theorem dX1_goOn_14 : decode cX1_goOn 14 = Except.ok (Instr.getfield 15, 3) := vyd_180 (vyb_cX1_goOn_1 (i := 4) rfl) (vyb_cX1_goOn_1 (i := 5) rfl) (vyb_cX1_goOn_1 (i := 6) rfl) rfl
theorem dX1_goOn_17 : decode cX1_goOn 17 = Except.ok (Instr.ifCond .eq 7, 3) := vyd_153 (vyb_cX1_goOn_1 (i := 7) rfl) (vyb_cX1_goOn_1 (i := 8) rfl) (vyb_cX1_goOn_1 (i := 9) rfl) (by decide +kernel)
theorem dX1_goOn_20 : decode cX1_goOn 20 = Except.ok (Instr.iconst (-1), 1) := vyd_2 (vyb_cX1_goOn_2 (i := 0) rfl)
theorem dX1_goOn_21 : decode cX1_goOn 21 = Except.ok (Instr.goto 4, 3) := vyd_167 (vyb_cX1_goOn_2 (i := 1) rfl) (vyb_cX1_goOn_2 (i := 2) rfl) (vyb_cX1_goOn_2 (i := 3) rfl) (by decide +kernel)
theorem dX1_goOn_24 : decode cX1_goOn 24 = Except.ok (Instr.iconst 1, 1) := vyd_4 (vyb_cX1_goOn_2 (i := 4) rfl)
theorem dX1_goOn_25 : decode cX1_goOn 25 = Except.ok (Instr.iadd, 1) := vyd_96 (vyb_cX1_goOn_2 (i := 5) rfl)
theorem dX1_goOn_26 : decode cX1_goOn 26 = Except.ok (Instr.putfield 18, 3) := vyd_181 (vyb_cX1_goOn_2 (i := 6) rfl) (vyb_cX1_goOn_2 (i := 7) rfl) (vyb_cX1_goOn_2 (i := 8) rfl) rfl
theorem dX1_goOn_29 : decode cX1_goOn 29 = Except.ok (Instr.return_, 1) := vyd_177 (vyb_cX1_goOn_2 (i := 9) rfl)
theorem vyb_cX1_letGo_0 {i : Nat} {b : UInt8} (h : ([0x2a, 0xb4, 0x00, 0x0f, 0x9a, 0x00, 0x0b, 0x2a, 0x2a, 0xb4] : List UInt8)[i]? = some b) : vy_8 cX1_letGo (0 + i) b := vy_in (n := 10) (by decide +kernel) h
theorem vyb_cX1_letGo_1 {i : Nat} {b : UInt8} (h : ([0x00, 0x16, 0xb5, 0x00, 0x12, 0x2a, 0x02, 0xb5, 0x00, 0x16] : List UInt8)[i]? = some b) : vy_8 cX1_letGo (10 + i) b := vy_in (n := 10) (by decide +kernel) h
theorem vyb_cX1_letGo_2 {i : Nat} {b : UInt8} (h : ([0xb1] : List UInt8)[i]? = some b) : vy_8 cX1_letGo (20 + i) b := vy_in (n := 1) (by decide +kernel) h
theorem dX1_letGo_0 : decode cX1_letGo 0 = Except.ok (Instr.aload_n 0, 1) := vyd_42 (vyb_cX1_letGo_0 (i := 0) rfl)
theorem dX1_letGo_1 : decode cX1_letGo 1 = Except.ok (Instr.getfield 15, 3) := vyd_180 (vyb_cX1_letGo_0 (i := 1) rfl) (vyb_cX1_letGo_0 (i := 2) rfl) (vyb_cX1_letGo_0 (i := 3) rfl) rfl
theorem dX1_letGo_4 : decode cX1_letGo 4 = Except.ok (Instr.ifCond .ne 11, 3) := vyd_154 (vyb_cX1_letGo_0 (i := 4) rfl) (vyb_cX1_letGo_0 (i := 5) rfl) (vyb_cX1_letGo_0 (i := 6) rfl) (by decide +kernel)
theorem dX1_letGo_7 : decode cX1_letGo 7 = Except.ok (Instr.aload_n 0, 1) := vyd_42 (vyb_cX1_letGo_0 (i := 7) rfl)
theorem dX1_letGo_8 : decode cX1_letGo 8 = Except.ok (Instr.aload_n 0, 1) := vyd_42 (vyb_cX1_letGo_0 (i := 8) rfl)
theorem dX1_letGo_9 : decode cX1_letGo 9 = Except.ok (Instr.getfield 22, 3) := vyd_180 (vyb_cX1_letGo_0 (i := 9) rfl) (vyb_cX1_letGo_1 (i := 0) rfl) (vyb_cX1_letGo_1 (i := 1) rfl) rfl
theorem dX1_letGo_12 : decode cX1_letGo 12 = Except.ok (Instr.putfield 18, 3) := vyd_181 (vyb_cX1_letGo_1 (i := 2) rfl) (vyb_cX1_letGo_1 (i := 3) rfl) (vyb_cX1_letGo_1 (i := 4) rfl) rfl
theorem dX1_letGo_15 : decode cX1_letGo 15 = Except.ok (Instr.aload_n 0, 1) := vyd_42 (vyb_cX1_letGo_1 (i := 5) rfl)
theorem dX1_letGo_16 : decode cX1_letGo 16 = Except.ok (Instr.iconst (-1), 1) := vyd_2 (vyb_cX1_letGo_1 (i := 6) rfl)
theorem dX1_letGo_17 : decode cX1_letGo 17 = Except.ok (Instr.putfield 22, 3) := vyd_181 (vyb_cX1_letGo_1 (i := 7) rfl) (vyb_cX1_letGo_1 (i := 8) rfl) (vyb_cX1_letGo_1 (i := 9) rfl) rfl
theorem dX1_letGo_20 : decode cX1_letGo 20 = Except.ok (Instr.return_, 1) := vyd_177 (vyb_cX1_letGo_2 (i := 0) rfl)
theorem vyb_cX2_init_0 {i : Nat} {b : UInt8} (h : ([0x2a, 0xb7, 0x00, 0x03, 0x2a, 0x03, 0xb5, 0x00, 0x09, 0x2a] : List UInt8)[i]? = some b) : vy_8 cX2_init (0 + i) b := vy_in (n := 10) (by decide +kernel) h
theorem vyb_cX2_init_1 {i : Nat} {b : UInt8} (h : ([0x03, 0xb5, 0x00, 0x0f, 0x2a, 0x02, 0xb5, 0x00, 0x12, 0xb1] : List UInt8)[i]? = some b) : vy_8 cX2_init (10 + i) b := vy_in (n := 10) (by decide +kernel) h
theorem dX2_init_0 : decode cX2_init 0 = Except.ok (Instr.aload_n 0, 1) := vyd_42 (vyb_cX2_init_0 (i := 0) rfl)
theorem dX2_init_1 : decode cX2_init 1 = Except.ok (Instr.invokespecial 3, 3) := vyd_183 (vyb_cX2_init_0 (i := 1) rfl) (vyb_cX2_init_0 (i := 2) rfl) (vyb_cX2_init_0 (i := 3) rfl) rfl
theorem dX2_init_4 : decode cX2_init 4 = Except.ok (Instr.aload_n 0, 1) := vyd_42 (vyb_cX2_init_0 (i := 4) rfl)
theorem dX2_init_5 : decode cX2_init 5 = Except.ok (Instr.iconst 0, 1) := vyd_3 (vyb_cX2_init_0 (i := 5) rfl)
theorem dX2_init_6 : decode cX2_init 6 = Except.ok (Instr.putfield 9, 3) := vyd_181 (vyb_cX2_init_0 (i := 6) rfl) (vyb_cX2_init_0 (i := 7) rfl) (vyb_cX2_init_0 (i := 8) rfl) rfl
theorem dX2_init_9 : decode cX2_init 9 = Except.ok (Instr.aload_n 0, 1) := vyd_42 (vyb_cX2_init_0 (i := 9) rfl)
theorem dX2_init_10 : decode cX2_init 10 = Except.ok (Instr.iconst 0, 1) := vyd_3 (vyb_cX2_init_1 (i := 0) rfl)
theorem dX2_init_11 : decode cX2_init 11 = Except.ok (Instr.putfield 15, 3) := vyd_181 (vyb_cX2_init_1 (i := 1) rfl) (vyb_cX2_init_1 (i := 2) rfl) (vyb_cX2_init_1 (i := 3) rfl) rfl
theorem dX2_init_14 : decode cX2_init 14 = Except.ok (Instr.aload_n 0, 1) := vyd_42 (vyb_cX2_init_1 (i := 4) rfl)
theorem dX2_init_15 : decode cX2_init 15 = Except.ok (Instr.iconst (-1), 1) := vyd_2 (vyb_cX2_init_1 (i := 5) rfl)
theorem dX2_init_16 : decode cX2_init 16 = Except.ok (Instr.putfield 18, 3) := vyd_181 (vyb_cX2_init_1 (i := 6) rfl) (vyb_cX2_init_1 (i := 7) rfl) (vyb_cX2_init_1 (i := 8) rfl) rfl
theorem dX2_init_19 : decode cX2_init 19 = Except.ok (Instr.return_, 1) := vyd_177 (vyb_cX2_init_1 (i := 9) rfl)
theorem vyb_cX2_standAt_0 {i : Nat} {b : UInt8} (h : ([0x2a, 0x04, 0xb5, 0x00, 0x09, 0x2a, 0x1b, 0xb5, 0x00, 0x0f] : List UInt8)[i]? = some b) : vy_8 cX2_standAt (0 + i) b := vy_in (n := 10) (by decide +kernel) h
theorem vyb_cX2_standAt_1 {i : Nat} {b : UInt8} (h : ([0x2a, 0x02, 0xb5, 0x00, 0x12, 0xb1] : List UInt8)[i]? = some b) : vy_8 cX2_standAt (10 + i) b := vy_in (n := 6) (by decide +kernel) h
theorem dX2_standAt_0 : decode cX2_standAt 0 = Except.ok (Instr.aload_n 0, 1) := vyd_42 (vyb_cX2_standAt_0 (i := 0) rfl)
theorem dX2_standAt_1 : decode cX2_standAt 1 = Except.ok (Instr.iconst 1, 1) := vyd_4 (vyb_cX2_standAt_0 (i := 1) rfl)
theorem dX2_standAt_2 : decode cX2_standAt 2 = Except.ok (Instr.putfield 9, 3) := vyd_181 (vyb_cX2_standAt_0 (i := 2) rfl) (vyb_cX2_standAt_0 (i := 3) rfl) (vyb_cX2_standAt_0 (i := 4) rfl) rfl
theorem dX2_standAt_5 : decode cX2_standAt 5 = Except.ok (Instr.aload_n 0, 1) := vyd_42 (vyb_cX2_standAt_0 (i := 5) rfl)
theorem dX2_standAt_6 : decode cX2_standAt 6 = Except.ok (Instr.iload_n 1, 1) := vyd_27 (vyb_cX2_standAt_0 (i := 6) rfl)
theorem dX2_standAt_7 : decode cX2_standAt 7 = Except.ok (Instr.putfield 15, 3) := vyd_181 (vyb_cX2_standAt_0 (i := 7) rfl) (vyb_cX2_standAt_0 (i := 8) rfl) (vyb_cX2_standAt_0 (i := 9) rfl) rfl
theorem dX2_standAt_10 : decode cX2_standAt 10 = Except.ok (Instr.aload_n 0, 1) := vyd_42 (vyb_cX2_standAt_1 (i := 0) rfl)
theorem dX2_standAt_11 : decode cX2_standAt 11 = Except.ok (Instr.iconst (-1), 1) := vyd_2 (vyb_cX2_standAt_1 (i := 1) rfl)
theorem dX2_standAt_12 : decode cX2_standAt 12 = Except.ok (Instr.putfield 18, 3) := vyd_181 (vyb_cX2_standAt_1 (i := 2) rfl) (vyb_cX2_standAt_1 (i := 3) rfl) (vyb_cX2_standAt_1 (i := 4) rfl) rfl
theorem dX2_standAt_15 : decode cX2_standAt 15 = Except.ok (Instr.return_, 1) := vyd_177 (vyb_cX2_standAt_1 (i := 5) rfl)
theorem vyb_cX2_growStale_0 {i : Nat} {b : UInt8} (h : ([0x2a, 0xb4, 0x00, 0x09, 0x99, 0x00, 0x08, 0x2a, 0x05, 0xb5] : List UInt8)[i]? = some b) : vy_8 cX2_growStale (0 + i) b := vy_in (n := 10) (by decide +kernel) h
theorem vyb_cX2_growStale_1 {i : Nat} {b : UInt8} (h : ([0x00, 0x09, 0xb1] : List UInt8)[i]? = some b) : vy_8 cX2_growStale (10 + i) b := vy_in (n := 3) (by decide +kernel) h
theorem dX2_growStale_0 : decode cX2_growStale 0 = Except.ok (Instr.aload_n 0, 1) := vyd_42 (vyb_cX2_growStale_0 (i := 0) rfl)
theorem dX2_growStale_1 : decode cX2_growStale 1 = Except.ok (Instr.getfield 9, 3) := vyd_180 (vyb_cX2_growStale_0 (i := 1) rfl) (vyb_cX2_growStale_0 (i := 2) rfl) (vyb_cX2_growStale_0 (i := 3) rfl) rfl
theorem dX2_growStale_4 : decode cX2_growStale 4 = Except.ok (Instr.ifCond .eq 8, 3) := vyd_153 (vyb_cX2_growStale_0 (i := 4) rfl) (vyb_cX2_growStale_0 (i := 5) rfl) (vyb_cX2_growStale_0 (i := 6) rfl) (by decide +kernel)
theorem dX2_growStale_7 : decode cX2_growStale 7 = Except.ok (Instr.aload_n 0, 1) := vyd_42 (vyb_cX2_growStale_0 (i := 7) rfl)
theorem dX2_growStale_8 : decode cX2_growStale 8 = Except.ok (Instr.iconst 2, 1) := vyd_5 (vyb_cX2_growStale_0 (i := 8) rfl)
theorem dX2_growStale_9 : decode cX2_growStale 9 = Except.ok (Instr.putfield 9, 3) := vyd_181 (vyb_cX2_growStale_0 (i := 9) rfl) (vyb_cX2_growStale_1 (i := 0) rfl) (vyb_cX2_growStale_1 (i := 1) rfl) rfl
theorem dX2_growStale_12 : decode cX2_growStale 12 = Except.ok (Instr.return_, 1) := vyd_177 (vyb_cX2_growStale_1 (i := 2) rfl)
theorem vyb_cX2_isFresh_0 {i : Nat} {b : UInt8} (h : ([0x2a, 0xb4, 0x00, 0x09, 0x04, 0xa0, 0x00, 0x07, 0x04, 0xa7] : List UInt8)[i]? = some b) : vy_8 cX2_isFresh (0 + i) b := vy_in (n := 10) (by decide +kernel) h
theorem vyb_cX2_isFresh_1 {i : Nat} {b : UInt8} (h : ([0x00, 0x04, 0x03, 0xac] : List UInt8)[i]? = some b) : vy_8 cX2_isFresh (10 + i) b := vy_in (n := 4) (by decide +kernel) h
theorem dX2_isFresh_0 : decode cX2_isFresh 0 = Except.ok (Instr.aload_n 0, 1) := vyd_42 (vyb_cX2_isFresh_0 (i := 0) rfl)
theorem dX2_isFresh_1 : decode cX2_isFresh 1 = Except.ok (Instr.getfield 9, 3) := vyd_180 (vyb_cX2_isFresh_0 (i := 1) rfl) (vyb_cX2_isFresh_0 (i := 2) rfl) (vyb_cX2_isFresh_0 (i := 3) rfl) rfl
theorem dX2_isFresh_4 : decode cX2_isFresh 4 = Except.ok (Instr.iconst 1, 1) := vyd_4 (vyb_cX2_isFresh_0 (i := 4) rfl)
theorem dX2_isFresh_5 : decode cX2_isFresh 5 = Except.ok (Instr.if_icmp .ne 7, 3) := vyd_160 (vyb_cX2_isFresh_0 (i := 5) rfl) (vyb_cX2_isFresh_0 (i := 6) rfl) (vyb_cX2_isFresh_0 (i := 7) rfl) (by decide +kernel)
theorem dX2_isFresh_8 : decode cX2_isFresh 8 = Except.ok (Instr.iconst 1, 1) := vyd_4 (vyb_cX2_isFresh_0 (i := 8) rfl)
theorem dX2_isFresh_9 : decode cX2_isFresh 9 = Except.ok (Instr.goto 4, 3) := vyd_167 (vyb_cX2_isFresh_0 (i := 9) rfl) (vyb_cX2_isFresh_1 (i := 0) rfl) (vyb_cX2_isFresh_1 (i := 1) rfl) (by decide +kernel)
theorem dX2_isFresh_12 : decode cX2_isFresh 12 = Except.ok (Instr.iconst 0, 1) := vyd_3 (vyb_cX2_isFresh_1 (i := 2) rfl)
theorem dX2_isFresh_13 : decode cX2_isFresh 13 = Except.ok (Instr.ireturn, 1) := vyd_172 (vyb_cX2_isFresh_1 (i := 3) rfl)
theorem vyb_cX2_holds_0 {i : Nat} {b : UInt8} (h : ([0x2a, 0xb6, 0x00, 0x15, 0x99, 0x00, 0x0f, 0x2a, 0xb4, 0x00] : List UInt8)[i]? = some b) : vy_8 cX2_holds (0 + i) b := vy_in (n := 10) (by decide +kernel) h
theorem vyb_cX2_holds_1 {i : Nat} {b : UInt8} (h : ([0x12, 0x02, 0x9f, 0x00, 0x07, 0x04, 0xa7, 0x00, 0x04, 0x03] : List UInt8)[i]? = some b) : vy_8 cX2_holds (10 + i) b := vy_in (n := 10) (by decide +kernel) h
theorem vyb_cX2_holds_2 {i : Nat} {b : UInt8} (h : ([0xac] : List UInt8)[i]? = some b) : vy_8 cX2_holds (20 + i) b := vy_in (n := 1) (by decide +kernel) h
theorem dX2_holds_0 : decode cX2_holds 0 = Except.ok (Instr.aload_n 0, 1) := vyd_42 (vyb_cX2_holds_0 (i := 0) rfl)
theorem dX2_holds_1 : decode cX2_holds 1 = Except.ok (Instr.invokevirtual 21, 3) := vyd_182 (vyb_cX2_holds_0 (i := 1) rfl) (vyb_cX2_holds_0 (i := 2) rfl) (vyb_cX2_holds_0 (i := 3) rfl) rfl
theorem dX2_holds_4 : decode cX2_holds 4 = Except.ok (Instr.ifCond .eq 15, 3) := vyd_153 (vyb_cX2_holds_0 (i := 4) rfl) (vyb_cX2_holds_0 (i := 5) rfl) (vyb_cX2_holds_0 (i := 6) rfl) (by decide +kernel)
theorem dX2_holds_7 : decode cX2_holds 7 = Except.ok (Instr.aload_n 0, 1) := vyd_42 (vyb_cX2_holds_0 (i := 7) rfl)
theorem dX2_holds_8 : decode cX2_holds 8 = Except.ok (Instr.getfield 18, 3) := vyd_180 (vyb_cX2_holds_0 (i := 8) rfl) (vyb_cX2_holds_0 (i := 9) rfl) (vyb_cX2_holds_1 (i := 0) rfl) rfl
theorem dX2_holds_11 : decode cX2_holds 11 = Except.ok (Instr.iconst (-1), 1) := vyd_2 (vyb_cX2_holds_1 (i := 1) rfl)
theorem dX2_holds_12 : decode cX2_holds 12 = Except.ok (Instr.if_icmp .eq 7, 3) := vyd_159 (vyb_cX2_holds_1 (i := 2) rfl) (vyb_cX2_holds_1 (i := 3) rfl) (vyb_cX2_holds_1 (i := 4) rfl) (by decide +kernel)
theorem dX2_holds_15 : decode cX2_holds 15 = Except.ok (Instr.iconst 1, 1) := vyd_4 (vyb_cX2_holds_1 (i := 5) rfl)
theorem dX2_holds_16 : decode cX2_holds 16 = Except.ok (Instr.goto 4, 3) := vyd_167 (vyb_cX2_holds_1 (i := 6) rfl) (vyb_cX2_holds_1 (i := 7) rfl) (vyb_cX2_holds_1 (i := 8) rfl) (by decide +kernel)
theorem dX2_holds_19 : decode cX2_holds 19 = Except.ok (Instr.iconst 0, 1) := vyd_3 (vyb_cX2_holds_1 (i := 9) rfl)
theorem dX2_holds_20 : decode cX2_holds 20 = Except.ok (Instr.ireturn, 1) := vyd_172 (vyb_cX2_holds_2 (i := 0) rfl)
theorem vyb_cX2_goForth_0 {i : Nat} {b : UInt8} (h : ([0x2a, 0x2a, 0xb4, 0x00, 0x0f, 0xb5, 0x00, 0x12, 0x2a, 0x59] : List UInt8)[i]? = some b) : vy_8 cX2_goForth (0 + i) b := vy_in (n := 10) (by decide +kernel) h
theorem vyb_cX2_goForth_1 {i : Nat} {b : UInt8} (h : ([0xb4, 0x00, 0x0f, 0x04, 0x60, 0xb5, 0x00, 0x0f, 0xb1] : List UInt8)[i]? = some b) : vy_8 cX2_goForth (10 + i) b := vy_in (n := 9) (by decide +kernel) h
theorem dX2_goForth_0 : decode cX2_goForth 0 = Except.ok (Instr.aload_n 0, 1) := vyd_42 (vyb_cX2_goForth_0 (i := 0) rfl)
theorem dX2_goForth_1 : decode cX2_goForth 1 = Except.ok (Instr.aload_n 0, 1) := vyd_42 (vyb_cX2_goForth_0 (i := 1) rfl)
theorem dX2_goForth_2 : decode cX2_goForth 2 = Except.ok (Instr.getfield 15, 3) := vyd_180 (vyb_cX2_goForth_0 (i := 2) rfl) (vyb_cX2_goForth_0 (i := 3) rfl) (vyb_cX2_goForth_0 (i := 4) rfl) rfl
theorem dX2_goForth_5 : decode cX2_goForth 5 = Except.ok (Instr.putfield 18, 3) := vyd_181 (vyb_cX2_goForth_0 (i := 5) rfl) (vyb_cX2_goForth_0 (i := 6) rfl) (vyb_cX2_goForth_0 (i := 7) rfl) rfl
theorem dX2_goForth_8 : decode cX2_goForth 8 = Except.ok (Instr.aload_n 0, 1) := vyd_42 (vyb_cX2_goForth_0 (i := 8) rfl)
theorem dX2_goForth_9 : decode cX2_goForth 9 = Except.ok (Instr.dup, 1) := vyd_89 (vyb_cX2_goForth_0 (i := 9) rfl)
theorem dX2_goForth_10 : decode cX2_goForth 10 = Except.ok (Instr.getfield 15, 3) := vyd_180 (vyb_cX2_goForth_1 (i := 0) rfl) (vyb_cX2_goForth_1 (i := 1) rfl) (vyb_cX2_goForth_1 (i := 2) rfl) rfl
theorem dX2_goForth_13 : decode cX2_goForth 13 = Except.ok (Instr.iconst 1, 1) := vyd_4 (vyb_cX2_goForth_1 (i := 3) rfl)
theorem dX2_goForth_14 : decode cX2_goForth 14 = Except.ok (Instr.iadd, 1) := vyd_96 (vyb_cX2_goForth_1 (i := 4) rfl)
theorem dX2_goForth_15 : decode cX2_goForth 15 = Except.ok (Instr.putfield 15, 3) := vyd_181 (vyb_cX2_goForth_1 (i := 5) rfl) (vyb_cX2_goForth_1 (i := 6) rfl) (vyb_cX2_goForth_1 (i := 7) rfl) rfl
theorem dX2_goForth_18 : decode cX2_goForth 18 = Except.ok (Instr.return_, 1) := vyd_177 (vyb_cX2_goForth_1 (i := 8) rfl)
theorem vyb_cX2_goBack_0 {i : Nat} {b : UInt8} (h : ([0x2a, 0x59, 0xb4, 0x00, 0x0f, 0x04, 0x64, 0xb5, 0x00, 0x0f] : List UInt8)[i]? = some b) : vy_8 cX2_goBack (0 + i) b := vy_in (n := 10) (by decide +kernel) h
theorem vyb_cX2_goBack_1 {i : Nat} {b : UInt8} (h : ([0x2a, 0x2a, 0xb4, 0x00, 0x0f, 0xb5, 0x00, 0x12, 0xb1] : List UInt8)[i]? = some b) : vy_8 cX2_goBack (10 + i) b := vy_in (n := 9) (by decide +kernel) h
theorem dX2_goBack_0 : decode cX2_goBack 0 = Except.ok (Instr.aload_n 0, 1) := vyd_42 (vyb_cX2_goBack_0 (i := 0) rfl)
theorem dX2_goBack_1 : decode cX2_goBack 1 = Except.ok (Instr.dup, 1) := vyd_89 (vyb_cX2_goBack_0 (i := 1) rfl)
theorem dX2_goBack_2 : decode cX2_goBack 2 = Except.ok (Instr.getfield 15, 3) := vyd_180 (vyb_cX2_goBack_0 (i := 2) rfl) (vyb_cX2_goBack_0 (i := 3) rfl) (vyb_cX2_goBack_0 (i := 4) rfl) rfl
theorem dX2_goBack_5 : decode cX2_goBack 5 = Except.ok (Instr.iconst 1, 1) := vyd_4 (vyb_cX2_goBack_0 (i := 5) rfl)
theorem dX2_goBack_6 : decode cX2_goBack 6 = Except.ok (Instr.isub, 1) := vyd_100 (vyb_cX2_goBack_0 (i := 6) rfl)
theorem dX2_goBack_7 : decode cX2_goBack 7 = Except.ok (Instr.putfield 15, 3) := vyd_181 (vyb_cX2_goBack_0 (i := 7) rfl) (vyb_cX2_goBack_0 (i := 8) rfl) (vyb_cX2_goBack_0 (i := 9) rfl) rfl
theorem dX2_goBack_10 : decode cX2_goBack 10 = Except.ok (Instr.aload_n 0, 1) := vyd_42 (vyb_cX2_goBack_1 (i := 0) rfl)
theorem dX2_goBack_11 : decode cX2_goBack 11 = Except.ok (Instr.aload_n 0, 1) := vyd_42 (vyb_cX2_goBack_1 (i := 1) rfl)
theorem dX2_goBack_12 : decode cX2_goBack 12 = Except.ok (Instr.getfield 15, 3) := vyd_180 (vyb_cX2_goBack_1 (i := 2) rfl) (vyb_cX2_goBack_1 (i := 3) rfl) (vyb_cX2_goBack_1 (i := 4) rfl) rfl
theorem dX2_goBack_15 : decode cX2_goBack 15 = Except.ok (Instr.putfield 18, 3) := vyd_181 (vyb_cX2_goBack_1 (i := 5) rfl) (vyb_cX2_goBack_1 (i := 6) rfl) (vyb_cX2_goBack_1 (i := 7) rfl) rfl
theorem dX2_goBack_18 : decode cX2_goBack 18 = Except.ok (Instr.return_, 1) := vyd_177 (vyb_cX2_goBack_1 (i := 8) rfl)
theorem vyb_cX2_loseHeld_0 {i : Nat} {b : UInt8} (h : ([0x2a, 0xb4, 0x00, 0x12, 0x2a, 0xb4, 0x00, 0x0f, 0xa2, 0x00] : List UInt8)[i]? = some b) : vy_8 cX2_loseHeld (0 + i) b := vy_in (n := 10) (by decide +kernel) h
theorem vyb_cX2_loseHeld_1 {i : Nat} {b : UInt8} (h : ([0x0d, 0x2a, 0x59, 0xb4, 0x00, 0x0f, 0x04, 0x64, 0xb5, 0x00] : List UInt8)[i]? = some b) : vy_8 cX2_loseHeld (10 + i) b := vy_in (n := 10) (by decide +kernel) h
theorem vyb_cX2_loseHeld_2 {i : Nat} {b : UInt8} (h : ([0x0f, 0x2a, 0x02, 0xb5, 0x00, 0x12, 0xb1] : List UInt8)[i]? = some b) : vy_8 cX2_loseHeld (20 + i) b := vy_in (n := 7) (by decide +kernel) h
theorem dX2_loseHeld_0 : decode cX2_loseHeld 0 = Except.ok (Instr.aload_n 0, 1) := vyd_42 (vyb_cX2_loseHeld_0 (i := 0) rfl)
theorem dX2_loseHeld_1 : decode cX2_loseHeld 1 = Except.ok (Instr.getfield 18, 3) := vyd_180 (vyb_cX2_loseHeld_0 (i := 1) rfl) (vyb_cX2_loseHeld_0 (i := 2) rfl) (vyb_cX2_loseHeld_0 (i := 3) rfl) rfl
theorem dX2_loseHeld_4 : decode cX2_loseHeld 4 = Except.ok (Instr.aload_n 0, 1) := vyd_42 (vyb_cX2_loseHeld_0 (i := 4) rfl)
theorem dX2_loseHeld_5 : decode cX2_loseHeld 5 = Except.ok (Instr.getfield 15, 3) := vyd_180 (vyb_cX2_loseHeld_0 (i := 5) rfl) (vyb_cX2_loseHeld_0 (i := 6) rfl) (vyb_cX2_loseHeld_0 (i := 7) rfl) rfl
theorem dX2_loseHeld_8 : decode cX2_loseHeld 8 = Except.ok (Instr.if_icmp .ge 13, 3) := vyd_162 (vyb_cX2_loseHeld_0 (i := 8) rfl) (vyb_cX2_loseHeld_0 (i := 9) rfl) (vyb_cX2_loseHeld_1 (i := 0) rfl) (by decide +kernel)
theorem dX2_loseHeld_11 : decode cX2_loseHeld 11 = Except.ok (Instr.aload_n 0, 1) := vyd_42 (vyb_cX2_loseHeld_1 (i := 1) rfl)
theorem dX2_loseHeld_12 : decode cX2_loseHeld 12 = Except.ok (Instr.dup, 1) := vyd_89 (vyb_cX2_loseHeld_1 (i := 2) rfl)
theorem dX2_loseHeld_13 : decode cX2_loseHeld 13 = Except.ok (Instr.getfield 15, 3) := vyd_180 (vyb_cX2_loseHeld_1 (i := 3) rfl) (vyb_cX2_loseHeld_1 (i := 4) rfl) (vyb_cX2_loseHeld_1 (i := 5) rfl) rfl
theorem dX2_loseHeld_16 : decode cX2_loseHeld 16 = Except.ok (Instr.iconst 1, 1) := vyd_4 (vyb_cX2_loseHeld_1 (i := 6) rfl)
theorem dX2_loseHeld_17 : decode cX2_loseHeld 17 = Except.ok (Instr.isub, 1) := vyd_100 (vyb_cX2_loseHeld_1 (i := 7) rfl)
theorem dX2_loseHeld_18 : decode cX2_loseHeld 18 = Except.ok (Instr.putfield 15, 3) := vyd_181 (vyb_cX2_loseHeld_1 (i := 8) rfl) (vyb_cX2_loseHeld_1 (i := 9) rfl) (vyb_cX2_loseHeld_2 (i := 0) rfl) rfl
theorem dX2_loseHeld_21 : decode cX2_loseHeld 21 = Except.ok (Instr.aload_n 0, 1) := vyd_42 (vyb_cX2_loseHeld_2 (i := 1) rfl)
theorem dX2_loseHeld_22 : decode cX2_loseHeld 22 = Except.ok (Instr.iconst (-1), 1) := vyd_2 (vyb_cX2_loseHeld_2 (i := 2) rfl)
theorem dX2_loseHeld_23 : decode cX2_loseHeld 23 = Except.ok (Instr.putfield 18, 3) := vyd_181 (vyb_cX2_loseHeld_2 (i := 3) rfl) (vyb_cX2_loseHeld_2 (i := 4) rfl) (vyb_cX2_loseHeld_2 (i := 5) rfl) rfl
theorem dX2_loseHeld_26 : decode cX2_loseHeld 26 = Except.ok (Instr.return_, 1) := vyd_177 (vyb_cX2_loseHeld_2 (i := 6) rfl)
theorem vyb_cX2_passNew_0 {i : Nat} {b : UInt8} (h : ([0x2a, 0x59, 0xb4, 0x00, 0x0f, 0x04, 0x60, 0xb5, 0x00, 0x0f] : List UInt8)[i]? = some b) : vy_8 cX2_passNew (0 + i) b := vy_in (n := 10) (by decide +kernel) h
theorem vyb_cX2_passNew_1 {i : Nat} {b : UInt8} (h : ([0x2a, 0x02, 0xb5, 0x00, 0x12, 0xb1] : List UInt8)[i]? = some b) : vy_8 cX2_passNew (10 + i) b := vy_in (n := 6) (by decide +kernel) h
theorem dX2_passNew_0 : decode cX2_passNew 0 = Except.ok (Instr.aload_n 0, 1) := vyd_42 (vyb_cX2_passNew_0 (i := 0) rfl)
theorem dX2_passNew_1 : decode cX2_passNew 1 = Except.ok (Instr.dup, 1) := vyd_89 (vyb_cX2_passNew_0 (i := 1) rfl)
theorem dX2_passNew_2 : decode cX2_passNew 2 = Except.ok (Instr.getfield 15, 3) := vyd_180 (vyb_cX2_passNew_0 (i := 2) rfl) (vyb_cX2_passNew_0 (i := 3) rfl) (vyb_cX2_passNew_0 (i := 4) rfl) rfl
theorem dX2_passNew_5 : decode cX2_passNew 5 = Except.ok (Instr.iconst 1, 1) := vyd_4 (vyb_cX2_passNew_0 (i := 5) rfl)
theorem dX2_passNew_6 : decode cX2_passNew 6 = Except.ok (Instr.iadd, 1) := vyd_96 (vyb_cX2_passNew_0 (i := 6) rfl)
theorem dX2_passNew_7 : decode cX2_passNew 7 = Except.ok (Instr.putfield 15, 3) := vyd_181 (vyb_cX2_passNew_0 (i := 7) rfl) (vyb_cX2_passNew_0 (i := 8) rfl) (vyb_cX2_passNew_0 (i := 9) rfl) rfl
theorem dX2_passNew_10 : decode cX2_passNew 10 = Except.ok (Instr.aload_n 0, 1) := vyd_42 (vyb_cX2_passNew_1 (i := 0) rfl)
theorem dX2_passNew_11 : decode cX2_passNew 11 = Except.ok (Instr.iconst (-1), 1) := vyd_2 (vyb_cX2_passNew_1 (i := 1) rfl)
theorem dX2_passNew_12 : decode cX2_passNew 12 = Except.ok (Instr.putfield 18, 3) := vyd_181 (vyb_cX2_passNew_1 (i := 2) rfl) (vyb_cX2_passNew_1 (i := 3) rfl) (vyb_cX2_passNew_1 (i := 4) rfl) rfl
theorem dX2_passNew_15 : decode cX2_passNew 15 = Except.ok (Instr.return_, 1) := vyd_177 (vyb_cX2_passNew_1 (i := 5) rfl)
theorem vyb_cX3_init_0 {i : Nat} {b : UInt8} (h : ([0x2a, 0xb7, 0x00, 0x01, 0x2a, 0xbb, 0x00, 0x07, 0x59, 0x10] : List UInt8)[i]? = some b) : vy_8 cX3_init (0 + i) b := vy_in (n := 10) (by decide +kernel) h
theorem vyb_cX3_init_1 {i : Nat} {b : UInt8} (h : ([0x14, 0xb7, 0x00, 0x0b, 0xb5, 0x00, 0x0e, 0x2a, 0xbb, 0x00] : List UInt8)[i]? = some b) : vy_8 cX3_init (10 + i) b := vy_in (n := 10) (by decide +kernel) h
theorem vyb_cX3_init_2 {i : Nat} {b : UInt8} (h : ([0x07, 0x59, 0x10, 0x14, 0xb7, 0x00, 0x0b, 0xb5, 0x00, 0x12] : List UInt8)[i]? = some b) : vy_8 cX3_init (20 + i) b := vy_in (n := 10) (by decide +kernel) h
theorem vyb_cX3_init_3 {i : Nat} {b : UInt8} (h : ([0x2a, 0xbb, 0x00, 0x07, 0x59, 0x10, 0x0c, 0xb7, 0x00, 0x0b] : List UInt8)[i]? = some b) : vy_8 cX3_init (30 + i) b := vy_in (n := 10) (by decide +kernel) h
theorem vyb_cX3_init_4 {i : Nat} {b : UInt8} (h : ([0xb5, 0x00, 0x15, 0x2a, 0xbb, 0x00, 0x07, 0x59, 0x10, 0x0a] : List UInt8)[i]? = some b) : vy_8 cX3_init (40 + i) b := vy_in (n := 10) (by decide +kernel) h
theorem vyb_cX3_init_5 {i : Nat} {b : UInt8} (h : ([0xb7, 0x00, 0x0b, 0xb5, 0x00, 0x18, 0x2a, 0xbb, 0x00, 0x1b] : List UInt8)[i]? = some b) : vy_8 cX3_init (50 + i) b := vy_in (n := 10) (by decide +kernel) h
theorem vyb_cX3_init_6 {i : Nat} {b : UInt8} (h : ([0x59, 0xb7, 0x00, 0x1d, 0xb5, 0x00, 0x1e, 0x2a, 0xbb, 0x00] : List UInt8)[i]? = some b) : vy_8 cX3_init (60 + i) b := vy_in (n := 10) (by decide +kernel) h
theorem vyb_cX3_init_7 {i : Nat} {b : UInt8} (h : ([0x22, 0x59, 0xb7, 0x00, 0x24, 0xb5, 0x00, 0x25, 0x2a, 0xbb] : List UInt8)[i]? = some b) : vy_8 cX3_init (70 + i) b := vy_in (n := 10) (by decide +kernel) h
theorem vyb_cX3_init_8 {i : Nat} {b : UInt8} (h : ([0x00, 0x22, 0x59, 0xb7, 0x00, 0x24, 0xb5, 0x00, 0x29, 0x2a] : List UInt8)[i]? = some b) : vy_8 cX3_init (80 + i) b := vy_in (n := 10) (by decide +kernel) h
theorem vyb_cX3_init_9 {i : Nat} {b : UInt8} (h : ([0x03, 0xb5, 0x00, 0x2c, 0x2a, 0xbb, 0x00, 0x07, 0x59, 0x10] : List UInt8)[i]? = some b) : vy_8 cX3_init (90 + i) b := vy_in (n := 10) (by decide +kernel) h
theorem vyb_cX3_init_10 {i : Nat} {b : UInt8} (h : ([0x14, 0xb7, 0x00, 0x0b, 0xb5, 0x00, 0x30, 0x2a, 0xbb, 0x00] : List UInt8)[i]? = some b) : vy_8 cX3_init (100 + i) b := vy_in (n := 10) (by decide +kernel) h
theorem vyb_cX3_init_11 {i : Nat} {b : UInt8} (h : ([0x07, 0x59, 0x10, 0x14, 0xb7, 0x00, 0x0b, 0xb5, 0x00, 0x33] : List UInt8)[i]? = some b) : vy_8 cX3_init (110 + i) b := vy_in (n := 10) (by decide +kernel) h
theorem vyb_cX3_init_12 {i : Nat} {b : UInt8} (h : ([0x2a, 0xbb, 0x00, 0x07, 0x59, 0x10, 0x14, 0xb7, 0x00, 0x0b] : List UInt8)[i]? = some b) : vy_8 cX3_init (120 + i) b := vy_in (n := 10) (by decide +kernel) h
theorem vyb_cX3_init_13 {i : Nat} {b : UInt8} (h : ([0xb5, 0x00, 0x36, 0xb1] : List UInt8)[i]? = some b) : vy_8 cX3_init (130 + i) b := vy_in (n := 4) (by decide +kernel) h
theorem dX3_init_0 : decode cX3_init 0 = Except.ok (Instr.aload_n 0, 1) := vyd_42 (vyb_cX3_init_0 (i := 0) rfl)
theorem dX3_init_1 : decode cX3_init 1 = Except.ok (Instr.invokespecial 1, 3) := vyd_183 (vyb_cX3_init_0 (i := 1) rfl) (vyb_cX3_init_0 (i := 2) rfl) (vyb_cX3_init_0 (i := 3) rfl) rfl
theorem dX3_init_4 : decode cX3_init 4 = Except.ok (Instr.aload_n 0, 1) := vyd_42 (vyb_cX3_init_0 (i := 4) rfl)
theorem dX3_init_5 : decode cX3_init 5 = Except.ok (Instr.new 7, 3) := vyd_187 (vyb_cX3_init_0 (i := 5) rfl) (vyb_cX3_init_0 (i := 6) rfl) (vyb_cX3_init_0 (i := 7) rfl) rfl
theorem dX3_init_8 : decode cX3_init 8 = Except.ok (Instr.dup, 1) := vyd_89 (vyb_cX3_init_0 (i := 8) rfl)
theorem dX3_init_9 : decode cX3_init 9 = Except.ok (Instr.bipush 20, 2) := vyd_16 (vyb_cX3_init_0 (i := 9) rfl) (vyb_cX3_init_1 (i := 0) rfl) (by decide +kernel)
theorem dX3_init_11 : decode cX3_init 11 = Except.ok (Instr.invokespecial 11, 3) := vyd_183 (vyb_cX3_init_1 (i := 1) rfl) (vyb_cX3_init_1 (i := 2) rfl) (vyb_cX3_init_1 (i := 3) rfl) rfl
theorem dX3_init_14 : decode cX3_init 14 = Except.ok (Instr.putfield 14, 3) := vyd_181 (vyb_cX3_init_1 (i := 4) rfl) (vyb_cX3_init_1 (i := 5) rfl) (vyb_cX3_init_1 (i := 6) rfl) rfl
theorem dX3_init_17 : decode cX3_init 17 = Except.ok (Instr.aload_n 0, 1) := vyd_42 (vyb_cX3_init_1 (i := 7) rfl)
theorem dX3_init_18 : decode cX3_init 18 = Except.ok (Instr.new 7, 3) := vyd_187 (vyb_cX3_init_1 (i := 8) rfl) (vyb_cX3_init_1 (i := 9) rfl) (vyb_cX3_init_2 (i := 0) rfl) rfl
theorem dX3_init_21 : decode cX3_init 21 = Except.ok (Instr.dup, 1) := vyd_89 (vyb_cX3_init_2 (i := 1) rfl)
theorem dX3_init_22 : decode cX3_init 22 = Except.ok (Instr.bipush 20, 2) := vyd_16 (vyb_cX3_init_2 (i := 2) rfl) (vyb_cX3_init_2 (i := 3) rfl) (by decide +kernel)
theorem dX3_init_24 : decode cX3_init 24 = Except.ok (Instr.invokespecial 11, 3) := vyd_183 (vyb_cX3_init_2 (i := 4) rfl) (vyb_cX3_init_2 (i := 5) rfl) (vyb_cX3_init_2 (i := 6) rfl) rfl
theorem dX3_init_27 : decode cX3_init 27 = Except.ok (Instr.putfield 18, 3) := vyd_181 (vyb_cX3_init_2 (i := 7) rfl) (vyb_cX3_init_2 (i := 8) rfl) (vyb_cX3_init_2 (i := 9) rfl) rfl
theorem dX3_init_30 : decode cX3_init 30 = Except.ok (Instr.aload_n 0, 1) := vyd_42 (vyb_cX3_init_3 (i := 0) rfl)
theorem dX3_init_31 : decode cX3_init 31 = Except.ok (Instr.new 7, 3) := vyd_187 (vyb_cX3_init_3 (i := 1) rfl) (vyb_cX3_init_3 (i := 2) rfl) (vyb_cX3_init_3 (i := 3) rfl) rfl
theorem dX3_init_34 : decode cX3_init 34 = Except.ok (Instr.dup, 1) := vyd_89 (vyb_cX3_init_3 (i := 4) rfl)
theorem dX3_init_35 : decode cX3_init 35 = Except.ok (Instr.bipush 12, 2) := vyd_16 (vyb_cX3_init_3 (i := 5) rfl) (vyb_cX3_init_3 (i := 6) rfl) (by decide +kernel)
theorem dX3_init_37 : decode cX3_init 37 = Except.ok (Instr.invokespecial 11, 3) := vyd_183 (vyb_cX3_init_3 (i := 7) rfl) (vyb_cX3_init_3 (i := 8) rfl) (vyb_cX3_init_3 (i := 9) rfl) rfl
theorem dX3_init_40 : decode cX3_init 40 = Except.ok (Instr.putfield 21, 3) := vyd_181 (vyb_cX3_init_4 (i := 0) rfl) (vyb_cX3_init_4 (i := 1) rfl) (vyb_cX3_init_4 (i := 2) rfl) rfl
theorem dX3_init_43 : decode cX3_init 43 = Except.ok (Instr.aload_n 0, 1) := vyd_42 (vyb_cX3_init_4 (i := 3) rfl)
theorem dX3_init_44 : decode cX3_init 44 = Except.ok (Instr.new 7, 3) := vyd_187 (vyb_cX3_init_4 (i := 4) rfl) (vyb_cX3_init_4 (i := 5) rfl) (vyb_cX3_init_4 (i := 6) rfl) rfl
theorem dX3_init_47 : decode cX3_init 47 = Except.ok (Instr.dup, 1) := vyd_89 (vyb_cX3_init_4 (i := 7) rfl)
theorem dX3_init_48 : decode cX3_init 48 = Except.ok (Instr.bipush 10, 2) := vyd_16 (vyb_cX3_init_4 (i := 8) rfl) (vyb_cX3_init_4 (i := 9) rfl) (by decide +kernel)
theorem dX3_init_50 : decode cX3_init 50 = Except.ok (Instr.invokespecial 11, 3) := vyd_183 (vyb_cX3_init_5 (i := 0) rfl) (vyb_cX3_init_5 (i := 1) rfl) (vyb_cX3_init_5 (i := 2) rfl) rfl
theorem dX3_init_53 : decode cX3_init 53 = Except.ok (Instr.putfield 24, 3) := vyd_181 (vyb_cX3_init_5 (i := 3) rfl) (vyb_cX3_init_5 (i := 4) rfl) (vyb_cX3_init_5 (i := 5) rfl) rfl
theorem dX3_init_56 : decode cX3_init 56 = Except.ok (Instr.aload_n 0, 1) := vyd_42 (vyb_cX3_init_5 (i := 6) rfl)
theorem dX3_init_57 : decode cX3_init 57 = Except.ok (Instr.new 27, 3) := vyd_187 (vyb_cX3_init_5 (i := 7) rfl) (vyb_cX3_init_5 (i := 8) rfl) (vyb_cX3_init_5 (i := 9) rfl) rfl
theorem dX3_init_60 : decode cX3_init 60 = Except.ok (Instr.dup, 1) := vyd_89 (vyb_cX3_init_6 (i := 0) rfl)
theorem dX3_init_61 : decode cX3_init 61 = Except.ok (Instr.invokespecial 29, 3) := vyd_183 (vyb_cX3_init_6 (i := 1) rfl) (vyb_cX3_init_6 (i := 2) rfl) (vyb_cX3_init_6 (i := 3) rfl) rfl
theorem dX3_init_64 : decode cX3_init 64 = Except.ok (Instr.putfield 30, 3) := vyd_181 (vyb_cX3_init_6 (i := 4) rfl) (vyb_cX3_init_6 (i := 5) rfl) (vyb_cX3_init_6 (i := 6) rfl) rfl
theorem dX3_init_67 : decode cX3_init 67 = Except.ok (Instr.aload_n 0, 1) := vyd_42 (vyb_cX3_init_6 (i := 7) rfl)
theorem dX3_init_68 : decode cX3_init 68 = Except.ok (Instr.new 34, 3) := vyd_187 (vyb_cX3_init_6 (i := 8) rfl) (vyb_cX3_init_6 (i := 9) rfl) (vyb_cX3_init_7 (i := 0) rfl) rfl
theorem dX3_init_71 : decode cX3_init 71 = Except.ok (Instr.dup, 1) := vyd_89 (vyb_cX3_init_7 (i := 1) rfl)
theorem dX3_init_72 : decode cX3_init 72 = Except.ok (Instr.invokespecial 36, 3) := vyd_183 (vyb_cX3_init_7 (i := 2) rfl) (vyb_cX3_init_7 (i := 3) rfl) (vyb_cX3_init_7 (i := 4) rfl) rfl
theorem dX3_init_75 : decode cX3_init 75 = Except.ok (Instr.putfield 37, 3) := vyd_181 (vyb_cX3_init_7 (i := 5) rfl) (vyb_cX3_init_7 (i := 6) rfl) (vyb_cX3_init_7 (i := 7) rfl) rfl
theorem dX3_init_78 : decode cX3_init 78 = Except.ok (Instr.aload_n 0, 1) := vyd_42 (vyb_cX3_init_7 (i := 8) rfl)
theorem dX3_init_79 : decode cX3_init 79 = Except.ok (Instr.new 34, 3) := vyd_187 (vyb_cX3_init_7 (i := 9) rfl) (vyb_cX3_init_8 (i := 0) rfl) (vyb_cX3_init_8 (i := 1) rfl) rfl
theorem dX3_init_82 : decode cX3_init 82 = Except.ok (Instr.dup, 1) := vyd_89 (vyb_cX3_init_8 (i := 2) rfl)
theorem dX3_init_83 : decode cX3_init 83 = Except.ok (Instr.invokespecial 36, 3) := vyd_183 (vyb_cX3_init_8 (i := 3) rfl) (vyb_cX3_init_8 (i := 4) rfl) (vyb_cX3_init_8 (i := 5) rfl) rfl
theorem dX3_init_86 : decode cX3_init 86 = Except.ok (Instr.putfield 41, 3) := vyd_181 (vyb_cX3_init_8 (i := 6) rfl) (vyb_cX3_init_8 (i := 7) rfl) (vyb_cX3_init_8 (i := 8) rfl) rfl
theorem dX3_init_89 : decode cX3_init 89 = Except.ok (Instr.aload_n 0, 1) := vyd_42 (vyb_cX3_init_8 (i := 9) rfl)
theorem dX3_init_90 : decode cX3_init 90 = Except.ok (Instr.iconst 0, 1) := vyd_3 (vyb_cX3_init_9 (i := 0) rfl)
theorem dX3_init_91 : decode cX3_init 91 = Except.ok (Instr.putfield 44, 3) := vyd_181 (vyb_cX3_init_9 (i := 1) rfl) (vyb_cX3_init_9 (i := 2) rfl) (vyb_cX3_init_9 (i := 3) rfl) rfl
theorem dX3_init_94 : decode cX3_init 94 = Except.ok (Instr.aload_n 0, 1) := vyd_42 (vyb_cX3_init_9 (i := 4) rfl)
theorem dX3_init_95 : decode cX3_init 95 = Except.ok (Instr.new 7, 3) := vyd_187 (vyb_cX3_init_9 (i := 5) rfl) (vyb_cX3_init_9 (i := 6) rfl) (vyb_cX3_init_9 (i := 7) rfl) rfl
theorem dX3_init_98 : decode cX3_init 98 = Except.ok (Instr.dup, 1) := vyd_89 (vyb_cX3_init_9 (i := 8) rfl)
theorem dX3_init_99 : decode cX3_init 99 = Except.ok (Instr.bipush 20, 2) := vyd_16 (vyb_cX3_init_9 (i := 9) rfl) (vyb_cX3_init_10 (i := 0) rfl) (by decide +kernel)
theorem dX3_init_101 : decode cX3_init 101 = Except.ok (Instr.invokespecial 11, 3) := vyd_183 (vyb_cX3_init_10 (i := 1) rfl) (vyb_cX3_init_10 (i := 2) rfl) (vyb_cX3_init_10 (i := 3) rfl) rfl
theorem dX3_init_104 : decode cX3_init 104 = Except.ok (Instr.putfield 48, 3) := vyd_181 (vyb_cX3_init_10 (i := 4) rfl) (vyb_cX3_init_10 (i := 5) rfl) (vyb_cX3_init_10 (i := 6) rfl) rfl
theorem dX3_init_107 : decode cX3_init 107 = Except.ok (Instr.aload_n 0, 1) := vyd_42 (vyb_cX3_init_10 (i := 7) rfl)
theorem dX3_init_108 : decode cX3_init 108 = Except.ok (Instr.new 7, 3) := vyd_187 (vyb_cX3_init_10 (i := 8) rfl) (vyb_cX3_init_10 (i := 9) rfl) (vyb_cX3_init_11 (i := 0) rfl) rfl
theorem dX3_init_111 : decode cX3_init 111 = Except.ok (Instr.dup, 1) := vyd_89 (vyb_cX3_init_11 (i := 1) rfl)
theorem dX3_init_112 : decode cX3_init 112 = Except.ok (Instr.bipush 20, 2) := vyd_16 (vyb_cX3_init_11 (i := 2) rfl) (vyb_cX3_init_11 (i := 3) rfl) (by decide +kernel)
theorem dX3_init_114 : decode cX3_init 114 = Except.ok (Instr.invokespecial 11, 3) := vyd_183 (vyb_cX3_init_11 (i := 4) rfl) (vyb_cX3_init_11 (i := 5) rfl) (vyb_cX3_init_11 (i := 6) rfl) rfl
theorem dX3_init_117 : decode cX3_init 117 = Except.ok (Instr.putfield 51, 3) := vyd_181 (vyb_cX3_init_11 (i := 7) rfl) (vyb_cX3_init_11 (i := 8) rfl) (vyb_cX3_init_11 (i := 9) rfl) rfl
theorem dX3_init_120 : decode cX3_init 120 = Except.ok (Instr.aload_n 0, 1) := vyd_42 (vyb_cX3_init_12 (i := 0) rfl)
theorem dX3_init_121 : decode cX3_init 121 = Except.ok (Instr.new 7, 3) := vyd_187 (vyb_cX3_init_12 (i := 1) rfl) (vyb_cX3_init_12 (i := 2) rfl) (vyb_cX3_init_12 (i := 3) rfl) rfl
theorem dX3_init_124 : decode cX3_init 124 = Except.ok (Instr.dup, 1) := vyd_89 (vyb_cX3_init_12 (i := 4) rfl)
theorem dX3_init_125 : decode cX3_init 125 = Except.ok (Instr.bipush 20, 2) := vyd_16 (vyb_cX3_init_12 (i := 5) rfl) (vyb_cX3_init_12 (i := 6) rfl) (by decide +kernel)
theorem dX3_init_127 : decode cX3_init 127 = Except.ok (Instr.invokespecial 11, 3) := vyd_183 (vyb_cX3_init_12 (i := 7) rfl) (vyb_cX3_init_12 (i := 8) rfl) (vyb_cX3_init_12 (i := 9) rfl) rfl
theorem dX3_init_130 : decode cX3_init 130 = Except.ok (Instr.putfield 54, 3) := vyd_181 (vyb_cX3_init_13 (i := 0) rfl) (vyb_cX3_init_13 (i := 1) rfl) (vyb_cX3_init_13 (i := 2) rfl) rfl
theorem dX3_init_133 : decode cX3_init 133 = Except.ok (Instr.return_, 1) := vyd_177 (vyb_cX3_init_13 (i := 3) rfl)
theorem vyb_cX3_join_0 {i : Nat} {b : UInt8} (h : ([0x2a, 0x1b, 0x1c, 0x1d, 0x15, 0x04, 0xb6, 0x00, 0x39, 0x99] : List UInt8)[i]? = some b) : vy_8 cX3_join (0 + i) b := vy_in (n := 10) (by decide +kernel) h
theorem vyb_cX3_join_1 {i : Nat} {b : UInt8} (h : ([0x00, 0x0e, 0x2a, 0x1b, 0xb6, 0x00, 0x3d, 0xb6, 0x00, 0x41] : List UInt8)[i]? = some b) : vy_8 cX3_join (10 + i) b := vy_in (n := 10) (by decide +kernel) h
theorem vyb_cX3_join_2 {i : Nat} {b : UInt8} (h : ([0xa7, 0x00, 0x05, 0x10, 0xf7, 0xac] : List UInt8)[i]? = some b) : vy_8 cX3_join (20 + i) b := vy_in (n := 6) (by decide +kernel) h
theorem dX3_join_0 : decode cX3_join 0 = Except.ok (Instr.aload_n 0, 1) := vyd_42 (vyb_cX3_join_0 (i := 0) rfl)
theorem dX3_join_1 : decode cX3_join 1 = Except.ok (Instr.iload_n 1, 1) := vyd_27 (vyb_cX3_join_0 (i := 1) rfl)
theorem dX3_join_2 : decode cX3_join 2 = Except.ok (Instr.iload_n 2, 1) := vyd_28 (vyb_cX3_join_0 (i := 2) rfl)
theorem dX3_join_3 : decode cX3_join 3 = Except.ok (Instr.iload_n 3, 1) := vyd_29 (vyb_cX3_join_0 (i := 3) rfl)
theorem dX3_join_4 : decode cX3_join 4 = Except.ok (Instr.iload 4, 2) := vyd_21 (vyb_cX3_join_0 (i := 4) rfl) (vyb_cX3_join_0 (i := 5) rfl) rfl
theorem dX3_join_6 : decode cX3_join 6 = Except.ok (Instr.invokevirtual 57, 3) := vyd_182 (vyb_cX3_join_0 (i := 6) rfl) (vyb_cX3_join_0 (i := 7) rfl) (vyb_cX3_join_0 (i := 8) rfl) rfl
theorem dX3_join_9 : decode cX3_join 9 = Except.ok (Instr.ifCond .eq 14, 3) := vyd_153 (vyb_cX3_join_0 (i := 9) rfl) (vyb_cX3_join_1 (i := 0) rfl) (vyb_cX3_join_1 (i := 1) rfl) (by decide +kernel)
theorem dX3_join_12 : decode cX3_join 12 = Except.ok (Instr.aload_n 0, 1) := vyd_42 (vyb_cX3_join_1 (i := 2) rfl)
theorem dX3_join_13 : decode cX3_join 13 = Except.ok (Instr.iload_n 1, 1) := vyd_27 (vyb_cX3_join_1 (i := 3) rfl)
theorem dX3_join_14 : decode cX3_join 14 = Except.ok (Instr.invokevirtual 61, 3) := vyd_182 (vyb_cX3_join_1 (i := 4) rfl) (vyb_cX3_join_1 (i := 5) rfl) (vyb_cX3_join_1 (i := 6) rfl) rfl
theorem dX3_join_17 : decode cX3_join 17 = Except.ok (Instr.invokevirtual 65, 3) := vyd_182 (vyb_cX3_join_1 (i := 7) rfl) (vyb_cX3_join_1 (i := 8) rfl) (vyb_cX3_join_1 (i := 9) rfl) rfl
theorem dX3_join_20 : decode cX3_join 20 = Except.ok (Instr.goto 5, 3) := vyd_167 (vyb_cX3_join_2 (i := 0) rfl) (vyb_cX3_join_2 (i := 1) rfl) (vyb_cX3_join_2 (i := 2) rfl) (by decide +kernel)
theorem dX3_join_23 : decode cX3_join 23 = Except.ok (Instr.bipush (-9), 2) := vyd_16 (vyb_cX3_join_2 (i := 3) rfl) (vyb_cX3_join_2 (i := 4) rfl) (by decide +kernel)
theorem dX3_join_25 : decode cX3_join 25 = Except.ok (Instr.ireturn, 1) := vyd_172 (vyb_cX3_join_2 (i := 5) rfl)
theorem vyb_cX3_offer_0 {i : Nat} {b : UInt8} (h : ([0x2a, 0x1b, 0x1c, 0x1d, 0x15, 0x04, 0xb6, 0x00, 0x39, 0xac] : List UInt8)[i]? = some b) : vy_8 cX3_offer (0 + i) b := vy_in (n := 10) (by decide +kernel) h
theorem dX3_offer_0 : decode cX3_offer 0 = Except.ok (Instr.aload_n 0, 1) := vyd_42 (vyb_cX3_offer_0 (i := 0) rfl)
theorem dX3_offer_1 : decode cX3_offer 1 = Except.ok (Instr.iload_n 1, 1) := vyd_27 (vyb_cX3_offer_0 (i := 1) rfl)
theorem dX3_offer_2 : decode cX3_offer 2 = Except.ok (Instr.iload_n 2, 1) := vyd_28 (vyb_cX3_offer_0 (i := 2) rfl)
theorem dX3_offer_3 : decode cX3_offer 3 = Except.ok (Instr.iload_n 3, 1) := vyd_29 (vyb_cX3_offer_0 (i := 3) rfl)
theorem dX3_offer_4 : decode cX3_offer 4 = Except.ok (Instr.iload 4, 2) := vyd_21 (vyb_cX3_offer_0 (i := 4) rfl) (vyb_cX3_offer_0 (i := 5) rfl) rfl
theorem dX3_offer_6 : decode cX3_offer 6 = Except.ok (Instr.invokevirtual 57, 3) := vyd_182 (vyb_cX3_offer_0 (i := 6) rfl) (vyb_cX3_offer_0 (i := 7) rfl) (vyb_cX3_offer_0 (i := 8) rfl) rfl
theorem dX3_offer_9 : decode cX3_offer 9 = Except.ok (Instr.ireturn, 1) := vyd_172 (vyb_cX3_offer_0 (i := 9) rfl)
theorem vyb_cX3_push_0 {i : Nat} {b : UInt8} (h : ([0x1b, 0xb8, 0x00, 0x45, 0x2a, 0x1b, 0x03, 0xb6, 0x00, 0x48] : List UInt8)[i]? = some b) : vy_8 cX3_push (0 + i) b := vy_in (n := 10) (by decide +kernel) h
theorem vyb_cX3_push_1 {i : Nat} {b : UInt8} (h : ([0x36, 0x04, 0x2a, 0x1b, 0x03, 0x1c, 0x1d, 0xb6, 0x00, 0x39] : List UInt8)[i]? = some b) : vy_8 cX3_push (10 + i) b := vy_in (n := 10) (by decide +kernel) h
theorem vyb_cX3_push_2 {i : Nat} {b : UInt8} (h : ([0x99, 0x00, 0x08, 0x15, 0x04, 0xa7, 0x00, 0x05, 0x10, 0xf7] : List UInt8)[i]? = some b) : vy_8 cX3_push (20 + i) b := vy_in (n := 10) (by decide +kernel) h
theorem vyb_cX3_push_3 {i : Nat} {b : UInt8} (h : ([0xac] : List UInt8)[i]? = some b) : vy_8 cX3_push (30 + i) b := vy_in (n := 1) (by decide +kernel) h
theorem dX3_push_0 : decode cX3_push 0 = Except.ok (Instr.iload_n 1, 1) := vyd_27 (vyb_cX3_push_0 (i := 0) rfl)
theorem dX3_push_1 : decode cX3_push 1 = Except.ok (Instr.invokestatic 69, 3) := vyd_184 (vyb_cX3_push_0 (i := 1) rfl) (vyb_cX3_push_0 (i := 2) rfl) (vyb_cX3_push_0 (i := 3) rfl) rfl
theorem dX3_push_4 : decode cX3_push 4 = Except.ok (Instr.aload_n 0, 1) := vyd_42 (vyb_cX3_push_0 (i := 4) rfl)
theorem dX3_push_5 : decode cX3_push 5 = Except.ok (Instr.iload_n 1, 1) := vyd_27 (vyb_cX3_push_0 (i := 5) rfl)
theorem dX3_push_6 : decode cX3_push 6 = Except.ok (Instr.iconst 0, 1) := vyd_3 (vyb_cX3_push_0 (i := 6) rfl)
theorem dX3_push_7 : decode cX3_push 7 = Except.ok (Instr.invokevirtual 72, 3) := vyd_182 (vyb_cX3_push_0 (i := 7) rfl) (vyb_cX3_push_0 (i := 8) rfl) (vyb_cX3_push_0 (i := 9) rfl) rfl
theorem dX3_push_10 : decode cX3_push 10 = Except.ok (Instr.istore 4, 2) := vyd_54 (vyb_cX3_push_1 (i := 0) rfl) (vyb_cX3_push_1 (i := 1) rfl) rfl
theorem dX3_push_12 : decode cX3_push 12 = Except.ok (Instr.aload_n 0, 1) := vyd_42 (vyb_cX3_push_1 (i := 2) rfl)
theorem dX3_push_13 : decode cX3_push 13 = Except.ok (Instr.iload_n 1, 1) := vyd_27 (vyb_cX3_push_1 (i := 3) rfl)
theorem dX3_push_14 : decode cX3_push 14 = Except.ok (Instr.iconst 0, 1) := vyd_3 (vyb_cX3_push_1 (i := 4) rfl)
theorem dX3_push_15 : decode cX3_push 15 = Except.ok (Instr.iload_n 2, 1) := vyd_28 (vyb_cX3_push_1 (i := 5) rfl)
theorem dX3_push_16 : decode cX3_push 16 = Except.ok (Instr.iload_n 3, 1) := vyd_29 (vyb_cX3_push_1 (i := 6) rfl)
theorem dX3_push_17 : decode cX3_push 17 = Except.ok (Instr.invokevirtual 57, 3) := vyd_182 (vyb_cX3_push_1 (i := 7) rfl) (vyb_cX3_push_1 (i := 8) rfl) (vyb_cX3_push_1 (i := 9) rfl) rfl
theorem dX3_push_20 : decode cX3_push 20 = Except.ok (Instr.ifCond .eq 8, 3) := vyd_153 (vyb_cX3_push_2 (i := 0) rfl) (vyb_cX3_push_2 (i := 1) rfl) (vyb_cX3_push_2 (i := 2) rfl) (by decide +kernel)
theorem dX3_push_23 : decode cX3_push 23 = Except.ok (Instr.iload 4, 2) := vyd_21 (vyb_cX3_push_2 (i := 3) rfl) (vyb_cX3_push_2 (i := 4) rfl) rfl
theorem dX3_push_25 : decode cX3_push 25 = Except.ok (Instr.goto 5, 3) := vyd_167 (vyb_cX3_push_2 (i := 5) rfl) (vyb_cX3_push_2 (i := 6) rfl) (vyb_cX3_push_2 (i := 7) rfl) (by decide +kernel)
theorem dX3_push_28 : decode cX3_push 28 = Except.ok (Instr.bipush (-9), 2) := vyd_16 (vyb_cX3_push_2 (i := 8) rfl) (vyb_cX3_push_2 (i := 9) rfl) (by decide +kernel)
theorem dX3_push_30 : decode cX3_push 30 = Except.ok (Instr.ireturn, 1) := vyd_172 (vyb_cX3_push_3 (i := 0) rfl)
theorem vyb_cX3_append_0 {i : Nat} {b : UInt8} (h : ([0x2a, 0x1b, 0x04, 0x1c, 0x1d, 0xb6, 0x00, 0x39, 0x99, 0x00] : List UInt8)[i]? = some b) : vy_8 cX3_append (0 + i) b := vy_in (n := 10) (by decide +kernel) h
theorem vyb_cX3_append_1 {i : Nat} {b : UInt8} (h : ([0x0e, 0x2a, 0x1b, 0xb6, 0x00, 0x3d, 0xb6, 0x00, 0x41, 0xa7] : List UInt8)[i]? = some b) : vy_8 cX3_append (10 + i) b := vy_in (n := 10) (by decide +kernel) h
theorem vyb_cX3_append_2 {i : Nat} {b : UInt8} (h : ([0x00, 0x05, 0x10, 0xf7, 0xac] : List UInt8)[i]? = some b) : vy_8 cX3_append (20 + i) b := vy_in (n := 5) (by decide +kernel) h
theorem dX3_append_0 : decode cX3_append 0 = Except.ok (Instr.aload_n 0, 1) := vyd_42 (vyb_cX3_append_0 (i := 0) rfl)
theorem dX3_append_1 : decode cX3_append 1 = Except.ok (Instr.iload_n 1, 1) := vyd_27 (vyb_cX3_append_0 (i := 1) rfl)
theorem dX3_append_2 : decode cX3_append 2 = Except.ok (Instr.iconst 1, 1) := vyd_4 (vyb_cX3_append_0 (i := 2) rfl)
theorem dX3_append_3 : decode cX3_append 3 = Except.ok (Instr.iload_n 2, 1) := vyd_28 (vyb_cX3_append_0 (i := 3) rfl)
theorem dX3_append_4 : decode cX3_append 4 = Except.ok (Instr.iload_n 3, 1) := vyd_29 (vyb_cX3_append_0 (i := 4) rfl)
theorem dX3_append_5 : decode cX3_append 5 = Except.ok (Instr.invokevirtual 57, 3) := vyd_182 (vyb_cX3_append_0 (i := 5) rfl) (vyb_cX3_append_0 (i := 6) rfl) (vyb_cX3_append_0 (i := 7) rfl) rfl
theorem dX3_append_8 : decode cX3_append 8 = Except.ok (Instr.ifCond .eq 14, 3) := vyd_153 (vyb_cX3_append_0 (i := 8) rfl) (vyb_cX3_append_0 (i := 9) rfl) (vyb_cX3_append_1 (i := 0) rfl) (by decide +kernel)
theorem dX3_append_11 : decode cX3_append 11 = Except.ok (Instr.aload_n 0, 1) := vyd_42 (vyb_cX3_append_1 (i := 1) rfl)
theorem dX3_append_12 : decode cX3_append 12 = Except.ok (Instr.iload_n 1, 1) := vyd_27 (vyb_cX3_append_1 (i := 2) rfl)
theorem dX3_append_13 : decode cX3_append 13 = Except.ok (Instr.invokevirtual 61, 3) := vyd_182 (vyb_cX3_append_1 (i := 3) rfl) (vyb_cX3_append_1 (i := 4) rfl) (vyb_cX3_append_1 (i := 5) rfl) rfl
theorem dX3_append_16 : decode cX3_append 16 = Except.ok (Instr.invokevirtual 65, 3) := vyd_182 (vyb_cX3_append_1 (i := 6) rfl) (vyb_cX3_append_1 (i := 7) rfl) (vyb_cX3_append_1 (i := 8) rfl) rfl
theorem dX3_append_19 : decode cX3_append 19 = Except.ok (Instr.goto 5, 3) := vyd_167 (vyb_cX3_append_1 (i := 9) rfl) (vyb_cX3_append_2 (i := 0) rfl) (vyb_cX3_append_2 (i := 1) rfl) (by decide +kernel)
theorem dX3_append_22 : decode cX3_append 22 = Except.ok (Instr.bipush (-9), 2) := vyd_16 (vyb_cX3_append_2 (i := 2) rfl) (vyb_cX3_append_2 (i := 3) rfl) (by decide +kernel)
theorem dX3_append_24 : decode cX3_append 24 = Except.ok (Instr.ireturn, 1) := vyd_172 (vyb_cX3_append_2 (i := 4) rfl)
theorem vyb_cX3_train_0 {i : Nat} {b : UInt8} (h : ([0x1b, 0xb8, 0x00, 0x45, 0x1c, 0x04, 0x10, 0x09, 0xb8, 0x00] : List UInt8)[i]? = some b) : vy_8 cX3_train (0 + i) b := vy_in (n := 10) (by decide +kernel) h
theorem vyb_cX3_train_1 {i : Nat} {b : UInt8} (h : ([0x4c, 0x1d, 0x03, 0x10, 0x63, 0xb8, 0x00, 0x4c, 0x15, 0x04] : List UInt8)[i]? = some b) : vy_8 cX3_train (10 + i) b := vy_in (n := 10) (by decide +kernel) h
theorem vyb_cX3_train_2 {i : Nat} {b : UInt8} (h : ([0x04, 0x10, 0x0c, 0xb8, 0x00, 0x4c, 0x2a, 0x1b, 0x15, 0x04] : List UInt8)[i]? = some b) : vy_8 cX3_train (20 + i) b := vy_in (n := 10) (by decide +kernel) h
theorem vyb_cX3_train_3 {i : Nat} {b : UInt8} (h : ([0xb6, 0x00, 0x50, 0x03, 0x36, 0x05, 0x15, 0x05, 0x15, 0x04] : List UInt8)[i]? = some b) : vy_8 cX3_train (30 + i) b := vy_in (n := 10) (by decide +kernel) h
theorem vyb_cX3_train_4 {i : Nat} {b : UInt8} (h : ([0xa2, 0x00, 0x27, 0x2a, 0x1b, 0x04, 0x04, 0x1c, 0x04, 0x64] : List UInt8)[i]? = some b) : vy_8 cX3_train (40 + i) b := vy_in (n := 10) (by decide +kernel) h
theorem vyb_cX3_train_5 {i : Nat} {b : UInt8} (h : ([0x15, 0x05, 0x60, 0x10, 0x09, 0x70, 0x60, 0x1d, 0x10, 0x07] : List UInt8)[i]? = some b) : vy_8 cX3_train (50 + i) b := vy_in (n := 10) (by decide +kernel) h
theorem vyb_cX3_train_6 {i : Nat} {b : UInt8} (h : ([0x15, 0x05, 0x68, 0x60, 0x10, 0x64, 0x70, 0xb8, 0x00, 0x54] : List UInt8)[i]? = some b) : vy_8 cX3_train (60 + i) b := vy_in (n := 10) (by decide +kernel) h
theorem vyb_cX3_train_7 {i : Nat} {b : UInt8} (h : ([0xb6, 0x00, 0x58, 0x84, 0x05, 0x01, 0xa7, 0xff, 0xd8, 0x2a] : List UInt8)[i]? = some b) : vy_8 cX3_train (70 + i) b := vy_in (n := 10) (by decide +kernel) h
theorem vyb_cX3_train_8 {i : Nat} {b : UInt8} (h : ([0x1b, 0xb6, 0x00, 0x3d, 0xb6, 0x00, 0x41, 0xac] : List UInt8)[i]? = some b) : vy_8 cX3_train (80 + i) b := vy_in (n := 8) (by decide +kernel) h
theorem dX3_train_0 : decode cX3_train 0 = Except.ok (Instr.iload_n 1, 1) := vyd_27 (vyb_cX3_train_0 (i := 0) rfl)
theorem dX3_train_1 : decode cX3_train 1 = Except.ok (Instr.invokestatic 69, 3) := vyd_184 (vyb_cX3_train_0 (i := 1) rfl) (vyb_cX3_train_0 (i := 2) rfl) (vyb_cX3_train_0 (i := 3) rfl) rfl
theorem dX3_train_4 : decode cX3_train 4 = Except.ok (Instr.iload_n 2, 1) := vyd_28 (vyb_cX3_train_0 (i := 4) rfl)
theorem dX3_train_5 : decode cX3_train 5 = Except.ok (Instr.iconst 1, 1) := vyd_4 (vyb_cX3_train_0 (i := 5) rfl)
theorem dX3_train_6 : decode cX3_train 6 = Except.ok (Instr.bipush 9, 2) := vyd_16 (vyb_cX3_train_0 (i := 6) rfl) (vyb_cX3_train_0 (i := 7) rfl) (by decide +kernel)
theorem dX3_train_8 : decode cX3_train 8 = Except.ok (Instr.invokestatic 76, 3) := vyd_184 (vyb_cX3_train_0 (i := 8) rfl) (vyb_cX3_train_0 (i := 9) rfl) (vyb_cX3_train_1 (i := 0) rfl) rfl
theorem dX3_train_11 : decode cX3_train 11 = Except.ok (Instr.iload_n 3, 1) := vyd_29 (vyb_cX3_train_1 (i := 1) rfl)
theorem dX3_train_12 : decode cX3_train 12 = Except.ok (Instr.iconst 0, 1) := vyd_3 (vyb_cX3_train_1 (i := 2) rfl)
theorem dX3_train_13 : decode cX3_train 13 = Except.ok (Instr.bipush 99, 2) := vyd_16 (vyb_cX3_train_1 (i := 3) rfl) (vyb_cX3_train_1 (i := 4) rfl) (by decide +kernel)
theorem dX3_train_15 : decode cX3_train 15 = Except.ok (Instr.invokestatic 76, 3) := vyd_184 (vyb_cX3_train_1 (i := 5) rfl) (vyb_cX3_train_1 (i := 6) rfl) (vyb_cX3_train_1 (i := 7) rfl) rfl
theorem dX3_train_18 : decode cX3_train 18 = Except.ok (Instr.iload 4, 2) := vyd_21 (vyb_cX3_train_1 (i := 8) rfl) (vyb_cX3_train_1 (i := 9) rfl) rfl
theorem dX3_train_20 : decode cX3_train 20 = Except.ok (Instr.iconst 1, 1) := vyd_4 (vyb_cX3_train_2 (i := 0) rfl)
theorem dX3_train_21 : decode cX3_train 21 = Except.ok (Instr.bipush 12, 2) := vyd_16 (vyb_cX3_train_2 (i := 1) rfl) (vyb_cX3_train_2 (i := 2) rfl) (by decide +kernel)
theorem dX3_train_23 : decode cX3_train 23 = Except.ok (Instr.invokestatic 76, 3) := vyd_184 (vyb_cX3_train_2 (i := 3) rfl) (vyb_cX3_train_2 (i := 4) rfl) (vyb_cX3_train_2 (i := 5) rfl) rfl
theorem dX3_train_26 : decode cX3_train 26 = Except.ok (Instr.aload_n 0, 1) := vyd_42 (vyb_cX3_train_2 (i := 6) rfl)
theorem dX3_train_27 : decode cX3_train 27 = Except.ok (Instr.iload_n 1, 1) := vyd_27 (vyb_cX3_train_2 (i := 7) rfl)
theorem dX3_train_28 : decode cX3_train 28 = Except.ok (Instr.iload 4, 2) := vyd_21 (vyb_cX3_train_2 (i := 8) rfl) (vyb_cX3_train_2 (i := 9) rfl) rfl
theorem dX3_train_30 : decode cX3_train 30 = Except.ok (Instr.invokevirtual 80, 3) := vyd_182 (vyb_cX3_train_3 (i := 0) rfl) (vyb_cX3_train_3 (i := 1) rfl) (vyb_cX3_train_3 (i := 2) rfl) rfl
theorem dX3_train_33 : decode cX3_train 33 = Except.ok (Instr.iconst 0, 1) := vyd_3 (vyb_cX3_train_3 (i := 3) rfl)
theorem dX3_train_34 : decode cX3_train 34 = Except.ok (Instr.istore 5, 2) := vyd_54 (vyb_cX3_train_3 (i := 4) rfl) (vyb_cX3_train_3 (i := 5) rfl) rfl
theorem dX3_train_36 : decode cX3_train 36 = Except.ok (Instr.iload 5, 2) := vyd_21 (vyb_cX3_train_3 (i := 6) rfl) (vyb_cX3_train_3 (i := 7) rfl) rfl
theorem dX3_train_38 : decode cX3_train 38 = Except.ok (Instr.iload 4, 2) := vyd_21 (vyb_cX3_train_3 (i := 8) rfl) (vyb_cX3_train_3 (i := 9) rfl) rfl
theorem dX3_train_40 : decode cX3_train 40 = Except.ok (Instr.if_icmp .ge 39, 3) := vyd_162 (vyb_cX3_train_4 (i := 0) rfl) (vyb_cX3_train_4 (i := 1) rfl) (vyb_cX3_train_4 (i := 2) rfl) (by decide +kernel)
theorem dX3_train_43 : decode cX3_train 43 = Except.ok (Instr.aload_n 0, 1) := vyd_42 (vyb_cX3_train_4 (i := 3) rfl)
theorem dX3_train_44 : decode cX3_train 44 = Except.ok (Instr.iload_n 1, 1) := vyd_27 (vyb_cX3_train_4 (i := 4) rfl)
theorem dX3_train_45 : decode cX3_train 45 = Except.ok (Instr.iconst 1, 1) := vyd_4 (vyb_cX3_train_4 (i := 5) rfl)
theorem dX3_train_46 : decode cX3_train 46 = Except.ok (Instr.iconst 1, 1) := vyd_4 (vyb_cX3_train_4 (i := 6) rfl)
theorem dX3_train_47 : decode cX3_train 47 = Except.ok (Instr.iload_n 2, 1) := vyd_28 (vyb_cX3_train_4 (i := 7) rfl)
theorem dX3_train_48 : decode cX3_train 48 = Except.ok (Instr.iconst 1, 1) := vyd_4 (vyb_cX3_train_4 (i := 8) rfl)
theorem dX3_train_49 : decode cX3_train 49 = Except.ok (Instr.isub, 1) := vyd_100 (vyb_cX3_train_4 (i := 9) rfl)
theorem dX3_train_50 : decode cX3_train 50 = Except.ok (Instr.iload 5, 2) := vyd_21 (vyb_cX3_train_5 (i := 0) rfl) (vyb_cX3_train_5 (i := 1) rfl) rfl
theorem dX3_train_52 : decode cX3_train 52 = Except.ok (Instr.iadd, 1) := vyd_96 (vyb_cX3_train_5 (i := 2) rfl)
theorem dX3_train_53 : decode cX3_train 53 = Except.ok (Instr.bipush 9, 2) := vyd_16 (vyb_cX3_train_5 (i := 3) rfl) (vyb_cX3_train_5 (i := 4) rfl) (by decide +kernel)
theorem dX3_train_55 : decode cX3_train 55 = Except.ok (Instr.irem, 1) := vyd_112 (vyb_cX3_train_5 (i := 5) rfl)
theorem dX3_train_56 : decode cX3_train 56 = Except.ok (Instr.iadd, 1) := vyd_96 (vyb_cX3_train_5 (i := 6) rfl)
theorem dX3_train_57 : decode cX3_train 57 = Except.ok (Instr.iload_n 3, 1) := vyd_29 (vyb_cX3_train_5 (i := 7) rfl)
theorem dX3_train_58 : decode cX3_train 58 = Except.ok (Instr.bipush 7, 2) := vyd_16 (vyb_cX3_train_5 (i := 8) rfl) (vyb_cX3_train_5 (i := 9) rfl) (by decide +kernel)
theorem dX3_train_60 : decode cX3_train 60 = Except.ok (Instr.iload 5, 2) := vyd_21 (vyb_cX3_train_6 (i := 0) rfl) (vyb_cX3_train_6 (i := 1) rfl) rfl
theorem dX3_train_62 : decode cX3_train 62 = Except.ok (Instr.imul, 1) := vyd_104 (vyb_cX3_train_6 (i := 2) rfl)
theorem dX3_train_63 : decode cX3_train 63 = Except.ok (Instr.iadd, 1) := vyd_96 (vyb_cX3_train_6 (i := 3) rfl)
theorem dX3_train_64 : decode cX3_train 64 = Except.ok (Instr.bipush 100, 2) := vyd_16 (vyb_cX3_train_6 (i := 4) rfl) (vyb_cX3_train_6 (i := 5) rfl) (by decide +kernel)
theorem dX3_train_66 : decode cX3_train 66 = Except.ok (Instr.irem, 1) := vyd_112 (vyb_cX3_train_6 (i := 6) rfl)
theorem dX3_train_67 : decode cX3_train 67 = Except.ok (Instr.invokestatic 84, 3) := vyd_184 (vyb_cX3_train_6 (i := 7) rfl) (vyb_cX3_train_6 (i := 8) rfl) (vyb_cX3_train_6 (i := 9) rfl) rfl
theorem dX3_train_70 : decode cX3_train 70 = Except.ok (Instr.invokevirtual 88, 3) := vyd_182 (vyb_cX3_train_7 (i := 0) rfl) (vyb_cX3_train_7 (i := 1) rfl) (vyb_cX3_train_7 (i := 2) rfl) rfl
theorem dX3_train_73 : decode cX3_train 73 = .ok (.iinc 5 1, 3) := by decide +kernel
theorem dX3_train_76 : decode cX3_train 76 = Except.ok (Instr.goto (-40), 3) := vyd_167 (vyb_cX3_train_7 (i := 6) rfl) (vyb_cX3_train_7 (i := 7) rfl) (vyb_cX3_train_7 (i := 8) rfl) (by decide +kernel)
theorem dX3_train_79 : decode cX3_train 79 = Except.ok (Instr.aload_n 0, 1) := vyd_42 (vyb_cX3_train_7 (i := 9) rfl)
theorem dX3_train_80 : decode cX3_train 80 = Except.ok (Instr.iload_n 1, 1) := vyd_27 (vyb_cX3_train_8 (i := 0) rfl)
theorem dX3_train_81 : decode cX3_train 81 = Except.ok (Instr.invokevirtual 61, 3) := vyd_182 (vyb_cX3_train_8 (i := 1) rfl) (vyb_cX3_train_8 (i := 2) rfl) (vyb_cX3_train_8 (i := 3) rfl) rfl
theorem dX3_train_84 : decode cX3_train 84 = Except.ok (Instr.invokevirtual 65, 3) := vyd_182 (vyb_cX3_train_8 (i := 4) rfl) (vyb_cX3_train_8 (i := 5) rfl) (vyb_cX3_train_8 (i := 6) rfl) rfl
theorem dX3_train_87 : decode cX3_train 87 = Except.ok (Instr.ireturn, 1) := vyd_172 (vyb_cX3_train_8 (i := 7) rfl)
theorem vyb_cX3_take_0 {i : Nat} {b : UInt8} (h : ([0x1b, 0xb8, 0x00, 0x45, 0x2a, 0x1b, 0x1c, 0x10, 0xf7, 0xb6] : List UInt8)[i]? = some b) : vy_8 cX3_take (0 + i) b := vy_in (n := 10) (by decide +kernel) h
theorem vyb_cX3_take_1 {i : Nat} {b : UInt8} (h : ([0x00, 0x5c, 0xac] : List UInt8)[i]? = some b) : vy_8 cX3_take (10 + i) b := vy_in (n := 3) (by decide +kernel) h
theorem dX3_take_0 : decode cX3_take 0 = Except.ok (Instr.iload_n 1, 1) := vyd_27 (vyb_cX3_take_0 (i := 0) rfl)
theorem dX3_take_1 : decode cX3_take 1 = Except.ok (Instr.invokestatic 69, 3) := vyd_184 (vyb_cX3_take_0 (i := 1) rfl) (vyb_cX3_take_0 (i := 2) rfl) (vyb_cX3_take_0 (i := 3) rfl) rfl
theorem dX3_take_4 : decode cX3_take 4 = Except.ok (Instr.aload_n 0, 1) := vyd_42 (vyb_cX3_take_0 (i := 4) rfl)
theorem dX3_take_5 : decode cX3_take 5 = Except.ok (Instr.iload_n 1, 1) := vyd_27 (vyb_cX3_take_0 (i := 5) rfl)
theorem dX3_take_6 : decode cX3_take 6 = Except.ok (Instr.iload_n 2, 1) := vyd_28 (vyb_cX3_take_0 (i := 6) rfl)
theorem dX3_take_7 : decode cX3_take 7 = Except.ok (Instr.bipush (-9), 2) := vyd_16 (vyb_cX3_take_0 (i := 7) rfl) (vyb_cX3_take_0 (i := 8) rfl) (by decide +kernel)
theorem dX3_take_9 : decode cX3_take 9 = Except.ok (Instr.invokevirtual 92, 3) := vyd_182 (vyb_cX3_take_0 (i := 9) rfl) (vyb_cX3_take_1 (i := 0) rfl) (vyb_cX3_take_1 (i := 1) rfl) rfl
theorem dX3_take_12 : decode cX3_take 12 = Except.ok (Instr.ireturn, 1) := vyd_172 (vyb_cX3_take_1 (i := 2) rfl)
theorem vyb_cX3_poll_0 {i : Nat} {b : UInt8} (h : ([0x1b, 0xb8, 0x00, 0x45, 0x2a, 0x1b, 0x1c, 0x03, 0xb6, 0x00] : List UInt8)[i]? = some b) : vy_8 cX3_poll (0 + i) b := vy_in (n := 10) (by decide +kernel) h
theorem vyb_cX3_poll_1 {i : Nat} {b : UInt8} (h : ([0x5c, 0xac] : List UInt8)[i]? = some b) : vy_8 cX3_poll (10 + i) b := vy_in (n := 2) (by decide +kernel) h
theorem dX3_poll_0 : decode cX3_poll 0 = Except.ok (Instr.iload_n 1, 1) := vyd_27 (vyb_cX3_poll_0 (i := 0) rfl)
theorem dX3_poll_1 : decode cX3_poll 1 = Except.ok (Instr.invokestatic 69, 3) := vyd_184 (vyb_cX3_poll_0 (i := 1) rfl) (vyb_cX3_poll_0 (i := 2) rfl) (vyb_cX3_poll_0 (i := 3) rfl) rfl
theorem dX3_poll_4 : decode cX3_poll 4 = Except.ok (Instr.aload_n 0, 1) := vyd_42 (vyb_cX3_poll_0 (i := 4) rfl)
theorem dX3_poll_5 : decode cX3_poll 5 = Except.ok (Instr.iload_n 1, 1) := vyd_27 (vyb_cX3_poll_0 (i := 5) rfl)
theorem dX3_poll_6 : decode cX3_poll 6 = Except.ok (Instr.iload_n 2, 1) := vyd_28 (vyb_cX3_poll_0 (i := 6) rfl)
theorem dX3_poll_7 : decode cX3_poll 7 = Except.ok (Instr.iconst 0, 1) := vyd_3 (vyb_cX3_poll_0 (i := 7) rfl)
theorem dX3_poll_8 : decode cX3_poll 8 = Except.ok (Instr.invokevirtual 92, 3) := vyd_182 (vyb_cX3_poll_0 (i := 8) rfl) (vyb_cX3_poll_0 (i := 9) rfl) (vyb_cX3_poll_1 (i := 0) rfl) rfl
theorem dX3_poll_11 : decode cX3_poll 11 = Except.ok (Instr.ireturn, 1) := vyd_172 (vyb_cX3_poll_1 (i := 1) rfl)
theorem vyb_cX3_pop_0 {i : Nat} {b : UInt8} (h : ([0x1b, 0xb8, 0x00, 0x45, 0x2a, 0x1b, 0x03, 0x10, 0xf7, 0xb6] : List UInt8)[i]? = some b) : vy_8 cX3_pop (0 + i) b := vy_in (n := 10) (by decide +kernel) h
theorem vyb_cX3_pop_1 {i : Nat} {b : UInt8} (h : ([0x00, 0x5c, 0xac] : List UInt8)[i]? = some b) : vy_8 cX3_pop (10 + i) b := vy_in (n := 3) (by decide +kernel) h
theorem dX3_pop_0 : decode cX3_pop 0 = Except.ok (Instr.iload_n 1, 1) := vyd_27 (vyb_cX3_pop_0 (i := 0) rfl)
theorem dX3_pop_1 : decode cX3_pop 1 = Except.ok (Instr.invokestatic 69, 3) := vyd_184 (vyb_cX3_pop_0 (i := 1) rfl) (vyb_cX3_pop_0 (i := 2) rfl) (vyb_cX3_pop_0 (i := 3) rfl) rfl
theorem dX3_pop_4 : decode cX3_pop 4 = Except.ok (Instr.aload_n 0, 1) := vyd_42 (vyb_cX3_pop_0 (i := 4) rfl)
theorem dX3_pop_5 : decode cX3_pop 5 = Except.ok (Instr.iload_n 1, 1) := vyd_27 (vyb_cX3_pop_0 (i := 5) rfl)
theorem dX3_pop_6 : decode cX3_pop 6 = Except.ok (Instr.iconst 0, 1) := vyd_3 (vyb_cX3_pop_0 (i := 6) rfl)
theorem dX3_pop_7 : decode cX3_pop 7 = Except.ok (Instr.bipush (-9), 2) := vyd_16 (vyb_cX3_pop_0 (i := 7) rfl) (vyb_cX3_pop_0 (i := 8) rfl) (by decide +kernel)
theorem dX3_pop_9 : decode cX3_pop 9 = Except.ok (Instr.invokevirtual 92, 3) := vyd_182 (vyb_cX3_pop_0 (i := 9) rfl) (vyb_cX3_pop_1 (i := 0) rfl) (vyb_cX3_pop_1 (i := 1) rfl) rfl
theorem dX3_pop_12 : decode cX3_pop 12 = Except.ok (Instr.ireturn, 1) := vyd_172 (vyb_cX3_pop_1 (i := 2) rfl)
theorem vyb_cX3_serve_0 {i : Nat} {b : UInt8} (h : ([0x1b, 0xb8, 0x00, 0x45, 0x2a, 0x1b, 0x03, 0x1c, 0x99, 0x00] : List UInt8)[i]? = some b) : vy_8 cX3_serve (0 + i) b := vy_in (n := 10) (by decide +kernel) h
theorem vyb_cX3_serve_1 {i : Nat} {b : UInt8} (h : ([0x07, 0x03, 0xa7, 0x00, 0x05, 0x10, 0xf7, 0xb6, 0x00, 0x5c] : List UInt8)[i]? = some b) : vy_8 cX3_serve (10 + i) b := vy_in (n := 10) (by decide +kernel) h
theorem vyb_cX3_serve_2 {i : Nat} {b : UInt8} (h : ([0xac] : List UInt8)[i]? = some b) : vy_8 cX3_serve (20 + i) b := vy_in (n := 1) (by decide +kernel) h
theorem dX3_serve_0 : decode cX3_serve 0 = Except.ok (Instr.iload_n 1, 1) := vyd_27 (vyb_cX3_serve_0 (i := 0) rfl)
theorem dX3_serve_1 : decode cX3_serve 1 = Except.ok (Instr.invokestatic 69, 3) := vyd_184 (vyb_cX3_serve_0 (i := 1) rfl) (vyb_cX3_serve_0 (i := 2) rfl) (vyb_cX3_serve_0 (i := 3) rfl) rfl
theorem dX3_serve_4 : decode cX3_serve 4 = Except.ok (Instr.aload_n 0, 1) := vyd_42 (vyb_cX3_serve_0 (i := 4) rfl)
theorem dX3_serve_5 : decode cX3_serve 5 = Except.ok (Instr.iload_n 1, 1) := vyd_27 (vyb_cX3_serve_0 (i := 5) rfl)
theorem dX3_serve_6 : decode cX3_serve 6 = Except.ok (Instr.iconst 0, 1) := vyd_3 (vyb_cX3_serve_0 (i := 6) rfl)
theorem dX3_serve_7 : decode cX3_serve 7 = Except.ok (Instr.iload_n 2, 1) := vyd_28 (vyb_cX3_serve_0 (i := 7) rfl)
theorem dX3_serve_8 : decode cX3_serve 8 = Except.ok (Instr.ifCond .eq 7, 3) := vyd_153 (vyb_cX3_serve_0 (i := 8) rfl) (vyb_cX3_serve_0 (i := 9) rfl) (vyb_cX3_serve_1 (i := 0) rfl) (by decide +kernel)
theorem dX3_serve_11 : decode cX3_serve 11 = Except.ok (Instr.iconst 0, 1) := vyd_3 (vyb_cX3_serve_1 (i := 1) rfl)
theorem dX3_serve_12 : decode cX3_serve 12 = Except.ok (Instr.goto 5, 3) := vyd_167 (vyb_cX3_serve_1 (i := 2) rfl) (vyb_cX3_serve_1 (i := 3) rfl) (vyb_cX3_serve_1 (i := 4) rfl) (by decide +kernel)
theorem dX3_serve_15 : decode cX3_serve 15 = Except.ok (Instr.bipush (-9), 2) := vyd_16 (vyb_cX3_serve_1 (i := 5) rfl) (vyb_cX3_serve_1 (i := 6) rfl) (by decide +kernel)
theorem dX3_serve_17 : decode cX3_serve 17 = Except.ok (Instr.invokevirtual 92, 3) := vyd_182 (vyb_cX3_serve_1 (i := 7) rfl) (vyb_cX3_serve_1 (i := 8) rfl) (vyb_cX3_serve_1 (i := 9) rfl) rfl
theorem dX3_serve_20 : decode cX3_serve 20 = Except.ok (Instr.ireturn, 1) := vyd_172 (vyb_cX3_serve_2 (i := 0) rfl)
theorem vyb_cX3_rotate_0 {i : Nat} {b : UInt8} (h : ([0x1b, 0xb8, 0x00, 0x45, 0x1c, 0x10, 0xfa, 0x10, 0x06, 0xb8] : List UInt8)[i]? = some b) : vy_8 cX3_rotate (0 + i) b := vy_in (n := 10) (by decide +kernel) h
theorem vyb_cX3_rotate_1 {i : Nat} {b : UInt8} (h : ([0x00, 0x4c, 0x1c, 0x9e, 0x00, 0x07, 0x04, 0xa7, 0x00, 0x04] : List UInt8)[i]? = some b) : vy_8 cX3_rotate (10 + i) b := vy_in (n := 10) (by decide +kernel) h
theorem vyb_cX3_rotate_2 {i : Nat} {b : UInt8} (h : ([0x03, 0x3e, 0x2a, 0x1b, 0xb6, 0x00, 0x3d, 0xb6, 0x00, 0x60] : List UInt8)[i]? = some b) : vy_8 cX3_rotate (20 + i) b := vy_in (n := 10) (by decide +kernel) h
theorem vyb_cX3_rotate_3 {i : Nat} {b : UInt8} (h : ([0x99, 0x00, 0x07, 0x03, 0xa7, 0x00, 0x07, 0x1c, 0xb8, 0x00] : List UInt8)[i]? = some b) : vy_8 cX3_rotate (30 + i) b := vy_in (n := 10) (by decide +kernel) h
theorem vyb_cX3_rotate_4 {i : Nat} {b : UInt8} (h : ([0x64, 0x36, 0x04, 0x03, 0x36, 0x05, 0x15, 0x05, 0x15, 0x04] : List UInt8)[i]? = some b) : vy_8 cX3_rotate (40 + i) b := vy_in (n := 10) (by decide +kernel) h
theorem vyb_cX3_rotate_5 {i : Nat} {b : UInt8} (h : ([0xa2, 0x00, 0x21, 0x2a, 0x1b, 0x1d, 0xb6, 0x00, 0x6a, 0x36] : List UInt8)[i]? = some b) : vy_8 cX3_rotate (50 + i) b := vy_in (n := 10) (by decide +kernel) h
theorem vyb_cX3_rotate_6 {i : Nat} {b : UInt8} (h : ([0x06, 0x2a, 0x1b, 0x1d, 0x9a, 0x00, 0x07, 0x04, 0xa7, 0x00] : List UInt8)[i]? = some b) : vy_8 cX3_rotate (60 + i) b := vy_in (n := 10) (by decide +kernel) h
theorem vyb_cX3_rotate_7 {i : Nat} {b : UInt8} (h : ([0x04, 0x03, 0x15, 0x06, 0xb6, 0x00, 0x58, 0x84, 0x05, 0x01] : List UInt8)[i]? = some b) : vy_8 cX3_rotate (70 + i) b := vy_in (n := 10) (by decide +kernel) h
theorem vyb_cX3_rotate_8 {i : Nat} {b : UInt8} (h : ([0xa7, 0xff, 0xde, 0x2a, 0x1b, 0x03, 0xb6, 0x00, 0x48, 0xac] : List UInt8)[i]? = some b) : vy_8 cX3_rotate (80 + i) b := vy_in (n := 10) (by decide +kernel) h
theorem dX3_rotate_0 : decode cX3_rotate 0 = Except.ok (Instr.iload_n 1, 1) := vyd_27 (vyb_cX3_rotate_0 (i := 0) rfl)
theorem dX3_rotate_1 : decode cX3_rotate 1 = Except.ok (Instr.invokestatic 69, 3) := vyd_184 (vyb_cX3_rotate_0 (i := 1) rfl) (vyb_cX3_rotate_0 (i := 2) rfl) (vyb_cX3_rotate_0 (i := 3) rfl) rfl
theorem dX3_rotate_4 : decode cX3_rotate 4 = Except.ok (Instr.iload_n 2, 1) := vyd_28 (vyb_cX3_rotate_0 (i := 4) rfl)
theorem dX3_rotate_5 : decode cX3_rotate 5 = Except.ok (Instr.bipush (-6), 2) := vyd_16 (vyb_cX3_rotate_0 (i := 5) rfl) (vyb_cX3_rotate_0 (i := 6) rfl) (by decide +kernel)
theorem dX3_rotate_7 : decode cX3_rotate 7 = Except.ok (Instr.bipush 6, 2) := vyd_16 (vyb_cX3_rotate_0 (i := 7) rfl) (vyb_cX3_rotate_0 (i := 8) rfl) (by decide +kernel)
theorem dX3_rotate_9 : decode cX3_rotate 9 = Except.ok (Instr.invokestatic 76, 3) := vyd_184 (vyb_cX3_rotate_0 (i := 9) rfl) (vyb_cX3_rotate_1 (i := 0) rfl) (vyb_cX3_rotate_1 (i := 1) rfl) rfl
theorem dX3_rotate_12 : decode cX3_rotate 12 = Except.ok (Instr.iload_n 2, 1) := vyd_28 (vyb_cX3_rotate_1 (i := 2) rfl)
theorem dX3_rotate_13 : decode cX3_rotate 13 = Except.ok (Instr.ifCond .le 7, 3) := vyd_158 (vyb_cX3_rotate_1 (i := 3) rfl) (vyb_cX3_rotate_1 (i := 4) rfl) (vyb_cX3_rotate_1 (i := 5) rfl) (by decide +kernel)
theorem dX3_rotate_16 : decode cX3_rotate 16 = Except.ok (Instr.iconst 1, 1) := vyd_4 (vyb_cX3_rotate_1 (i := 6) rfl)
theorem dX3_rotate_17 : decode cX3_rotate 17 = Except.ok (Instr.goto 4, 3) := vyd_167 (vyb_cX3_rotate_1 (i := 7) rfl) (vyb_cX3_rotate_1 (i := 8) rfl) (vyb_cX3_rotate_1 (i := 9) rfl) (by decide +kernel)
theorem dX3_rotate_20 : decode cX3_rotate 20 = Except.ok (Instr.iconst 0, 1) := vyd_3 (vyb_cX3_rotate_2 (i := 0) rfl)
theorem dX3_rotate_21 : decode cX3_rotate 21 = Except.ok (Instr.istore_n 3, 1) := vyd_62 (vyb_cX3_rotate_2 (i := 1) rfl)
theorem dX3_rotate_22 : decode cX3_rotate 22 = Except.ok (Instr.aload_n 0, 1) := vyd_42 (vyb_cX3_rotate_2 (i := 2) rfl)
theorem dX3_rotate_23 : decode cX3_rotate 23 = Except.ok (Instr.iload_n 1, 1) := vyd_27 (vyb_cX3_rotate_2 (i := 3) rfl)
theorem dX3_rotate_24 : decode cX3_rotate 24 = Except.ok (Instr.invokevirtual 61, 3) := vyd_182 (vyb_cX3_rotate_2 (i := 4) rfl) (vyb_cX3_rotate_2 (i := 5) rfl) (vyb_cX3_rotate_2 (i := 6) rfl) rfl
theorem dX3_rotate_27 : decode cX3_rotate 27 = Except.ok (Instr.invokevirtual 96, 3) := vyd_182 (vyb_cX3_rotate_2 (i := 7) rfl) (vyb_cX3_rotate_2 (i := 8) rfl) (vyb_cX3_rotate_2 (i := 9) rfl) rfl
theorem dX3_rotate_30 : decode cX3_rotate 30 = Except.ok (Instr.ifCond .eq 7, 3) := vyd_153 (vyb_cX3_rotate_3 (i := 0) rfl) (vyb_cX3_rotate_3 (i := 1) rfl) (vyb_cX3_rotate_3 (i := 2) rfl) (by decide +kernel)
theorem dX3_rotate_33 : decode cX3_rotate 33 = Except.ok (Instr.iconst 0, 1) := vyd_3 (vyb_cX3_rotate_3 (i := 3) rfl)
theorem dX3_rotate_34 : decode cX3_rotate 34 = Except.ok (Instr.goto 7, 3) := vyd_167 (vyb_cX3_rotate_3 (i := 4) rfl) (vyb_cX3_rotate_3 (i := 5) rfl) (vyb_cX3_rotate_3 (i := 6) rfl) (by decide +kernel)
theorem dX3_rotate_37 : decode cX3_rotate 37 = Except.ok (Instr.iload_n 2, 1) := vyd_28 (vyb_cX3_rotate_3 (i := 7) rfl)
theorem dX3_rotate_38 : decode cX3_rotate 38 = Except.ok (Instr.invokestatic 100, 3) := vyd_184 (vyb_cX3_rotate_3 (i := 8) rfl) (vyb_cX3_rotate_3 (i := 9) rfl) (vyb_cX3_rotate_4 (i := 0) rfl) rfl
theorem dX3_rotate_41 : decode cX3_rotate 41 = Except.ok (Instr.istore 4, 2) := vyd_54 (vyb_cX3_rotate_4 (i := 1) rfl) (vyb_cX3_rotate_4 (i := 2) rfl) rfl
theorem dX3_rotate_43 : decode cX3_rotate 43 = Except.ok (Instr.iconst 0, 1) := vyd_3 (vyb_cX3_rotate_4 (i := 3) rfl)
theorem dX3_rotate_44 : decode cX3_rotate 44 = Except.ok (Instr.istore 5, 2) := vyd_54 (vyb_cX3_rotate_4 (i := 4) rfl) (vyb_cX3_rotate_4 (i := 5) rfl) rfl
theorem dX3_rotate_46 : decode cX3_rotate 46 = Except.ok (Instr.iload 5, 2) := vyd_21 (vyb_cX3_rotate_4 (i := 6) rfl) (vyb_cX3_rotate_4 (i := 7) rfl) rfl
theorem dX3_rotate_48 : decode cX3_rotate 48 = Except.ok (Instr.iload 4, 2) := vyd_21 (vyb_cX3_rotate_4 (i := 8) rfl) (vyb_cX3_rotate_4 (i := 9) rfl) rfl
theorem dX3_rotate_50 : decode cX3_rotate 50 = Except.ok (Instr.if_icmp .ge 33, 3) := vyd_162 (vyb_cX3_rotate_5 (i := 0) rfl) (vyb_cX3_rotate_5 (i := 1) rfl) (vyb_cX3_rotate_5 (i := 2) rfl) (by decide +kernel)
theorem dX3_rotate_53 : decode cX3_rotate 53 = Except.ok (Instr.aload_n 0, 1) := vyd_42 (vyb_cX3_rotate_5 (i := 3) rfl)
theorem dX3_rotate_54 : decode cX3_rotate 54 = Except.ok (Instr.iload_n 1, 1) := vyd_27 (vyb_cX3_rotate_5 (i := 4) rfl)
theorem dX3_rotate_55 : decode cX3_rotate 55 = Except.ok (Instr.iload_n 3, 1) := vyd_29 (vyb_cX3_rotate_5 (i := 5) rfl)
theorem dX3_rotate_56 : decode cX3_rotate 56 = Except.ok (Instr.invokevirtual 106, 3) := vyd_182 (vyb_cX3_rotate_5 (i := 6) rfl) (vyb_cX3_rotate_5 (i := 7) rfl) (vyb_cX3_rotate_5 (i := 8) rfl) rfl
theorem dX3_rotate_59 : decode cX3_rotate 59 = Except.ok (Instr.istore 6, 2) := vyd_54 (vyb_cX3_rotate_5 (i := 9) rfl) (vyb_cX3_rotate_6 (i := 0) rfl) rfl
theorem dX3_rotate_61 : decode cX3_rotate 61 = Except.ok (Instr.aload_n 0, 1) := vyd_42 (vyb_cX3_rotate_6 (i := 1) rfl)
theorem dX3_rotate_62 : decode cX3_rotate 62 = Except.ok (Instr.iload_n 1, 1) := vyd_27 (vyb_cX3_rotate_6 (i := 2) rfl)
theorem dX3_rotate_63 : decode cX3_rotate 63 = Except.ok (Instr.iload_n 3, 1) := vyd_29 (vyb_cX3_rotate_6 (i := 3) rfl)
theorem dX3_rotate_64 : decode cX3_rotate 64 = Except.ok (Instr.ifCond .ne 7, 3) := vyd_154 (vyb_cX3_rotate_6 (i := 4) rfl) (vyb_cX3_rotate_6 (i := 5) rfl) (vyb_cX3_rotate_6 (i := 6) rfl) (by decide +kernel)
theorem dX3_rotate_67 : decode cX3_rotate 67 = Except.ok (Instr.iconst 1, 1) := vyd_4 (vyb_cX3_rotate_6 (i := 7) rfl)
theorem dX3_rotate_68 : decode cX3_rotate 68 = Except.ok (Instr.goto 4, 3) := vyd_167 (vyb_cX3_rotate_6 (i := 8) rfl) (vyb_cX3_rotate_6 (i := 9) rfl) (vyb_cX3_rotate_7 (i := 0) rfl) (by decide +kernel)
theorem dX3_rotate_71 : decode cX3_rotate 71 = Except.ok (Instr.iconst 0, 1) := vyd_3 (vyb_cX3_rotate_7 (i := 1) rfl)
theorem dX3_rotate_72 : decode cX3_rotate 72 = Except.ok (Instr.iload 6, 2) := vyd_21 (vyb_cX3_rotate_7 (i := 2) rfl) (vyb_cX3_rotate_7 (i := 3) rfl) rfl
theorem dX3_rotate_74 : decode cX3_rotate 74 = Except.ok (Instr.invokevirtual 88, 3) := vyd_182 (vyb_cX3_rotate_7 (i := 4) rfl) (vyb_cX3_rotate_7 (i := 5) rfl) (vyb_cX3_rotate_7 (i := 6) rfl) rfl
theorem dX3_rotate_77 : decode cX3_rotate 77 = .ok (.iinc 5 1, 3) := by decide +kernel
theorem dX3_rotate_80 : decode cX3_rotate 80 = Except.ok (Instr.goto (-34), 3) := vyd_167 (vyb_cX3_rotate_8 (i := 0) rfl) (vyb_cX3_rotate_8 (i := 1) rfl) (vyb_cX3_rotate_8 (i := 2) rfl) (by decide +kernel)
theorem dX3_rotate_83 : decode cX3_rotate 83 = Except.ok (Instr.aload_n 0, 1) := vyd_42 (vyb_cX3_rotate_8 (i := 3) rfl)
theorem dX3_rotate_84 : decode cX3_rotate 84 = Except.ok (Instr.iload_n 1, 1) := vyd_27 (vyb_cX3_rotate_8 (i := 4) rfl)
theorem dX3_rotate_85 : decode cX3_rotate 85 = Except.ok (Instr.iconst 0, 1) := vyd_3 (vyb_cX3_rotate_8 (i := 5) rfl)
theorem dX3_rotate_86 : decode cX3_rotate 86 = Except.ok (Instr.invokevirtual 72, 3) := vyd_182 (vyb_cX3_rotate_8 (i := 6) rfl) (vyb_cX3_rotate_8 (i := 7) rfl) (vyb_cX3_rotate_8 (i := 8) rfl) rfl
theorem dX3_rotate_89 : decode cX3_rotate 89 = Except.ok (Instr.ireturn, 1) := vyd_172 (vyb_cX3_rotate_8 (i := 9) rfl)
theorem vyb_cX3_undo_0 {i : Nat} {b : UInt8} (h : ([0x2a, 0xb4, 0x00, 0x15, 0xb6, 0x00, 0x60, 0x99, 0x00, 0x06] : List UInt8)[i]? = some b) : vy_8 cX3_undo (0 + i) b := vy_in (n := 10) (by decide +kernel) h
theorem vyb_cX3_undo_1 {i : Nat} {b : UInt8} (h : ([0x10, 0xf7, 0xac, 0x2a, 0xb4, 0x00, 0x15, 0x2a, 0xb4, 0x00] : List UInt8)[i]? = some b) : vy_8 cX3_undo (10 + i) b := vy_in (n := 10) (by decide +kernel) h
theorem vyb_cX3_undo_2 {i : Nat} {b : UInt8} (h : ([0x15, 0x04, 0xb6, 0x00, 0x6d, 0xb6, 0x00, 0x71, 0x3c, 0x1b] : List UInt8)[i]? = some b) : vy_8 cX3_undo (20 + i) b := vy_in (n := 10) (by decide +kernel) h
theorem vyb_cX3_undo_3 {i : Nat} {b : UInt8} (h : ([0xb8, 0x00, 0x74, 0x3d, 0x2a, 0x1c, 0xb6, 0x00, 0x3d, 0x4e] : List UInt8)[i]? = some b) : vy_8 cX3_undo (30 + i) b := vy_in (n := 10) (by decide +kernel) h
theorem vyb_cX3_undo_4 {i : Nat} {b : UInt8} (h : ([0x1b, 0xb8, 0x00, 0x77, 0x99, 0x00, 0x13, 0x2d, 0x2d, 0x1b] : List UInt8)[i]? = some b) : vy_8 cX3_undo (40 + i) b := vy_in (n := 10) (by decide +kernel) h
theorem vyb_cX3_undo_5 {i : Nat} {b : UInt8} (h : ([0xb8, 0x00, 0x7b, 0xb6, 0x00, 0x6d, 0xb6, 0x00, 0x71, 0x57] : List UInt8)[i]? = some b) : vy_8 cX3_undo (50 + i) b := vy_in (n := 10) (by decide +kernel) h
theorem vyb_cX3_undo_6 {i : Nat} {b : UInt8} (h : ([0xa7, 0x00, 0x1a, 0x2d, 0x1b, 0xb8, 0x00, 0x7b, 0x99, 0x00] : List UInt8)[i]? = some b) : vy_8 cX3_undo (60 + i) b := vy_in (n := 10) (by decide +kernel) h
theorem vyb_cX3_undo_7 {i : Nat} {b : UInt8} (h : ([0x0a, 0x2d, 0xb6, 0x00, 0x41, 0xa7, 0x00, 0x04, 0x03, 0x1b] : List UInt8)[i]? = some b) : vy_8 cX3_undo (70 + i) b := vy_in (n := 10) (by decide +kernel) h
theorem vyb_cX3_undo_8 {i : Nat} {b : UInt8} (h : ([0xb8, 0x00, 0x7e, 0xb6, 0x00, 0x81, 0x2a, 0x1c, 0xb6, 0x00] : List UInt8)[i]? = some b) : vy_8 cX3_undo (80 + i) b := vy_in (n := 10) (by decide +kernel) h
theorem vyb_cX3_undo_9 {i : Nat} {b : UInt8} (h : ([0x84, 0x1b, 0xac] : List UInt8)[i]? = some b) : vy_8 cX3_undo (90 + i) b := vy_in (n := 3) (by decide +kernel) h
theorem dX3_undo_0 : decode cX3_undo 0 = Except.ok (Instr.aload_n 0, 1) := vyd_42 (vyb_cX3_undo_0 (i := 0) rfl)
theorem dX3_undo_1 : decode cX3_undo 1 = Except.ok (Instr.getfield 21, 3) := vyd_180 (vyb_cX3_undo_0 (i := 1) rfl) (vyb_cX3_undo_0 (i := 2) rfl) (vyb_cX3_undo_0 (i := 3) rfl) rfl
theorem dX3_undo_4 : decode cX3_undo 4 = Except.ok (Instr.invokevirtual 96, 3) := vyd_182 (vyb_cX3_undo_0 (i := 4) rfl) (vyb_cX3_undo_0 (i := 5) rfl) (vyb_cX3_undo_0 (i := 6) rfl) rfl
theorem dX3_undo_7 : decode cX3_undo 7 = Except.ok (Instr.ifCond .eq 6, 3) := vyd_153 (vyb_cX3_undo_0 (i := 7) rfl) (vyb_cX3_undo_0 (i := 8) rfl) (vyb_cX3_undo_0 (i := 9) rfl) (by decide +kernel)
theorem dX3_undo_10 : decode cX3_undo 10 = Except.ok (Instr.bipush (-9), 2) := vyd_16 (vyb_cX3_undo_1 (i := 0) rfl) (vyb_cX3_undo_1 (i := 1) rfl) (by decide +kernel)
theorem dX3_undo_12 : decode cX3_undo 12 = Except.ok (Instr.ireturn, 1) := vyd_172 (vyb_cX3_undo_1 (i := 2) rfl)
theorem dX3_undo_13 : decode cX3_undo 13 = Except.ok (Instr.aload_n 0, 1) := vyd_42 (vyb_cX3_undo_1 (i := 3) rfl)
theorem dX3_undo_14 : decode cX3_undo 14 = Except.ok (Instr.getfield 21, 3) := vyd_180 (vyb_cX3_undo_1 (i := 4) rfl) (vyb_cX3_undo_1 (i := 5) rfl) (vyb_cX3_undo_1 (i := 6) rfl) rfl
theorem dX3_undo_17 : decode cX3_undo 17 = Except.ok (Instr.aload_n 0, 1) := vyd_42 (vyb_cX3_undo_1 (i := 7) rfl)
theorem dX3_undo_18 : decode cX3_undo 18 = Except.ok (Instr.getfield 21, 3) := vyd_180 (vyb_cX3_undo_1 (i := 8) rfl) (vyb_cX3_undo_1 (i := 9) rfl) (vyb_cX3_undo_2 (i := 0) rfl) rfl
theorem dX3_undo_21 : decode cX3_undo 21 = Except.ok (Instr.iconst 1, 1) := vyd_4 (vyb_cX3_undo_2 (i := 1) rfl)
theorem dX3_undo_22 : decode cX3_undo 22 = Except.ok (Instr.invokevirtual 109, 3) := vyd_182 (vyb_cX3_undo_2 (i := 2) rfl) (vyb_cX3_undo_2 (i := 3) rfl) (vyb_cX3_undo_2 (i := 4) rfl) rfl
theorem dX3_undo_25 : decode cX3_undo 25 = Except.ok (Instr.invokevirtual 113, 3) := vyd_182 (vyb_cX3_undo_2 (i := 5) rfl) (vyb_cX3_undo_2 (i := 6) rfl) (vyb_cX3_undo_2 (i := 7) rfl) rfl
theorem dX3_undo_28 : decode cX3_undo 28 = Except.ok (Instr.istore_n 1, 1) := vyd_60 (vyb_cX3_undo_2 (i := 8) rfl)
theorem dX3_undo_29 : decode cX3_undo 29 = Except.ok (Instr.iload_n 1, 1) := vyd_27 (vyb_cX3_undo_2 (i := 9) rfl)
theorem dX3_undo_30 : decode cX3_undo 30 = Except.ok (Instr.invokestatic 116, 3) := vyd_184 (vyb_cX3_undo_3 (i := 0) rfl) (vyb_cX3_undo_3 (i := 1) rfl) (vyb_cX3_undo_3 (i := 2) rfl) rfl
theorem dX3_undo_33 : decode cX3_undo 33 = Except.ok (Instr.istore_n 2, 1) := vyd_61 (vyb_cX3_undo_3 (i := 3) rfl)
theorem dX3_undo_34 : decode cX3_undo 34 = Except.ok (Instr.aload_n 0, 1) := vyd_42 (vyb_cX3_undo_3 (i := 4) rfl)
theorem dX3_undo_35 : decode cX3_undo 35 = Except.ok (Instr.iload_n 2, 1) := vyd_28 (vyb_cX3_undo_3 (i := 5) rfl)
theorem dX3_undo_36 : decode cX3_undo 36 = Except.ok (Instr.invokevirtual 61, 3) := vyd_182 (vyb_cX3_undo_3 (i := 6) rfl) (vyb_cX3_undo_3 (i := 7) rfl) (vyb_cX3_undo_3 (i := 8) rfl) rfl
theorem dX3_undo_39 : decode cX3_undo 39 = Except.ok (Instr.astore_n 3, 1) := vyd_78 (vyb_cX3_undo_3 (i := 9) rfl)
theorem dX3_undo_40 : decode cX3_undo 40 = Except.ok (Instr.iload_n 1, 1) := vyd_27 (vyb_cX3_undo_4 (i := 0) rfl)
theorem dX3_undo_41 : decode cX3_undo 41 = Except.ok (Instr.invokestatic 119, 3) := vyd_184 (vyb_cX3_undo_4 (i := 1) rfl) (vyb_cX3_undo_4 (i := 2) rfl) (vyb_cX3_undo_4 (i := 3) rfl) rfl
theorem dX3_undo_44 : decode cX3_undo 44 = Except.ok (Instr.ifCond .eq 19, 3) := vyd_153 (vyb_cX3_undo_4 (i := 4) rfl) (vyb_cX3_undo_4 (i := 5) rfl) (vyb_cX3_undo_4 (i := 6) rfl) (by decide +kernel)
theorem dX3_undo_47 : decode cX3_undo 47 = Except.ok (Instr.aload_n 3, 1) := vyd_45 (vyb_cX3_undo_4 (i := 7) rfl)
theorem dX3_undo_48 : decode cX3_undo 48 = Except.ok (Instr.aload_n 3, 1) := vyd_45 (vyb_cX3_undo_4 (i := 8) rfl)
theorem dX3_undo_49 : decode cX3_undo 49 = Except.ok (Instr.iload_n 1, 1) := vyd_27 (vyb_cX3_undo_4 (i := 9) rfl)
theorem dX3_undo_50 : decode cX3_undo 50 = Except.ok (Instr.invokestatic 123, 3) := vyd_184 (vyb_cX3_undo_5 (i := 0) rfl) (vyb_cX3_undo_5 (i := 1) rfl) (vyb_cX3_undo_5 (i := 2) rfl) rfl
theorem dX3_undo_53 : decode cX3_undo 53 = Except.ok (Instr.invokevirtual 109, 3) := vyd_182 (vyb_cX3_undo_5 (i := 3) rfl) (vyb_cX3_undo_5 (i := 4) rfl) (vyb_cX3_undo_5 (i := 5) rfl) rfl
theorem dX3_undo_56 : decode cX3_undo 56 = Except.ok (Instr.invokevirtual 113, 3) := vyd_182 (vyb_cX3_undo_5 (i := 6) rfl) (vyb_cX3_undo_5 (i := 7) rfl) (vyb_cX3_undo_5 (i := 8) rfl) rfl
theorem dX3_undo_59 : decode cX3_undo 59 = Except.ok (Instr.pop, 1) := vyd_87 (vyb_cX3_undo_5 (i := 9) rfl)
theorem dX3_undo_60 : decode cX3_undo 60 = Except.ok (Instr.goto 26, 3) := vyd_167 (vyb_cX3_undo_6 (i := 0) rfl) (vyb_cX3_undo_6 (i := 1) rfl) (vyb_cX3_undo_6 (i := 2) rfl) (by decide +kernel)
theorem dX3_undo_63 : decode cX3_undo 63 = Except.ok (Instr.aload_n 3, 1) := vyd_45 (vyb_cX3_undo_6 (i := 3) rfl)
theorem dX3_undo_64 : decode cX3_undo 64 = Except.ok (Instr.iload_n 1, 1) := vyd_27 (vyb_cX3_undo_6 (i := 4) rfl)
theorem dX3_undo_65 : decode cX3_undo 65 = Except.ok (Instr.invokestatic 123, 3) := vyd_184 (vyb_cX3_undo_6 (i := 5) rfl) (vyb_cX3_undo_6 (i := 6) rfl) (vyb_cX3_undo_6 (i := 7) rfl) rfl
theorem dX3_undo_68 : decode cX3_undo 68 = Except.ok (Instr.ifCond .eq 10, 3) := vyd_153 (vyb_cX3_undo_6 (i := 8) rfl) (vyb_cX3_undo_6 (i := 9) rfl) (vyb_cX3_undo_7 (i := 0) rfl) (by decide +kernel)
theorem dX3_undo_71 : decode cX3_undo 71 = Except.ok (Instr.aload_n 3, 1) := vyd_45 (vyb_cX3_undo_7 (i := 1) rfl)
theorem dX3_undo_72 : decode cX3_undo 72 = Except.ok (Instr.invokevirtual 65, 3) := vyd_182 (vyb_cX3_undo_7 (i := 2) rfl) (vyb_cX3_undo_7 (i := 3) rfl) (vyb_cX3_undo_7 (i := 4) rfl) rfl
theorem dX3_undo_75 : decode cX3_undo 75 = Except.ok (Instr.goto 4, 3) := vyd_167 (vyb_cX3_undo_7 (i := 5) rfl) (vyb_cX3_undo_7 (i := 6) rfl) (vyb_cX3_undo_7 (i := 7) rfl) (by decide +kernel)
theorem dX3_undo_78 : decode cX3_undo 78 = Except.ok (Instr.iconst 0, 1) := vyd_3 (vyb_cX3_undo_7 (i := 8) rfl)
theorem dX3_undo_79 : decode cX3_undo 79 = Except.ok (Instr.iload_n 1, 1) := vyd_27 (vyb_cX3_undo_7 (i := 9) rfl)
theorem dX3_undo_80 : decode cX3_undo 80 = Except.ok (Instr.invokestatic 126, 3) := vyd_184 (vyb_cX3_undo_8 (i := 0) rfl) (vyb_cX3_undo_8 (i := 1) rfl) (vyb_cX3_undo_8 (i := 2) rfl) rfl
theorem dX3_undo_83 : decode cX3_undo 83 = Except.ok (Instr.invokevirtual 129, 3) := vyd_182 (vyb_cX3_undo_8 (i := 3) rfl) (vyb_cX3_undo_8 (i := 4) rfl) (vyb_cX3_undo_8 (i := 5) rfl) rfl
theorem dX3_undo_86 : decode cX3_undo 86 = Except.ok (Instr.aload_n 0, 1) := vyd_42 (vyb_cX3_undo_8 (i := 6) rfl)
theorem dX3_undo_87 : decode cX3_undo 87 = Except.ok (Instr.iload_n 2, 1) := vyd_28 (vyb_cX3_undo_8 (i := 7) rfl)
theorem dX3_undo_88 : decode cX3_undo 88 = Except.ok (Instr.invokevirtual 132, 3) := vyd_182 (vyb_cX3_undo_8 (i := 8) rfl) (vyb_cX3_undo_8 (i := 9) rfl) (vyb_cX3_undo_9 (i := 0) rfl) rfl
theorem dX3_undo_91 : decode cX3_undo 91 = Except.ok (Instr.iload_n 1, 1) := vyd_27 (vyb_cX3_undo_9 (i := 1) rfl)
theorem dX3_undo_92 : decode cX3_undo 92 = Except.ok (Instr.ireturn, 1) := vyd_172 (vyb_cX3_undo_9 (i := 2) rfl)
theorem vyb_cX3_drop_0 {i : Nat} {b : UInt8} (h : ([0x1b, 0xb8, 0x00, 0x45, 0x1b, 0x1c, 0xb8, 0x00, 0x87, 0x2a] : List UInt8)[i]? = some b) : vy_8 cX3_drop (0 + i) b := vy_in (n := 10) (by decide +kernel) h
theorem vyb_cX3_drop_1 {i : Nat} {b : UInt8} (h : ([0x1b, 0xb6, 0x00, 0x3d, 0x3a, 0x04, 0x19, 0x04, 0x1c, 0x1d] : List UInt8)[i]? = some b) : vy_8 cX3_drop (10 + i) b := vy_in (n := 10) (by decide +kernel) h
theorem vyb_cX3_drop_2 {i : Nat} {b : UInt8} (h : ([0xb6, 0x00, 0x8a, 0x36, 0x05, 0x15, 0x05, 0x02, 0xa0, 0x00] : List UInt8)[i]? = some b) : vy_8 cX3_drop (20 + i) b := vy_in (n := 10) (by decide +kernel) h
theorem vyb_cX3_drop_3 {i : Nat} {b : UInt8} (h : ([0x05, 0x03, 0xac, 0x19, 0x04, 0x15, 0x05, 0xb6, 0x00, 0x71] : List UInt8)[i]? = some b) : vy_8 cX3_drop (30 + i) b := vy_in (n := 10) (by decide +kernel) h
theorem vyb_cX3_drop_4 {i : Nat} {b : UInt8} (h : ([0x57, 0x2a, 0x1b, 0xb6, 0x00, 0x8d, 0x04, 0xac] : List UInt8)[i]? = some b) : vy_8 cX3_drop (40 + i) b := vy_in (n := 8) (by decide +kernel) h
theorem dX3_drop_0 : decode cX3_drop 0 = Except.ok (Instr.iload_n 1, 1) := vyd_27 (vyb_cX3_drop_0 (i := 0) rfl)
theorem dX3_drop_1 : decode cX3_drop 1 = Except.ok (Instr.invokestatic 69, 3) := vyd_184 (vyb_cX3_drop_0 (i := 1) rfl) (vyb_cX3_drop_0 (i := 2) rfl) (vyb_cX3_drop_0 (i := 3) rfl) rfl
theorem dX3_drop_4 : decode cX3_drop 4 = Except.ok (Instr.iload_n 1, 1) := vyd_27 (vyb_cX3_drop_0 (i := 4) rfl)
theorem dX3_drop_5 : decode cX3_drop 5 = Except.ok (Instr.iload_n 2, 1) := vyd_28 (vyb_cX3_drop_0 (i := 5) rfl)
theorem dX3_drop_6 : decode cX3_drop 6 = Except.ok (Instr.invokestatic 135, 3) := vyd_184 (vyb_cX3_drop_0 (i := 6) rfl) (vyb_cX3_drop_0 (i := 7) rfl) (vyb_cX3_drop_0 (i := 8) rfl) rfl
theorem dX3_drop_9 : decode cX3_drop 9 = Except.ok (Instr.aload_n 0, 1) := vyd_42 (vyb_cX3_drop_0 (i := 9) rfl)
theorem dX3_drop_10 : decode cX3_drop 10 = Except.ok (Instr.iload_n 1, 1) := vyd_27 (vyb_cX3_drop_1 (i := 0) rfl)
theorem dX3_drop_11 : decode cX3_drop 11 = Except.ok (Instr.invokevirtual 61, 3) := vyd_182 (vyb_cX3_drop_1 (i := 1) rfl) (vyb_cX3_drop_1 (i := 2) rfl) (vyb_cX3_drop_1 (i := 3) rfl) rfl
theorem dX3_drop_14 : decode cX3_drop 14 = Except.ok (Instr.astore 4, 2) := vyd_58 (vyb_cX3_drop_1 (i := 4) rfl) (vyb_cX3_drop_1 (i := 5) rfl) rfl
theorem dX3_drop_16 : decode cX3_drop 16 = Except.ok (Instr.aload 4, 2) := vyd_25 (vyb_cX3_drop_1 (i := 6) rfl) (vyb_cX3_drop_1 (i := 7) rfl) rfl
theorem dX3_drop_18 : decode cX3_drop 18 = Except.ok (Instr.iload_n 2, 1) := vyd_28 (vyb_cX3_drop_1 (i := 8) rfl)
theorem dX3_drop_19 : decode cX3_drop 19 = Except.ok (Instr.iload_n 3, 1) := vyd_29 (vyb_cX3_drop_1 (i := 9) rfl)
theorem dX3_drop_20 : decode cX3_drop 20 = Except.ok (Instr.invokevirtual 138, 3) := vyd_182 (vyb_cX3_drop_2 (i := 0) rfl) (vyb_cX3_drop_2 (i := 1) rfl) (vyb_cX3_drop_2 (i := 2) rfl) rfl
theorem dX3_drop_23 : decode cX3_drop 23 = Except.ok (Instr.istore 5, 2) := vyd_54 (vyb_cX3_drop_2 (i := 3) rfl) (vyb_cX3_drop_2 (i := 4) rfl) rfl
theorem dX3_drop_25 : decode cX3_drop 25 = Except.ok (Instr.iload 5, 2) := vyd_21 (vyb_cX3_drop_2 (i := 5) rfl) (vyb_cX3_drop_2 (i := 6) rfl) rfl
theorem dX3_drop_27 : decode cX3_drop 27 = Except.ok (Instr.iconst (-1), 1) := vyd_2 (vyb_cX3_drop_2 (i := 7) rfl)
theorem dX3_drop_28 : decode cX3_drop 28 = Except.ok (Instr.if_icmp .ne 5, 3) := vyd_160 (vyb_cX3_drop_2 (i := 8) rfl) (vyb_cX3_drop_2 (i := 9) rfl) (vyb_cX3_drop_3 (i := 0) rfl) (by decide +kernel)
theorem dX3_drop_31 : decode cX3_drop 31 = Except.ok (Instr.iconst 0, 1) := vyd_3 (vyb_cX3_drop_3 (i := 1) rfl)
theorem dX3_drop_32 : decode cX3_drop 32 = Except.ok (Instr.ireturn, 1) := vyd_172 (vyb_cX3_drop_3 (i := 2) rfl)
theorem dX3_drop_33 : decode cX3_drop 33 = Except.ok (Instr.aload 4, 2) := vyd_25 (vyb_cX3_drop_3 (i := 3) rfl) (vyb_cX3_drop_3 (i := 4) rfl) rfl
theorem dX3_drop_35 : decode cX3_drop 35 = Except.ok (Instr.iload 5, 2) := vyd_21 (vyb_cX3_drop_3 (i := 5) rfl) (vyb_cX3_drop_3 (i := 6) rfl) rfl
theorem dX3_drop_37 : decode cX3_drop 37 = Except.ok (Instr.invokevirtual 113, 3) := vyd_182 (vyb_cX3_drop_3 (i := 7) rfl) (vyb_cX3_drop_3 (i := 8) rfl) (vyb_cX3_drop_3 (i := 9) rfl) rfl
theorem dX3_drop_40 : decode cX3_drop 40 = Except.ok (Instr.pop, 1) := vyd_87 (vyb_cX3_drop_4 (i := 0) rfl)
theorem dX3_drop_41 : decode cX3_drop 41 = Except.ok (Instr.aload_n 0, 1) := vyd_42 (vyb_cX3_drop_4 (i := 1) rfl)
theorem dX3_drop_42 : decode cX3_drop 42 = Except.ok (Instr.iload_n 1, 1) := vyd_27 (vyb_cX3_drop_4 (i := 2) rfl)
theorem dX3_drop_43 : decode cX3_drop 43 = Except.ok (Instr.invokevirtual 141, 3) := vyd_182 (vyb_cX3_drop_4 (i := 3) rfl) (vyb_cX3_drop_4 (i := 4) rfl) (vyb_cX3_drop_4 (i := 5) rfl) rfl
theorem dX3_drop_46 : decode cX3_drop 46 = Except.ok (Instr.iconst 1, 1) := vyd_4 (vyb_cX3_drop_4 (i := 6) rfl)
theorem dX3_drop_47 : decode cX3_drop 47 = Except.ok (Instr.ireturn, 1) := vyd_172 (vyb_cX3_drop_4 (i := 7) rfl)
theorem vyb_cX3_dropAll_0 {i : Nat} {b : UInt8} (h : ([0x1b, 0xb8, 0x00, 0x45, 0x1b, 0x1c, 0xb8, 0x00, 0x87, 0x2a] : List UInt8)[i]? = some b) : vy_8 cX3_dropAll (0 + i) b := vy_in (n := 10) (by decide +kernel) h
theorem vyb_cX3_dropAll_1 {i : Nat} {b : UInt8} (h : ([0x1b, 0xb6, 0x00, 0x3d, 0x4e, 0x2d, 0xb6, 0x00, 0x41, 0x36] : List UInt8)[i]? = some b) : vy_8 cX3_dropAll (10 + i) b := vy_in (n := 10) (by decide +kernel) h
theorem vyb_cX3_dropAll_2 {i : Nat} {b : UInt8} (h : ([0x04, 0x03, 0x36, 0x05, 0x03, 0x36, 0x06, 0x15, 0x06, 0x15] : List UInt8)[i]? = some b) : vy_8 cX3_dropAll (20 + i) b := vy_in (n := 10) (by decide +kernel) h
theorem vyb_cX3_dropAll_3 {i : Nat} {b : UInt8} (h : ([0x04, 0xa2, 0x00, 0x27, 0x15, 0x06, 0x15, 0x05, 0x64, 0x36] : List UInt8)[i]? = some b) : vy_8 cX3_dropAll (30 + i) b := vy_in (n := 10) (by decide +kernel) h
theorem vyb_cX3_dropAll_4 {i : Nat} {b : UInt8} (h : ([0x07, 0x2d, 0x15, 0x07, 0xb6, 0x00, 0x90, 0xb8, 0x00, 0x93] : List UInt8)[i]? = some b) : vy_8 cX3_dropAll (40 + i) b := vy_in (n := 10) (by decide +kernel) h
theorem vyb_cX3_dropAll_5 {i : Nat} {b : UInt8} (h : ([0x1c, 0xa0, 0x00, 0x0d, 0x2d, 0x15, 0x07, 0xb6, 0x00, 0x71] : List UInt8)[i]? = some b) : vy_8 cX3_dropAll (50 + i) b := vy_in (n := 10) (by decide +kernel) h
theorem vyb_cX3_dropAll_6 {i : Nat} {b : UInt8} (h : ([0x57, 0x84, 0x05, 0x01, 0x84, 0x06, 0x01, 0xa7, 0xff, 0xd8] : List UInt8)[i]? = some b) : vy_8 cX3_dropAll (60 + i) b := vy_in (n := 10) (by decide +kernel) h
theorem vyb_cX3_dropAll_7 {i : Nat} {b : UInt8} (h : ([0x2a, 0x1b, 0x15, 0x05, 0xb6, 0x00, 0x96, 0x15, 0x05, 0xac] : List UInt8)[i]? = some b) : vy_8 cX3_dropAll (70 + i) b := vy_in (n := 10) (by decide +kernel) h
theorem dX3_dropAll_0 : decode cX3_dropAll 0 = Except.ok (Instr.iload_n 1, 1) := vyd_27 (vyb_cX3_dropAll_0 (i := 0) rfl)
theorem dX3_dropAll_1 : decode cX3_dropAll 1 = Except.ok (Instr.invokestatic 69, 3) := vyd_184 (vyb_cX3_dropAll_0 (i := 1) rfl) (vyb_cX3_dropAll_0 (i := 2) rfl) (vyb_cX3_dropAll_0 (i := 3) rfl) rfl
theorem dX3_dropAll_4 : decode cX3_dropAll 4 = Except.ok (Instr.iload_n 1, 1) := vyd_27 (vyb_cX3_dropAll_0 (i := 4) rfl)
theorem dX3_dropAll_5 : decode cX3_dropAll 5 = Except.ok (Instr.iload_n 2, 1) := vyd_28 (vyb_cX3_dropAll_0 (i := 5) rfl)
theorem dX3_dropAll_6 : decode cX3_dropAll 6 = Except.ok (Instr.invokestatic 135, 3) := vyd_184 (vyb_cX3_dropAll_0 (i := 6) rfl) (vyb_cX3_dropAll_0 (i := 7) rfl) (vyb_cX3_dropAll_0 (i := 8) rfl) rfl
theorem dX3_dropAll_9 : decode cX3_dropAll 9 = Except.ok (Instr.aload_n 0, 1) := vyd_42 (vyb_cX3_dropAll_0 (i := 9) rfl)
theorem dX3_dropAll_10 : decode cX3_dropAll 10 = Except.ok (Instr.iload_n 1, 1) := vyd_27 (vyb_cX3_dropAll_1 (i := 0) rfl)
theorem dX3_dropAll_11 : decode cX3_dropAll 11 = Except.ok (Instr.invokevirtual 61, 3) := vyd_182 (vyb_cX3_dropAll_1 (i := 1) rfl) (vyb_cX3_dropAll_1 (i := 2) rfl) (vyb_cX3_dropAll_1 (i := 3) rfl) rfl
theorem dX3_dropAll_14 : decode cX3_dropAll 14 = Except.ok (Instr.astore_n 3, 1) := vyd_78 (vyb_cX3_dropAll_1 (i := 4) rfl)
theorem dX3_dropAll_15 : decode cX3_dropAll 15 = Except.ok (Instr.aload_n 3, 1) := vyd_45 (vyb_cX3_dropAll_1 (i := 5) rfl)
theorem dX3_dropAll_16 : decode cX3_dropAll 16 = Except.ok (Instr.invokevirtual 65, 3) := vyd_182 (vyb_cX3_dropAll_1 (i := 6) rfl) (vyb_cX3_dropAll_1 (i := 7) rfl) (vyb_cX3_dropAll_1 (i := 8) rfl) rfl
theorem dX3_dropAll_19 : decode cX3_dropAll 19 = Except.ok (Instr.istore 4, 2) := vyd_54 (vyb_cX3_dropAll_1 (i := 9) rfl) (vyb_cX3_dropAll_2 (i := 0) rfl) rfl
theorem dX3_dropAll_21 : decode cX3_dropAll 21 = Except.ok (Instr.iconst 0, 1) := vyd_3 (vyb_cX3_dropAll_2 (i := 1) rfl)
theorem dX3_dropAll_22 : decode cX3_dropAll 22 = Except.ok (Instr.istore 5, 2) := vyd_54 (vyb_cX3_dropAll_2 (i := 2) rfl) (vyb_cX3_dropAll_2 (i := 3) rfl) rfl
theorem dX3_dropAll_24 : decode cX3_dropAll 24 = Except.ok (Instr.iconst 0, 1) := vyd_3 (vyb_cX3_dropAll_2 (i := 4) rfl)
theorem dX3_dropAll_25 : decode cX3_dropAll 25 = Except.ok (Instr.istore 6, 2) := vyd_54 (vyb_cX3_dropAll_2 (i := 5) rfl) (vyb_cX3_dropAll_2 (i := 6) rfl) rfl
theorem dX3_dropAll_27 : decode cX3_dropAll 27 = Except.ok (Instr.iload 6, 2) := vyd_21 (vyb_cX3_dropAll_2 (i := 7) rfl) (vyb_cX3_dropAll_2 (i := 8) rfl) rfl
theorem dX3_dropAll_29 : decode cX3_dropAll 29 = Except.ok (Instr.iload 4, 2) := vyd_21 (vyb_cX3_dropAll_2 (i := 9) rfl) (vyb_cX3_dropAll_3 (i := 0) rfl) rfl
theorem dX3_dropAll_31 : decode cX3_dropAll 31 = Except.ok (Instr.if_icmp .ge 39, 3) := vyd_162 (vyb_cX3_dropAll_3 (i := 1) rfl) (vyb_cX3_dropAll_3 (i := 2) rfl) (vyb_cX3_dropAll_3 (i := 3) rfl) (by decide +kernel)
theorem dX3_dropAll_34 : decode cX3_dropAll 34 = Except.ok (Instr.iload 6, 2) := vyd_21 (vyb_cX3_dropAll_3 (i := 4) rfl) (vyb_cX3_dropAll_3 (i := 5) rfl) rfl
theorem dX3_dropAll_36 : decode cX3_dropAll 36 = Except.ok (Instr.iload 5, 2) := vyd_21 (vyb_cX3_dropAll_3 (i := 6) rfl) (vyb_cX3_dropAll_3 (i := 7) rfl) rfl
theorem dX3_dropAll_38 : decode cX3_dropAll 38 = Except.ok (Instr.isub, 1) := vyd_100 (vyb_cX3_dropAll_3 (i := 8) rfl)
theorem dX3_dropAll_39 : decode cX3_dropAll 39 = Except.ok (Instr.istore 7, 2) := vyd_54 (vyb_cX3_dropAll_3 (i := 9) rfl) (vyb_cX3_dropAll_4 (i := 0) rfl) rfl
theorem dX3_dropAll_41 : decode cX3_dropAll 41 = Except.ok (Instr.aload_n 3, 1) := vyd_45 (vyb_cX3_dropAll_4 (i := 1) rfl)
theorem dX3_dropAll_42 : decode cX3_dropAll 42 = Except.ok (Instr.iload 7, 2) := vyd_21 (vyb_cX3_dropAll_4 (i := 2) rfl) (vyb_cX3_dropAll_4 (i := 3) rfl) rfl
theorem dX3_dropAll_44 : decode cX3_dropAll 44 = Except.ok (Instr.invokevirtual 144, 3) := vyd_182 (vyb_cX3_dropAll_4 (i := 4) rfl) (vyb_cX3_dropAll_4 (i := 5) rfl) (vyb_cX3_dropAll_4 (i := 6) rfl) rfl
theorem dX3_dropAll_47 : decode cX3_dropAll 47 = Except.ok (Instr.invokestatic 147, 3) := vyd_184 (vyb_cX3_dropAll_4 (i := 7) rfl) (vyb_cX3_dropAll_4 (i := 8) rfl) (vyb_cX3_dropAll_4 (i := 9) rfl) rfl
theorem dX3_dropAll_50 : decode cX3_dropAll 50 = Except.ok (Instr.iload_n 2, 1) := vyd_28 (vyb_cX3_dropAll_5 (i := 0) rfl)
theorem dX3_dropAll_51 : decode cX3_dropAll 51 = Except.ok (Instr.if_icmp .ne 13, 3) := vyd_160 (vyb_cX3_dropAll_5 (i := 1) rfl) (vyb_cX3_dropAll_5 (i := 2) rfl) (vyb_cX3_dropAll_5 (i := 3) rfl) (by decide +kernel)
theorem dX3_dropAll_54 : decode cX3_dropAll 54 = Except.ok (Instr.aload_n 3, 1) := vyd_45 (vyb_cX3_dropAll_5 (i := 4) rfl)
theorem dX3_dropAll_55 : decode cX3_dropAll 55 = Except.ok (Instr.iload 7, 2) := vyd_21 (vyb_cX3_dropAll_5 (i := 5) rfl) (vyb_cX3_dropAll_5 (i := 6) rfl) rfl
theorem dX3_dropAll_57 : decode cX3_dropAll 57 = Except.ok (Instr.invokevirtual 113, 3) := vyd_182 (vyb_cX3_dropAll_5 (i := 7) rfl) (vyb_cX3_dropAll_5 (i := 8) rfl) (vyb_cX3_dropAll_5 (i := 9) rfl) rfl
theorem dX3_dropAll_60 : decode cX3_dropAll 60 = Except.ok (Instr.pop, 1) := vyd_87 (vyb_cX3_dropAll_6 (i := 0) rfl)
theorem dX3_dropAll_61 : decode cX3_dropAll 61 = .ok (.iinc 5 1, 3) := by decide +kernel
theorem dX3_dropAll_64 : decode cX3_dropAll 64 = .ok (.iinc 6 1, 3) := by decide +kernel
theorem dX3_dropAll_67 : decode cX3_dropAll 67 = Except.ok (Instr.goto (-40), 3) := vyd_167 (vyb_cX3_dropAll_6 (i := 7) rfl) (vyb_cX3_dropAll_6 (i := 8) rfl) (vyb_cX3_dropAll_6 (i := 9) rfl) (by decide +kernel)
theorem dX3_dropAll_70 : decode cX3_dropAll 70 = Except.ok (Instr.aload_n 0, 1) := vyd_42 (vyb_cX3_dropAll_7 (i := 0) rfl)
theorem dX3_dropAll_71 : decode cX3_dropAll 71 = Except.ok (Instr.iload_n 1, 1) := vyd_27 (vyb_cX3_dropAll_7 (i := 1) rfl)
theorem dX3_dropAll_72 : decode cX3_dropAll 72 = Except.ok (Instr.iload 5, 2) := vyd_21 (vyb_cX3_dropAll_7 (i := 2) rfl) (vyb_cX3_dropAll_7 (i := 3) rfl) rfl
theorem dX3_dropAll_74 : decode cX3_dropAll 74 = Except.ok (Instr.invokevirtual 150, 3) := vyd_182 (vyb_cX3_dropAll_7 (i := 4) rfl) (vyb_cX3_dropAll_7 (i := 5) rfl) (vyb_cX3_dropAll_7 (i := 6) rfl) rfl
theorem dX3_dropAll_77 : decode cX3_dropAll 77 = Except.ok (Instr.iload 5, 2) := vyd_21 (vyb_cX3_dropAll_7 (i := 7) rfl) (vyb_cX3_dropAll_7 (i := 8) rfl) rfl
theorem dX3_dropAll_79 : decode cX3_dropAll 79 = Except.ok (Instr.ireturn, 1) := vyd_172 (vyb_cX3_dropAll_7 (i := 9) rfl)
theorem vyb_cX3_shed_0 {i : Nat} {b : UInt8} (h : ([0x1b, 0xb8, 0x00, 0x45, 0x1d, 0x03, 0x10, 0x63, 0xb8, 0x00] : List UInt8)[i]? = some b) : vy_8 cX3_shed (0 + i) b := vy_in (n := 10) (by decide +kernel) h
theorem vyb_cX3_shed_1 {i : Nat} {b : UInt8} (h : ([0x4c, 0x15, 0x04, 0x04, 0x10, 0x14, 0xb8, 0x00, 0x4c, 0x2a] : List UInt8)[i]? = some b) : vy_8 cX3_shed (10 + i) b := vy_in (n := 10) (by decide +kernel) h
theorem vyb_cX3_shed_2 {i : Nat} {b : UInt8} (h : ([0x1b, 0xb6, 0x00, 0x3d, 0x3a, 0x05, 0x19, 0x05, 0xb6, 0x00] : List UInt8)[i]? = some b) : vy_8 cX3_shed (20 + i) b := vy_in (n := 10) (by decide +kernel) h
theorem vyb_cX3_shed_3 {i : Nat} {b : UInt8} (h : ([0x41, 0x36, 0x06, 0x03, 0x36, 0x07, 0x03, 0x36, 0x08, 0x03] : List UInt8)[i]? = some b) : vy_8 cX3_shed (30 + i) b := vy_in (n := 10) (by decide +kernel) h
theorem vyb_cX3_shed_4 {i : Nat} {b : UInt8} (h : ([0x36, 0x09, 0x15, 0x09, 0x15, 0x06, 0xa2, 0x00, 0x49, 0x15] : List UInt8)[i]? = some b) : vy_8 cX3_shed (40 + i) b := vy_in (n := 10) (by decide +kernel) h
theorem vyb_cX3_shed_5 {i : Nat} {b : UInt8} (h : ([0x07, 0x15, 0x04, 0xa2, 0x00, 0x42, 0x1c, 0x99, 0x00, 0x0d] : List UInt8)[i]? = some b) : vy_8 cX3_shed (50 + i) b := vy_in (n := 10) (by decide +kernel) h
theorem vyb_cX3_shed_6 {i : Nat} {b : UInt8} (h : ([0x15, 0x06, 0x04, 0x64, 0x15, 0x09, 0x64, 0xa7, 0x00, 0x08] : List UInt8)[i]? = some b) : vy_8 cX3_shed (60 + i) b := vy_in (n := 10) (by decide +kernel) h
theorem vyb_cX3_shed_7 {i : Nat} {b : UInt8} (h : ([0x15, 0x09, 0x15, 0x07, 0x64, 0x36, 0x0a, 0x19, 0x05, 0x15] : List UInt8)[i]? = some b) : vy_8 cX3_shed (70 + i) b := vy_in (n := 10) (by decide +kernel) h
theorem vyb_cX3_shed_8 {i : Nat} {b : UInt8} (h : ([0x0a, 0xb6, 0x00, 0x90, 0xb8, 0x00, 0x99, 0x36, 0x0b, 0x15] : List UInt8)[i]? = some b) : vy_8 cX3_shed (80 + i) b := vy_in (n := 10) (by decide +kernel) h
theorem vyb_cX3_shed_9 {i : Nat} {b : UInt8} (h : ([0x0b, 0x1d, 0xa1, 0x00, 0x15, 0x19, 0x05, 0x15, 0x0a, 0xb6] : List UInt8)[i]? = some b) : vy_8 cX3_shed (90 + i) b := vy_in (n := 10) (by decide +kernel) h
theorem vyb_cX3_shed_10 {i : Nat} {b : UInt8} (h : ([0x00, 0x71, 0x57, 0x84, 0x07, 0x01, 0x15, 0x08, 0x15, 0x0b] : List UInt8)[i]? = some b) : vy_8 cX3_shed (100 + i) b := vy_in (n := 10) (by decide +kernel) h
theorem vyb_cX3_shed_11 {i : Nat} {b : UInt8} (h : ([0x60, 0x36, 0x08, 0x84, 0x09, 0x01, 0xa7, 0xff, 0xb6, 0x2a] : List UInt8)[i]? = some b) : vy_8 cX3_shed (110 + i) b := vy_in (n := 10) (by decide +kernel) h
theorem vyb_cX3_shed_12 {i : Nat} {b : UInt8} (h : ([0x1b, 0x15, 0x07, 0xb6, 0x00, 0x96, 0x15, 0x08, 0xac] : List UInt8)[i]? = some b) : vy_8 cX3_shed (120 + i) b := vy_in (n := 9) (by decide +kernel) h
theorem dX3_shed_0 : decode cX3_shed 0 = Except.ok (Instr.iload_n 1, 1) := vyd_27 (vyb_cX3_shed_0 (i := 0) rfl)
theorem dX3_shed_1 : decode cX3_shed 1 = Except.ok (Instr.invokestatic 69, 3) := vyd_184 (vyb_cX3_shed_0 (i := 1) rfl) (vyb_cX3_shed_0 (i := 2) rfl) (vyb_cX3_shed_0 (i := 3) rfl) rfl
theorem dX3_shed_4 : decode cX3_shed 4 = Except.ok (Instr.iload_n 3, 1) := vyd_29 (vyb_cX3_shed_0 (i := 4) rfl)
theorem dX3_shed_5 : decode cX3_shed 5 = Except.ok (Instr.iconst 0, 1) := vyd_3 (vyb_cX3_shed_0 (i := 5) rfl)
theorem dX3_shed_6 : decode cX3_shed 6 = Except.ok (Instr.bipush 99, 2) := vyd_16 (vyb_cX3_shed_0 (i := 6) rfl) (vyb_cX3_shed_0 (i := 7) rfl) (by decide +kernel)
theorem dX3_shed_8 : decode cX3_shed 8 = Except.ok (Instr.invokestatic 76, 3) := vyd_184 (vyb_cX3_shed_0 (i := 8) rfl) (vyb_cX3_shed_0 (i := 9) rfl) (vyb_cX3_shed_1 (i := 0) rfl) rfl
theorem dX3_shed_11 : decode cX3_shed 11 = Except.ok (Instr.iload 4, 2) := vyd_21 (vyb_cX3_shed_1 (i := 1) rfl) (vyb_cX3_shed_1 (i := 2) rfl) rfl
theorem dX3_shed_13 : decode cX3_shed 13 = Except.ok (Instr.iconst 1, 1) := vyd_4 (vyb_cX3_shed_1 (i := 3) rfl)
theorem dX3_shed_14 : decode cX3_shed 14 = Except.ok (Instr.bipush 20, 2) := vyd_16 (vyb_cX3_shed_1 (i := 4) rfl) (vyb_cX3_shed_1 (i := 5) rfl) (by decide +kernel)
theorem dX3_shed_16 : decode cX3_shed 16 = Except.ok (Instr.invokestatic 76, 3) := vyd_184 (vyb_cX3_shed_1 (i := 6) rfl) (vyb_cX3_shed_1 (i := 7) rfl) (vyb_cX3_shed_1 (i := 8) rfl) rfl
theorem dX3_shed_19 : decode cX3_shed 19 = Except.ok (Instr.aload_n 0, 1) := vyd_42 (vyb_cX3_shed_1 (i := 9) rfl)
theorem dX3_shed_20 : decode cX3_shed 20 = Except.ok (Instr.iload_n 1, 1) := vyd_27 (vyb_cX3_shed_2 (i := 0) rfl)
theorem dX3_shed_21 : decode cX3_shed 21 = Except.ok (Instr.invokevirtual 61, 3) := vyd_182 (vyb_cX3_shed_2 (i := 1) rfl) (vyb_cX3_shed_2 (i := 2) rfl) (vyb_cX3_shed_2 (i := 3) rfl) rfl
theorem dX3_shed_24 : decode cX3_shed 24 = Except.ok (Instr.astore 5, 2) := vyd_58 (vyb_cX3_shed_2 (i := 4) rfl) (vyb_cX3_shed_2 (i := 5) rfl) rfl
theorem dX3_shed_26 : decode cX3_shed 26 = Except.ok (Instr.aload 5, 2) := vyd_25 (vyb_cX3_shed_2 (i := 6) rfl) (vyb_cX3_shed_2 (i := 7) rfl) rfl
theorem dX3_shed_28 : decode cX3_shed 28 = Except.ok (Instr.invokevirtual 65, 3) := vyd_182 (vyb_cX3_shed_2 (i := 8) rfl) (vyb_cX3_shed_2 (i := 9) rfl) (vyb_cX3_shed_3 (i := 0) rfl) rfl
theorem dX3_shed_31 : decode cX3_shed 31 = Except.ok (Instr.istore 6, 2) := vyd_54 (vyb_cX3_shed_3 (i := 1) rfl) (vyb_cX3_shed_3 (i := 2) rfl) rfl
theorem dX3_shed_33 : decode cX3_shed 33 = Except.ok (Instr.iconst 0, 1) := vyd_3 (vyb_cX3_shed_3 (i := 3) rfl)
theorem dX3_shed_34 : decode cX3_shed 34 = Except.ok (Instr.istore 7, 2) := vyd_54 (vyb_cX3_shed_3 (i := 4) rfl) (vyb_cX3_shed_3 (i := 5) rfl) rfl
theorem dX3_shed_36 : decode cX3_shed 36 = Except.ok (Instr.iconst 0, 1) := vyd_3 (vyb_cX3_shed_3 (i := 6) rfl)
theorem dX3_shed_37 : decode cX3_shed 37 = Except.ok (Instr.istore 8, 2) := vyd_54 (vyb_cX3_shed_3 (i := 7) rfl) (vyb_cX3_shed_3 (i := 8) rfl) rfl
theorem dX3_shed_39 : decode cX3_shed 39 = Except.ok (Instr.iconst 0, 1) := vyd_3 (vyb_cX3_shed_3 (i := 9) rfl)
theorem dX3_shed_40 : decode cX3_shed 40 = Except.ok (Instr.istore 9, 2) := vyd_54 (vyb_cX3_shed_4 (i := 0) rfl) (vyb_cX3_shed_4 (i := 1) rfl) rfl
theorem dX3_shed_42 : decode cX3_shed 42 = Except.ok (Instr.iload 9, 2) := vyd_21 (vyb_cX3_shed_4 (i := 2) rfl) (vyb_cX3_shed_4 (i := 3) rfl) rfl
theorem dX3_shed_44 : decode cX3_shed 44 = Except.ok (Instr.iload 6, 2) := vyd_21 (vyb_cX3_shed_4 (i := 4) rfl) (vyb_cX3_shed_4 (i := 5) rfl) rfl
theorem dX3_shed_46 : decode cX3_shed 46 = Except.ok (Instr.if_icmp .ge 73, 3) := vyd_162 (vyb_cX3_shed_4 (i := 6) rfl) (vyb_cX3_shed_4 (i := 7) rfl) (vyb_cX3_shed_4 (i := 8) rfl) (by decide +kernel)
theorem dX3_shed_49 : decode cX3_shed 49 = Except.ok (Instr.iload 7, 2) := vyd_21 (vyb_cX3_shed_4 (i := 9) rfl) (vyb_cX3_shed_5 (i := 0) rfl) rfl
theorem dX3_shed_51 : decode cX3_shed 51 = Except.ok (Instr.iload 4, 2) := vyd_21 (vyb_cX3_shed_5 (i := 1) rfl) (vyb_cX3_shed_5 (i := 2) rfl) rfl
theorem dX3_shed_53 : decode cX3_shed 53 = Except.ok (Instr.if_icmp .ge 66, 3) := vyd_162 (vyb_cX3_shed_5 (i := 3) rfl) (vyb_cX3_shed_5 (i := 4) rfl) (vyb_cX3_shed_5 (i := 5) rfl) (by decide +kernel)
theorem dX3_shed_56 : decode cX3_shed 56 = Except.ok (Instr.iload_n 2, 1) := vyd_28 (vyb_cX3_shed_5 (i := 6) rfl)
theorem dX3_shed_57 : decode cX3_shed 57 = Except.ok (Instr.ifCond .eq 13, 3) := vyd_153 (vyb_cX3_shed_5 (i := 7) rfl) (vyb_cX3_shed_5 (i := 8) rfl) (vyb_cX3_shed_5 (i := 9) rfl) (by decide +kernel)
theorem dX3_shed_60 : decode cX3_shed 60 = Except.ok (Instr.iload 6, 2) := vyd_21 (vyb_cX3_shed_6 (i := 0) rfl) (vyb_cX3_shed_6 (i := 1) rfl) rfl
theorem dX3_shed_62 : decode cX3_shed 62 = Except.ok (Instr.iconst 1, 1) := vyd_4 (vyb_cX3_shed_6 (i := 2) rfl)
theorem dX3_shed_63 : decode cX3_shed 63 = Except.ok (Instr.isub, 1) := vyd_100 (vyb_cX3_shed_6 (i := 3) rfl)
theorem dX3_shed_64 : decode cX3_shed 64 = Except.ok (Instr.iload 9, 2) := vyd_21 (vyb_cX3_shed_6 (i := 4) rfl) (vyb_cX3_shed_6 (i := 5) rfl) rfl
theorem dX3_shed_66 : decode cX3_shed 66 = Except.ok (Instr.isub, 1) := vyd_100 (vyb_cX3_shed_6 (i := 6) rfl)
theorem dX3_shed_67 : decode cX3_shed 67 = Except.ok (Instr.goto 8, 3) := vyd_167 (vyb_cX3_shed_6 (i := 7) rfl) (vyb_cX3_shed_6 (i := 8) rfl) (vyb_cX3_shed_6 (i := 9) rfl) (by decide +kernel)
theorem dX3_shed_70 : decode cX3_shed 70 = Except.ok (Instr.iload 9, 2) := vyd_21 (vyb_cX3_shed_7 (i := 0) rfl) (vyb_cX3_shed_7 (i := 1) rfl) rfl
theorem dX3_shed_72 : decode cX3_shed 72 = Except.ok (Instr.iload 7, 2) := vyd_21 (vyb_cX3_shed_7 (i := 2) rfl) (vyb_cX3_shed_7 (i := 3) rfl) rfl
theorem dX3_shed_74 : decode cX3_shed 74 = Except.ok (Instr.isub, 1) := vyd_100 (vyb_cX3_shed_7 (i := 4) rfl)
theorem dX3_shed_75 : decode cX3_shed 75 = Except.ok (Instr.istore 10, 2) := vyd_54 (vyb_cX3_shed_7 (i := 5) rfl) (vyb_cX3_shed_7 (i := 6) rfl) rfl
theorem dX3_shed_77 : decode cX3_shed 77 = Except.ok (Instr.aload 5, 2) := vyd_25 (vyb_cX3_shed_7 (i := 7) rfl) (vyb_cX3_shed_7 (i := 8) rfl) rfl
theorem dX3_shed_79 : decode cX3_shed 79 = Except.ok (Instr.iload 10, 2) := vyd_21 (vyb_cX3_shed_7 (i := 9) rfl) (vyb_cX3_shed_8 (i := 0) rfl) rfl
theorem dX3_shed_81 : decode cX3_shed 81 = Except.ok (Instr.invokevirtual 144, 3) := vyd_182 (vyb_cX3_shed_8 (i := 1) rfl) (vyb_cX3_shed_8 (i := 2) rfl) (vyb_cX3_shed_8 (i := 3) rfl) rfl
theorem dX3_shed_84 : decode cX3_shed 84 = Except.ok (Instr.invokestatic 153, 3) := vyd_184 (vyb_cX3_shed_8 (i := 4) rfl) (vyb_cX3_shed_8 (i := 5) rfl) (vyb_cX3_shed_8 (i := 6) rfl) rfl
theorem dX3_shed_87 : decode cX3_shed 87 = Except.ok (Instr.istore 11, 2) := vyd_54 (vyb_cX3_shed_8 (i := 7) rfl) (vyb_cX3_shed_8 (i := 8) rfl) rfl
theorem dX3_shed_89 : decode cX3_shed 89 = Except.ok (Instr.iload 11, 2) := vyd_21 (vyb_cX3_shed_8 (i := 9) rfl) (vyb_cX3_shed_9 (i := 0) rfl) rfl
theorem dX3_shed_91 : decode cX3_shed 91 = Except.ok (Instr.iload_n 3, 1) := vyd_29 (vyb_cX3_shed_9 (i := 1) rfl)
theorem dX3_shed_92 : decode cX3_shed 92 = Except.ok (Instr.if_icmp .lt 21, 3) := vyd_161 (vyb_cX3_shed_9 (i := 2) rfl) (vyb_cX3_shed_9 (i := 3) rfl) (vyb_cX3_shed_9 (i := 4) rfl) (by decide +kernel)
theorem dX3_shed_95 : decode cX3_shed 95 = Except.ok (Instr.aload 5, 2) := vyd_25 (vyb_cX3_shed_9 (i := 5) rfl) (vyb_cX3_shed_9 (i := 6) rfl) rfl
theorem dX3_shed_97 : decode cX3_shed 97 = Except.ok (Instr.iload 10, 2) := vyd_21 (vyb_cX3_shed_9 (i := 7) rfl) (vyb_cX3_shed_9 (i := 8) rfl) rfl
theorem dX3_shed_99 : decode cX3_shed 99 = Except.ok (Instr.invokevirtual 113, 3) := vyd_182 (vyb_cX3_shed_9 (i := 9) rfl) (vyb_cX3_shed_10 (i := 0) rfl) (vyb_cX3_shed_10 (i := 1) rfl) rfl
theorem dX3_shed_102 : decode cX3_shed 102 = Except.ok (Instr.pop, 1) := vyd_87 (vyb_cX3_shed_10 (i := 2) rfl)
theorem dX3_shed_103 : decode cX3_shed 103 = .ok (.iinc 7 1, 3) := by decide +kernel
theorem dX3_shed_106 : decode cX3_shed 106 = Except.ok (Instr.iload 8, 2) := vyd_21 (vyb_cX3_shed_10 (i := 6) rfl) (vyb_cX3_shed_10 (i := 7) rfl) rfl
theorem dX3_shed_108 : decode cX3_shed 108 = Except.ok (Instr.iload 11, 2) := vyd_21 (vyb_cX3_shed_10 (i := 8) rfl) (vyb_cX3_shed_10 (i := 9) rfl) rfl
theorem dX3_shed_110 : decode cX3_shed 110 = Except.ok (Instr.iadd, 1) := vyd_96 (vyb_cX3_shed_11 (i := 0) rfl)
theorem dX3_shed_111 : decode cX3_shed 111 = Except.ok (Instr.istore 8, 2) := vyd_54 (vyb_cX3_shed_11 (i := 1) rfl) (vyb_cX3_shed_11 (i := 2) rfl) rfl
theorem dX3_shed_113 : decode cX3_shed 113 = .ok (.iinc 9 1, 3) := by decide +kernel
theorem dX3_shed_116 : decode cX3_shed 116 = Except.ok (Instr.goto (-74), 3) := vyd_167 (vyb_cX3_shed_11 (i := 6) rfl) (vyb_cX3_shed_11 (i := 7) rfl) (vyb_cX3_shed_11 (i := 8) rfl) (by decide +kernel)
theorem dX3_shed_119 : decode cX3_shed 119 = Except.ok (Instr.aload_n 0, 1) := vyd_42 (vyb_cX3_shed_11 (i := 9) rfl)
theorem dX3_shed_120 : decode cX3_shed 120 = Except.ok (Instr.iload_n 1, 1) := vyd_27 (vyb_cX3_shed_12 (i := 0) rfl)
theorem dX3_shed_121 : decode cX3_shed 121 = Except.ok (Instr.iload 7, 2) := vyd_21 (vyb_cX3_shed_12 (i := 1) rfl) (vyb_cX3_shed_12 (i := 2) rfl) rfl
theorem dX3_shed_123 : decode cX3_shed 123 = Except.ok (Instr.invokevirtual 150, 3) := vyd_182 (vyb_cX3_shed_12 (i := 3) rfl) (vyb_cX3_shed_12 (i := 4) rfl) (vyb_cX3_shed_12 (i := 5) rfl) rfl
theorem dX3_shed_126 : decode cX3_shed 126 = Except.ok (Instr.iload 8, 2) := vyd_21 (vyb_cX3_shed_12 (i := 6) rfl) (vyb_cX3_shed_12 (i := 7) rfl) rfl
theorem dX3_shed_128 : decode cX3_shed 128 = Except.ok (Instr.ireturn, 1) := vyd_172 (vyb_cX3_shed_12 (i := 8) rfl)
theorem vyb_cX3_thin_0 {i : Nat} {b : UInt8} (h : ([0x1b, 0xb8, 0x00, 0x45, 0x1d, 0x05, 0x08, 0xb8, 0x00, 0x4c] : List UInt8)[i]? = some b) : vy_8 cX3_thin (0 + i) b := vy_in (n := 10) (by decide +kernel) h
theorem vyb_cX3_thin_1 {i : Nat} {b : UInt8} (h : ([0x2a, 0x1b, 0xb6, 0x00, 0x3d, 0x3a, 0x04, 0x19, 0x04, 0xb6] : List UInt8)[i]? = some b) : vy_8 cX3_thin (10 + i) b := vy_in (n := 10) (by decide +kernel) h
theorem vyb_cX3_thin_2 {i : Nat} {b : UInt8} (h : ([0x00, 0x41, 0x36, 0x05, 0x03, 0x36, 0x06, 0x1d, 0x36, 0x07] : List UInt8)[i]? = some b) : vy_8 cX3_thin (20 + i) b := vy_in (n := 10) (by decide +kernel) h
theorem vyb_cX3_thin_3 {i : Nat} {b : UInt8} (h : ([0x03, 0x36, 0x08, 0x15, 0x08, 0x15, 0x05, 0xa2, 0x00, 0x30] : List UInt8)[i]? = some b) : vy_8 cX3_thin (30 + i) b := vy_in (n := 10) (by decide +kernel) h
theorem vyb_cX3_thin_4 {i : Nat} {b : UInt8} (h : ([0x84, 0x07, 0xff, 0x15, 0x07, 0x9a, 0x00, 0x22, 0x19, 0x04] : List UInt8)[i]? = some b) : vy_8 cX3_thin (40 + i) b := vy_in (n := 10) (by decide +kernel) h
theorem vyb_cX3_thin_5 {i : Nat} {b : UInt8} (h : ([0x1c, 0x99, 0x00, 0x0d, 0x15, 0x05, 0x04, 0x64, 0x15, 0x08] : List UInt8)[i]? = some b) : vy_8 cX3_thin (50 + i) b := vy_in (n := 10) (by decide +kernel) h
theorem vyb_cX3_thin_6 {i : Nat} {b : UInt8} (h : ([0x64, 0xa7, 0x00, 0x08, 0x15, 0x08, 0x15, 0x06, 0x64, 0xb6] : List UInt8)[i]? = some b) : vy_8 cX3_thin (60 + i) b := vy_in (n := 10) (by decide +kernel) h
theorem vyb_cX3_thin_7 {i : Nat} {b : UInt8} (h : ([0x00, 0x71, 0x57, 0x84, 0x06, 0x01, 0x1d, 0x36, 0x07, 0x84] : List UInt8)[i]? = some b) : vy_8 cX3_thin (70 + i) b := vy_in (n := 10) (by decide +kernel) h
theorem vyb_cX3_thin_8 {i : Nat} {b : UInt8} (h : ([0x08, 0x01, 0xa7, 0xff, 0xcf, 0x2a, 0x1b, 0x15, 0x06, 0xb6] : List UInt8)[i]? = some b) : vy_8 cX3_thin (80 + i) b := vy_in (n := 10) (by decide +kernel) h
theorem vyb_cX3_thin_9 {i : Nat} {b : UInt8} (h : ([0x00, 0x96, 0x15, 0x06, 0xac] : List UInt8)[i]? = some b) : vy_8 cX3_thin (90 + i) b := vy_in (n := 5) (by decide +kernel) h
theorem dX3_thin_0 : decode cX3_thin 0 = Except.ok (Instr.iload_n 1, 1) := vyd_27 (vyb_cX3_thin_0 (i := 0) rfl)
theorem dX3_thin_1 : decode cX3_thin 1 = Except.ok (Instr.invokestatic 69, 3) := vyd_184 (vyb_cX3_thin_0 (i := 1) rfl) (vyb_cX3_thin_0 (i := 2) rfl) (vyb_cX3_thin_0 (i := 3) rfl) rfl
theorem dX3_thin_4 : decode cX3_thin 4 = Except.ok (Instr.iload_n 3, 1) := vyd_29 (vyb_cX3_thin_0 (i := 4) rfl)
theorem dX3_thin_5 : decode cX3_thin 5 = Except.ok (Instr.iconst 2, 1) := vyd_5 (vyb_cX3_thin_0 (i := 5) rfl)
theorem dX3_thin_6 : decode cX3_thin 6 = Except.ok (Instr.iconst 5, 1) := vyd_8 (vyb_cX3_thin_0 (i := 6) rfl)
theorem dX3_thin_7 : decode cX3_thin 7 = Except.ok (Instr.invokestatic 76, 3) := vyd_184 (vyb_cX3_thin_0 (i := 7) rfl) (vyb_cX3_thin_0 (i := 8) rfl) (vyb_cX3_thin_0 (i := 9) rfl) rfl
theorem dX3_thin_10 : decode cX3_thin 10 = Except.ok (Instr.aload_n 0, 1) := vyd_42 (vyb_cX3_thin_1 (i := 0) rfl)
theorem dX3_thin_11 : decode cX3_thin 11 = Except.ok (Instr.iload_n 1, 1) := vyd_27 (vyb_cX3_thin_1 (i := 1) rfl)
theorem dX3_thin_12 : decode cX3_thin 12 = Except.ok (Instr.invokevirtual 61, 3) := vyd_182 (vyb_cX3_thin_1 (i := 2) rfl) (vyb_cX3_thin_1 (i := 3) rfl) (vyb_cX3_thin_1 (i := 4) rfl) rfl
theorem dX3_thin_15 : decode cX3_thin 15 = Except.ok (Instr.astore 4, 2) := vyd_58 (vyb_cX3_thin_1 (i := 5) rfl) (vyb_cX3_thin_1 (i := 6) rfl) rfl
theorem dX3_thin_17 : decode cX3_thin 17 = Except.ok (Instr.aload 4, 2) := vyd_25 (vyb_cX3_thin_1 (i := 7) rfl) (vyb_cX3_thin_1 (i := 8) rfl) rfl
theorem dX3_thin_19 : decode cX3_thin 19 = Except.ok (Instr.invokevirtual 65, 3) := vyd_182 (vyb_cX3_thin_1 (i := 9) rfl) (vyb_cX3_thin_2 (i := 0) rfl) (vyb_cX3_thin_2 (i := 1) rfl) rfl
theorem dX3_thin_22 : decode cX3_thin 22 = Except.ok (Instr.istore 5, 2) := vyd_54 (vyb_cX3_thin_2 (i := 2) rfl) (vyb_cX3_thin_2 (i := 3) rfl) rfl
theorem dX3_thin_24 : decode cX3_thin 24 = Except.ok (Instr.iconst 0, 1) := vyd_3 (vyb_cX3_thin_2 (i := 4) rfl)
theorem dX3_thin_25 : decode cX3_thin 25 = Except.ok (Instr.istore 6, 2) := vyd_54 (vyb_cX3_thin_2 (i := 5) rfl) (vyb_cX3_thin_2 (i := 6) rfl) rfl
theorem dX3_thin_27 : decode cX3_thin 27 = Except.ok (Instr.iload_n 3, 1) := vyd_29 (vyb_cX3_thin_2 (i := 7) rfl)
theorem dX3_thin_28 : decode cX3_thin 28 = Except.ok (Instr.istore 7, 2) := vyd_54 (vyb_cX3_thin_2 (i := 8) rfl) (vyb_cX3_thin_2 (i := 9) rfl) rfl
theorem dX3_thin_30 : decode cX3_thin 30 = Except.ok (Instr.iconst 0, 1) := vyd_3 (vyb_cX3_thin_3 (i := 0) rfl)
theorem dX3_thin_31 : decode cX3_thin 31 = Except.ok (Instr.istore 8, 2) := vyd_54 (vyb_cX3_thin_3 (i := 1) rfl) (vyb_cX3_thin_3 (i := 2) rfl) rfl
theorem dX3_thin_33 : decode cX3_thin 33 = Except.ok (Instr.iload 8, 2) := vyd_21 (vyb_cX3_thin_3 (i := 3) rfl) (vyb_cX3_thin_3 (i := 4) rfl) rfl
theorem dX3_thin_35 : decode cX3_thin 35 = Except.ok (Instr.iload 5, 2) := vyd_21 (vyb_cX3_thin_3 (i := 5) rfl) (vyb_cX3_thin_3 (i := 6) rfl) rfl
theorem dX3_thin_37 : decode cX3_thin 37 = Except.ok (Instr.if_icmp .ge 48, 3) := vyd_162 (vyb_cX3_thin_3 (i := 7) rfl) (vyb_cX3_thin_3 (i := 8) rfl) (vyb_cX3_thin_3 (i := 9) rfl) (by decide +kernel)
theorem dX3_thin_40 : decode cX3_thin 40 = .ok (.iinc 7 (-1), 3) := by decide +kernel
theorem dX3_thin_43 : decode cX3_thin 43 = Except.ok (Instr.iload 7, 2) := vyd_21 (vyb_cX3_thin_4 (i := 3) rfl) (vyb_cX3_thin_4 (i := 4) rfl) rfl
theorem dX3_thin_45 : decode cX3_thin 45 = Except.ok (Instr.ifCond .ne 34, 3) := vyd_154 (vyb_cX3_thin_4 (i := 5) rfl) (vyb_cX3_thin_4 (i := 6) rfl) (vyb_cX3_thin_4 (i := 7) rfl) (by decide +kernel)
theorem dX3_thin_48 : decode cX3_thin 48 = Except.ok (Instr.aload 4, 2) := vyd_25 (vyb_cX3_thin_4 (i := 8) rfl) (vyb_cX3_thin_4 (i := 9) rfl) rfl
theorem dX3_thin_50 : decode cX3_thin 50 = Except.ok (Instr.iload_n 2, 1) := vyd_28 (vyb_cX3_thin_5 (i := 0) rfl)
theorem dX3_thin_51 : decode cX3_thin 51 = Except.ok (Instr.ifCond .eq 13, 3) := vyd_153 (vyb_cX3_thin_5 (i := 1) rfl) (vyb_cX3_thin_5 (i := 2) rfl) (vyb_cX3_thin_5 (i := 3) rfl) (by decide +kernel)
theorem dX3_thin_54 : decode cX3_thin 54 = Except.ok (Instr.iload 5, 2) := vyd_21 (vyb_cX3_thin_5 (i := 4) rfl) (vyb_cX3_thin_5 (i := 5) rfl) rfl
theorem dX3_thin_56 : decode cX3_thin 56 = Except.ok (Instr.iconst 1, 1) := vyd_4 (vyb_cX3_thin_5 (i := 6) rfl)
theorem dX3_thin_57 : decode cX3_thin 57 = Except.ok (Instr.isub, 1) := vyd_100 (vyb_cX3_thin_5 (i := 7) rfl)
theorem dX3_thin_58 : decode cX3_thin 58 = Except.ok (Instr.iload 8, 2) := vyd_21 (vyb_cX3_thin_5 (i := 8) rfl) (vyb_cX3_thin_5 (i := 9) rfl) rfl
theorem dX3_thin_60 : decode cX3_thin 60 = Except.ok (Instr.isub, 1) := vyd_100 (vyb_cX3_thin_6 (i := 0) rfl)
theorem dX3_thin_61 : decode cX3_thin 61 = Except.ok (Instr.goto 8, 3) := vyd_167 (vyb_cX3_thin_6 (i := 1) rfl) (vyb_cX3_thin_6 (i := 2) rfl) (vyb_cX3_thin_6 (i := 3) rfl) (by decide +kernel)
theorem dX3_thin_64 : decode cX3_thin 64 = Except.ok (Instr.iload 8, 2) := vyd_21 (vyb_cX3_thin_6 (i := 4) rfl) (vyb_cX3_thin_6 (i := 5) rfl) rfl
theorem dX3_thin_66 : decode cX3_thin 66 = Except.ok (Instr.iload 6, 2) := vyd_21 (vyb_cX3_thin_6 (i := 6) rfl) (vyb_cX3_thin_6 (i := 7) rfl) rfl
theorem dX3_thin_68 : decode cX3_thin 68 = Except.ok (Instr.isub, 1) := vyd_100 (vyb_cX3_thin_6 (i := 8) rfl)
theorem dX3_thin_69 : decode cX3_thin 69 = Except.ok (Instr.invokevirtual 113, 3) := vyd_182 (vyb_cX3_thin_6 (i := 9) rfl) (vyb_cX3_thin_7 (i := 0) rfl) (vyb_cX3_thin_7 (i := 1) rfl) rfl
theorem dX3_thin_72 : decode cX3_thin 72 = Except.ok (Instr.pop, 1) := vyd_87 (vyb_cX3_thin_7 (i := 2) rfl)
theorem dX3_thin_73 : decode cX3_thin 73 = .ok (.iinc 6 1, 3) := by decide +kernel
theorem dX3_thin_76 : decode cX3_thin 76 = Except.ok (Instr.iload_n 3, 1) := vyd_29 (vyb_cX3_thin_7 (i := 6) rfl)
theorem dX3_thin_77 : decode cX3_thin 77 = Except.ok (Instr.istore 7, 2) := vyd_54 (vyb_cX3_thin_7 (i := 7) rfl) (vyb_cX3_thin_7 (i := 8) rfl) rfl
theorem dX3_thin_79 : decode cX3_thin 79 = .ok (.iinc 8 1, 3) := by decide +kernel
theorem dX3_thin_82 : decode cX3_thin 82 = Except.ok (Instr.goto (-49), 3) := vyd_167 (vyb_cX3_thin_8 (i := 2) rfl) (vyb_cX3_thin_8 (i := 3) rfl) (vyb_cX3_thin_8 (i := 4) rfl) (by decide +kernel)
theorem dX3_thin_85 : decode cX3_thin 85 = Except.ok (Instr.aload_n 0, 1) := vyd_42 (vyb_cX3_thin_8 (i := 5) rfl)
theorem dX3_thin_86 : decode cX3_thin 86 = Except.ok (Instr.iload_n 1, 1) := vyd_27 (vyb_cX3_thin_8 (i := 6) rfl)
theorem dX3_thin_87 : decode cX3_thin 87 = Except.ok (Instr.iload 6, 2) := vyd_21 (vyb_cX3_thin_8 (i := 7) rfl) (vyb_cX3_thin_8 (i := 8) rfl) rfl
theorem dX3_thin_89 : decode cX3_thin 89 = Except.ok (Instr.invokevirtual 150, 3) := vyd_182 (vyb_cX3_thin_8 (i := 9) rfl) (vyb_cX3_thin_9 (i := 0) rfl) (vyb_cX3_thin_9 (i := 1) rfl) rfl
theorem dX3_thin_92 : decode cX3_thin 92 = Except.ok (Instr.iload 6, 2) := vyd_21 (vyb_cX3_thin_9 (i := 2) rfl) (vyb_cX3_thin_9 (i := 3) rfl) rfl
theorem dX3_thin_94 : decode cX3_thin 94 = Except.ok (Instr.ireturn, 1) := vyd_172 (vyb_cX3_thin_9 (i := 4) rfl)
theorem vyb_cX3_turn_0 {i : Nat} {b : UInt8} (h : ([0x1b, 0xb8, 0x00, 0x45, 0x2a, 0x1b, 0xb6, 0x00, 0x3d, 0x4d] : List UInt8)[i]? = some b) : vy_8 cX3_turn (0 + i) b := vy_in (n := 10) (by decide +kernel) h
theorem vyb_cX3_turn_1 {i : Nat} {b : UInt8} (h : ([0x03, 0x3e, 0x2c, 0xb6, 0x00, 0x41, 0x04, 0x64, 0x36, 0x04] : List UInt8)[i]? = some b) : vy_8 cX3_turn (10 + i) b := vy_in (n := 10) (by decide +kernel) h
theorem vyb_cX3_turn_2 {i : Nat} {b : UInt8} (h : ([0x1d, 0x15, 0x04, 0xa2, 0x00, 0x26, 0x2c, 0x1d, 0xb6, 0x00] : List UInt8)[i]? = some b) : vy_8 cX3_turn (20 + i) b := vy_in (n := 10) (by decide +kernel) h
theorem vyb_cX3_turn_3 {i : Nat} {b : UInt8} (h : ([0x90, 0x36, 0x05, 0x2c, 0x1d, 0x2c, 0x15, 0x04, 0xb6, 0x00] : List UInt8)[i]? = some b) : vy_8 cX3_turn (30 + i) b := vy_in (n := 10) (by decide +kernel) h
theorem vyb_cX3_turn_4 {i : Nat} {b : UInt8} (h : ([0x90, 0xb6, 0x00, 0x9c, 0x2c, 0x15, 0x04, 0x15, 0x05, 0xb6] : List UInt8)[i]? = some b) : vy_8 cX3_turn (40 + i) b := vy_in (n := 10) (by decide +kernel) h
theorem vyb_cX3_turn_5 {i : Nat} {b : UInt8} (h : ([0x00, 0x9c, 0x84, 0x03, 0x01, 0x84, 0x04, 0xff, 0xa7, 0xff] : List UInt8)[i]? = some b) : vy_8 cX3_turn (50 + i) b := vy_in (n := 10) (by decide +kernel) h
theorem vyb_cX3_turn_6 {i : Nat} {b : UInt8} (h : ([0xda, 0x2a, 0x1b, 0x2c, 0xb6, 0x00, 0x41, 0xb6, 0x00, 0x96] : List UInt8)[i]? = some b) : vy_8 cX3_turn (60 + i) b := vy_in (n := 10) (by decide +kernel) h
theorem vyb_cX3_turn_7 {i : Nat} {b : UInt8} (h : ([0x2a, 0x1b, 0x03, 0xb6, 0x00, 0x48, 0xac] : List UInt8)[i]? = some b) : vy_8 cX3_turn (70 + i) b := vy_in (n := 7) (by decide +kernel) h
theorem dX3_turn_0 : decode cX3_turn 0 = Except.ok (Instr.iload_n 1, 1) := vyd_27 (vyb_cX3_turn_0 (i := 0) rfl)
theorem dX3_turn_1 : decode cX3_turn 1 = Except.ok (Instr.invokestatic 69, 3) := vyd_184 (vyb_cX3_turn_0 (i := 1) rfl) (vyb_cX3_turn_0 (i := 2) rfl) (vyb_cX3_turn_0 (i := 3) rfl) rfl
theorem dX3_turn_4 : decode cX3_turn 4 = Except.ok (Instr.aload_n 0, 1) := vyd_42 (vyb_cX3_turn_0 (i := 4) rfl)
theorem dX3_turn_5 : decode cX3_turn 5 = Except.ok (Instr.iload_n 1, 1) := vyd_27 (vyb_cX3_turn_0 (i := 5) rfl)
theorem dX3_turn_6 : decode cX3_turn 6 = Except.ok (Instr.invokevirtual 61, 3) := vyd_182 (vyb_cX3_turn_0 (i := 6) rfl) (vyb_cX3_turn_0 (i := 7) rfl) (vyb_cX3_turn_0 (i := 8) rfl) rfl
theorem dX3_turn_9 : decode cX3_turn 9 = Except.ok (Instr.astore_n 2, 1) := vyd_77 (vyb_cX3_turn_0 (i := 9) rfl)
theorem dX3_turn_10 : decode cX3_turn 10 = Except.ok (Instr.iconst 0, 1) := vyd_3 (vyb_cX3_turn_1 (i := 0) rfl)
theorem dX3_turn_11 : decode cX3_turn 11 = Except.ok (Instr.istore_n 3, 1) := vyd_62 (vyb_cX3_turn_1 (i := 1) rfl)
theorem dX3_turn_12 : decode cX3_turn 12 = Except.ok (Instr.aload_n 2, 1) := vyd_44 (vyb_cX3_turn_1 (i := 2) rfl)
theorem dX3_turn_13 : decode cX3_turn 13 = Except.ok (Instr.invokevirtual 65, 3) := vyd_182 (vyb_cX3_turn_1 (i := 3) rfl) (vyb_cX3_turn_1 (i := 4) rfl) (vyb_cX3_turn_1 (i := 5) rfl) rfl
theorem dX3_turn_16 : decode cX3_turn 16 = Except.ok (Instr.iconst 1, 1) := vyd_4 (vyb_cX3_turn_1 (i := 6) rfl)
theorem dX3_turn_17 : decode cX3_turn 17 = Except.ok (Instr.isub, 1) := vyd_100 (vyb_cX3_turn_1 (i := 7) rfl)
theorem dX3_turn_18 : decode cX3_turn 18 = Except.ok (Instr.istore 4, 2) := vyd_54 (vyb_cX3_turn_1 (i := 8) rfl) (vyb_cX3_turn_1 (i := 9) rfl) rfl
theorem dX3_turn_20 : decode cX3_turn 20 = Except.ok (Instr.iload_n 3, 1) := vyd_29 (vyb_cX3_turn_2 (i := 0) rfl)
theorem dX3_turn_21 : decode cX3_turn 21 = Except.ok (Instr.iload 4, 2) := vyd_21 (vyb_cX3_turn_2 (i := 1) rfl) (vyb_cX3_turn_2 (i := 2) rfl) rfl
theorem dX3_turn_23 : decode cX3_turn 23 = Except.ok (Instr.if_icmp .ge 38, 3) := vyd_162 (vyb_cX3_turn_2 (i := 3) rfl) (vyb_cX3_turn_2 (i := 4) rfl) (vyb_cX3_turn_2 (i := 5) rfl) (by decide +kernel)
theorem dX3_turn_26 : decode cX3_turn 26 = Except.ok (Instr.aload_n 2, 1) := vyd_44 (vyb_cX3_turn_2 (i := 6) rfl)
theorem dX3_turn_27 : decode cX3_turn 27 = Except.ok (Instr.iload_n 3, 1) := vyd_29 (vyb_cX3_turn_2 (i := 7) rfl)
theorem dX3_turn_28 : decode cX3_turn 28 = Except.ok (Instr.invokevirtual 144, 3) := vyd_182 (vyb_cX3_turn_2 (i := 8) rfl) (vyb_cX3_turn_2 (i := 9) rfl) (vyb_cX3_turn_3 (i := 0) rfl) rfl
theorem dX3_turn_31 : decode cX3_turn 31 = Except.ok (Instr.istore 5, 2) := vyd_54 (vyb_cX3_turn_3 (i := 1) rfl) (vyb_cX3_turn_3 (i := 2) rfl) rfl
theorem dX3_turn_33 : decode cX3_turn 33 = Except.ok (Instr.aload_n 2, 1) := vyd_44 (vyb_cX3_turn_3 (i := 3) rfl)
theorem dX3_turn_34 : decode cX3_turn 34 = Except.ok (Instr.iload_n 3, 1) := vyd_29 (vyb_cX3_turn_3 (i := 4) rfl)
theorem dX3_turn_35 : decode cX3_turn 35 = Except.ok (Instr.aload_n 2, 1) := vyd_44 (vyb_cX3_turn_3 (i := 5) rfl)
theorem dX3_turn_36 : decode cX3_turn 36 = Except.ok (Instr.iload 4, 2) := vyd_21 (vyb_cX3_turn_3 (i := 6) rfl) (vyb_cX3_turn_3 (i := 7) rfl) rfl
theorem dX3_turn_38 : decode cX3_turn 38 = Except.ok (Instr.invokevirtual 144, 3) := vyd_182 (vyb_cX3_turn_3 (i := 8) rfl) (vyb_cX3_turn_3 (i := 9) rfl) (vyb_cX3_turn_4 (i := 0) rfl) rfl
theorem dX3_turn_41 : decode cX3_turn 41 = Except.ok (Instr.invokevirtual 156, 3) := vyd_182 (vyb_cX3_turn_4 (i := 1) rfl) (vyb_cX3_turn_4 (i := 2) rfl) (vyb_cX3_turn_4 (i := 3) rfl) rfl
theorem dX3_turn_44 : decode cX3_turn 44 = Except.ok (Instr.aload_n 2, 1) := vyd_44 (vyb_cX3_turn_4 (i := 4) rfl)
theorem dX3_turn_45 : decode cX3_turn 45 = Except.ok (Instr.iload 4, 2) := vyd_21 (vyb_cX3_turn_4 (i := 5) rfl) (vyb_cX3_turn_4 (i := 6) rfl) rfl
theorem dX3_turn_47 : decode cX3_turn 47 = Except.ok (Instr.iload 5, 2) := vyd_21 (vyb_cX3_turn_4 (i := 7) rfl) (vyb_cX3_turn_4 (i := 8) rfl) rfl
theorem dX3_turn_49 : decode cX3_turn 49 = Except.ok (Instr.invokevirtual 156, 3) := vyd_182 (vyb_cX3_turn_4 (i := 9) rfl) (vyb_cX3_turn_5 (i := 0) rfl) (vyb_cX3_turn_5 (i := 1) rfl) rfl
theorem dX3_turn_52 : decode cX3_turn 52 = .ok (.iinc 3 1, 3) := by decide +kernel
theorem dX3_turn_55 : decode cX3_turn 55 = .ok (.iinc 4 (-1), 3) := by decide +kernel
theorem dX3_turn_58 : decode cX3_turn 58 = Except.ok (Instr.goto (-38), 3) := vyd_167 (vyb_cX3_turn_5 (i := 8) rfl) (vyb_cX3_turn_5 (i := 9) rfl) (vyb_cX3_turn_6 (i := 0) rfl) (by decide +kernel)
theorem dX3_turn_61 : decode cX3_turn 61 = Except.ok (Instr.aload_n 0, 1) := vyd_42 (vyb_cX3_turn_6 (i := 1) rfl)
theorem dX3_turn_62 : decode cX3_turn 62 = Except.ok (Instr.iload_n 1, 1) := vyd_27 (vyb_cX3_turn_6 (i := 2) rfl)
theorem dX3_turn_63 : decode cX3_turn 63 = Except.ok (Instr.aload_n 2, 1) := vyd_44 (vyb_cX3_turn_6 (i := 3) rfl)
theorem dX3_turn_64 : decode cX3_turn 64 = Except.ok (Instr.invokevirtual 65, 3) := vyd_182 (vyb_cX3_turn_6 (i := 4) rfl) (vyb_cX3_turn_6 (i := 5) rfl) (vyb_cX3_turn_6 (i := 6) rfl) rfl
theorem dX3_turn_67 : decode cX3_turn 67 = Except.ok (Instr.invokevirtual 150, 3) := vyd_182 (vyb_cX3_turn_6 (i := 7) rfl) (vyb_cX3_turn_6 (i := 8) rfl) (vyb_cX3_turn_6 (i := 9) rfl) rfl
theorem dX3_turn_70 : decode cX3_turn 70 = Except.ok (Instr.aload_n 0, 1) := vyd_42 (vyb_cX3_turn_7 (i := 0) rfl)
theorem dX3_turn_71 : decode cX3_turn 71 = Except.ok (Instr.iload_n 1, 1) := vyd_27 (vyb_cX3_turn_7 (i := 1) rfl)
theorem dX3_turn_72 : decode cX3_turn 72 = Except.ok (Instr.iconst 0, 1) := vyd_3 (vyb_cX3_turn_7 (i := 2) rfl)
theorem dX3_turn_73 : decode cX3_turn 73 = Except.ok (Instr.invokevirtual 72, 3) := vyd_182 (vyb_cX3_turn_7 (i := 3) rfl) (vyb_cX3_turn_7 (i := 4) rfl) (vyb_cX3_turn_7 (i := 5) rfl) rfl
theorem dX3_turn_76 : decode cX3_turn 76 = Except.ok (Instr.ireturn, 1) := vyd_172 (vyb_cX3_turn_7 (i := 6) rfl)
theorem vyb_cX3_clear_0 {i : Nat} {b : UInt8} (h : ([0x1b, 0xb8, 0x00, 0x45, 0x2a, 0x1b, 0xb6, 0x00, 0x3d, 0x4d] : List UInt8)[i]? = some b) : vy_8 cX3_clear (0 + i) b := vy_in (n := 10) (by decide +kernel) h
theorem vyb_cX3_clear_1 {i : Nat} {b : UInt8} (h : ([0x2c, 0xb6, 0x00, 0x41, 0x3e, 0x2c, 0xb6, 0x00, 0x9f, 0x2a] : List UInt8)[i]? = some b) : vy_8 cX3_clear (10 + i) b := vy_in (n := 10) (by decide +kernel) h
theorem vyb_cX3_clear_2 {i : Nat} {b : UInt8} (h : ([0x1b, 0x1d, 0xb6, 0x00, 0x96, 0x1d, 0xac] : List UInt8)[i]? = some b) : vy_8 cX3_clear (20 + i) b := vy_in (n := 7) (by decide +kernel) h
theorem dX3_clear_0 : decode cX3_clear 0 = Except.ok (Instr.iload_n 1, 1) := vyd_27 (vyb_cX3_clear_0 (i := 0) rfl)
theorem dX3_clear_1 : decode cX3_clear 1 = Except.ok (Instr.invokestatic 69, 3) := vyd_184 (vyb_cX3_clear_0 (i := 1) rfl) (vyb_cX3_clear_0 (i := 2) rfl) (vyb_cX3_clear_0 (i := 3) rfl) rfl
theorem dX3_clear_4 : decode cX3_clear 4 = Except.ok (Instr.aload_n 0, 1) := vyd_42 (vyb_cX3_clear_0 (i := 4) rfl)
theorem dX3_clear_5 : decode cX3_clear 5 = Except.ok (Instr.iload_n 1, 1) := vyd_27 (vyb_cX3_clear_0 (i := 5) rfl)
theorem dX3_clear_6 : decode cX3_clear 6 = Except.ok (Instr.invokevirtual 61, 3) := vyd_182 (vyb_cX3_clear_0 (i := 6) rfl) (vyb_cX3_clear_0 (i := 7) rfl) (vyb_cX3_clear_0 (i := 8) rfl) rfl
theorem dX3_clear_9 : decode cX3_clear 9 = Except.ok (Instr.astore_n 2, 1) := vyd_77 (vyb_cX3_clear_0 (i := 9) rfl)
theorem dX3_clear_10 : decode cX3_clear 10 = Except.ok (Instr.aload_n 2, 1) := vyd_44 (vyb_cX3_clear_1 (i := 0) rfl)
theorem dX3_clear_11 : decode cX3_clear 11 = Except.ok (Instr.invokevirtual 65, 3) := vyd_182 (vyb_cX3_clear_1 (i := 1) rfl) (vyb_cX3_clear_1 (i := 2) rfl) (vyb_cX3_clear_1 (i := 3) rfl) rfl
theorem dX3_clear_14 : decode cX3_clear 14 = Except.ok (Instr.istore_n 3, 1) := vyd_62 (vyb_cX3_clear_1 (i := 4) rfl)
theorem dX3_clear_15 : decode cX3_clear 15 = Except.ok (Instr.aload_n 2, 1) := vyd_44 (vyb_cX3_clear_1 (i := 5) rfl)
theorem dX3_clear_16 : decode cX3_clear 16 = Except.ok (Instr.invokevirtual 159, 3) := vyd_182 (vyb_cX3_clear_1 (i := 6) rfl) (vyb_cX3_clear_1 (i := 7) rfl) (vyb_cX3_clear_1 (i := 8) rfl) rfl
theorem dX3_clear_19 : decode cX3_clear 19 = Except.ok (Instr.aload_n 0, 1) := vyd_42 (vyb_cX3_clear_1 (i := 9) rfl)
theorem dX3_clear_20 : decode cX3_clear 20 = Except.ok (Instr.iload_n 1, 1) := vyd_27 (vyb_cX3_clear_2 (i := 0) rfl)
theorem dX3_clear_21 : decode cX3_clear 21 = Except.ok (Instr.iload_n 3, 1) := vyd_29 (vyb_cX3_clear_2 (i := 1) rfl)
theorem dX3_clear_22 : decode cX3_clear 22 = Except.ok (Instr.invokevirtual 150, 3) := vyd_182 (vyb_cX3_clear_2 (i := 2) rfl) (vyb_cX3_clear_2 (i := 3) rfl) (vyb_cX3_clear_2 (i := 4) rfl) rfl
theorem dX3_clear_25 : decode cX3_clear 25 = Except.ok (Instr.iload_n 3, 1) := vyd_29 (vyb_cX3_clear_2 (i := 5) rfl)
theorem dX3_clear_26 : decode cX3_clear 26 = Except.ok (Instr.ireturn, 1) := vyd_172 (vyb_cX3_clear_2 (i := 6) rfl)
theorem vyb_cX3_purge_0 {i : Nat} {b : UInt8} (h : ([0x2a, 0xb4, 0x00, 0x12, 0xb6, 0x00, 0x41, 0x3d, 0x03, 0x3e] : List UInt8)[i]? = some b) : vy_8 cX3_purge (0 + i) b := vy_in (n := 10) (by decide +kernel) h
theorem vyb_cX3_purge_1 {i : Nat} {b : UInt8} (h : ([0x03, 0x36, 0x04, 0x15, 0x04, 0x1c, 0xa2, 0x00, 0x30, 0x15] : List UInt8)[i]? = some b) : vy_8 cX3_purge (10 + i) b := vy_in (n := 10) (by decide +kernel) h
theorem vyb_cX3_purge_2 {i : Nat} {b : UInt8} (h : ([0x04, 0x1d, 0x64, 0x36, 0x05, 0x2a, 0xb4, 0x00, 0x0e, 0x2a] : List UInt8)[i]? = some b) : vy_8 cX3_purge (20 + i) b := vy_in (n := 10) (by decide +kernel) h
theorem vyb_cX3_purge_3 {i : Nat} {b : UInt8} (h : ([0xb4, 0x00, 0x12, 0x15, 0x05, 0xb6, 0x00, 0x90, 0xb8, 0x00] : List UInt8)[i]? = some b) : vy_8 cX3_purge (30 + i) b := vy_in (n := 10) (by decide +kernel) h
theorem vyb_cX3_purge_4 {i : Nat} {b : UInt8} (h : ([0xa2, 0x1b, 0x9f, 0x00, 0x10, 0x2a, 0xb4, 0x00, 0x12, 0x15] : List UInt8)[i]? = some b) : vy_8 cX3_purge (40 + i) b := vy_in (n := 10) (by decide +kernel) h
theorem vyb_cX3_purge_5 {i : Nat} {b : UInt8} (h : ([0x05, 0xb6, 0x00, 0x71, 0x57, 0x84, 0x03, 0x01, 0x84, 0x04] : List UInt8)[i]? = some b) : vy_8 cX3_purge (50 + i) b := vy_in (n := 10) (by decide +kernel) h
theorem vyb_cX3_purge_6 {i : Nat} {b : UInt8} (h : ([0x01, 0xa7, 0xff, 0xd0, 0x2a, 0x04, 0x1d, 0xb6, 0x00, 0x96] : List UInt8)[i]? = some b) : vy_8 cX3_purge (60 + i) b := vy_in (n := 10) (by decide +kernel) h
theorem vyb_cX3_purge_7 {i : Nat} {b : UInt8} (h : ([0x1d, 0xac] : List UInt8)[i]? = some b) : vy_8 cX3_purge (70 + i) b := vy_in (n := 2) (by decide +kernel) h
theorem dX3_purge_0 : decode cX3_purge 0 = Except.ok (Instr.aload_n 0, 1) := vyd_42 (vyb_cX3_purge_0 (i := 0) rfl)
theorem dX3_purge_1 : decode cX3_purge 1 = Except.ok (Instr.getfield 18, 3) := vyd_180 (vyb_cX3_purge_0 (i := 1) rfl) (vyb_cX3_purge_0 (i := 2) rfl) (vyb_cX3_purge_0 (i := 3) rfl) rfl
theorem dX3_purge_4 : decode cX3_purge 4 = Except.ok (Instr.invokevirtual 65, 3) := vyd_182 (vyb_cX3_purge_0 (i := 4) rfl) (vyb_cX3_purge_0 (i := 5) rfl) (vyb_cX3_purge_0 (i := 6) rfl) rfl
theorem dX3_purge_7 : decode cX3_purge 7 = Except.ok (Instr.istore_n 2, 1) := vyd_61 (vyb_cX3_purge_0 (i := 7) rfl)
theorem dX3_purge_8 : decode cX3_purge 8 = Except.ok (Instr.iconst 0, 1) := vyd_3 (vyb_cX3_purge_0 (i := 8) rfl)
theorem dX3_purge_9 : decode cX3_purge 9 = Except.ok (Instr.istore_n 3, 1) := vyd_62 (vyb_cX3_purge_0 (i := 9) rfl)
theorem dX3_purge_10 : decode cX3_purge 10 = Except.ok (Instr.iconst 0, 1) := vyd_3 (vyb_cX3_purge_1 (i := 0) rfl)
theorem dX3_purge_11 : decode cX3_purge 11 = Except.ok (Instr.istore 4, 2) := vyd_54 (vyb_cX3_purge_1 (i := 1) rfl) (vyb_cX3_purge_1 (i := 2) rfl) rfl
theorem dX3_purge_13 : decode cX3_purge 13 = Except.ok (Instr.iload 4, 2) := vyd_21 (vyb_cX3_purge_1 (i := 3) rfl) (vyb_cX3_purge_1 (i := 4) rfl) rfl
theorem dX3_purge_15 : decode cX3_purge 15 = Except.ok (Instr.iload_n 2, 1) := vyd_28 (vyb_cX3_purge_1 (i := 5) rfl)
theorem dX3_purge_16 : decode cX3_purge 16 = Except.ok (Instr.if_icmp .ge 48, 3) := vyd_162 (vyb_cX3_purge_1 (i := 6) rfl) (vyb_cX3_purge_1 (i := 7) rfl) (vyb_cX3_purge_1 (i := 8) rfl) (by decide +kernel)
theorem dX3_purge_19 : decode cX3_purge 19 = Except.ok (Instr.iload 4, 2) := vyd_21 (vyb_cX3_purge_1 (i := 9) rfl) (vyb_cX3_purge_2 (i := 0) rfl) rfl
theorem dX3_purge_21 : decode cX3_purge 21 = Except.ok (Instr.iload_n 3, 1) := vyd_29 (vyb_cX3_purge_2 (i := 1) rfl)
theorem dX3_purge_22 : decode cX3_purge 22 = Except.ok (Instr.isub, 1) := vyd_100 (vyb_cX3_purge_2 (i := 2) rfl)
theorem dX3_purge_23 : decode cX3_purge 23 = Except.ok (Instr.istore 5, 2) := vyd_54 (vyb_cX3_purge_2 (i := 3) rfl) (vyb_cX3_purge_2 (i := 4) rfl) rfl
theorem dX3_purge_25 : decode cX3_purge 25 = Except.ok (Instr.aload_n 0, 1) := vyd_42 (vyb_cX3_purge_2 (i := 5) rfl)
theorem dX3_purge_26 : decode cX3_purge 26 = Except.ok (Instr.getfield 14, 3) := vyd_180 (vyb_cX3_purge_2 (i := 6) rfl) (vyb_cX3_purge_2 (i := 7) rfl) (vyb_cX3_purge_2 (i := 8) rfl) rfl
theorem dX3_purge_29 : decode cX3_purge 29 = Except.ok (Instr.aload_n 0, 1) := vyd_42 (vyb_cX3_purge_2 (i := 9) rfl)
theorem dX3_purge_30 : decode cX3_purge 30 = Except.ok (Instr.getfield 18, 3) := vyd_180 (vyb_cX3_purge_3 (i := 0) rfl) (vyb_cX3_purge_3 (i := 1) rfl) (vyb_cX3_purge_3 (i := 2) rfl) rfl
theorem dX3_purge_33 : decode cX3_purge 33 = Except.ok (Instr.iload 5, 2) := vyd_21 (vyb_cX3_purge_3 (i := 3) rfl) (vyb_cX3_purge_3 (i := 4) rfl) rfl
theorem dX3_purge_35 : decode cX3_purge 35 = Except.ok (Instr.invokevirtual 144, 3) := vyd_182 (vyb_cX3_purge_3 (i := 5) rfl) (vyb_cX3_purge_3 (i := 6) rfl) (vyb_cX3_purge_3 (i := 7) rfl) rfl
theorem dX3_purge_38 : decode cX3_purge 38 = Except.ok (Instr.invokestatic 162, 3) := vyd_184 (vyb_cX3_purge_3 (i := 8) rfl) (vyb_cX3_purge_3 (i := 9) rfl) (vyb_cX3_purge_4 (i := 0) rfl) rfl
theorem dX3_purge_41 : decode cX3_purge 41 = Except.ok (Instr.iload_n 1, 1) := vyd_27 (vyb_cX3_purge_4 (i := 1) rfl)
theorem dX3_purge_42 : decode cX3_purge 42 = Except.ok (Instr.if_icmp .eq 16, 3) := vyd_159 (vyb_cX3_purge_4 (i := 2) rfl) (vyb_cX3_purge_4 (i := 3) rfl) (vyb_cX3_purge_4 (i := 4) rfl) (by decide +kernel)
theorem dX3_purge_45 : decode cX3_purge 45 = Except.ok (Instr.aload_n 0, 1) := vyd_42 (vyb_cX3_purge_4 (i := 5) rfl)
theorem dX3_purge_46 : decode cX3_purge 46 = Except.ok (Instr.getfield 18, 3) := vyd_180 (vyb_cX3_purge_4 (i := 6) rfl) (vyb_cX3_purge_4 (i := 7) rfl) (vyb_cX3_purge_4 (i := 8) rfl) rfl
theorem dX3_purge_49 : decode cX3_purge 49 = Except.ok (Instr.iload 5, 2) := vyd_21 (vyb_cX3_purge_4 (i := 9) rfl) (vyb_cX3_purge_5 (i := 0) rfl) rfl
theorem dX3_purge_51 : decode cX3_purge 51 = Except.ok (Instr.invokevirtual 113, 3) := vyd_182 (vyb_cX3_purge_5 (i := 1) rfl) (vyb_cX3_purge_5 (i := 2) rfl) (vyb_cX3_purge_5 (i := 3) rfl) rfl
theorem dX3_purge_54 : decode cX3_purge 54 = Except.ok (Instr.pop, 1) := vyd_87 (vyb_cX3_purge_5 (i := 4) rfl)
theorem dX3_purge_55 : decode cX3_purge 55 = .ok (.iinc 3 1, 3) := by decide +kernel
theorem dX3_purge_58 : decode cX3_purge 58 = .ok (.iinc 4 1, 3) := by decide +kernel
theorem dX3_purge_61 : decode cX3_purge 61 = Except.ok (Instr.goto (-48), 3) := vyd_167 (vyb_cX3_purge_6 (i := 1) rfl) (vyb_cX3_purge_6 (i := 2) rfl) (vyb_cX3_purge_6 (i := 3) rfl) (by decide +kernel)
theorem dX3_purge_64 : decode cX3_purge 64 = Except.ok (Instr.aload_n 0, 1) := vyd_42 (vyb_cX3_purge_6 (i := 4) rfl)
theorem dX3_purge_65 : decode cX3_purge 65 = Except.ok (Instr.iconst 1, 1) := vyd_4 (vyb_cX3_purge_6 (i := 5) rfl)
theorem dX3_purge_66 : decode cX3_purge 66 = Except.ok (Instr.iload_n 3, 1) := vyd_29 (vyb_cX3_purge_6 (i := 6) rfl)
theorem dX3_purge_67 : decode cX3_purge 67 = Except.ok (Instr.invokevirtual 150, 3) := vyd_182 (vyb_cX3_purge_6 (i := 7) rfl) (vyb_cX3_purge_6 (i := 8) rfl) (vyb_cX3_purge_6 (i := 9) rfl) rfl
theorem dX3_purge_70 : decode cX3_purge 70 = Except.ok (Instr.iload_n 3, 1) := vyd_29 (vyb_cX3_purge_7 (i := 0) rfl)
theorem dX3_purge_71 : decode cX3_purge 71 = Except.ok (Instr.ireturn, 1) := vyd_172 (vyb_cX3_purge_7 (i := 1) rfl)
theorem vyb_cX3_walk_0 {i : Nat} {b : UInt8} (h : ([0x2a, 0xb4, 0x00, 0x1e, 0x1b, 0x2a, 0xb4, 0x00, 0x0e, 0xb6] : List UInt8)[i]? = some b) : vy_8 cX3_walk (0 + i) b := vy_in (n := 10) (by decide +kernel) h
theorem vyb_cX3_walk_1 {i : Nat} {b : UInt8} (h : ([0x00, 0x41, 0xb6, 0x00, 0xa6, 0x2a, 0xb4, 0x00, 0x0e, 0xb6] : List UInt8)[i]? = some b) : vy_8 cX3_walk (10 + i) b := vy_in (n := 10) (by decide +kernel) h
theorem vyb_cX3_walk_2 {i : Nat} {b : UInt8} (h : ([0x00, 0x41, 0xac] : List UInt8)[i]? = some b) : vy_8 cX3_walk (20 + i) b := vy_in (n := 3) (by decide +kernel) h
theorem dX3_walk_0 : decode cX3_walk 0 = Except.ok (Instr.aload_n 0, 1) := vyd_42 (vyb_cX3_walk_0 (i := 0) rfl)
theorem dX3_walk_1 : decode cX3_walk 1 = Except.ok (Instr.getfield 30, 3) := vyd_180 (vyb_cX3_walk_0 (i := 1) rfl) (vyb_cX3_walk_0 (i := 2) rfl) (vyb_cX3_walk_0 (i := 3) rfl) rfl
theorem dX3_walk_4 : decode cX3_walk 4 = Except.ok (Instr.iload_n 1, 1) := vyd_27 (vyb_cX3_walk_0 (i := 4) rfl)
theorem dX3_walk_5 : decode cX3_walk 5 = Except.ok (Instr.aload_n 0, 1) := vyd_42 (vyb_cX3_walk_0 (i := 5) rfl)
theorem dX3_walk_6 : decode cX3_walk 6 = Except.ok (Instr.getfield 14, 3) := vyd_180 (vyb_cX3_walk_0 (i := 6) rfl) (vyb_cX3_walk_0 (i := 7) rfl) (vyb_cX3_walk_0 (i := 8) rfl) rfl
theorem dX3_walk_9 : decode cX3_walk 9 = Except.ok (Instr.invokevirtual 65, 3) := vyd_182 (vyb_cX3_walk_0 (i := 9) rfl) (vyb_cX3_walk_1 (i := 0) rfl) (vyb_cX3_walk_1 (i := 1) rfl) rfl
theorem dX3_walk_12 : decode cX3_walk 12 = Except.ok (Instr.invokevirtual 166, 3) := vyd_182 (vyb_cX3_walk_1 (i := 2) rfl) (vyb_cX3_walk_1 (i := 3) rfl) (vyb_cX3_walk_1 (i := 4) rfl) rfl
theorem dX3_walk_15 : decode cX3_walk 15 = Except.ok (Instr.aload_n 0, 1) := vyd_42 (vyb_cX3_walk_1 (i := 5) rfl)
theorem dX3_walk_16 : decode cX3_walk 16 = Except.ok (Instr.getfield 14, 3) := vyd_180 (vyb_cX3_walk_1 (i := 6) rfl) (vyb_cX3_walk_1 (i := 7) rfl) (vyb_cX3_walk_1 (i := 8) rfl) rfl
theorem dX3_walk_19 : decode cX3_walk 19 = Except.ok (Instr.invokevirtual 65, 3) := vyd_182 (vyb_cX3_walk_1 (i := 9) rfl) (vyb_cX3_walk_2 (i := 0) rfl) (vyb_cX3_walk_2 (i := 1) rfl) rfl
theorem dX3_walk_22 : decode cX3_walk 22 = Except.ok (Instr.ireturn, 1) := vyd_172 (vyb_cX3_walk_2 (i := 2) rfl)
theorem vyb_cX3_step_0 {i : Nat} {b : UInt8} (h : ([0x2a, 0xb6, 0x00, 0xaa, 0x2a, 0xb4, 0x00, 0x1e, 0x2a, 0xb4] : List UInt8)[i]? = some b) : vy_8 cX3_step (0 + i) b := vy_in (n := 10) (by decide +kernel) h
theorem vyb_cX3_step_1 {i : Nat} {b : UInt8} (h : ([0x00, 0x0e, 0xb6, 0x00, 0x41, 0xb6, 0x00, 0xad, 0x9a, 0x00] : List UInt8)[i]? = some b) : vy_8 cX3_step (10 + i) b := vy_in (n := 10) (by decide +kernel) h
theorem vyb_cX3_step_2 {i : Nat} {b : UInt8} (h : ([0x06, 0x10, 0xf7, 0xac, 0x2a, 0xb4, 0x00, 0x1e, 0xb6, 0x00] : List UInt8)[i]? = some b) : vy_8 cX3_step (20 + i) b := vy_in (n := 10) (by decide +kernel) h
theorem vyb_cX3_step_3 {i : Nat} {b : UInt8} (h : ([0xb0, 0x2a, 0xb4, 0x00, 0x0e, 0x2a, 0xb4, 0x00, 0x1e, 0xb4] : List UInt8)[i]? = some b) : vy_8 cX3_step (30 + i) b := vy_in (n := 10) (by decide +kernel) h
theorem vyb_cX3_step_4 {i : Nat} {b : UInt8} (h : ([0x00, 0xb3, 0xb6, 0x00, 0x90, 0xac] : List UInt8)[i]? = some b) : vy_8 cX3_step (40 + i) b := vy_in (n := 6) (by decide +kernel) h
theorem dX3_step_0 : decode cX3_step 0 = Except.ok (Instr.aload_n 0, 1) := vyd_42 (vyb_cX3_step_0 (i := 0) rfl)
theorem dX3_step_1 : decode cX3_step 1 = Except.ok (Instr.invokevirtual 170, 3) := vyd_182 (vyb_cX3_step_0 (i := 1) rfl) (vyb_cX3_step_0 (i := 2) rfl) (vyb_cX3_step_0 (i := 3) rfl) rfl
theorem dX3_step_4 : decode cX3_step 4 = Except.ok (Instr.aload_n 0, 1) := vyd_42 (vyb_cX3_step_0 (i := 4) rfl)
theorem dX3_step_5 : decode cX3_step 5 = Except.ok (Instr.getfield 30, 3) := vyd_180 (vyb_cX3_step_0 (i := 5) rfl) (vyb_cX3_step_0 (i := 6) rfl) (vyb_cX3_step_0 (i := 7) rfl) rfl
theorem dX3_step_8 : decode cX3_step 8 = Except.ok (Instr.aload_n 0, 1) := vyd_42 (vyb_cX3_step_0 (i := 8) rfl)
theorem dX3_step_9 : decode cX3_step 9 = Except.ok (Instr.getfield 14, 3) := vyd_180 (vyb_cX3_step_0 (i := 9) rfl) (vyb_cX3_step_1 (i := 0) rfl) (vyb_cX3_step_1 (i := 1) rfl) rfl
theorem dX3_step_12 : decode cX3_step 12 = Except.ok (Instr.invokevirtual 65, 3) := vyd_182 (vyb_cX3_step_1 (i := 2) rfl) (vyb_cX3_step_1 (i := 3) rfl) (vyb_cX3_step_1 (i := 4) rfl) rfl
theorem dX3_step_15 : decode cX3_step 15 = Except.ok (Instr.invokevirtual 173, 3) := vyd_182 (vyb_cX3_step_1 (i := 5) rfl) (vyb_cX3_step_1 (i := 6) rfl) (vyb_cX3_step_1 (i := 7) rfl) rfl
theorem dX3_step_18 : decode cX3_step 18 = Except.ok (Instr.ifCond .ne 6, 3) := vyd_154 (vyb_cX3_step_1 (i := 8) rfl) (vyb_cX3_step_1 (i := 9) rfl) (vyb_cX3_step_2 (i := 0) rfl) (by decide +kernel)
theorem dX3_step_21 : decode cX3_step 21 = Except.ok (Instr.bipush (-9), 2) := vyd_16 (vyb_cX3_step_2 (i := 1) rfl) (vyb_cX3_step_2 (i := 2) rfl) (by decide +kernel)
theorem dX3_step_23 : decode cX3_step 23 = Except.ok (Instr.ireturn, 1) := vyd_172 (vyb_cX3_step_2 (i := 3) rfl)
theorem dX3_step_24 : decode cX3_step 24 = Except.ok (Instr.aload_n 0, 1) := vyd_42 (vyb_cX3_step_2 (i := 4) rfl)
theorem dX3_step_25 : decode cX3_step 25 = Except.ok (Instr.getfield 30, 3) := vyd_180 (vyb_cX3_step_2 (i := 5) rfl) (vyb_cX3_step_2 (i := 6) rfl) (vyb_cX3_step_2 (i := 7) rfl) rfl
theorem dX3_step_28 : decode cX3_step 28 = Except.ok (Instr.invokevirtual 176, 3) := vyd_182 (vyb_cX3_step_2 (i := 8) rfl) (vyb_cX3_step_2 (i := 9) rfl) (vyb_cX3_step_3 (i := 0) rfl) rfl
theorem dX3_step_31 : decode cX3_step 31 = Except.ok (Instr.aload_n 0, 1) := vyd_42 (vyb_cX3_step_3 (i := 1) rfl)
theorem dX3_step_32 : decode cX3_step 32 = Except.ok (Instr.getfield 14, 3) := vyd_180 (vyb_cX3_step_3 (i := 2) rfl) (vyb_cX3_step_3 (i := 3) rfl) (vyb_cX3_step_3 (i := 4) rfl) rfl
theorem dX3_step_35 : decode cX3_step 35 = Except.ok (Instr.aload_n 0, 1) := vyd_42 (vyb_cX3_step_3 (i := 5) rfl)
theorem dX3_step_36 : decode cX3_step 36 = Except.ok (Instr.getfield 30, 3) := vyd_180 (vyb_cX3_step_3 (i := 6) rfl) (vyb_cX3_step_3 (i := 7) rfl) (vyb_cX3_step_3 (i := 8) rfl) rfl
theorem dX3_step_39 : decode cX3_step 39 = Except.ok (Instr.getfield 179, 3) := vyd_180 (vyb_cX3_step_3 (i := 9) rfl) (vyb_cX3_step_4 (i := 0) rfl) (vyb_cX3_step_4 (i := 1) rfl) rfl
theorem dX3_step_42 : decode cX3_step 42 = Except.ok (Instr.invokevirtual 144, 3) := vyd_182 (vyb_cX3_step_4 (i := 2) rfl) (vyb_cX3_step_4 (i := 3) rfl) (vyb_cX3_step_4 (i := 4) rfl) rfl
theorem dX3_step_45 : decode cX3_step 45 = Except.ok (Instr.ireturn, 1) := vyd_172 (vyb_cX3_step_4 (i := 5) rfl)
theorem vyb_cX3_pluck_0 {i : Nat} {b : UInt8} (h : ([0x2a, 0xb6, 0x00, 0xaa, 0x2a, 0xb4, 0x00, 0x1e, 0xb4, 0x00] : List UInt8)[i]? = some b) : vy_8 cX3_pluck (0 + i) b := vy_in (n := 10) (by decide +kernel) h
theorem vyb_cX3_pluck_1 {i : Nat} {b : UInt8} (h : ([0xb3, 0x02, 0xa0, 0x00, 0x06, 0x10, 0xf7, 0xac, 0x2a, 0xb4] : List UInt8)[i]? = some b) : vy_8 cX3_pluck (10 + i) b := vy_in (n := 10) (by decide +kernel) h
theorem vyb_cX3_pluck_2 {i : Nat} {b : UInt8} (h : ([0x00, 0x0e, 0x2a, 0xb4, 0x00, 0x1e, 0xb4, 0x00, 0xb3, 0xb6] : List UInt8)[i]? = some b) : vy_8 cX3_pluck (20 + i) b := vy_in (n := 10) (by decide +kernel) h
theorem vyb_cX3_pluck_3 {i : Nat} {b : UInt8} (h : ([0x00, 0x71, 0x57, 0x2a, 0xb4, 0x00, 0x1e, 0xb6, 0x00, 0xb6] : List UInt8)[i]? = some b) : vy_8 cX3_pluck (30 + i) b := vy_in (n := 10) (by decide +kernel) h
theorem vyb_cX3_pluck_4 {i : Nat} {b : UInt8} (h : ([0x2a, 0xb4, 0x00, 0x15, 0xb6, 0x00, 0x9f, 0x2a, 0xb4, 0x00] : List UInt8)[i]? = some b) : vy_8 cX3_pluck (40 + i) b := vy_in (n := 10) (by decide +kernel) h
theorem vyb_cX3_pluck_5 {i : Nat} {b : UInt8} (h : ([0x0e, 0xb6, 0x00, 0x41, 0xac] : List UInt8)[i]? = some b) : vy_8 cX3_pluck (50 + i) b := vy_in (n := 5) (by decide +kernel) h
theorem dX3_pluck_0 : decode cX3_pluck 0 = Except.ok (Instr.aload_n 0, 1) := vyd_42 (vyb_cX3_pluck_0 (i := 0) rfl)
theorem dX3_pluck_1 : decode cX3_pluck 1 = Except.ok (Instr.invokevirtual 170, 3) := vyd_182 (vyb_cX3_pluck_0 (i := 1) rfl) (vyb_cX3_pluck_0 (i := 2) rfl) (vyb_cX3_pluck_0 (i := 3) rfl) rfl
theorem dX3_pluck_4 : decode cX3_pluck 4 = Except.ok (Instr.aload_n 0, 1) := vyd_42 (vyb_cX3_pluck_0 (i := 4) rfl)
theorem dX3_pluck_5 : decode cX3_pluck 5 = Except.ok (Instr.getfield 30, 3) := vyd_180 (vyb_cX3_pluck_0 (i := 5) rfl) (vyb_cX3_pluck_0 (i := 6) rfl) (vyb_cX3_pluck_0 (i := 7) rfl) rfl
theorem dX3_pluck_8 : decode cX3_pluck 8 = Except.ok (Instr.getfield 179, 3) := vyd_180 (vyb_cX3_pluck_0 (i := 8) rfl) (vyb_cX3_pluck_0 (i := 9) rfl) (vyb_cX3_pluck_1 (i := 0) rfl) rfl
theorem dX3_pluck_11 : decode cX3_pluck 11 = Except.ok (Instr.iconst (-1), 1) := vyd_2 (vyb_cX3_pluck_1 (i := 1) rfl)
theorem dX3_pluck_12 : decode cX3_pluck 12 = Except.ok (Instr.if_icmp .ne 6, 3) := vyd_160 (vyb_cX3_pluck_1 (i := 2) rfl) (vyb_cX3_pluck_1 (i := 3) rfl) (vyb_cX3_pluck_1 (i := 4) rfl) (by decide +kernel)
theorem dX3_pluck_15 : decode cX3_pluck 15 = Except.ok (Instr.bipush (-9), 2) := vyd_16 (vyb_cX3_pluck_1 (i := 5) rfl) (vyb_cX3_pluck_1 (i := 6) rfl) (by decide +kernel)
theorem dX3_pluck_17 : decode cX3_pluck 17 = Except.ok (Instr.ireturn, 1) := vyd_172 (vyb_cX3_pluck_1 (i := 7) rfl)
theorem dX3_pluck_18 : decode cX3_pluck 18 = Except.ok (Instr.aload_n 0, 1) := vyd_42 (vyb_cX3_pluck_1 (i := 8) rfl)
theorem dX3_pluck_19 : decode cX3_pluck 19 = Except.ok (Instr.getfield 14, 3) := vyd_180 (vyb_cX3_pluck_1 (i := 9) rfl) (vyb_cX3_pluck_2 (i := 0) rfl) (vyb_cX3_pluck_2 (i := 1) rfl) rfl
theorem dX3_pluck_22 : decode cX3_pluck 22 = Except.ok (Instr.aload_n 0, 1) := vyd_42 (vyb_cX3_pluck_2 (i := 2) rfl)
theorem dX3_pluck_23 : decode cX3_pluck 23 = Except.ok (Instr.getfield 30, 3) := vyd_180 (vyb_cX3_pluck_2 (i := 3) rfl) (vyb_cX3_pluck_2 (i := 4) rfl) (vyb_cX3_pluck_2 (i := 5) rfl) rfl
theorem dX3_pluck_26 : decode cX3_pluck 26 = Except.ok (Instr.getfield 179, 3) := vyd_180 (vyb_cX3_pluck_2 (i := 6) rfl) (vyb_cX3_pluck_2 (i := 7) rfl) (vyb_cX3_pluck_2 (i := 8) rfl) rfl
theorem dX3_pluck_29 : decode cX3_pluck 29 = Except.ok (Instr.invokevirtual 113, 3) := vyd_182 (vyb_cX3_pluck_2 (i := 9) rfl) (vyb_cX3_pluck_3 (i := 0) rfl) (vyb_cX3_pluck_3 (i := 1) rfl) rfl
theorem dX3_pluck_32 : decode cX3_pluck 32 = Except.ok (Instr.pop, 1) := vyd_87 (vyb_cX3_pluck_3 (i := 2) rfl)
theorem dX3_pluck_33 : decode cX3_pluck 33 = Except.ok (Instr.aload_n 0, 1) := vyd_42 (vyb_cX3_pluck_3 (i := 3) rfl)
theorem dX3_pluck_34 : decode cX3_pluck 34 = Except.ok (Instr.getfield 30, 3) := vyd_180 (vyb_cX3_pluck_3 (i := 4) rfl) (vyb_cX3_pluck_3 (i := 5) rfl) (vyb_cX3_pluck_3 (i := 6) rfl) rfl
theorem dX3_pluck_37 : decode cX3_pluck 37 = Except.ok (Instr.invokevirtual 182, 3) := vyd_182 (vyb_cX3_pluck_3 (i := 7) rfl) (vyb_cX3_pluck_3 (i := 8) rfl) (vyb_cX3_pluck_3 (i := 9) rfl) rfl
theorem dX3_pluck_40 : decode cX3_pluck 40 = Except.ok (Instr.aload_n 0, 1) := vyd_42 (vyb_cX3_pluck_4 (i := 0) rfl)
theorem dX3_pluck_41 : decode cX3_pluck 41 = Except.ok (Instr.getfield 21, 3) := vyd_180 (vyb_cX3_pluck_4 (i := 1) rfl) (vyb_cX3_pluck_4 (i := 2) rfl) (vyb_cX3_pluck_4 (i := 3) rfl) rfl
theorem dX3_pluck_44 : decode cX3_pluck 44 = Except.ok (Instr.invokevirtual 159, 3) := vyd_182 (vyb_cX3_pluck_4 (i := 4) rfl) (vyb_cX3_pluck_4 (i := 5) rfl) (vyb_cX3_pluck_4 (i := 6) rfl) rfl
theorem dX3_pluck_47 : decode cX3_pluck 47 = Except.ok (Instr.aload_n 0, 1) := vyd_42 (vyb_cX3_pluck_4 (i := 7) rfl)
theorem dX3_pluck_48 : decode cX3_pluck 48 = Except.ok (Instr.getfield 14, 3) := vyd_180 (vyb_cX3_pluck_4 (i := 8) rfl) (vyb_cX3_pluck_4 (i := 9) rfl) (vyb_cX3_pluck_5 (i := 0) rfl) rfl
theorem dX3_pluck_51 : decode cX3_pluck 51 = Except.ok (Instr.invokevirtual 65, 3) := vyd_182 (vyb_cX3_pluck_5 (i := 1) rfl) (vyb_cX3_pluck_5 (i := 2) rfl) (vyb_cX3_pluck_5 (i := 3) rfl) rfl
theorem dX3_pluck_54 : decode cX3_pluck 54 = Except.ok (Instr.ireturn, 1) := vyd_172 (vyb_cX3_pluck_5 (i := 4) rfl)
theorem vyb_cX3_insert_0 {i : Nat} {b : UInt8} (h : ([0x1b, 0x10, 0x14, 0xb8, 0x00, 0xb9, 0x1c, 0x1d, 0xb8, 0x00] : List UInt8)[i]? = some b) : vy_8 cX3_insert (0 + i) b := vy_in (n := 10) (by decide +kernel) h
theorem vyb_cX3_insert_1 {i : Nat} {b : UInt8} (h : ([0xbc, 0x2a, 0x04, 0x04, 0xb6, 0x00, 0x50, 0x1b, 0x2a, 0xb4] : List UInt8)[i]? = some b) : vy_8 cX3_insert (10 + i) b := vy_in (n := 10) (by decide +kernel) h
theorem vyb_cX3_insert_2 {i : Nat} {b : UInt8} (h : ([0x00, 0x12, 0xb6, 0x00, 0x41, 0xa4, 0x00, 0x06, 0x10, 0xf7] : List UInt8)[i]? = some b) : vy_8 cX3_insert (20 + i) b := vy_in (n := 10) (by decide +kernel) h
theorem vyb_cX3_insert_3 {i : Nat} {b : UInt8} (h : ([0xac, 0x2a, 0xb4, 0x00, 0x12, 0x1b, 0x1c, 0x1d, 0xb8, 0x00] : List UInt8)[i]? = some b) : vy_8 cX3_insert (30 + i) b := vy_in (n := 10) (by decide +kernel) h
theorem vyb_cX3_insert_4 {i : Nat} {b : UInt8} (h : ([0x54, 0xb6, 0x00, 0x81, 0x2a, 0x04, 0xb6, 0x00, 0x8d, 0x2a] : List UInt8)[i]? = some b) : vy_8 cX3_insert (40 + i) b := vy_in (n := 10) (by decide +kernel) h
theorem vyb_cX3_insert_5 {i : Nat} {b : UInt8} (h : ([0xb4, 0x00, 0x12, 0xb6, 0x00, 0x41, 0xac] : List UInt8)[i]? = some b) : vy_8 cX3_insert (50 + i) b := vy_in (n := 7) (by decide +kernel) h
theorem dX3_insert_0 : decode cX3_insert 0 = Except.ok (Instr.iload_n 1, 1) := vyd_27 (vyb_cX3_insert_0 (i := 0) rfl)
theorem dX3_insert_1 : decode cX3_insert 1 = Except.ok (Instr.bipush 20, 2) := vyd_16 (vyb_cX3_insert_0 (i := 1) rfl) (vyb_cX3_insert_0 (i := 2) rfl) (by decide +kernel)
theorem dX3_insert_3 : decode cX3_insert 3 = Except.ok (Instr.invokestatic 185, 3) := vyd_184 (vyb_cX3_insert_0 (i := 3) rfl) (vyb_cX3_insert_0 (i := 4) rfl) (vyb_cX3_insert_0 (i := 5) rfl) rfl
theorem dX3_insert_6 : decode cX3_insert 6 = Except.ok (Instr.iload_n 2, 1) := vyd_28 (vyb_cX3_insert_0 (i := 6) rfl)
theorem dX3_insert_7 : decode cX3_insert 7 = Except.ok (Instr.iload_n 3, 1) := vyd_29 (vyb_cX3_insert_0 (i := 7) rfl)
theorem dX3_insert_8 : decode cX3_insert 8 = Except.ok (Instr.invokestatic 188, 3) := vyd_184 (vyb_cX3_insert_0 (i := 8) rfl) (vyb_cX3_insert_0 (i := 9) rfl) (vyb_cX3_insert_1 (i := 0) rfl) rfl
theorem dX3_insert_11 : decode cX3_insert 11 = Except.ok (Instr.aload_n 0, 1) := vyd_42 (vyb_cX3_insert_1 (i := 1) rfl)
theorem dX3_insert_12 : decode cX3_insert 12 = Except.ok (Instr.iconst 1, 1) := vyd_4 (vyb_cX3_insert_1 (i := 2) rfl)
theorem dX3_insert_13 : decode cX3_insert 13 = Except.ok (Instr.iconst 1, 1) := vyd_4 (vyb_cX3_insert_1 (i := 3) rfl)
theorem dX3_insert_14 : decode cX3_insert 14 = Except.ok (Instr.invokevirtual 80, 3) := vyd_182 (vyb_cX3_insert_1 (i := 4) rfl) (vyb_cX3_insert_1 (i := 5) rfl) (vyb_cX3_insert_1 (i := 6) rfl) rfl
theorem dX3_insert_17 : decode cX3_insert 17 = Except.ok (Instr.iload_n 1, 1) := vyd_27 (vyb_cX3_insert_1 (i := 7) rfl)
theorem dX3_insert_18 : decode cX3_insert 18 = Except.ok (Instr.aload_n 0, 1) := vyd_42 (vyb_cX3_insert_1 (i := 8) rfl)
theorem dX3_insert_19 : decode cX3_insert 19 = Except.ok (Instr.getfield 18, 3) := vyd_180 (vyb_cX3_insert_1 (i := 9) rfl) (vyb_cX3_insert_2 (i := 0) rfl) (vyb_cX3_insert_2 (i := 1) rfl) rfl
theorem dX3_insert_22 : decode cX3_insert 22 = Except.ok (Instr.invokevirtual 65, 3) := vyd_182 (vyb_cX3_insert_2 (i := 2) rfl) (vyb_cX3_insert_2 (i := 3) rfl) (vyb_cX3_insert_2 (i := 4) rfl) rfl
theorem dX3_insert_25 : decode cX3_insert 25 = Except.ok (Instr.if_icmp .le 6, 3) := vyd_164 (vyb_cX3_insert_2 (i := 5) rfl) (vyb_cX3_insert_2 (i := 6) rfl) (vyb_cX3_insert_2 (i := 7) rfl) (by decide +kernel)
theorem dX3_insert_28 : decode cX3_insert 28 = Except.ok (Instr.bipush (-9), 2) := vyd_16 (vyb_cX3_insert_2 (i := 8) rfl) (vyb_cX3_insert_2 (i := 9) rfl) (by decide +kernel)
theorem dX3_insert_30 : decode cX3_insert 30 = Except.ok (Instr.ireturn, 1) := vyd_172 (vyb_cX3_insert_3 (i := 0) rfl)
theorem dX3_insert_31 : decode cX3_insert 31 = Except.ok (Instr.aload_n 0, 1) := vyd_42 (vyb_cX3_insert_3 (i := 1) rfl)
theorem dX3_insert_32 : decode cX3_insert 32 = Except.ok (Instr.getfield 18, 3) := vyd_180 (vyb_cX3_insert_3 (i := 2) rfl) (vyb_cX3_insert_3 (i := 3) rfl) (vyb_cX3_insert_3 (i := 4) rfl) rfl
theorem dX3_insert_35 : decode cX3_insert 35 = Except.ok (Instr.iload_n 1, 1) := vyd_27 (vyb_cX3_insert_3 (i := 5) rfl)
theorem dX3_insert_36 : decode cX3_insert 36 = Except.ok (Instr.iload_n 2, 1) := vyd_28 (vyb_cX3_insert_3 (i := 6) rfl)
theorem dX3_insert_37 : decode cX3_insert 37 = Except.ok (Instr.iload_n 3, 1) := vyd_29 (vyb_cX3_insert_3 (i := 7) rfl)
theorem dX3_insert_38 : decode cX3_insert 38 = Except.ok (Instr.invokestatic 84, 3) := vyd_184 (vyb_cX3_insert_3 (i := 8) rfl) (vyb_cX3_insert_3 (i := 9) rfl) (vyb_cX3_insert_4 (i := 0) rfl) rfl
theorem dX3_insert_41 : decode cX3_insert 41 = Except.ok (Instr.invokevirtual 129, 3) := vyd_182 (vyb_cX3_insert_4 (i := 1) rfl) (vyb_cX3_insert_4 (i := 2) rfl) (vyb_cX3_insert_4 (i := 3) rfl) rfl
theorem dX3_insert_44 : decode cX3_insert 44 = Except.ok (Instr.aload_n 0, 1) := vyd_42 (vyb_cX3_insert_4 (i := 4) rfl)
theorem dX3_insert_45 : decode cX3_insert 45 = Except.ok (Instr.iconst 1, 1) := vyd_4 (vyb_cX3_insert_4 (i := 5) rfl)
theorem dX3_insert_46 : decode cX3_insert 46 = Except.ok (Instr.invokevirtual 141, 3) := vyd_182 (vyb_cX3_insert_4 (i := 6) rfl) (vyb_cX3_insert_4 (i := 7) rfl) (vyb_cX3_insert_4 (i := 8) rfl) rfl
theorem dX3_insert_49 : decode cX3_insert 49 = Except.ok (Instr.aload_n 0, 1) := vyd_42 (vyb_cX3_insert_4 (i := 9) rfl)
theorem dX3_insert_50 : decode cX3_insert 50 = Except.ok (Instr.getfield 18, 3) := vyd_180 (vyb_cX3_insert_5 (i := 0) rfl) (vyb_cX3_insert_5 (i := 1) rfl) (vyb_cX3_insert_5 (i := 2) rfl) rfl
theorem dX3_insert_53 : decode cX3_insert 53 = Except.ok (Instr.invokevirtual 65, 3) := vyd_182 (vyb_cX3_insert_5 (i := 3) rfl) (vyb_cX3_insert_5 (i := 4) rfl) (vyb_cX3_insert_5 (i := 5) rfl) rfl
theorem dX3_insert_56 : decode cX3_insert 56 = Except.ok (Instr.ireturn, 1) := vyd_172 (vyb_cX3_insert_5 (i := 6) rfl)
theorem vyb_cX3_cut_0 {i : Nat} {b : UInt8} (h : ([0x1b, 0x10, 0x13, 0xb8, 0x00, 0xb9, 0x1b, 0x2a, 0xb4, 0x00] : List UInt8)[i]? = some b) : vy_8 cX3_cut (0 + i) b := vy_in (n := 10) (by decide +kernel) h
theorem vyb_cX3_cut_1 {i : Nat} {b : UInt8} (h : ([0x12, 0xb6, 0x00, 0x41, 0xa1, 0x00, 0x06, 0x10, 0xf7, 0xac] : List UInt8)[i]? = some b) : vy_8 cX3_cut (10 + i) b := vy_in (n := 10) (by decide +kernel) h
theorem vyb_cX3_cut_2 {i : Nat} {b : UInt8} (h : ([0x2a, 0xb4, 0x00, 0x12, 0x1b, 0xb6, 0x00, 0x71, 0x3d, 0x2a] : List UInt8)[i]? = some b) : vy_8 cX3_cut (20 + i) b := vy_in (n := 10) (by decide +kernel) h
theorem vyb_cX3_cut_3 {i : Nat} {b : UInt8} (h : ([0x04, 0xb6, 0x00, 0x8d, 0x1c, 0xac] : List UInt8)[i]? = some b) : vy_8 cX3_cut (30 + i) b := vy_in (n := 6) (by decide +kernel) h
theorem dX3_cut_0 : decode cX3_cut 0 = Except.ok (Instr.iload_n 1, 1) := vyd_27 (vyb_cX3_cut_0 (i := 0) rfl)
theorem dX3_cut_1 : decode cX3_cut 1 = Except.ok (Instr.bipush 19, 2) := vyd_16 (vyb_cX3_cut_0 (i := 1) rfl) (vyb_cX3_cut_0 (i := 2) rfl) (by decide +kernel)
theorem dX3_cut_3 : decode cX3_cut 3 = Except.ok (Instr.invokestatic 185, 3) := vyd_184 (vyb_cX3_cut_0 (i := 3) rfl) (vyb_cX3_cut_0 (i := 4) rfl) (vyb_cX3_cut_0 (i := 5) rfl) rfl
theorem dX3_cut_6 : decode cX3_cut 6 = Except.ok (Instr.iload_n 1, 1) := vyd_27 (vyb_cX3_cut_0 (i := 6) rfl)
theorem dX3_cut_7 : decode cX3_cut 7 = Except.ok (Instr.aload_n 0, 1) := vyd_42 (vyb_cX3_cut_0 (i := 7) rfl)
theorem dX3_cut_8 : decode cX3_cut 8 = Except.ok (Instr.getfield 18, 3) := vyd_180 (vyb_cX3_cut_0 (i := 8) rfl) (vyb_cX3_cut_0 (i := 9) rfl) (vyb_cX3_cut_1 (i := 0) rfl) rfl
theorem dX3_cut_11 : decode cX3_cut 11 = Except.ok (Instr.invokevirtual 65, 3) := vyd_182 (vyb_cX3_cut_1 (i := 1) rfl) (vyb_cX3_cut_1 (i := 2) rfl) (vyb_cX3_cut_1 (i := 3) rfl) rfl
theorem dX3_cut_14 : decode cX3_cut 14 = Except.ok (Instr.if_icmp .lt 6, 3) := vyd_161 (vyb_cX3_cut_1 (i := 4) rfl) (vyb_cX3_cut_1 (i := 5) rfl) (vyb_cX3_cut_1 (i := 6) rfl) (by decide +kernel)
theorem dX3_cut_17 : decode cX3_cut 17 = Except.ok (Instr.bipush (-9), 2) := vyd_16 (vyb_cX3_cut_1 (i := 7) rfl) (vyb_cX3_cut_1 (i := 8) rfl) (by decide +kernel)
theorem dX3_cut_19 : decode cX3_cut 19 = Except.ok (Instr.ireturn, 1) := vyd_172 (vyb_cX3_cut_1 (i := 9) rfl)
theorem dX3_cut_20 : decode cX3_cut 20 = Except.ok (Instr.aload_n 0, 1) := vyd_42 (vyb_cX3_cut_2 (i := 0) rfl)
theorem dX3_cut_21 : decode cX3_cut 21 = Except.ok (Instr.getfield 18, 3) := vyd_180 (vyb_cX3_cut_2 (i := 1) rfl) (vyb_cX3_cut_2 (i := 2) rfl) (vyb_cX3_cut_2 (i := 3) rfl) rfl
theorem dX3_cut_24 : decode cX3_cut 24 = Except.ok (Instr.iload_n 1, 1) := vyd_27 (vyb_cX3_cut_2 (i := 4) rfl)
theorem dX3_cut_25 : decode cX3_cut 25 = Except.ok (Instr.invokevirtual 113, 3) := vyd_182 (vyb_cX3_cut_2 (i := 5) rfl) (vyb_cX3_cut_2 (i := 6) rfl) (vyb_cX3_cut_2 (i := 7) rfl) rfl
theorem dX3_cut_28 : decode cX3_cut 28 = Except.ok (Instr.istore_n 2, 1) := vyd_61 (vyb_cX3_cut_2 (i := 8) rfl)
theorem dX3_cut_29 : decode cX3_cut 29 = Except.ok (Instr.aload_n 0, 1) := vyd_42 (vyb_cX3_cut_2 (i := 9) rfl)
theorem dX3_cut_30 : decode cX3_cut 30 = Except.ok (Instr.iconst 1, 1) := vyd_4 (vyb_cX3_cut_3 (i := 0) rfl)
theorem dX3_cut_31 : decode cX3_cut 31 = Except.ok (Instr.invokevirtual 141, 3) := vyd_182 (vyb_cX3_cut_3 (i := 1) rfl) (vyb_cX3_cut_3 (i := 2) rfl) (vyb_cX3_cut_3 (i := 3) rfl) rfl
theorem dX3_cut_34 : decode cX3_cut 34 = Except.ok (Instr.iload_n 2, 1) := vyd_28 (vyb_cX3_cut_3 (i := 4) rfl)
theorem dX3_cut_35 : decode cX3_cut 35 = Except.ok (Instr.ireturn, 1) := vyd_172 (vyb_cX3_cut_3 (i := 5) rfl)
theorem vyb_cX3_replace_0 {i : Nat} {b : UInt8} (h : ([0x1b, 0x10, 0x13, 0xb8, 0x00, 0xb9, 0x1c, 0x1d, 0xb8, 0x00] : List UInt8)[i]? = some b) : vy_8 cX3_replace (0 + i) b := vy_in (n := 10) (by decide +kernel) h
theorem vyb_cX3_replace_1 {i : Nat} {b : UInt8} (h : ([0xbc, 0x1b, 0x2a, 0xb4, 0x00, 0x12, 0xb6, 0x00, 0x41, 0xa1] : List UInt8)[i]? = some b) : vy_8 cX3_replace (10 + i) b := vy_in (n := 10) (by decide +kernel) h
theorem vyb_cX3_replace_2 {i : Nat} {b : UInt8} (h : ([0x00, 0x06, 0x10, 0xf7, 0xac, 0x2a, 0xb4, 0x00, 0x12, 0x1b] : List UInt8)[i]? = some b) : vy_8 cX3_replace (20 + i) b := vy_in (n := 10) (by decide +kernel) h
theorem vyb_cX3_replace_3 {i : Nat} {b : UInt8} (h : ([0xb6, 0x00, 0x90, 0x36, 0x04, 0x2a, 0x1b, 0x1c, 0x1d, 0xb8] : List UInt8)[i]? = some b) : vy_8 cX3_replace (30 + i) b := vy_in (n := 10) (by decide +kernel) h
theorem vyb_cX3_replace_4 {i : Nat} {b : UInt8} (h : ([0x00, 0x54, 0xb6, 0x00, 0xbf, 0x15, 0x04, 0xac] : List UInt8)[i]? = some b) : vy_8 cX3_replace (40 + i) b := vy_in (n := 8) (by decide +kernel) h
theorem dX3_replace_0 : decode cX3_replace 0 = Except.ok (Instr.iload_n 1, 1) := vyd_27 (vyb_cX3_replace_0 (i := 0) rfl)
theorem dX3_replace_1 : decode cX3_replace 1 = Except.ok (Instr.bipush 19, 2) := vyd_16 (vyb_cX3_replace_0 (i := 1) rfl) (vyb_cX3_replace_0 (i := 2) rfl) (by decide +kernel)
theorem dX3_replace_3 : decode cX3_replace 3 = Except.ok (Instr.invokestatic 185, 3) := vyd_184 (vyb_cX3_replace_0 (i := 3) rfl) (vyb_cX3_replace_0 (i := 4) rfl) (vyb_cX3_replace_0 (i := 5) rfl) rfl
theorem dX3_replace_6 : decode cX3_replace 6 = Except.ok (Instr.iload_n 2, 1) := vyd_28 (vyb_cX3_replace_0 (i := 6) rfl)
theorem dX3_replace_7 : decode cX3_replace 7 = Except.ok (Instr.iload_n 3, 1) := vyd_29 (vyb_cX3_replace_0 (i := 7) rfl)
theorem dX3_replace_8 : decode cX3_replace 8 = Except.ok (Instr.invokestatic 188, 3) := vyd_184 (vyb_cX3_replace_0 (i := 8) rfl) (vyb_cX3_replace_0 (i := 9) rfl) (vyb_cX3_replace_1 (i := 0) rfl) rfl
theorem dX3_replace_11 : decode cX3_replace 11 = Except.ok (Instr.iload_n 1, 1) := vyd_27 (vyb_cX3_replace_1 (i := 1) rfl)
theorem dX3_replace_12 : decode cX3_replace 12 = Except.ok (Instr.aload_n 0, 1) := vyd_42 (vyb_cX3_replace_1 (i := 2) rfl)
theorem dX3_replace_13 : decode cX3_replace 13 = Except.ok (Instr.getfield 18, 3) := vyd_180 (vyb_cX3_replace_1 (i := 3) rfl) (vyb_cX3_replace_1 (i := 4) rfl) (vyb_cX3_replace_1 (i := 5) rfl) rfl
theorem dX3_replace_16 : decode cX3_replace 16 = Except.ok (Instr.invokevirtual 65, 3) := vyd_182 (vyb_cX3_replace_1 (i := 6) rfl) (vyb_cX3_replace_1 (i := 7) rfl) (vyb_cX3_replace_1 (i := 8) rfl) rfl
theorem dX3_replace_19 : decode cX3_replace 19 = Except.ok (Instr.if_icmp .lt 6, 3) := vyd_161 (vyb_cX3_replace_1 (i := 9) rfl) (vyb_cX3_replace_2 (i := 0) rfl) (vyb_cX3_replace_2 (i := 1) rfl) (by decide +kernel)
theorem dX3_replace_22 : decode cX3_replace 22 = Except.ok (Instr.bipush (-9), 2) := vyd_16 (vyb_cX3_replace_2 (i := 2) rfl) (vyb_cX3_replace_2 (i := 3) rfl) (by decide +kernel)
theorem dX3_replace_24 : decode cX3_replace 24 = Except.ok (Instr.ireturn, 1) := vyd_172 (vyb_cX3_replace_2 (i := 4) rfl)
theorem dX3_replace_25 : decode cX3_replace 25 = Except.ok (Instr.aload_n 0, 1) := vyd_42 (vyb_cX3_replace_2 (i := 5) rfl)
theorem dX3_replace_26 : decode cX3_replace 26 = Except.ok (Instr.getfield 18, 3) := vyd_180 (vyb_cX3_replace_2 (i := 6) rfl) (vyb_cX3_replace_2 (i := 7) rfl) (vyb_cX3_replace_2 (i := 8) rfl) rfl
theorem dX3_replace_29 : decode cX3_replace 29 = Except.ok (Instr.iload_n 1, 1) := vyd_27 (vyb_cX3_replace_2 (i := 9) rfl)
theorem dX3_replace_30 : decode cX3_replace 30 = Except.ok (Instr.invokevirtual 144, 3) := vyd_182 (vyb_cX3_replace_3 (i := 0) rfl) (vyb_cX3_replace_3 (i := 1) rfl) (vyb_cX3_replace_3 (i := 2) rfl) rfl
theorem dX3_replace_33 : decode cX3_replace 33 = Except.ok (Instr.istore 4, 2) := vyd_54 (vyb_cX3_replace_3 (i := 3) rfl) (vyb_cX3_replace_3 (i := 4) rfl) rfl
theorem dX3_replace_35 : decode cX3_replace 35 = Except.ok (Instr.aload_n 0, 1) := vyd_42 (vyb_cX3_replace_3 (i := 5) rfl)
theorem dX3_replace_36 : decode cX3_replace 36 = Except.ok (Instr.iload_n 1, 1) := vyd_27 (vyb_cX3_replace_3 (i := 6) rfl)
theorem dX3_replace_37 : decode cX3_replace 37 = Except.ok (Instr.iload_n 2, 1) := vyd_28 (vyb_cX3_replace_3 (i := 7) rfl)
theorem dX3_replace_38 : decode cX3_replace 38 = Except.ok (Instr.iload_n 3, 1) := vyd_29 (vyb_cX3_replace_3 (i := 8) rfl)
theorem dX3_replace_39 : decode cX3_replace 39 = Except.ok (Instr.invokestatic 84, 3) := vyd_184 (vyb_cX3_replace_3 (i := 9) rfl) (vyb_cX3_replace_4 (i := 0) rfl) (vyb_cX3_replace_4 (i := 1) rfl) rfl
theorem dX3_replace_42 : decode cX3_replace 42 = Except.ok (Instr.invokevirtual 191, 3) := vyd_182 (vyb_cX3_replace_4 (i := 2) rfl) (vyb_cX3_replace_4 (i := 3) rfl) (vyb_cX3_replace_4 (i := 4) rfl) rfl
theorem dX3_replace_45 : decode cX3_replace 45 = Except.ok (Instr.iload 4, 2) := vyd_21 (vyb_cX3_replace_4 (i := 5) rfl) (vyb_cX3_replace_4 (i := 6) rfl) rfl
theorem dX3_replace_47 : decode cX3_replace 47 = Except.ok (Instr.ireturn, 1) := vyd_172 (vyb_cX3_replace_4 (i := 7) rfl)
theorem vyb_cX3_at_0 {i : Nat} {b : UInt8} (h : ([0x1b, 0x10, 0x13, 0xb8, 0x00, 0xb9, 0x1b, 0x2a, 0xb4, 0x00] : List UInt8)[i]? = some b) : vy_8 cX3_at (0 + i) b := vy_in (n := 10) (by decide +kernel) h
theorem vyb_cX3_at_1 {i : Nat} {b : UInt8} (h : ([0x12, 0xb6, 0x00, 0x41, 0xa2, 0x00, 0x0e, 0x2a, 0xb4, 0x00] : List UInt8)[i]? = some b) : vy_8 cX3_at (10 + i) b := vy_in (n := 10) (by decide +kernel) h
theorem vyb_cX3_at_2 {i : Nat} {b : UInt8} (h : ([0x12, 0x1b, 0xb6, 0x00, 0x90, 0xa7, 0x00, 0x05, 0x10, 0xf7] : List UInt8)[i]? = some b) : vy_8 cX3_at (20 + i) b := vy_in (n := 10) (by decide +kernel) h
theorem vyb_cX3_at_3 {i : Nat} {b : UInt8} (h : ([0xac] : List UInt8)[i]? = some b) : vy_8 cX3_at (30 + i) b := vy_in (n := 1) (by decide +kernel) h
theorem dX3_at_0 : decode cX3_at 0 = Except.ok (Instr.iload_n 1, 1) := vyd_27 (vyb_cX3_at_0 (i := 0) rfl)
theorem dX3_at_1 : decode cX3_at 1 = Except.ok (Instr.bipush 19, 2) := vyd_16 (vyb_cX3_at_0 (i := 1) rfl) (vyb_cX3_at_0 (i := 2) rfl) (by decide +kernel)
theorem dX3_at_3 : decode cX3_at 3 = Except.ok (Instr.invokestatic 185, 3) := vyd_184 (vyb_cX3_at_0 (i := 3) rfl) (vyb_cX3_at_0 (i := 4) rfl) (vyb_cX3_at_0 (i := 5) rfl) rfl
theorem dX3_at_6 : decode cX3_at 6 = Except.ok (Instr.iload_n 1, 1) := vyd_27 (vyb_cX3_at_0 (i := 6) rfl)
theorem dX3_at_7 : decode cX3_at 7 = Except.ok (Instr.aload_n 0, 1) := vyd_42 (vyb_cX3_at_0 (i := 7) rfl)
theorem dX3_at_8 : decode cX3_at 8 = Except.ok (Instr.getfield 18, 3) := vyd_180 (vyb_cX3_at_0 (i := 8) rfl) (vyb_cX3_at_0 (i := 9) rfl) (vyb_cX3_at_1 (i := 0) rfl) rfl
theorem dX3_at_11 : decode cX3_at 11 = Except.ok (Instr.invokevirtual 65, 3) := vyd_182 (vyb_cX3_at_1 (i := 1) rfl) (vyb_cX3_at_1 (i := 2) rfl) (vyb_cX3_at_1 (i := 3) rfl) rfl
theorem dX3_at_14 : decode cX3_at 14 = Except.ok (Instr.if_icmp .ge 14, 3) := vyd_162 (vyb_cX3_at_1 (i := 4) rfl) (vyb_cX3_at_1 (i := 5) rfl) (vyb_cX3_at_1 (i := 6) rfl) (by decide +kernel)
theorem dX3_at_17 : decode cX3_at 17 = Except.ok (Instr.aload_n 0, 1) := vyd_42 (vyb_cX3_at_1 (i := 7) rfl)
theorem dX3_at_18 : decode cX3_at 18 = Except.ok (Instr.getfield 18, 3) := vyd_180 (vyb_cX3_at_1 (i := 8) rfl) (vyb_cX3_at_1 (i := 9) rfl) (vyb_cX3_at_2 (i := 0) rfl) rfl
theorem dX3_at_21 : decode cX3_at 21 = Except.ok (Instr.iload_n 1, 1) := vyd_27 (vyb_cX3_at_2 (i := 1) rfl)
theorem dX3_at_22 : decode cX3_at 22 = Except.ok (Instr.invokevirtual 144, 3) := vyd_182 (vyb_cX3_at_2 (i := 2) rfl) (vyb_cX3_at_2 (i := 3) rfl) (vyb_cX3_at_2 (i := 4) rfl) rfl
theorem dX3_at_25 : decode cX3_at 25 = Except.ok (Instr.goto 5, 3) := vyd_167 (vyb_cX3_at_2 (i := 5) rfl) (vyb_cX3_at_2 (i := 6) rfl) (vyb_cX3_at_2 (i := 7) rfl) (by decide +kernel)
theorem dX3_at_28 : decode cX3_at 28 = Except.ok (Instr.bipush (-9), 2) := vyd_16 (vyb_cX3_at_2 (i := 8) rfl) (vyb_cX3_at_2 (i := 9) rfl) (by decide +kernel)
theorem dX3_at_30 : decode cX3_at 30 = Except.ok (Instr.ireturn, 1) := vyd_172 (vyb_cX3_at_3 (i := 0) rfl)
theorem vyb_cX3_find_0 {i : Nat} {b : UInt8} (h : ([0x1b, 0x03, 0x10, 0x09, 0xb8, 0x00, 0x4c, 0x2a, 0xb4, 0x00] : List UInt8)[i]? = some b) : vy_8 cX3_find (0 + i) b := vy_in (n := 10) (by decide +kernel) h
theorem vyb_cX3_find_1 {i : Nat} {b : UInt8} (h : ([0x12, 0x1b, 0x1c, 0xb6, 0x00, 0x8a, 0xac] : List UInt8)[i]? = some b) : vy_8 cX3_find (10 + i) b := vy_in (n := 7) (by decide +kernel) h
theorem dX3_find_0 : decode cX3_find 0 = Except.ok (Instr.iload_n 1, 1) := vyd_27 (vyb_cX3_find_0 (i := 0) rfl)
theorem dX3_find_1 : decode cX3_find 1 = Except.ok (Instr.iconst 0, 1) := vyd_3 (vyb_cX3_find_0 (i := 1) rfl)
theorem dX3_find_2 : decode cX3_find 2 = Except.ok (Instr.bipush 9, 2) := vyd_16 (vyb_cX3_find_0 (i := 2) rfl) (vyb_cX3_find_0 (i := 3) rfl) (by decide +kernel)
theorem dX3_find_4 : decode cX3_find 4 = Except.ok (Instr.invokestatic 76, 3) := vyd_184 (vyb_cX3_find_0 (i := 4) rfl) (vyb_cX3_find_0 (i := 5) rfl) (vyb_cX3_find_0 (i := 6) rfl) rfl
theorem dX3_find_7 : decode cX3_find 7 = Except.ok (Instr.aload_n 0, 1) := vyd_42 (vyb_cX3_find_0 (i := 7) rfl)
theorem dX3_find_8 : decode cX3_find 8 = Except.ok (Instr.getfield 18, 3) := vyd_180 (vyb_cX3_find_0 (i := 8) rfl) (vyb_cX3_find_0 (i := 9) rfl) (vyb_cX3_find_1 (i := 0) rfl) rfl
theorem dX3_find_11 : decode cX3_find 11 = Except.ok (Instr.iload_n 1, 1) := vyd_27 (vyb_cX3_find_1 (i := 1) rfl)
theorem dX3_find_12 : decode cX3_find 12 = Except.ok (Instr.iload_n 2, 1) := vyd_28 (vyb_cX3_find_1 (i := 2) rfl)
theorem dX3_find_13 : decode cX3_find 13 = Except.ok (Instr.invokevirtual 138, 3) := vyd_182 (vyb_cX3_find_1 (i := 3) rfl) (vyb_cX3_find_1 (i := 4) rfl) (vyb_cX3_find_1 (i := 5) rfl) rfl
theorem dX3_find_16 : decode cX3_find 16 = Except.ok (Instr.ireturn, 1) := vyd_172 (vyb_cX3_find_1 (i := 6) rfl)
theorem vyb_cX3_splice_0 {i : Nat} {b : UInt8} (h : ([0x1b, 0x10, 0x14, 0xb8, 0x00, 0xb9, 0x2a, 0xb4, 0x00, 0x0e] : List UInt8)[i]? = some b) : vy_8 cX3_splice (0 + i) b := vy_in (n := 10) (by decide +kernel) h
theorem vyb_cX3_splice_1 {i : Nat} {b : UInt8} (h : ([0xb6, 0x00, 0x41, 0x3d, 0x2a, 0x04, 0x1c, 0xb6, 0x00, 0x50] : List UInt8)[i]? = some b) : vy_8 cX3_splice (10 + i) b := vy_in (n := 10) (by decide +kernel) h
theorem vyb_cX3_splice_2 {i : Nat} {b : UInt8} (h : ([0x1c, 0x9a, 0x00, 0x05, 0x03, 0xac, 0x1b, 0x2a, 0xb4, 0x00] : List UInt8)[i]? = some b) : vy_8 cX3_splice (20 + i) b := vy_in (n := 10) (by decide +kernel) h
theorem vyb_cX3_splice_3 {i : Nat} {b : UInt8} (h : ([0x12, 0xb6, 0x00, 0x41, 0xa4, 0x00, 0x06, 0x10, 0xf7, 0xac] : List UInt8)[i]? = some b) : vy_8 cX3_splice (30 + i) b := vy_in (n := 10) (by decide +kernel) h
theorem vyb_cX3_splice_4 {i : Nat} {b : UInt8} (h : ([0x03, 0x3e, 0x1d, 0x1c, 0xa2, 0x00, 0x1b, 0x2a, 0xb4, 0x00] : List UInt8)[i]? = some b) : vy_8 cX3_splice (40 + i) b := vy_in (n := 10) (by decide +kernel) h
theorem vyb_cX3_splice_5 {i : Nat} {b : UInt8} (h : ([0x12, 0x1b, 0x1d, 0x60, 0x2a, 0xb4, 0x00, 0x0e, 0x1d, 0xb6] : List UInt8)[i]? = some b) : vy_8 cX3_splice (50 + i) b := vy_in (n := 10) (by decide +kernel) h
theorem vyb_cX3_splice_6 {i : Nat} {b : UInt8} (h : ([0x00, 0x90, 0xb6, 0x00, 0x81, 0x84, 0x03, 0x01, 0xa7, 0xff] : List UInt8)[i]? = some b) : vy_8 cX3_splice (60 + i) b := vy_in (n := 10) (by decide +kernel) h
theorem vyb_cX3_splice_7 {i : Nat} {b : UInt8} (h : ([0xe6, 0x2a, 0xb4, 0x00, 0x0e, 0xb6, 0x00, 0x9f, 0x2a, 0x04] : List UInt8)[i]? = some b) : vy_8 cX3_splice (70 + i) b := vy_in (n := 10) (by decide +kernel) h
theorem vyb_cX3_splice_8 {i : Nat} {b : UInt8} (h : ([0xb6, 0x00, 0x8d, 0x2a, 0x03, 0xb6, 0x00, 0x84, 0x1c, 0xac] : List UInt8)[i]? = some b) : vy_8 cX3_splice (80 + i) b := vy_in (n := 10) (by decide +kernel) h
theorem dX3_splice_0 : decode cX3_splice 0 = Except.ok (Instr.iload_n 1, 1) := vyd_27 (vyb_cX3_splice_0 (i := 0) rfl)
theorem dX3_splice_1 : decode cX3_splice 1 = Except.ok (Instr.bipush 20, 2) := vyd_16 (vyb_cX3_splice_0 (i := 1) rfl) (vyb_cX3_splice_0 (i := 2) rfl) (by decide +kernel)
theorem dX3_splice_3 : decode cX3_splice 3 = Except.ok (Instr.invokestatic 185, 3) := vyd_184 (vyb_cX3_splice_0 (i := 3) rfl) (vyb_cX3_splice_0 (i := 4) rfl) (vyb_cX3_splice_0 (i := 5) rfl) rfl
theorem dX3_splice_6 : decode cX3_splice 6 = Except.ok (Instr.aload_n 0, 1) := vyd_42 (vyb_cX3_splice_0 (i := 6) rfl)
theorem dX3_splice_7 : decode cX3_splice 7 = Except.ok (Instr.getfield 14, 3) := vyd_180 (vyb_cX3_splice_0 (i := 7) rfl) (vyb_cX3_splice_0 (i := 8) rfl) (vyb_cX3_splice_0 (i := 9) rfl) rfl
theorem dX3_splice_10 : decode cX3_splice 10 = Except.ok (Instr.invokevirtual 65, 3) := vyd_182 (vyb_cX3_splice_1 (i := 0) rfl) (vyb_cX3_splice_1 (i := 1) rfl) (vyb_cX3_splice_1 (i := 2) rfl) rfl
theorem dX3_splice_13 : decode cX3_splice 13 = Except.ok (Instr.istore_n 2, 1) := vyd_61 (vyb_cX3_splice_1 (i := 3) rfl)
theorem dX3_splice_14 : decode cX3_splice 14 = Except.ok (Instr.aload_n 0, 1) := vyd_42 (vyb_cX3_splice_1 (i := 4) rfl)
theorem dX3_splice_15 : decode cX3_splice 15 = Except.ok (Instr.iconst 1, 1) := vyd_4 (vyb_cX3_splice_1 (i := 5) rfl)
theorem dX3_splice_16 : decode cX3_splice 16 = Except.ok (Instr.iload_n 2, 1) := vyd_28 (vyb_cX3_splice_1 (i := 6) rfl)
theorem dX3_splice_17 : decode cX3_splice 17 = Except.ok (Instr.invokevirtual 80, 3) := vyd_182 (vyb_cX3_splice_1 (i := 7) rfl) (vyb_cX3_splice_1 (i := 8) rfl) (vyb_cX3_splice_1 (i := 9) rfl) rfl
theorem dX3_splice_20 : decode cX3_splice 20 = Except.ok (Instr.iload_n 2, 1) := vyd_28 (vyb_cX3_splice_2 (i := 0) rfl)
theorem dX3_splice_21 : decode cX3_splice 21 = Except.ok (Instr.ifCond .ne 5, 3) := vyd_154 (vyb_cX3_splice_2 (i := 1) rfl) (vyb_cX3_splice_2 (i := 2) rfl) (vyb_cX3_splice_2 (i := 3) rfl) (by decide +kernel)
theorem dX3_splice_24 : decode cX3_splice 24 = Except.ok (Instr.iconst 0, 1) := vyd_3 (vyb_cX3_splice_2 (i := 4) rfl)
theorem dX3_splice_25 : decode cX3_splice 25 = Except.ok (Instr.ireturn, 1) := vyd_172 (vyb_cX3_splice_2 (i := 5) rfl)
theorem dX3_splice_26 : decode cX3_splice 26 = Except.ok (Instr.iload_n 1, 1) := vyd_27 (vyb_cX3_splice_2 (i := 6) rfl)
theorem dX3_splice_27 : decode cX3_splice 27 = Except.ok (Instr.aload_n 0, 1) := vyd_42 (vyb_cX3_splice_2 (i := 7) rfl)
theorem dX3_splice_28 : decode cX3_splice 28 = Except.ok (Instr.getfield 18, 3) := vyd_180 (vyb_cX3_splice_2 (i := 8) rfl) (vyb_cX3_splice_2 (i := 9) rfl) (vyb_cX3_splice_3 (i := 0) rfl) rfl
theorem dX3_splice_31 : decode cX3_splice 31 = Except.ok (Instr.invokevirtual 65, 3) := vyd_182 (vyb_cX3_splice_3 (i := 1) rfl) (vyb_cX3_splice_3 (i := 2) rfl) (vyb_cX3_splice_3 (i := 3) rfl) rfl
theorem dX3_splice_34 : decode cX3_splice 34 = Except.ok (Instr.if_icmp .le 6, 3) := vyd_164 (vyb_cX3_splice_3 (i := 4) rfl) (vyb_cX3_splice_3 (i := 5) rfl) (vyb_cX3_splice_3 (i := 6) rfl) (by decide +kernel)
theorem dX3_splice_37 : decode cX3_splice 37 = Except.ok (Instr.bipush (-9), 2) := vyd_16 (vyb_cX3_splice_3 (i := 7) rfl) (vyb_cX3_splice_3 (i := 8) rfl) (by decide +kernel)
theorem dX3_splice_39 : decode cX3_splice 39 = Except.ok (Instr.ireturn, 1) := vyd_172 (vyb_cX3_splice_3 (i := 9) rfl)
theorem dX3_splice_40 : decode cX3_splice 40 = Except.ok (Instr.iconst 0, 1) := vyd_3 (vyb_cX3_splice_4 (i := 0) rfl)
theorem dX3_splice_41 : decode cX3_splice 41 = Except.ok (Instr.istore_n 3, 1) := vyd_62 (vyb_cX3_splice_4 (i := 1) rfl)
theorem dX3_splice_42 : decode cX3_splice 42 = Except.ok (Instr.iload_n 3, 1) := vyd_29 (vyb_cX3_splice_4 (i := 2) rfl)
theorem dX3_splice_43 : decode cX3_splice 43 = Except.ok (Instr.iload_n 2, 1) := vyd_28 (vyb_cX3_splice_4 (i := 3) rfl)
theorem dX3_splice_44 : decode cX3_splice 44 = Except.ok (Instr.if_icmp .ge 27, 3) := vyd_162 (vyb_cX3_splice_4 (i := 4) rfl) (vyb_cX3_splice_4 (i := 5) rfl) (vyb_cX3_splice_4 (i := 6) rfl) (by decide +kernel)
theorem dX3_splice_47 : decode cX3_splice 47 = Except.ok (Instr.aload_n 0, 1) := vyd_42 (vyb_cX3_splice_4 (i := 7) rfl)
theorem dX3_splice_48 : decode cX3_splice 48 = Except.ok (Instr.getfield 18, 3) := vyd_180 (vyb_cX3_splice_4 (i := 8) rfl) (vyb_cX3_splice_4 (i := 9) rfl) (vyb_cX3_splice_5 (i := 0) rfl) rfl
theorem dX3_splice_51 : decode cX3_splice 51 = Except.ok (Instr.iload_n 1, 1) := vyd_27 (vyb_cX3_splice_5 (i := 1) rfl)
theorem dX3_splice_52 : decode cX3_splice 52 = Except.ok (Instr.iload_n 3, 1) := vyd_29 (vyb_cX3_splice_5 (i := 2) rfl)
theorem dX3_splice_53 : decode cX3_splice 53 = Except.ok (Instr.iadd, 1) := vyd_96 (vyb_cX3_splice_5 (i := 3) rfl)
theorem dX3_splice_54 : decode cX3_splice 54 = Except.ok (Instr.aload_n 0, 1) := vyd_42 (vyb_cX3_splice_5 (i := 4) rfl)
theorem dX3_splice_55 : decode cX3_splice 55 = Except.ok (Instr.getfield 14, 3) := vyd_180 (vyb_cX3_splice_5 (i := 5) rfl) (vyb_cX3_splice_5 (i := 6) rfl) (vyb_cX3_splice_5 (i := 7) rfl) rfl
theorem dX3_splice_58 : decode cX3_splice 58 = Except.ok (Instr.iload_n 3, 1) := vyd_29 (vyb_cX3_splice_5 (i := 8) rfl)
theorem dX3_splice_59 : decode cX3_splice 59 = Except.ok (Instr.invokevirtual 144, 3) := vyd_182 (vyb_cX3_splice_5 (i := 9) rfl) (vyb_cX3_splice_6 (i := 0) rfl) (vyb_cX3_splice_6 (i := 1) rfl) rfl
theorem dX3_splice_62 : decode cX3_splice 62 = Except.ok (Instr.invokevirtual 129, 3) := vyd_182 (vyb_cX3_splice_6 (i := 2) rfl) (vyb_cX3_splice_6 (i := 3) rfl) (vyb_cX3_splice_6 (i := 4) rfl) rfl
theorem dX3_splice_65 : decode cX3_splice 65 = .ok (.iinc 3 1, 3) := by decide +kernel
theorem dX3_splice_68 : decode cX3_splice 68 = Except.ok (Instr.goto (-26), 3) := vyd_167 (vyb_cX3_splice_6 (i := 8) rfl) (vyb_cX3_splice_6 (i := 9) rfl) (vyb_cX3_splice_7 (i := 0) rfl) (by decide +kernel)
theorem dX3_splice_71 : decode cX3_splice 71 = Except.ok (Instr.aload_n 0, 1) := vyd_42 (vyb_cX3_splice_7 (i := 1) rfl)
theorem dX3_splice_72 : decode cX3_splice 72 = Except.ok (Instr.getfield 14, 3) := vyd_180 (vyb_cX3_splice_7 (i := 2) rfl) (vyb_cX3_splice_7 (i := 3) rfl) (vyb_cX3_splice_7 (i := 4) rfl) rfl
theorem dX3_splice_75 : decode cX3_splice 75 = Except.ok (Instr.invokevirtual 159, 3) := vyd_182 (vyb_cX3_splice_7 (i := 5) rfl) (vyb_cX3_splice_7 (i := 6) rfl) (vyb_cX3_splice_7 (i := 7) rfl) rfl
theorem dX3_splice_78 : decode cX3_splice 78 = Except.ok (Instr.aload_n 0, 1) := vyd_42 (vyb_cX3_splice_7 (i := 8) rfl)
theorem dX3_splice_79 : decode cX3_splice 79 = Except.ok (Instr.iconst 1, 1) := vyd_4 (vyb_cX3_splice_7 (i := 9) rfl)
theorem dX3_splice_80 : decode cX3_splice 80 = Except.ok (Instr.invokevirtual 141, 3) := vyd_182 (vyb_cX3_splice_8 (i := 0) rfl) (vyb_cX3_splice_8 (i := 1) rfl) (vyb_cX3_splice_8 (i := 2) rfl) rfl
theorem dX3_splice_83 : decode cX3_splice 83 = Except.ok (Instr.aload_n 0, 1) := vyd_42 (vyb_cX3_splice_8 (i := 3) rfl)
theorem dX3_splice_84 : decode cX3_splice 84 = Except.ok (Instr.iconst 0, 1) := vyd_3 (vyb_cX3_splice_8 (i := 4) rfl)
theorem dX3_splice_85 : decode cX3_splice 85 = Except.ok (Instr.invokevirtual 132, 3) := vyd_182 (vyb_cX3_splice_8 (i := 5) rfl) (vyb_cX3_splice_8 (i := 6) rfl) (vyb_cX3_splice_8 (i := 7) rfl) rfl
theorem dX3_splice_88 : decode cX3_splice 88 = Except.ok (Instr.iload_n 2, 1) := vyd_28 (vyb_cX3_splice_8 (i := 8) rfl)
theorem dX3_splice_89 : decode cX3_splice 89 = Except.ok (Instr.ireturn, 1) := vyd_172 (vyb_cX3_splice_8 (i := 9) rfl)
theorem vyb_cX3_shunt_0 {i : Nat} {b : UInt8} (h : ([0x1b, 0x10, 0x13, 0xb8, 0x00, 0xb9, 0x1c, 0x04, 0x10, 0x14] : List UInt8)[i]? = some b) : vy_8 cX3_shunt (0 + i) b := vy_in (n := 10) (by decide +kernel) h
theorem vyb_cX3_shunt_1 {i : Nat} {b : UInt8} (h : ([0xb8, 0x00, 0x4c, 0x2a, 0x03, 0x1c, 0xb6, 0x00, 0x50, 0x1b] : List UInt8)[i]? = some b) : vy_8 cX3_shunt (10 + i) b := vy_in (n := 10) (by decide +kernel) h
theorem vyb_cX3_shunt_2 {i : Nat} {b : UInt8} (h : ([0x2a, 0xb4, 0x00, 0x12, 0xb6, 0x00, 0x41, 0xa1, 0x00, 0x06] : List UInt8)[i]? = some b) : vy_8 cX3_shunt (20 + i) b := vy_in (n := 10) (by decide +kernel) h
theorem vyb_cX3_shunt_3 {i : Nat} {b : UInt8} (h : ([0x10, 0xf7, 0xac, 0x1c, 0x2a, 0xb4, 0x00, 0x12, 0xb6, 0x00] : List UInt8)[i]? = some b) : vy_8 cX3_shunt (30 + i) b := vy_in (n := 10) (by decide +kernel) h
theorem vyb_cX3_shunt_4 {i : Nat} {b : UInt8} (h : ([0x41, 0x1b, 0x64, 0xb8, 0x00, 0xc2, 0x3e, 0x03, 0x36, 0x04] : List UInt8)[i]? = some b) : vy_8 cX3_shunt (40 + i) b := vy_in (n := 10) (by decide +kernel) h
theorem vyb_cX3_shunt_5 {i : Nat} {b : UInt8} (h : ([0x03, 0x36, 0x05, 0x15, 0x05, 0x1d, 0xa2, 0x00, 0x27, 0x2a] : List UInt8)[i]? = some b) : vy_8 cX3_shunt (50 + i) b := vy_in (n := 10) (by decide +kernel) h
theorem vyb_cX3_shunt_6 {i : Nat} {b : UInt8} (h : ([0xb4, 0x00, 0x12, 0x1b, 0xb6, 0x00, 0x71, 0x36, 0x06, 0x15] : List UInt8)[i]? = some b) : vy_8 cX3_shunt (60 + i) b := vy_in (n := 10) (by decide +kernel) h
theorem vyb_cX3_shunt_7 {i : Nat} {b : UInt8} (h : ([0x06, 0xb8, 0x00, 0x93, 0x99, 0x00, 0x0f, 0x2a, 0xb4, 0x00] : List UInt8)[i]? = some b) : vy_8 cX3_shunt (70 + i) b := vy_in (n := 10) (by decide +kernel) h
theorem vyb_cX3_shunt_8 {i : Nat} {b : UInt8} (h : ([0x0e, 0x15, 0x06, 0xb6, 0x00, 0xc5, 0x84, 0x04, 0x01, 0x84] : List UInt8)[i]? = some b) : vy_8 cX3_shunt (80 + i) b := vy_in (n := 10) (by decide +kernel) h
theorem vyb_cX3_shunt_9 {i : Nat} {b : UInt8} (h : ([0x05, 0x01, 0xa7, 0xff, 0xd9, 0x2a, 0x04, 0xb6, 0x00, 0x8d] : List UInt8)[i]? = some b) : vy_8 cX3_shunt (90 + i) b := vy_in (n := 10) (by decide +kernel) h
theorem vyb_cX3_shunt_10 {i : Nat} {b : UInt8} (h : ([0x15, 0x04, 0x9e, 0x00, 0x08, 0x2a, 0x03, 0xb6, 0x00, 0x84] : List UInt8)[i]? = some b) : vy_8 cX3_shunt (100 + i) b := vy_in (n := 10) (by decide +kernel) h
theorem vyb_cX3_shunt_11 {i : Nat} {b : UInt8} (h : ([0x15, 0x04, 0xac] : List UInt8)[i]? = some b) : vy_8 cX3_shunt (110 + i) b := vy_in (n := 3) (by decide +kernel) h
theorem dX3_shunt_0 : decode cX3_shunt 0 = Except.ok (Instr.iload_n 1, 1) := vyd_27 (vyb_cX3_shunt_0 (i := 0) rfl)
theorem dX3_shunt_1 : decode cX3_shunt 1 = Except.ok (Instr.bipush 19, 2) := vyd_16 (vyb_cX3_shunt_0 (i := 1) rfl) (vyb_cX3_shunt_0 (i := 2) rfl) (by decide +kernel)
theorem dX3_shunt_3 : decode cX3_shunt 3 = Except.ok (Instr.invokestatic 185, 3) := vyd_184 (vyb_cX3_shunt_0 (i := 3) rfl) (vyb_cX3_shunt_0 (i := 4) rfl) (vyb_cX3_shunt_0 (i := 5) rfl) rfl
theorem dX3_shunt_6 : decode cX3_shunt 6 = Except.ok (Instr.iload_n 2, 1) := vyd_28 (vyb_cX3_shunt_0 (i := 6) rfl)
theorem dX3_shunt_7 : decode cX3_shunt 7 = Except.ok (Instr.iconst 1, 1) := vyd_4 (vyb_cX3_shunt_0 (i := 7) rfl)
theorem dX3_shunt_8 : decode cX3_shunt 8 = Except.ok (Instr.bipush 20, 2) := vyd_16 (vyb_cX3_shunt_0 (i := 8) rfl) (vyb_cX3_shunt_0 (i := 9) rfl) (by decide +kernel)
theorem dX3_shunt_10 : decode cX3_shunt 10 = Except.ok (Instr.invokestatic 76, 3) := vyd_184 (vyb_cX3_shunt_1 (i := 0) rfl) (vyb_cX3_shunt_1 (i := 1) rfl) (vyb_cX3_shunt_1 (i := 2) rfl) rfl
theorem dX3_shunt_13 : decode cX3_shunt 13 = Except.ok (Instr.aload_n 0, 1) := vyd_42 (vyb_cX3_shunt_1 (i := 3) rfl)
theorem dX3_shunt_14 : decode cX3_shunt 14 = Except.ok (Instr.iconst 0, 1) := vyd_3 (vyb_cX3_shunt_1 (i := 4) rfl)
theorem dX3_shunt_15 : decode cX3_shunt 15 = Except.ok (Instr.iload_n 2, 1) := vyd_28 (vyb_cX3_shunt_1 (i := 5) rfl)
theorem dX3_shunt_16 : decode cX3_shunt 16 = Except.ok (Instr.invokevirtual 80, 3) := vyd_182 (vyb_cX3_shunt_1 (i := 6) rfl) (vyb_cX3_shunt_1 (i := 7) rfl) (vyb_cX3_shunt_1 (i := 8) rfl) rfl
theorem dX3_shunt_19 : decode cX3_shunt 19 = Except.ok (Instr.iload_n 1, 1) := vyd_27 (vyb_cX3_shunt_1 (i := 9) rfl)
theorem dX3_shunt_20 : decode cX3_shunt 20 = Except.ok (Instr.aload_n 0, 1) := vyd_42 (vyb_cX3_shunt_2 (i := 0) rfl)
theorem dX3_shunt_21 : decode cX3_shunt 21 = Except.ok (Instr.getfield 18, 3) := vyd_180 (vyb_cX3_shunt_2 (i := 1) rfl) (vyb_cX3_shunt_2 (i := 2) rfl) (vyb_cX3_shunt_2 (i := 3) rfl) rfl
theorem dX3_shunt_24 : decode cX3_shunt 24 = Except.ok (Instr.invokevirtual 65, 3) := vyd_182 (vyb_cX3_shunt_2 (i := 4) rfl) (vyb_cX3_shunt_2 (i := 5) rfl) (vyb_cX3_shunt_2 (i := 6) rfl) rfl
theorem dX3_shunt_27 : decode cX3_shunt 27 = Except.ok (Instr.if_icmp .lt 6, 3) := vyd_161 (vyb_cX3_shunt_2 (i := 7) rfl) (vyb_cX3_shunt_2 (i := 8) rfl) (vyb_cX3_shunt_2 (i := 9) rfl) (by decide +kernel)
theorem dX3_shunt_30 : decode cX3_shunt 30 = Except.ok (Instr.bipush (-9), 2) := vyd_16 (vyb_cX3_shunt_3 (i := 0) rfl) (vyb_cX3_shunt_3 (i := 1) rfl) (by decide +kernel)
theorem dX3_shunt_32 : decode cX3_shunt 32 = Except.ok (Instr.ireturn, 1) := vyd_172 (vyb_cX3_shunt_3 (i := 2) rfl)
theorem dX3_shunt_33 : decode cX3_shunt 33 = Except.ok (Instr.iload_n 2, 1) := vyd_28 (vyb_cX3_shunt_3 (i := 3) rfl)
theorem dX3_shunt_34 : decode cX3_shunt 34 = Except.ok (Instr.aload_n 0, 1) := vyd_42 (vyb_cX3_shunt_3 (i := 4) rfl)
theorem dX3_shunt_35 : decode cX3_shunt 35 = Except.ok (Instr.getfield 18, 3) := vyd_180 (vyb_cX3_shunt_3 (i := 5) rfl) (vyb_cX3_shunt_3 (i := 6) rfl) (vyb_cX3_shunt_3 (i := 7) rfl) rfl
theorem dX3_shunt_38 : decode cX3_shunt 38 = Except.ok (Instr.invokevirtual 65, 3) := vyd_182 (vyb_cX3_shunt_3 (i := 8) rfl) (vyb_cX3_shunt_3 (i := 9) rfl) (vyb_cX3_shunt_4 (i := 0) rfl) rfl
theorem dX3_shunt_41 : decode cX3_shunt 41 = Except.ok (Instr.iload_n 1, 1) := vyd_27 (vyb_cX3_shunt_4 (i := 1) rfl)
theorem dX3_shunt_42 : decode cX3_shunt 42 = Except.ok (Instr.isub, 1) := vyd_100 (vyb_cX3_shunt_4 (i := 2) rfl)
theorem dX3_shunt_43 : decode cX3_shunt 43 = Except.ok (Instr.invokestatic 194, 3) := vyd_184 (vyb_cX3_shunt_4 (i := 3) rfl) (vyb_cX3_shunt_4 (i := 4) rfl) (vyb_cX3_shunt_4 (i := 5) rfl) rfl
theorem dX3_shunt_46 : decode cX3_shunt 46 = Except.ok (Instr.istore_n 3, 1) := vyd_62 (vyb_cX3_shunt_4 (i := 6) rfl)
theorem dX3_shunt_47 : decode cX3_shunt 47 = Except.ok (Instr.iconst 0, 1) := vyd_3 (vyb_cX3_shunt_4 (i := 7) rfl)
theorem dX3_shunt_48 : decode cX3_shunt 48 = Except.ok (Instr.istore 4, 2) := vyd_54 (vyb_cX3_shunt_4 (i := 8) rfl) (vyb_cX3_shunt_4 (i := 9) rfl) rfl
theorem dX3_shunt_50 : decode cX3_shunt 50 = Except.ok (Instr.iconst 0, 1) := vyd_3 (vyb_cX3_shunt_5 (i := 0) rfl)
theorem dX3_shunt_51 : decode cX3_shunt 51 = Except.ok (Instr.istore 5, 2) := vyd_54 (vyb_cX3_shunt_5 (i := 1) rfl) (vyb_cX3_shunt_5 (i := 2) rfl) rfl
theorem dX3_shunt_53 : decode cX3_shunt 53 = Except.ok (Instr.iload 5, 2) := vyd_21 (vyb_cX3_shunt_5 (i := 3) rfl) (vyb_cX3_shunt_5 (i := 4) rfl) rfl
theorem dX3_shunt_55 : decode cX3_shunt 55 = Except.ok (Instr.iload_n 3, 1) := vyd_29 (vyb_cX3_shunt_5 (i := 5) rfl)
theorem dX3_shunt_56 : decode cX3_shunt 56 = Except.ok (Instr.if_icmp .ge 39, 3) := vyd_162 (vyb_cX3_shunt_5 (i := 6) rfl) (vyb_cX3_shunt_5 (i := 7) rfl) (vyb_cX3_shunt_5 (i := 8) rfl) (by decide +kernel)
theorem dX3_shunt_59 : decode cX3_shunt 59 = Except.ok (Instr.aload_n 0, 1) := vyd_42 (vyb_cX3_shunt_5 (i := 9) rfl)
theorem dX3_shunt_60 : decode cX3_shunt 60 = Except.ok (Instr.getfield 18, 3) := vyd_180 (vyb_cX3_shunt_6 (i := 0) rfl) (vyb_cX3_shunt_6 (i := 1) rfl) (vyb_cX3_shunt_6 (i := 2) rfl) rfl
theorem dX3_shunt_63 : decode cX3_shunt 63 = Except.ok (Instr.iload_n 1, 1) := vyd_27 (vyb_cX3_shunt_6 (i := 3) rfl)
theorem dX3_shunt_64 : decode cX3_shunt 64 = Except.ok (Instr.invokevirtual 113, 3) := vyd_182 (vyb_cX3_shunt_6 (i := 4) rfl) (vyb_cX3_shunt_6 (i := 5) rfl) (vyb_cX3_shunt_6 (i := 6) rfl) rfl
theorem dX3_shunt_67 : decode cX3_shunt 67 = Except.ok (Instr.istore 6, 2) := vyd_54 (vyb_cX3_shunt_6 (i := 7) rfl) (vyb_cX3_shunt_6 (i := 8) rfl) rfl
theorem dX3_shunt_69 : decode cX3_shunt 69 = Except.ok (Instr.iload 6, 2) := vyd_21 (vyb_cX3_shunt_6 (i := 9) rfl) (vyb_cX3_shunt_7 (i := 0) rfl) rfl
theorem dX3_shunt_71 : decode cX3_shunt 71 = Except.ok (Instr.invokestatic 147, 3) := vyd_184 (vyb_cX3_shunt_7 (i := 1) rfl) (vyb_cX3_shunt_7 (i := 2) rfl) (vyb_cX3_shunt_7 (i := 3) rfl) rfl
theorem dX3_shunt_74 : decode cX3_shunt 74 = Except.ok (Instr.ifCond .eq 15, 3) := vyd_153 (vyb_cX3_shunt_7 (i := 4) rfl) (vyb_cX3_shunt_7 (i := 5) rfl) (vyb_cX3_shunt_7 (i := 6) rfl) (by decide +kernel)
theorem dX3_shunt_77 : decode cX3_shunt 77 = Except.ok (Instr.aload_n 0, 1) := vyd_42 (vyb_cX3_shunt_7 (i := 7) rfl)
theorem dX3_shunt_78 : decode cX3_shunt 78 = Except.ok (Instr.getfield 14, 3) := vyd_180 (vyb_cX3_shunt_7 (i := 8) rfl) (vyb_cX3_shunt_7 (i := 9) rfl) (vyb_cX3_shunt_8 (i := 0) rfl) rfl
theorem dX3_shunt_81 : decode cX3_shunt 81 = Except.ok (Instr.iload 6, 2) := vyd_21 (vyb_cX3_shunt_8 (i := 1) rfl) (vyb_cX3_shunt_8 (i := 2) rfl) rfl
theorem dX3_shunt_83 : decode cX3_shunt 83 = Except.ok (Instr.invokevirtual 197, 3) := vyd_182 (vyb_cX3_shunt_8 (i := 3) rfl) (vyb_cX3_shunt_8 (i := 4) rfl) (vyb_cX3_shunt_8 (i := 5) rfl) rfl
theorem dX3_shunt_86 : decode cX3_shunt 86 = .ok (.iinc 4 1, 3) := by decide +kernel
theorem dX3_shunt_89 : decode cX3_shunt 89 = .ok (.iinc 5 1, 3) := by decide +kernel
theorem dX3_shunt_92 : decode cX3_shunt 92 = Except.ok (Instr.goto (-39), 3) := vyd_167 (vyb_cX3_shunt_9 (i := 2) rfl) (vyb_cX3_shunt_9 (i := 3) rfl) (vyb_cX3_shunt_9 (i := 4) rfl) (by decide +kernel)
theorem dX3_shunt_95 : decode cX3_shunt 95 = Except.ok (Instr.aload_n 0, 1) := vyd_42 (vyb_cX3_shunt_9 (i := 5) rfl)
theorem dX3_shunt_96 : decode cX3_shunt 96 = Except.ok (Instr.iconst 1, 1) := vyd_4 (vyb_cX3_shunt_9 (i := 6) rfl)
theorem dX3_shunt_97 : decode cX3_shunt 97 = Except.ok (Instr.invokevirtual 141, 3) := vyd_182 (vyb_cX3_shunt_9 (i := 7) rfl) (vyb_cX3_shunt_9 (i := 8) rfl) (vyb_cX3_shunt_9 (i := 9) rfl) rfl
theorem dX3_shunt_100 : decode cX3_shunt 100 = Except.ok (Instr.iload 4, 2) := vyd_21 (vyb_cX3_shunt_10 (i := 0) rfl) (vyb_cX3_shunt_10 (i := 1) rfl) rfl
theorem dX3_shunt_102 : decode cX3_shunt 102 = Except.ok (Instr.ifCond .le 8, 3) := vyd_158 (vyb_cX3_shunt_10 (i := 2) rfl) (vyb_cX3_shunt_10 (i := 3) rfl) (vyb_cX3_shunt_10 (i := 4) rfl) (by decide +kernel)
theorem dX3_shunt_105 : decode cX3_shunt 105 = Except.ok (Instr.aload_n 0, 1) := vyd_42 (vyb_cX3_shunt_10 (i := 5) rfl)
theorem dX3_shunt_106 : decode cX3_shunt 106 = Except.ok (Instr.iconst 0, 1) := vyd_3 (vyb_cX3_shunt_10 (i := 6) rfl)
theorem dX3_shunt_107 : decode cX3_shunt 107 = Except.ok (Instr.invokevirtual 132, 3) := vyd_182 (vyb_cX3_shunt_10 (i := 7) rfl) (vyb_cX3_shunt_10 (i := 8) rfl) (vyb_cX3_shunt_10 (i := 9) rfl) rfl
theorem dX3_shunt_110 : decode cX3_shunt 110 = Except.ok (Instr.iload 4, 2) := vyd_21 (vyb_cX3_shunt_11 (i := 0) rfl) (vyb_cX3_shunt_11 (i := 1) rfl) rfl
theorem dX3_shunt_112 : decode cX3_shunt 112 = Except.ok (Instr.ireturn, 1) := vyd_172 (vyb_cX3_shunt_11 (i := 2) rfl)
theorem vyb_cX3_stand_0 {i : Nat} {b : UInt8} (h : ([0x1b, 0xb8, 0x00, 0xc8, 0x1c, 0x10, 0x14, 0xb8, 0x00, 0xb9] : List UInt8)[i]? = some b) : vy_8 cX3_stand (0 + i) b := vy_in (n := 10) (by decide +kernel) h
theorem vyb_cX3_stand_1 {i : Nat} {b : UInt8} (h : ([0x1c, 0x2a, 0xb4, 0x00, 0x12, 0xb6, 0x00, 0x41, 0xa4, 0x00] : List UInt8)[i]? = some b) : vy_8 cX3_stand (10 + i) b := vy_in (n := 10) (by decide +kernel) h
theorem vyb_cX3_stand_2 {i : Nat} {b : UInt8} (h : ([0x06, 0x10, 0xf7, 0xac, 0x2a, 0x1b, 0xb6, 0x00, 0xcb, 0x1c] : List UInt8)[i]? = some b) : vy_8 cX3_stand (20 + i) b := vy_in (n := 10) (by decide +kernel) h
theorem vyb_cX3_stand_3 {i : Nat} {b : UInt8} (h : ([0xb6, 0x00, 0xcf, 0x1c, 0xac] : List UInt8)[i]? = some b) : vy_8 cX3_stand (30 + i) b := vy_in (n := 5) (by decide +kernel) h
theorem dX3_stand_0 : decode cX3_stand 0 = Except.ok (Instr.iload_n 1, 1) := vyd_27 (vyb_cX3_stand_0 (i := 0) rfl)
theorem dX3_stand_1 : decode cX3_stand 1 = Except.ok (Instr.invokestatic 200, 3) := vyd_184 (vyb_cX3_stand_0 (i := 1) rfl) (vyb_cX3_stand_0 (i := 2) rfl) (vyb_cX3_stand_0 (i := 3) rfl) rfl
theorem dX3_stand_4 : decode cX3_stand 4 = Except.ok (Instr.iload_n 2, 1) := vyd_28 (vyb_cX3_stand_0 (i := 4) rfl)
theorem dX3_stand_5 : decode cX3_stand 5 = Except.ok (Instr.bipush 20, 2) := vyd_16 (vyb_cX3_stand_0 (i := 5) rfl) (vyb_cX3_stand_0 (i := 6) rfl) (by decide +kernel)
theorem dX3_stand_7 : decode cX3_stand 7 = Except.ok (Instr.invokestatic 185, 3) := vyd_184 (vyb_cX3_stand_0 (i := 7) rfl) (vyb_cX3_stand_0 (i := 8) rfl) (vyb_cX3_stand_0 (i := 9) rfl) rfl
theorem dX3_stand_10 : decode cX3_stand 10 = Except.ok (Instr.iload_n 2, 1) := vyd_28 (vyb_cX3_stand_1 (i := 0) rfl)
theorem dX3_stand_11 : decode cX3_stand 11 = Except.ok (Instr.aload_n 0, 1) := vyd_42 (vyb_cX3_stand_1 (i := 1) rfl)
theorem dX3_stand_12 : decode cX3_stand 12 = Except.ok (Instr.getfield 18, 3) := vyd_180 (vyb_cX3_stand_1 (i := 2) rfl) (vyb_cX3_stand_1 (i := 3) rfl) (vyb_cX3_stand_1 (i := 4) rfl) rfl
theorem dX3_stand_15 : decode cX3_stand 15 = Except.ok (Instr.invokevirtual 65, 3) := vyd_182 (vyb_cX3_stand_1 (i := 5) rfl) (vyb_cX3_stand_1 (i := 6) rfl) (vyb_cX3_stand_1 (i := 7) rfl) rfl
theorem dX3_stand_18 : decode cX3_stand 18 = Except.ok (Instr.if_icmp .le 6, 3) := vyd_164 (vyb_cX3_stand_1 (i := 8) rfl) (vyb_cX3_stand_1 (i := 9) rfl) (vyb_cX3_stand_2 (i := 0) rfl) (by decide +kernel)
theorem dX3_stand_21 : decode cX3_stand 21 = Except.ok (Instr.bipush (-9), 2) := vyd_16 (vyb_cX3_stand_2 (i := 1) rfl) (vyb_cX3_stand_2 (i := 2) rfl) (by decide +kernel)
theorem dX3_stand_23 : decode cX3_stand 23 = Except.ok (Instr.ireturn, 1) := vyd_172 (vyb_cX3_stand_2 (i := 3) rfl)
theorem dX3_stand_24 : decode cX3_stand 24 = Except.ok (Instr.aload_n 0, 1) := vyd_42 (vyb_cX3_stand_2 (i := 4) rfl)
theorem dX3_stand_25 : decode cX3_stand 25 = Except.ok (Instr.iload_n 1, 1) := vyd_27 (vyb_cX3_stand_2 (i := 5) rfl)
theorem dX3_stand_26 : decode cX3_stand 26 = Except.ok (Instr.invokevirtual 203, 3) := vyd_182 (vyb_cX3_stand_2 (i := 6) rfl) (vyb_cX3_stand_2 (i := 7) rfl) (vyb_cX3_stand_2 (i := 8) rfl) rfl
theorem dX3_stand_29 : decode cX3_stand 29 = Except.ok (Instr.iload_n 2, 1) := vyd_28 (vyb_cX3_stand_2 (i := 9) rfl)
theorem dX3_stand_30 : decode cX3_stand 30 = Except.ok (Instr.invokevirtual 207, 3) := vyd_182 (vyb_cX3_stand_3 (i := 0) rfl) (vyb_cX3_stand_3 (i := 1) rfl) (vyb_cX3_stand_3 (i := 2) rfl) rfl
theorem dX3_stand_33 : decode cX3_stand 33 = Except.ok (Instr.iload_n 2, 1) := vyd_28 (vyb_cX3_stand_3 (i := 3) rfl)
theorem dX3_stand_34 : decode cX3_stand 34 = Except.ok (Instr.ireturn, 1) := vyd_172 (vyb_cX3_stand_3 (i := 4) rfl)
theorem vyb_cX3_forth_0 {i : Nat} {b : UInt8} (h : ([0x1b, 0xb8, 0x00, 0xc8, 0x2a, 0x1b, 0xb6, 0x00, 0xd2, 0x2a] : List UInt8)[i]? = some b) : vy_8 cX3_forth (0 + i) b := vy_in (n := 10) (by decide +kernel) h
theorem vyb_cX3_forth_1 {i : Nat} {b : UInt8} (h : ([0x1b, 0xb6, 0x00, 0xcb, 0x4d, 0x2c, 0xb6, 0x00, 0xd5, 0x99] : List UInt8)[i]? = some b) : vy_8 cX3_forth (10 + i) b := vy_in (n := 10) (by decide +kernel) h
theorem vyb_cX3_forth_2 {i : Nat} {b : UInt8} (h : ([0x00, 0x11, 0x2c, 0xb4, 0x00, 0xd8, 0x2a, 0xb4, 0x00, 0x12] : List UInt8)[i]? = some b) : vy_8 cX3_forth (20 + i) b := vy_in (n := 10) (by decide +kernel) h
theorem vyb_cX3_forth_3 {i : Nat} {b : UInt8} (h : ([0xb6, 0x00, 0x41, 0xa1, 0x00, 0x06, 0x10, 0xf7, 0xac, 0x2c] : List UInt8)[i]? = some b) : vy_8 cX3_forth (30 + i) b := vy_in (n := 10) (by decide +kernel) h
theorem vyb_cX3_forth_4 {i : Nat} {b : UInt8} (h : ([0xb6, 0x00, 0xdb, 0x2a, 0xb4, 0x00, 0x12, 0x2c, 0xb4, 0x00] : List UInt8)[i]? = some b) : vy_8 cX3_forth (40 + i) b := vy_in (n := 10) (by decide +kernel) h
theorem vyb_cX3_forth_5 {i : Nat} {b : UInt8} (h : ([0xde, 0xb6, 0x00, 0x90, 0xac] : List UInt8)[i]? = some b) : vy_8 cX3_forth (50 + i) b := vy_in (n := 5) (by decide +kernel) h
theorem dX3_forth_0 : decode cX3_forth 0 = Except.ok (Instr.iload_n 1, 1) := vyd_27 (vyb_cX3_forth_0 (i := 0) rfl)
theorem dX3_forth_1 : decode cX3_forth 1 = Except.ok (Instr.invokestatic 200, 3) := vyd_184 (vyb_cX3_forth_0 (i := 1) rfl) (vyb_cX3_forth_0 (i := 2) rfl) (vyb_cX3_forth_0 (i := 3) rfl) rfl
theorem dX3_forth_4 : decode cX3_forth 4 = Except.ok (Instr.aload_n 0, 1) := vyd_42 (vyb_cX3_forth_0 (i := 4) rfl)
theorem dX3_forth_5 : decode cX3_forth 5 = Except.ok (Instr.iload_n 1, 1) := vyd_27 (vyb_cX3_forth_0 (i := 5) rfl)
theorem dX3_forth_6 : decode cX3_forth 6 = Except.ok (Instr.invokevirtual 210, 3) := vyd_182 (vyb_cX3_forth_0 (i := 6) rfl) (vyb_cX3_forth_0 (i := 7) rfl) (vyb_cX3_forth_0 (i := 8) rfl) rfl
theorem dX3_forth_9 : decode cX3_forth 9 = Except.ok (Instr.aload_n 0, 1) := vyd_42 (vyb_cX3_forth_0 (i := 9) rfl)
theorem dX3_forth_10 : decode cX3_forth 10 = Except.ok (Instr.iload_n 1, 1) := vyd_27 (vyb_cX3_forth_1 (i := 0) rfl)
theorem dX3_forth_11 : decode cX3_forth 11 = Except.ok (Instr.invokevirtual 203, 3) := vyd_182 (vyb_cX3_forth_1 (i := 1) rfl) (vyb_cX3_forth_1 (i := 2) rfl) (vyb_cX3_forth_1 (i := 3) rfl) rfl
theorem dX3_forth_14 : decode cX3_forth 14 = Except.ok (Instr.astore_n 2, 1) := vyd_77 (vyb_cX3_forth_1 (i := 4) rfl)
theorem dX3_forth_15 : decode cX3_forth 15 = Except.ok (Instr.aload_n 2, 1) := vyd_44 (vyb_cX3_forth_1 (i := 5) rfl)
theorem dX3_forth_16 : decode cX3_forth 16 = Except.ok (Instr.invokevirtual 213, 3) := vyd_182 (vyb_cX3_forth_1 (i := 6) rfl) (vyb_cX3_forth_1 (i := 7) rfl) (vyb_cX3_forth_1 (i := 8) rfl) rfl
theorem dX3_forth_19 : decode cX3_forth 19 = Except.ok (Instr.ifCond .eq 17, 3) := vyd_153 (vyb_cX3_forth_1 (i := 9) rfl) (vyb_cX3_forth_2 (i := 0) rfl) (vyb_cX3_forth_2 (i := 1) rfl) (by decide +kernel)
theorem dX3_forth_22 : decode cX3_forth 22 = Except.ok (Instr.aload_n 2, 1) := vyd_44 (vyb_cX3_forth_2 (i := 2) rfl)
theorem dX3_forth_23 : decode cX3_forth 23 = Except.ok (Instr.getfield 216, 3) := vyd_180 (vyb_cX3_forth_2 (i := 3) rfl) (vyb_cX3_forth_2 (i := 4) rfl) (vyb_cX3_forth_2 (i := 5) rfl) rfl
theorem dX3_forth_26 : decode cX3_forth 26 = Except.ok (Instr.aload_n 0, 1) := vyd_42 (vyb_cX3_forth_2 (i := 6) rfl)
theorem dX3_forth_27 : decode cX3_forth 27 = Except.ok (Instr.getfield 18, 3) := vyd_180 (vyb_cX3_forth_2 (i := 7) rfl) (vyb_cX3_forth_2 (i := 8) rfl) (vyb_cX3_forth_2 (i := 9) rfl) rfl
theorem dX3_forth_30 : decode cX3_forth 30 = Except.ok (Instr.invokevirtual 65, 3) := vyd_182 (vyb_cX3_forth_3 (i := 0) rfl) (vyb_cX3_forth_3 (i := 1) rfl) (vyb_cX3_forth_3 (i := 2) rfl) rfl
theorem dX3_forth_33 : decode cX3_forth 33 = Except.ok (Instr.if_icmp .lt 6, 3) := vyd_161 (vyb_cX3_forth_3 (i := 3) rfl) (vyb_cX3_forth_3 (i := 4) rfl) (vyb_cX3_forth_3 (i := 5) rfl) (by decide +kernel)
theorem dX3_forth_36 : decode cX3_forth 36 = Except.ok (Instr.bipush (-9), 2) := vyd_16 (vyb_cX3_forth_3 (i := 6) rfl) (vyb_cX3_forth_3 (i := 7) rfl) (by decide +kernel)
theorem dX3_forth_38 : decode cX3_forth 38 = Except.ok (Instr.ireturn, 1) := vyd_172 (vyb_cX3_forth_3 (i := 8) rfl)
theorem dX3_forth_39 : decode cX3_forth 39 = Except.ok (Instr.aload_n 2, 1) := vyd_44 (vyb_cX3_forth_3 (i := 9) rfl)
theorem dX3_forth_40 : decode cX3_forth 40 = Except.ok (Instr.invokevirtual 219, 3) := vyd_182 (vyb_cX3_forth_4 (i := 0) rfl) (vyb_cX3_forth_4 (i := 1) rfl) (vyb_cX3_forth_4 (i := 2) rfl) rfl
theorem dX3_forth_43 : decode cX3_forth 43 = Except.ok (Instr.aload_n 0, 1) := vyd_42 (vyb_cX3_forth_4 (i := 3) rfl)
theorem dX3_forth_44 : decode cX3_forth 44 = Except.ok (Instr.getfield 18, 3) := vyd_180 (vyb_cX3_forth_4 (i := 4) rfl) (vyb_cX3_forth_4 (i := 5) rfl) (vyb_cX3_forth_4 (i := 6) rfl) rfl
theorem dX3_forth_47 : decode cX3_forth 47 = Except.ok (Instr.aload_n 2, 1) := vyd_44 (vyb_cX3_forth_4 (i := 7) rfl)
theorem dX3_forth_48 : decode cX3_forth 48 = Except.ok (Instr.getfield 222, 3) := vyd_180 (vyb_cX3_forth_4 (i := 8) rfl) (vyb_cX3_forth_4 (i := 9) rfl) (vyb_cX3_forth_5 (i := 0) rfl) rfl
theorem dX3_forth_51 : decode cX3_forth 51 = Except.ok (Instr.invokevirtual 144, 3) := vyd_182 (vyb_cX3_forth_5 (i := 1) rfl) (vyb_cX3_forth_5 (i := 2) rfl) (vyb_cX3_forth_5 (i := 3) rfl) rfl
theorem dX3_forth_54 : decode cX3_forth 54 = Except.ok (Instr.ireturn, 1) := vyd_172 (vyb_cX3_forth_5 (i := 4) rfl)
theorem vyb_cX3_back_0 {i : Nat} {b : UInt8} (h : ([0x1b, 0xb8, 0x00, 0xc8, 0x2a, 0x1b, 0xb6, 0x00, 0xd2, 0x2a] : List UInt8)[i]? = some b) : vy_8 cX3_back (0 + i) b := vy_in (n := 10) (by decide +kernel) h
theorem vyb_cX3_back_1 {i : Nat} {b : UInt8} (h : ([0x1b, 0xb6, 0x00, 0xcb, 0x4d, 0x2c, 0xb6, 0x00, 0xd5, 0x99] : List UInt8)[i]? = some b) : vy_8 cX3_back (10 + i) b := vy_in (n := 10) (by decide +kernel) h
theorem vyb_cX3_back_2 {i : Nat} {b : UInt8} (h : ([0x00, 0x0a, 0x2c, 0xb4, 0x00, 0xd8, 0x9d, 0x00, 0x06, 0x10] : List UInt8)[i]? = some b) : vy_8 cX3_back (20 + i) b := vy_in (n := 10) (by decide +kernel) h
theorem vyb_cX3_back_3 {i : Nat} {b : UInt8} (h : ([0xf7, 0xac, 0x2c, 0xb6, 0x00, 0xdf, 0x2a, 0xb4, 0x00, 0x12] : List UInt8)[i]? = some b) : vy_8 cX3_back (30 + i) b := vy_in (n := 10) (by decide +kernel) h
theorem vyb_cX3_back_4 {i : Nat} {b : UInt8} (h : ([0x2c, 0xb4, 0x00, 0xde, 0xb6, 0x00, 0x90, 0xac] : List UInt8)[i]? = some b) : vy_8 cX3_back (40 + i) b := vy_in (n := 8) (by decide +kernel) h
theorem dX3_back_0 : decode cX3_back 0 = Except.ok (Instr.iload_n 1, 1) := vyd_27 (vyb_cX3_back_0 (i := 0) rfl)
theorem dX3_back_1 : decode cX3_back 1 = Except.ok (Instr.invokestatic 200, 3) := vyd_184 (vyb_cX3_back_0 (i := 1) rfl) (vyb_cX3_back_0 (i := 2) rfl) (vyb_cX3_back_0 (i := 3) rfl) rfl
theorem dX3_back_4 : decode cX3_back 4 = Except.ok (Instr.aload_n 0, 1) := vyd_42 (vyb_cX3_back_0 (i := 4) rfl)
theorem dX3_back_5 : decode cX3_back 5 = Except.ok (Instr.iload_n 1, 1) := vyd_27 (vyb_cX3_back_0 (i := 5) rfl)
theorem dX3_back_6 : decode cX3_back 6 = Except.ok (Instr.invokevirtual 210, 3) := vyd_182 (vyb_cX3_back_0 (i := 6) rfl) (vyb_cX3_back_0 (i := 7) rfl) (vyb_cX3_back_0 (i := 8) rfl) rfl
theorem dX3_back_9 : decode cX3_back 9 = Except.ok (Instr.aload_n 0, 1) := vyd_42 (vyb_cX3_back_0 (i := 9) rfl)
theorem dX3_back_10 : decode cX3_back 10 = Except.ok (Instr.iload_n 1, 1) := vyd_27 (vyb_cX3_back_1 (i := 0) rfl)
theorem dX3_back_11 : decode cX3_back 11 = Except.ok (Instr.invokevirtual 203, 3) := vyd_182 (vyb_cX3_back_1 (i := 1) rfl) (vyb_cX3_back_1 (i := 2) rfl) (vyb_cX3_back_1 (i := 3) rfl) rfl
theorem dX3_back_14 : decode cX3_back 14 = Except.ok (Instr.astore_n 2, 1) := vyd_77 (vyb_cX3_back_1 (i := 4) rfl)
theorem dX3_back_15 : decode cX3_back 15 = Except.ok (Instr.aload_n 2, 1) := vyd_44 (vyb_cX3_back_1 (i := 5) rfl)
theorem dX3_back_16 : decode cX3_back 16 = Except.ok (Instr.invokevirtual 213, 3) := vyd_182 (vyb_cX3_back_1 (i := 6) rfl) (vyb_cX3_back_1 (i := 7) rfl) (vyb_cX3_back_1 (i := 8) rfl) rfl
theorem dX3_back_19 : decode cX3_back 19 = Except.ok (Instr.ifCond .eq 10, 3) := vyd_153 (vyb_cX3_back_1 (i := 9) rfl) (vyb_cX3_back_2 (i := 0) rfl) (vyb_cX3_back_2 (i := 1) rfl) (by decide +kernel)
theorem dX3_back_22 : decode cX3_back 22 = Except.ok (Instr.aload_n 2, 1) := vyd_44 (vyb_cX3_back_2 (i := 2) rfl)
theorem dX3_back_23 : decode cX3_back 23 = Except.ok (Instr.getfield 216, 3) := vyd_180 (vyb_cX3_back_2 (i := 3) rfl) (vyb_cX3_back_2 (i := 4) rfl) (vyb_cX3_back_2 (i := 5) rfl) rfl
theorem dX3_back_26 : decode cX3_back 26 = Except.ok (Instr.ifCond .gt 6, 3) := vyd_157 (vyb_cX3_back_2 (i := 6) rfl) (vyb_cX3_back_2 (i := 7) rfl) (vyb_cX3_back_2 (i := 8) rfl) (by decide +kernel)
theorem dX3_back_29 : decode cX3_back 29 = Except.ok (Instr.bipush (-9), 2) := vyd_16 (vyb_cX3_back_2 (i := 9) rfl) (vyb_cX3_back_3 (i := 0) rfl) (by decide +kernel)
theorem dX3_back_31 : decode cX3_back 31 = Except.ok (Instr.ireturn, 1) := vyd_172 (vyb_cX3_back_3 (i := 1) rfl)
theorem dX3_back_32 : decode cX3_back 32 = Except.ok (Instr.aload_n 2, 1) := vyd_44 (vyb_cX3_back_3 (i := 2) rfl)
theorem dX3_back_33 : decode cX3_back 33 = Except.ok (Instr.invokevirtual 223, 3) := vyd_182 (vyb_cX3_back_3 (i := 3) rfl) (vyb_cX3_back_3 (i := 4) rfl) (vyb_cX3_back_3 (i := 5) rfl) rfl
theorem dX3_back_36 : decode cX3_back 36 = Except.ok (Instr.aload_n 0, 1) := vyd_42 (vyb_cX3_back_3 (i := 6) rfl)
theorem dX3_back_37 : decode cX3_back 37 = Except.ok (Instr.getfield 18, 3) := vyd_180 (vyb_cX3_back_3 (i := 7) rfl) (vyb_cX3_back_3 (i := 8) rfl) (vyb_cX3_back_3 (i := 9) rfl) rfl
theorem dX3_back_40 : decode cX3_back 40 = Except.ok (Instr.aload_n 2, 1) := vyd_44 (vyb_cX3_back_4 (i := 0) rfl)
theorem dX3_back_41 : decode cX3_back 41 = Except.ok (Instr.getfield 222, 3) := vyd_180 (vyb_cX3_back_4 (i := 1) rfl) (vyb_cX3_back_4 (i := 2) rfl) (vyb_cX3_back_4 (i := 3) rfl) rfl
theorem dX3_back_44 : decode cX3_back 44 = Except.ok (Instr.invokevirtual 144, 3) := vyd_182 (vyb_cX3_back_4 (i := 4) rfl) (vyb_cX3_back_4 (i := 5) rfl) (vyb_cX3_back_4 (i := 6) rfl) rfl
theorem dX3_back_47 : decode cX3_back 47 = Except.ok (Instr.ireturn, 1) := vyd_172 (vyb_cX3_back_4 (i := 7) rfl)
theorem vyb_cX3_takeHeld_0 {i : Nat} {b : UInt8} (h : ([0x1b, 0xb8, 0x00, 0xc8, 0x2a, 0x1b, 0xb6, 0x00, 0xd2, 0x2a] : List UInt8)[i]? = some b) : vy_8 cX3_takeHeld (0 + i) b := vy_in (n := 10) (by decide +kernel) h
theorem vyb_cX3_takeHeld_1 {i : Nat} {b : UInt8} (h : ([0x1b, 0xb6, 0x00, 0xcb, 0x4d, 0x2c, 0xb6, 0x00, 0xe2, 0x9a] : List UInt8)[i]? = some b) : vy_8 cX3_takeHeld (10 + i) b := vy_in (n := 10) (by decide +kernel) h
theorem vyb_cX3_takeHeld_2 {i : Nat} {b : UInt8} (h : ([0x00, 0x06, 0x10, 0xf7, 0xac, 0x2a, 0xb4, 0x00, 0x12, 0x2c] : List UInt8)[i]? = some b) : vy_8 cX3_takeHeld (20 + i) b := vy_in (n := 10) (by decide +kernel) h
theorem vyb_cX3_takeHeld_3 {i : Nat} {b : UInt8} (h : ([0xb4, 0x00, 0xde, 0xb6, 0x00, 0x71, 0x57, 0x2c, 0xb6, 0x00] : List UInt8)[i]? = some b) : vy_8 cX3_takeHeld (30 + i) b := vy_in (n := 10) (by decide +kernel) h
theorem vyb_cX3_takeHeld_4 {i : Nat} {b : UInt8} (h : ([0xe5, 0x2a, 0x1b, 0xb6, 0x00, 0xe8, 0x2c, 0xb4, 0x00, 0xd8] : List UInt8)[i]? = some b) : vy_8 cX3_takeHeld (40 + i) b := vy_in (n := 10) (by decide +kernel) h
theorem vyb_cX3_takeHeld_5 {i : Nat} {b : UInt8} (h : ([0xac] : List UInt8)[i]? = some b) : vy_8 cX3_takeHeld (50 + i) b := vy_in (n := 1) (by decide +kernel) h
theorem dX3_takeHeld_0 : decode cX3_takeHeld 0 = Except.ok (Instr.iload_n 1, 1) := vyd_27 (vyb_cX3_takeHeld_0 (i := 0) rfl)
theorem dX3_takeHeld_1 : decode cX3_takeHeld 1 = Except.ok (Instr.invokestatic 200, 3) := vyd_184 (vyb_cX3_takeHeld_0 (i := 1) rfl) (vyb_cX3_takeHeld_0 (i := 2) rfl) (vyb_cX3_takeHeld_0 (i := 3) rfl) rfl
theorem dX3_takeHeld_4 : decode cX3_takeHeld 4 = Except.ok (Instr.aload_n 0, 1) := vyd_42 (vyb_cX3_takeHeld_0 (i := 4) rfl)
theorem dX3_takeHeld_5 : decode cX3_takeHeld 5 = Except.ok (Instr.iload_n 1, 1) := vyd_27 (vyb_cX3_takeHeld_0 (i := 5) rfl)
theorem dX3_takeHeld_6 : decode cX3_takeHeld 6 = Except.ok (Instr.invokevirtual 210, 3) := vyd_182 (vyb_cX3_takeHeld_0 (i := 6) rfl) (vyb_cX3_takeHeld_0 (i := 7) rfl) (vyb_cX3_takeHeld_0 (i := 8) rfl) rfl
theorem dX3_takeHeld_9 : decode cX3_takeHeld 9 = Except.ok (Instr.aload_n 0, 1) := vyd_42 (vyb_cX3_takeHeld_0 (i := 9) rfl)
theorem dX3_takeHeld_10 : decode cX3_takeHeld 10 = Except.ok (Instr.iload_n 1, 1) := vyd_27 (vyb_cX3_takeHeld_1 (i := 0) rfl)
theorem dX3_takeHeld_11 : decode cX3_takeHeld 11 = Except.ok (Instr.invokevirtual 203, 3) := vyd_182 (vyb_cX3_takeHeld_1 (i := 1) rfl) (vyb_cX3_takeHeld_1 (i := 2) rfl) (vyb_cX3_takeHeld_1 (i := 3) rfl) rfl
theorem dX3_takeHeld_14 : decode cX3_takeHeld 14 = Except.ok (Instr.astore_n 2, 1) := vyd_77 (vyb_cX3_takeHeld_1 (i := 4) rfl)
theorem dX3_takeHeld_15 : decode cX3_takeHeld 15 = Except.ok (Instr.aload_n 2, 1) := vyd_44 (vyb_cX3_takeHeld_1 (i := 5) rfl)
theorem dX3_takeHeld_16 : decode cX3_takeHeld 16 = Except.ok (Instr.invokevirtual 226, 3) := vyd_182 (vyb_cX3_takeHeld_1 (i := 6) rfl) (vyb_cX3_takeHeld_1 (i := 7) rfl) (vyb_cX3_takeHeld_1 (i := 8) rfl) rfl
theorem dX3_takeHeld_19 : decode cX3_takeHeld 19 = Except.ok (Instr.ifCond .ne 6, 3) := vyd_154 (vyb_cX3_takeHeld_1 (i := 9) rfl) (vyb_cX3_takeHeld_2 (i := 0) rfl) (vyb_cX3_takeHeld_2 (i := 1) rfl) (by decide +kernel)
theorem dX3_takeHeld_22 : decode cX3_takeHeld 22 = Except.ok (Instr.bipush (-9), 2) := vyd_16 (vyb_cX3_takeHeld_2 (i := 2) rfl) (vyb_cX3_takeHeld_2 (i := 3) rfl) (by decide +kernel)
theorem dX3_takeHeld_24 : decode cX3_takeHeld 24 = Except.ok (Instr.ireturn, 1) := vyd_172 (vyb_cX3_takeHeld_2 (i := 4) rfl)
theorem dX3_takeHeld_25 : decode cX3_takeHeld 25 = Except.ok (Instr.aload_n 0, 1) := vyd_42 (vyb_cX3_takeHeld_2 (i := 5) rfl)
theorem dX3_takeHeld_26 : decode cX3_takeHeld 26 = Except.ok (Instr.getfield 18, 3) := vyd_180 (vyb_cX3_takeHeld_2 (i := 6) rfl) (vyb_cX3_takeHeld_2 (i := 7) rfl) (vyb_cX3_takeHeld_2 (i := 8) rfl) rfl
theorem dX3_takeHeld_29 : decode cX3_takeHeld 29 = Except.ok (Instr.aload_n 2, 1) := vyd_44 (vyb_cX3_takeHeld_2 (i := 9) rfl)
theorem dX3_takeHeld_30 : decode cX3_takeHeld 30 = Except.ok (Instr.getfield 222, 3) := vyd_180 (vyb_cX3_takeHeld_3 (i := 0) rfl) (vyb_cX3_takeHeld_3 (i := 1) rfl) (vyb_cX3_takeHeld_3 (i := 2) rfl) rfl
theorem dX3_takeHeld_33 : decode cX3_takeHeld 33 = Except.ok (Instr.invokevirtual 113, 3) := vyd_182 (vyb_cX3_takeHeld_3 (i := 3) rfl) (vyb_cX3_takeHeld_3 (i := 4) rfl) (vyb_cX3_takeHeld_3 (i := 5) rfl) rfl
theorem dX3_takeHeld_36 : decode cX3_takeHeld 36 = Except.ok (Instr.pop, 1) := vyd_87 (vyb_cX3_takeHeld_3 (i := 6) rfl)
theorem dX3_takeHeld_37 : decode cX3_takeHeld 37 = Except.ok (Instr.aload_n 2, 1) := vyd_44 (vyb_cX3_takeHeld_3 (i := 7) rfl)
theorem dX3_takeHeld_38 : decode cX3_takeHeld 38 = Except.ok (Instr.invokevirtual 229, 3) := vyd_182 (vyb_cX3_takeHeld_3 (i := 8) rfl) (vyb_cX3_takeHeld_3 (i := 9) rfl) (vyb_cX3_takeHeld_4 (i := 0) rfl) rfl
theorem dX3_takeHeld_41 : decode cX3_takeHeld 41 = Except.ok (Instr.aload_n 0, 1) := vyd_42 (vyb_cX3_takeHeld_4 (i := 1) rfl)
theorem dX3_takeHeld_42 : decode cX3_takeHeld 42 = Except.ok (Instr.iload_n 1, 1) := vyd_27 (vyb_cX3_takeHeld_4 (i := 2) rfl)
theorem dX3_takeHeld_43 : decode cX3_takeHeld 43 = Except.ok (Instr.invokevirtual 232, 3) := vyd_182 (vyb_cX3_takeHeld_4 (i := 3) rfl) (vyb_cX3_takeHeld_4 (i := 4) rfl) (vyb_cX3_takeHeld_4 (i := 5) rfl) rfl
theorem dX3_takeHeld_46 : decode cX3_takeHeld 46 = Except.ok (Instr.aload_n 2, 1) := vyd_44 (vyb_cX3_takeHeld_4 (i := 6) rfl)
theorem dX3_takeHeld_47 : decode cX3_takeHeld 47 = Except.ok (Instr.getfield 216, 3) := vyd_180 (vyb_cX3_takeHeld_4 (i := 7) rfl) (vyb_cX3_takeHeld_4 (i := 8) rfl) (vyb_cX3_takeHeld_4 (i := 9) rfl) rfl
theorem dX3_takeHeld_50 : decode cX3_takeHeld 50 = Except.ok (Instr.ireturn, 1) := vyd_172 (vyb_cX3_takeHeld_5 (i := 0) rfl)
theorem vyb_cX3_setHeld_0 {i : Nat} {b : UInt8} (h : ([0x1b, 0xb8, 0x00, 0xc8, 0x1c, 0x1d, 0xb8, 0x00, 0xbc, 0x2a] : List UInt8)[i]? = some b) : vy_8 cX3_setHeld (0 + i) b := vy_in (n := 10) (by decide +kernel) h
theorem vyb_cX3_setHeld_1 {i : Nat} {b : UInt8} (h : ([0x1b, 0xb6, 0x00, 0xd2, 0x2a, 0x1b, 0xb6, 0x00, 0xcb, 0x3a] : List UInt8)[i]? = some b) : vy_8 cX3_setHeld (10 + i) b := vy_in (n := 10) (by decide +kernel) h
theorem vyb_cX3_setHeld_2 {i : Nat} {b : UInt8} (h : ([0x04, 0x19, 0x04, 0xb6, 0x00, 0xe2, 0x9a, 0x00, 0x06, 0x10] : List UInt8)[i]? = some b) : vy_8 cX3_setHeld (20 + i) b := vy_in (n := 10) (by decide +kernel) h
theorem vyb_cX3_setHeld_3 {i : Nat} {b : UInt8} (h : ([0xf7, 0xac, 0x2a, 0x19, 0x04, 0xb4, 0x00, 0xde, 0x1c, 0x1d] : List UInt8)[i]? = some b) : vy_8 cX3_setHeld (30 + i) b := vy_in (n := 10) (by decide +kernel) h
theorem vyb_cX3_setHeld_4 {i : Nat} {b : UInt8} (h : ([0xb8, 0x00, 0x54, 0xb6, 0x00, 0xbf, 0x19, 0x04, 0xb4, 0x00] : List UInt8)[i]? = some b) : vy_8 cX3_setHeld (40 + i) b := vy_in (n := 10) (by decide +kernel) h
theorem vyb_cX3_setHeld_5 {i : Nat} {b : UInt8} (h : ([0xd8, 0xac] : List UInt8)[i]? = some b) : vy_8 cX3_setHeld (50 + i) b := vy_in (n := 2) (by decide +kernel) h
theorem dX3_setHeld_0 : decode cX3_setHeld 0 = Except.ok (Instr.iload_n 1, 1) := vyd_27 (vyb_cX3_setHeld_0 (i := 0) rfl)
theorem dX3_setHeld_1 : decode cX3_setHeld 1 = Except.ok (Instr.invokestatic 200, 3) := vyd_184 (vyb_cX3_setHeld_0 (i := 1) rfl) (vyb_cX3_setHeld_0 (i := 2) rfl) (vyb_cX3_setHeld_0 (i := 3) rfl) rfl
theorem dX3_setHeld_4 : decode cX3_setHeld 4 = Except.ok (Instr.iload_n 2, 1) := vyd_28 (vyb_cX3_setHeld_0 (i := 4) rfl)
theorem dX3_setHeld_5 : decode cX3_setHeld 5 = Except.ok (Instr.iload_n 3, 1) := vyd_29 (vyb_cX3_setHeld_0 (i := 5) rfl)
theorem dX3_setHeld_6 : decode cX3_setHeld 6 = Except.ok (Instr.invokestatic 188, 3) := vyd_184 (vyb_cX3_setHeld_0 (i := 6) rfl) (vyb_cX3_setHeld_0 (i := 7) rfl) (vyb_cX3_setHeld_0 (i := 8) rfl) rfl
theorem dX3_setHeld_9 : decode cX3_setHeld 9 = Except.ok (Instr.aload_n 0, 1) := vyd_42 (vyb_cX3_setHeld_0 (i := 9) rfl)
theorem dX3_setHeld_10 : decode cX3_setHeld 10 = Except.ok (Instr.iload_n 1, 1) := vyd_27 (vyb_cX3_setHeld_1 (i := 0) rfl)
theorem dX3_setHeld_11 : decode cX3_setHeld 11 = Except.ok (Instr.invokevirtual 210, 3) := vyd_182 (vyb_cX3_setHeld_1 (i := 1) rfl) (vyb_cX3_setHeld_1 (i := 2) rfl) (vyb_cX3_setHeld_1 (i := 3) rfl) rfl
theorem dX3_setHeld_14 : decode cX3_setHeld 14 = Except.ok (Instr.aload_n 0, 1) := vyd_42 (vyb_cX3_setHeld_1 (i := 4) rfl)
theorem dX3_setHeld_15 : decode cX3_setHeld 15 = Except.ok (Instr.iload_n 1, 1) := vyd_27 (vyb_cX3_setHeld_1 (i := 5) rfl)
theorem dX3_setHeld_16 : decode cX3_setHeld 16 = Except.ok (Instr.invokevirtual 203, 3) := vyd_182 (vyb_cX3_setHeld_1 (i := 6) rfl) (vyb_cX3_setHeld_1 (i := 7) rfl) (vyb_cX3_setHeld_1 (i := 8) rfl) rfl
theorem dX3_setHeld_19 : decode cX3_setHeld 19 = Except.ok (Instr.astore 4, 2) := vyd_58 (vyb_cX3_setHeld_1 (i := 9) rfl) (vyb_cX3_setHeld_2 (i := 0) rfl) rfl
theorem dX3_setHeld_21 : decode cX3_setHeld 21 = Except.ok (Instr.aload 4, 2) := vyd_25 (vyb_cX3_setHeld_2 (i := 1) rfl) (vyb_cX3_setHeld_2 (i := 2) rfl) rfl
theorem dX3_setHeld_23 : decode cX3_setHeld 23 = Except.ok (Instr.invokevirtual 226, 3) := vyd_182 (vyb_cX3_setHeld_2 (i := 3) rfl) (vyb_cX3_setHeld_2 (i := 4) rfl) (vyb_cX3_setHeld_2 (i := 5) rfl) rfl
theorem dX3_setHeld_26 : decode cX3_setHeld 26 = Except.ok (Instr.ifCond .ne 6, 3) := vyd_154 (vyb_cX3_setHeld_2 (i := 6) rfl) (vyb_cX3_setHeld_2 (i := 7) rfl) (vyb_cX3_setHeld_2 (i := 8) rfl) (by decide +kernel)
theorem dX3_setHeld_29 : decode cX3_setHeld 29 = Except.ok (Instr.bipush (-9), 2) := vyd_16 (vyb_cX3_setHeld_2 (i := 9) rfl) (vyb_cX3_setHeld_3 (i := 0) rfl) (by decide +kernel)
theorem dX3_setHeld_31 : decode cX3_setHeld 31 = Except.ok (Instr.ireturn, 1) := vyd_172 (vyb_cX3_setHeld_3 (i := 1) rfl)
theorem dX3_setHeld_32 : decode cX3_setHeld 32 = Except.ok (Instr.aload_n 0, 1) := vyd_42 (vyb_cX3_setHeld_3 (i := 2) rfl)
theorem dX3_setHeld_33 : decode cX3_setHeld 33 = Except.ok (Instr.aload 4, 2) := vyd_25 (vyb_cX3_setHeld_3 (i := 3) rfl) (vyb_cX3_setHeld_3 (i := 4) rfl) rfl
theorem dX3_setHeld_35 : decode cX3_setHeld 35 = Except.ok (Instr.getfield 222, 3) := vyd_180 (vyb_cX3_setHeld_3 (i := 5) rfl) (vyb_cX3_setHeld_3 (i := 6) rfl) (vyb_cX3_setHeld_3 (i := 7) rfl) rfl
theorem dX3_setHeld_38 : decode cX3_setHeld 38 = Except.ok (Instr.iload_n 2, 1) := vyd_28 (vyb_cX3_setHeld_3 (i := 8) rfl)
theorem dX3_setHeld_39 : decode cX3_setHeld 39 = Except.ok (Instr.iload_n 3, 1) := vyd_29 (vyb_cX3_setHeld_3 (i := 9) rfl)
theorem dX3_setHeld_40 : decode cX3_setHeld 40 = Except.ok (Instr.invokestatic 84, 3) := vyd_184 (vyb_cX3_setHeld_4 (i := 0) rfl) (vyb_cX3_setHeld_4 (i := 1) rfl) (vyb_cX3_setHeld_4 (i := 2) rfl) rfl
theorem dX3_setHeld_43 : decode cX3_setHeld 43 = Except.ok (Instr.invokevirtual 191, 3) := vyd_182 (vyb_cX3_setHeld_4 (i := 3) rfl) (vyb_cX3_setHeld_4 (i := 4) rfl) (vyb_cX3_setHeld_4 (i := 5) rfl) rfl
theorem dX3_setHeld_46 : decode cX3_setHeld 46 = Except.ok (Instr.aload 4, 2) := vyd_25 (vyb_cX3_setHeld_4 (i := 6) rfl) (vyb_cX3_setHeld_4 (i := 7) rfl) rfl
theorem dX3_setHeld_48 : decode cX3_setHeld 48 = Except.ok (Instr.getfield 216, 3) := vyd_180 (vyb_cX3_setHeld_4 (i := 8) rfl) (vyb_cX3_setHeld_4 (i := 9) rfl) (vyb_cX3_setHeld_5 (i := 0) rfl) rfl
theorem dX3_setHeld_51 : decode cX3_setHeld 51 = Except.ok (Instr.ireturn, 1) := vyd_172 (vyb_cX3_setHeld_5 (i := 1) rfl)
theorem vyb_cX3_put_0 {i : Nat} {b : UInt8} (h : ([0x1b, 0xb8, 0x00, 0xc8, 0x1c, 0x1d, 0xb8, 0x00, 0xbc, 0x2a] : List UInt8)[i]? = some b) : vy_8 cX3_put (0 + i) b := vy_in (n := 10) (by decide +kernel) h
theorem vyb_cX3_put_1 {i : Nat} {b : UInt8} (h : ([0x1b, 0xb6, 0x00, 0xd2, 0x2a, 0x04, 0x04, 0xb6, 0x00, 0x50] : List UInt8)[i]? = some b) : vy_8 cX3_put (10 + i) b := vy_in (n := 10) (by decide +kernel) h
theorem vyb_cX3_put_2 {i : Nat} {b : UInt8} (h : ([0x2a, 0x1b, 0xb6, 0x00, 0xcb, 0x3a, 0x04, 0x19, 0x04, 0xb6] : List UInt8)[i]? = some b) : vy_8 cX3_put (20 + i) b := vy_in (n := 10) (by decide +kernel) h
theorem vyb_cX3_put_3 {i : Nat} {b : UInt8} (h : ([0x00, 0xd5, 0x9a, 0x00, 0x06, 0x10, 0xf7, 0xac, 0x2a, 0xb4] : List UInt8)[i]? = some b) : vy_8 cX3_put (30 + i) b := vy_in (n := 10) (by decide +kernel) h
theorem vyb_cX3_put_4 {i : Nat} {b : UInt8} (h : ([0x00, 0x12, 0x19, 0x04, 0xb4, 0x00, 0xd8, 0x1c, 0x1d, 0xb8] : List UInt8)[i]? = some b) : vy_8 cX3_put (40 + i) b := vy_in (n := 10) (by decide +kernel) h
theorem vyb_cX3_put_5 {i : Nat} {b : UInt8} (h : ([0x00, 0x54, 0xb6, 0x00, 0x81, 0x19, 0x04, 0xb6, 0x00, 0xeb] : List UInt8)[i]? = some b) : vy_8 cX3_put (50 + i) b := vy_in (n := 10) (by decide +kernel) h
theorem vyb_cX3_put_6 {i : Nat} {b : UInt8} (h : ([0x2a, 0x1b, 0xb6, 0x00, 0xe8, 0x19, 0x04, 0xb4, 0x00, 0xd8] : List UInt8)[i]? = some b) : vy_8 cX3_put (60 + i) b := vy_in (n := 10) (by decide +kernel) h
theorem vyb_cX3_put_7 {i : Nat} {b : UInt8} (h : ([0xac] : List UInt8)[i]? = some b) : vy_8 cX3_put (70 + i) b := vy_in (n := 1) (by decide +kernel) h
theorem dX3_put_0 : decode cX3_put 0 = Except.ok (Instr.iload_n 1, 1) := vyd_27 (vyb_cX3_put_0 (i := 0) rfl)
theorem dX3_put_1 : decode cX3_put 1 = Except.ok (Instr.invokestatic 200, 3) := vyd_184 (vyb_cX3_put_0 (i := 1) rfl) (vyb_cX3_put_0 (i := 2) rfl) (vyb_cX3_put_0 (i := 3) rfl) rfl
theorem dX3_put_4 : decode cX3_put 4 = Except.ok (Instr.iload_n 2, 1) := vyd_28 (vyb_cX3_put_0 (i := 4) rfl)
theorem dX3_put_5 : decode cX3_put 5 = Except.ok (Instr.iload_n 3, 1) := vyd_29 (vyb_cX3_put_0 (i := 5) rfl)
theorem dX3_put_6 : decode cX3_put 6 = Except.ok (Instr.invokestatic 188, 3) := vyd_184 (vyb_cX3_put_0 (i := 6) rfl) (vyb_cX3_put_0 (i := 7) rfl) (vyb_cX3_put_0 (i := 8) rfl) rfl
theorem dX3_put_9 : decode cX3_put 9 = Except.ok (Instr.aload_n 0, 1) := vyd_42 (vyb_cX3_put_0 (i := 9) rfl)
theorem dX3_put_10 : decode cX3_put 10 = Except.ok (Instr.iload_n 1, 1) := vyd_27 (vyb_cX3_put_1 (i := 0) rfl)
theorem dX3_put_11 : decode cX3_put 11 = Except.ok (Instr.invokevirtual 210, 3) := vyd_182 (vyb_cX3_put_1 (i := 1) rfl) (vyb_cX3_put_1 (i := 2) rfl) (vyb_cX3_put_1 (i := 3) rfl) rfl
theorem dX3_put_14 : decode cX3_put 14 = Except.ok (Instr.aload_n 0, 1) := vyd_42 (vyb_cX3_put_1 (i := 4) rfl)
theorem dX3_put_15 : decode cX3_put 15 = Except.ok (Instr.iconst 1, 1) := vyd_4 (vyb_cX3_put_1 (i := 5) rfl)
theorem dX3_put_16 : decode cX3_put 16 = Except.ok (Instr.iconst 1, 1) := vyd_4 (vyb_cX3_put_1 (i := 6) rfl)
theorem dX3_put_17 : decode cX3_put 17 = Except.ok (Instr.invokevirtual 80, 3) := vyd_182 (vyb_cX3_put_1 (i := 7) rfl) (vyb_cX3_put_1 (i := 8) rfl) (vyb_cX3_put_1 (i := 9) rfl) rfl
theorem dX3_put_20 : decode cX3_put 20 = Except.ok (Instr.aload_n 0, 1) := vyd_42 (vyb_cX3_put_2 (i := 0) rfl)
theorem dX3_put_21 : decode cX3_put 21 = Except.ok (Instr.iload_n 1, 1) := vyd_27 (vyb_cX3_put_2 (i := 1) rfl)
theorem dX3_put_22 : decode cX3_put 22 = Except.ok (Instr.invokevirtual 203, 3) := vyd_182 (vyb_cX3_put_2 (i := 2) rfl) (vyb_cX3_put_2 (i := 3) rfl) (vyb_cX3_put_2 (i := 4) rfl) rfl
theorem dX3_put_25 : decode cX3_put 25 = Except.ok (Instr.astore 4, 2) := vyd_58 (vyb_cX3_put_2 (i := 5) rfl) (vyb_cX3_put_2 (i := 6) rfl) rfl
theorem dX3_put_27 : decode cX3_put 27 = Except.ok (Instr.aload 4, 2) := vyd_25 (vyb_cX3_put_2 (i := 7) rfl) (vyb_cX3_put_2 (i := 8) rfl) rfl
theorem dX3_put_29 : decode cX3_put 29 = Except.ok (Instr.invokevirtual 213, 3) := vyd_182 (vyb_cX3_put_2 (i := 9) rfl) (vyb_cX3_put_3 (i := 0) rfl) (vyb_cX3_put_3 (i := 1) rfl) rfl
theorem dX3_put_32 : decode cX3_put 32 = Except.ok (Instr.ifCond .ne 6, 3) := vyd_154 (vyb_cX3_put_3 (i := 2) rfl) (vyb_cX3_put_3 (i := 3) rfl) (vyb_cX3_put_3 (i := 4) rfl) (by decide +kernel)
theorem dX3_put_35 : decode cX3_put 35 = Except.ok (Instr.bipush (-9), 2) := vyd_16 (vyb_cX3_put_3 (i := 5) rfl) (vyb_cX3_put_3 (i := 6) rfl) (by decide +kernel)
theorem dX3_put_37 : decode cX3_put 37 = Except.ok (Instr.ireturn, 1) := vyd_172 (vyb_cX3_put_3 (i := 7) rfl)
theorem dX3_put_38 : decode cX3_put 38 = Except.ok (Instr.aload_n 0, 1) := vyd_42 (vyb_cX3_put_3 (i := 8) rfl)
theorem dX3_put_39 : decode cX3_put 39 = Except.ok (Instr.getfield 18, 3) := vyd_180 (vyb_cX3_put_3 (i := 9) rfl) (vyb_cX3_put_4 (i := 0) rfl) (vyb_cX3_put_4 (i := 1) rfl) rfl
theorem dX3_put_42 : decode cX3_put 42 = Except.ok (Instr.aload 4, 2) := vyd_25 (vyb_cX3_put_4 (i := 2) rfl) (vyb_cX3_put_4 (i := 3) rfl) rfl
theorem dX3_put_44 : decode cX3_put 44 = Except.ok (Instr.getfield 216, 3) := vyd_180 (vyb_cX3_put_4 (i := 4) rfl) (vyb_cX3_put_4 (i := 5) rfl) (vyb_cX3_put_4 (i := 6) rfl) rfl
theorem dX3_put_47 : decode cX3_put 47 = Except.ok (Instr.iload_n 2, 1) := vyd_28 (vyb_cX3_put_4 (i := 7) rfl)
theorem dX3_put_48 : decode cX3_put 48 = Except.ok (Instr.iload_n 3, 1) := vyd_29 (vyb_cX3_put_4 (i := 8) rfl)
theorem dX3_put_49 : decode cX3_put 49 = Except.ok (Instr.invokestatic 84, 3) := vyd_184 (vyb_cX3_put_4 (i := 9) rfl) (vyb_cX3_put_5 (i := 0) rfl) (vyb_cX3_put_5 (i := 1) rfl) rfl
theorem dX3_put_52 : decode cX3_put 52 = Except.ok (Instr.invokevirtual 129, 3) := vyd_182 (vyb_cX3_put_5 (i := 2) rfl) (vyb_cX3_put_5 (i := 3) rfl) (vyb_cX3_put_5 (i := 4) rfl) rfl
theorem dX3_put_55 : decode cX3_put 55 = Except.ok (Instr.aload 4, 2) := vyd_25 (vyb_cX3_put_5 (i := 5) rfl) (vyb_cX3_put_5 (i := 6) rfl) rfl
theorem dX3_put_57 : decode cX3_put 57 = Except.ok (Instr.invokevirtual 235, 3) := vyd_182 (vyb_cX3_put_5 (i := 7) rfl) (vyb_cX3_put_5 (i := 8) rfl) (vyb_cX3_put_5 (i := 9) rfl) rfl
theorem dX3_put_60 : decode cX3_put 60 = Except.ok (Instr.aload_n 0, 1) := vyd_42 (vyb_cX3_put_6 (i := 0) rfl)
theorem dX3_put_61 : decode cX3_put 61 = Except.ok (Instr.iload_n 1, 1) := vyd_27 (vyb_cX3_put_6 (i := 1) rfl)
theorem dX3_put_62 : decode cX3_put 62 = Except.ok (Instr.invokevirtual 232, 3) := vyd_182 (vyb_cX3_put_6 (i := 2) rfl) (vyb_cX3_put_6 (i := 3) rfl) (vyb_cX3_put_6 (i := 4) rfl) rfl
theorem dX3_put_65 : decode cX3_put 65 = Except.ok (Instr.aload 4, 2) := vyd_25 (vyb_cX3_put_6 (i := 5) rfl) (vyb_cX3_put_6 (i := 6) rfl) rfl
theorem dX3_put_67 : decode cX3_put 67 = Except.ok (Instr.getfield 216, 3) := vyd_180 (vyb_cX3_put_6 (i := 7) rfl) (vyb_cX3_put_6 (i := 8) rfl) (vyb_cX3_put_6 (i := 9) rfl) rfl
theorem dX3_put_70 : decode cX3_put 70 = Except.ok (Instr.ireturn, 1) := vyd_172 (vyb_cX3_put_7 (i := 0) rfl)
theorem vyb_cX3_where_0 {i : Nat} {b : UInt8} (h : ([0x1b, 0xb8, 0x00, 0xc8, 0x1c, 0x03, 0x07, 0xb8, 0x00, 0x4c] : List UInt8)[i]? = some b) : vy_8 cX3_where (0 + i) b := vy_in (n := 10) (by decide +kernel) h
theorem vyb_cX3_where_1 {i : Nat} {b : UInt8} (h : ([0x1c, 0x9e, 0x00, 0x18, 0x2a, 0x1b, 0xb6, 0x00, 0xcb, 0xb6] : List UInt8)[i]? = some b) : vy_8 cX3_where (10 + i) b := vy_in (n := 10) (by decide +kernel) h
theorem vyb_cX3_where_2 {i : Nat} {b : UInt8} (h : ([0x00, 0xd5, 0x9a, 0x00, 0x0d, 0xbb, 0x00, 0xee, 0x59, 0x12] : List UInt8)[i]? = some b) : vy_8 cX3_where (20 + i) b := vy_in (n := 10) (by decide +kernel) h
theorem vyb_cX3_where_3 {i : Nat} {b : UInt8} (h : ([0xf0, 0xb7, 0x00, 0xf2, 0xbf, 0x2a, 0x1b, 0x1c, 0xb6, 0x00] : List UInt8)[i]? = some b) : vy_8 cX3_where (30 + i) b := vy_in (n := 10) (by decide +kernel) h
theorem vyb_cX3_where_4 {i : Nat} {b : UInt8} (h : ([0xf5, 0xac] : List UInt8)[i]? = some b) : vy_8 cX3_where (40 + i) b := vy_in (n := 2) (by decide +kernel) h
theorem dX3_where_0 : decode cX3_where 0 = Except.ok (Instr.iload_n 1, 1) := vyd_27 (vyb_cX3_where_0 (i := 0) rfl)
theorem dX3_where_1 : decode cX3_where 1 = Except.ok (Instr.invokestatic 200, 3) := vyd_184 (vyb_cX3_where_0 (i := 1) rfl) (vyb_cX3_where_0 (i := 2) rfl) (vyb_cX3_where_0 (i := 3) rfl) rfl
theorem dX3_where_4 : decode cX3_where 4 = Except.ok (Instr.iload_n 2, 1) := vyd_28 (vyb_cX3_where_0 (i := 4) rfl)
theorem dX3_where_5 : decode cX3_where 5 = Except.ok (Instr.iconst 0, 1) := vyd_3 (vyb_cX3_where_0 (i := 5) rfl)
theorem dX3_where_6 : decode cX3_where 6 = Except.ok (Instr.iconst 4, 1) := vyd_7 (vyb_cX3_where_0 (i := 6) rfl)
theorem dX3_where_7 : decode cX3_where 7 = Except.ok (Instr.invokestatic 76, 3) := vyd_184 (vyb_cX3_where_0 (i := 7) rfl) (vyb_cX3_where_0 (i := 8) rfl) (vyb_cX3_where_0 (i := 9) rfl) rfl
theorem dX3_where_10 : decode cX3_where 10 = Except.ok (Instr.iload_n 2, 1) := vyd_28 (vyb_cX3_where_1 (i := 0) rfl)
theorem dX3_where_11 : decode cX3_where 11 = Except.ok (Instr.ifCond .le 24, 3) := vyd_158 (vyb_cX3_where_1 (i := 1) rfl) (vyb_cX3_where_1 (i := 2) rfl) (vyb_cX3_where_1 (i := 3) rfl) (by decide +kernel)
theorem dX3_where_14 : decode cX3_where 14 = Except.ok (Instr.aload_n 0, 1) := vyd_42 (vyb_cX3_where_1 (i := 4) rfl)
theorem dX3_where_15 : decode cX3_where 15 = Except.ok (Instr.iload_n 1, 1) := vyd_27 (vyb_cX3_where_1 (i := 5) rfl)
theorem dX3_where_16 : decode cX3_where 16 = Except.ok (Instr.invokevirtual 203, 3) := vyd_182 (vyb_cX3_where_1 (i := 6) rfl) (vyb_cX3_where_1 (i := 7) rfl) (vyb_cX3_where_1 (i := 8) rfl) rfl
theorem dX3_where_19 : decode cX3_where 19 = Except.ok (Instr.invokevirtual 213, 3) := vyd_182 (vyb_cX3_where_1 (i := 9) rfl) (vyb_cX3_where_2 (i := 0) rfl) (vyb_cX3_where_2 (i := 1) rfl) rfl
theorem dX3_where_22 : decode cX3_where 22 = Except.ok (Instr.ifCond .ne 13, 3) := vyd_154 (vyb_cX3_where_2 (i := 2) rfl) (vyb_cX3_where_2 (i := 3) rfl) (vyb_cX3_where_2 (i := 4) rfl) (by decide +kernel)
theorem dX3_where_25 : decode cX3_where 25 = Except.ok (Instr.new 238, 3) := vyd_187 (vyb_cX3_where_2 (i := 5) rfl) (vyb_cX3_where_2 (i := 6) rfl) (vyb_cX3_where_2 (i := 7) rfl) rfl
theorem dX3_where_28 : decode cX3_where 28 = Except.ok (Instr.dup, 1) := vyd_89 (vyb_cX3_where_2 (i := 8) rfl)
theorem dX3_where_29 : decode cX3_where 29 = Except.ok (Instr.ldc 240, 2) := vyd_18 (vyb_cX3_where_2 (i := 9) rfl) (vyb_cX3_where_3 (i := 0) rfl) rfl
theorem dX3_where_31 : decode cX3_where 31 = Except.ok (Instr.invokespecial 242, 3) := vyd_183 (vyb_cX3_where_3 (i := 1) rfl) (vyb_cX3_where_3 (i := 2) rfl) (vyb_cX3_where_3 (i := 3) rfl) rfl
theorem dX3_where_34 : decode cX3_where 34 = Except.ok (Instr.athrow, 1) := vyd_191 (vyb_cX3_where_3 (i := 4) rfl)
theorem dX3_where_35 : decode cX3_where 35 = Except.ok (Instr.aload_n 0, 1) := vyd_42 (vyb_cX3_where_3 (i := 5) rfl)
theorem dX3_where_36 : decode cX3_where 36 = Except.ok (Instr.iload_n 1, 1) := vyd_27 (vyb_cX3_where_3 (i := 6) rfl)
theorem dX3_where_37 : decode cX3_where 37 = Except.ok (Instr.iload_n 2, 1) := vyd_28 (vyb_cX3_where_3 (i := 7) rfl)
theorem dX3_where_38 : decode cX3_where 38 = Except.ok (Instr.invokevirtual 245, 3) := vyd_182 (vyb_cX3_where_3 (i := 8) rfl) (vyb_cX3_where_3 (i := 9) rfl) (vyb_cX3_where_4 (i := 0) rfl) rfl
theorem dX3_where_41 : decode cX3_where 41 = Except.ok (Instr.ireturn, 1) := vyd_172 (vyb_cX3_where_4 (i := 1) rfl)
theorem vyb_cX3_order_0 {i : Nat} {b : UInt8} (h : ([0x1b, 0x03, 0x10, 0x07, 0xb8, 0x00, 0x4c, 0x2a, 0xb4, 0x00] : List UInt8)[i]? = some b) : vy_8 cX3_order (0 + i) b := vy_in (n := 10) (by decide +kernel) h
theorem vyb_cX3_order_1 {i : Nat} {b : UInt8} (h : ([0x18, 0xb6, 0x00, 0xf8, 0x99, 0x00, 0x0d, 0xbb, 0x00, 0xee] : List UInt8)[i]? = some b) : vy_8 cX3_order (10 + i) b := vy_in (n := 10) (by decide +kernel) h
theorem vyb_cX3_order_2 {i : Nat} {b : UInt8} (h : ([0x59, 0x12, 0xfb, 0xb7, 0x00, 0xf2, 0xbf, 0x2a, 0xb4, 0x00] : List UInt8)[i]? = some b) : vy_8 cX3_order (20 + i) b := vy_in (n := 10) (by decide +kernel) h
theorem vyb_cX3_order_3 {i : Nat} {b : UInt8} (h : ([0x18, 0x1b, 0xb6, 0x00, 0xc5, 0x2a, 0xb4, 0x00, 0x18, 0xb6] : List UInt8)[i]? = some b) : vy_8 cX3_order (30 + i) b := vy_in (n := 10) (by decide +kernel) h
theorem vyb_cX3_order_4 {i : Nat} {b : UInt8} (h : ([0x00, 0x41, 0xac] : List UInt8)[i]? = some b) : vy_8 cX3_order (40 + i) b := vy_in (n := 3) (by decide +kernel) h
theorem dX3_order_0 : decode cX3_order 0 = Except.ok (Instr.iload_n 1, 1) := vyd_27 (vyb_cX3_order_0 (i := 0) rfl)
theorem dX3_order_1 : decode cX3_order 1 = Except.ok (Instr.iconst 0, 1) := vyd_3 (vyb_cX3_order_0 (i := 1) rfl)
theorem dX3_order_2 : decode cX3_order 2 = Except.ok (Instr.bipush 7, 2) := vyd_16 (vyb_cX3_order_0 (i := 2) rfl) (vyb_cX3_order_0 (i := 3) rfl) (by decide +kernel)
theorem dX3_order_4 : decode cX3_order 4 = Except.ok (Instr.invokestatic 76, 3) := vyd_184 (vyb_cX3_order_0 (i := 4) rfl) (vyb_cX3_order_0 (i := 5) rfl) (vyb_cX3_order_0 (i := 6) rfl) rfl
theorem dX3_order_7 : decode cX3_order 7 = Except.ok (Instr.aload_n 0, 1) := vyd_42 (vyb_cX3_order_0 (i := 7) rfl)
theorem dX3_order_8 : decode cX3_order 8 = Except.ok (Instr.getfield 24, 3) := vyd_180 (vyb_cX3_order_0 (i := 8) rfl) (vyb_cX3_order_0 (i := 9) rfl) (vyb_cX3_order_1 (i := 0) rfl) rfl
theorem dX3_order_11 : decode cX3_order 11 = Except.ok (Instr.invokevirtual 248, 3) := vyd_182 (vyb_cX3_order_1 (i := 1) rfl) (vyb_cX3_order_1 (i := 2) rfl) (vyb_cX3_order_1 (i := 3) rfl) rfl
theorem dX3_order_14 : decode cX3_order 14 = Except.ok (Instr.ifCond .eq 13, 3) := vyd_153 (vyb_cX3_order_1 (i := 4) rfl) (vyb_cX3_order_1 (i := 5) rfl) (vyb_cX3_order_1 (i := 6) rfl) (by decide +kernel)
theorem dX3_order_17 : decode cX3_order 17 = Except.ok (Instr.new 238, 3) := vyd_187 (vyb_cX3_order_1 (i := 7) rfl) (vyb_cX3_order_1 (i := 8) rfl) (vyb_cX3_order_1 (i := 9) rfl) rfl
theorem dX3_order_20 : decode cX3_order 20 = Except.ok (Instr.dup, 1) := vyd_89 (vyb_cX3_order_2 (i := 0) rfl)
theorem dX3_order_21 : decode cX3_order 21 = Except.ok (Instr.ldc 251, 2) := vyd_18 (vyb_cX3_order_2 (i := 1) rfl) (vyb_cX3_order_2 (i := 2) rfl) rfl
theorem dX3_order_23 : decode cX3_order 23 = Except.ok (Instr.invokespecial 242, 3) := vyd_183 (vyb_cX3_order_2 (i := 3) rfl) (vyb_cX3_order_2 (i := 4) rfl) (vyb_cX3_order_2 (i := 5) rfl) rfl
theorem dX3_order_26 : decode cX3_order 26 = Except.ok (Instr.athrow, 1) := vyd_191 (vyb_cX3_order_2 (i := 6) rfl)
theorem dX3_order_27 : decode cX3_order 27 = Except.ok (Instr.aload_n 0, 1) := vyd_42 (vyb_cX3_order_2 (i := 7) rfl)
theorem dX3_order_28 : decode cX3_order 28 = Except.ok (Instr.getfield 24, 3) := vyd_180 (vyb_cX3_order_2 (i := 8) rfl) (vyb_cX3_order_2 (i := 9) rfl) (vyb_cX3_order_3 (i := 0) rfl) rfl
theorem dX3_order_31 : decode cX3_order 31 = Except.ok (Instr.iload_n 1, 1) := vyd_27 (vyb_cX3_order_3 (i := 1) rfl)
theorem dX3_order_32 : decode cX3_order 32 = Except.ok (Instr.invokevirtual 197, 3) := vyd_182 (vyb_cX3_order_3 (i := 2) rfl) (vyb_cX3_order_3 (i := 3) rfl) (vyb_cX3_order_3 (i := 4) rfl) rfl
theorem dX3_order_35 : decode cX3_order 35 = Except.ok (Instr.aload_n 0, 1) := vyd_42 (vyb_cX3_order_3 (i := 5) rfl)
theorem dX3_order_36 : decode cX3_order 36 = Except.ok (Instr.getfield 24, 3) := vyd_180 (vyb_cX3_order_3 (i := 6) rfl) (vyb_cX3_order_3 (i := 7) rfl) (vyb_cX3_order_3 (i := 8) rfl) rfl
theorem dX3_order_39 : decode cX3_order 39 = Except.ok (Instr.invokevirtual 65, 3) := vyd_182 (vyb_cX3_order_3 (i := 9) rfl) (vyb_cX3_order_4 (i := 0) rfl) (vyb_cX3_order_4 (i := 1) rfl) rfl
theorem dX3_order_42 : decode cX3_order 42 = Except.ok (Instr.ireturn, 1) := vyd_172 (vyb_cX3_order_4 (i := 2) rfl)
theorem vyb_cX3_work_0 {i : Nat} {b : UInt8} (h : ([0x1b, 0x04, 0x10, 0x0a, 0xb8, 0x00, 0x4c, 0x03, 0x3d, 0x03] : List UInt8)[i]? = some b) : vy_8 cX3_work (0 + i) b := vy_in (n := 10) (by decide +kernel) h
theorem vyb_cX3_work_1 {i : Nat} {b : UInt8} (h : ([0x3e, 0x1d, 0x1b, 0xa2, 0x00, 0x3b, 0x2a, 0xb4, 0x00, 0x18] : List UInt8)[i]? = some b) : vy_8 cX3_work (10 + i) b := vy_in (n := 10) (by decide +kernel) h
theorem vyb_cX3_work_2 {i : Nat} {b : UInt8} (h : ([0xb6, 0x00, 0x60, 0x9a, 0x00, 0x31, 0x2a, 0xb4, 0x00, 0x18] : List UInt8)[i]? = some b) : vy_8 cX3_work (20 + i) b := vy_in (n := 10) (by decide +kernel) h
theorem vyb_cX3_work_3 {i : Nat} {b : UInt8} (h : ([0x03, 0xb6, 0x00, 0x71, 0x36, 0x04, 0x2a, 0x15, 0x04, 0xb6] : List UInt8)[i]? = some b) : vy_8 cX3_work (30 + i) b := vy_in (n := 10) (by decide +kernel) h
theorem vyb_cX3_work_4 {i : Nat} {b : UInt8} (h : ([0x00, 0xfd, 0x99, 0x00, 0x0f, 0x2a, 0x15, 0x04, 0xb6, 0x01] : List UInt8)[i]? = some b) : vy_8 cX3_work (40 + i) b := vy_in (n := 10) (by decide +kernel) h
theorem vyb_cX3_work_5 {i : Nat} {b : UInt8} (h : ([0x00, 0x84, 0x02, 0x01, 0xa7, 0x00, 0x0c, 0x2a, 0xb4, 0x00] : List UInt8)[i]? = some b) : vy_8 cX3_work (50 + i) b := vy_in (n := 10) (by decide +kernel) h
theorem vyb_cX3_work_6 {i : Nat} {b : UInt8} (h : ([0x18, 0x15, 0x04, 0xb6, 0x00, 0xc5, 0x84, 0x03, 0x01, 0xa7] : List UInt8)[i]? = some b) : vy_8 cX3_work (60 + i) b := vy_in (n := 10) (by decide +kernel) h
theorem vyb_cX3_work_7 {i : Nat} {b : UInt8} (h : ([0xff, 0xc6, 0x1c, 0xac] : List UInt8)[i]? = some b) : vy_8 cX3_work (70 + i) b := vy_in (n := 4) (by decide +kernel) h
theorem dX3_work_0 : decode cX3_work 0 = Except.ok (Instr.iload_n 1, 1) := vyd_27 (vyb_cX3_work_0 (i := 0) rfl)
theorem dX3_work_1 : decode cX3_work 1 = Except.ok (Instr.iconst 1, 1) := vyd_4 (vyb_cX3_work_0 (i := 1) rfl)
theorem dX3_work_2 : decode cX3_work 2 = Except.ok (Instr.bipush 10, 2) := vyd_16 (vyb_cX3_work_0 (i := 2) rfl) (vyb_cX3_work_0 (i := 3) rfl) (by decide +kernel)
theorem dX3_work_4 : decode cX3_work 4 = Except.ok (Instr.invokestatic 76, 3) := vyd_184 (vyb_cX3_work_0 (i := 4) rfl) (vyb_cX3_work_0 (i := 5) rfl) (vyb_cX3_work_0 (i := 6) rfl) rfl
theorem dX3_work_7 : decode cX3_work 7 = Except.ok (Instr.iconst 0, 1) := vyd_3 (vyb_cX3_work_0 (i := 7) rfl)
theorem dX3_work_8 : decode cX3_work 8 = Except.ok (Instr.istore_n 2, 1) := vyd_61 (vyb_cX3_work_0 (i := 8) rfl)
theorem dX3_work_9 : decode cX3_work 9 = Except.ok (Instr.iconst 0, 1) := vyd_3 (vyb_cX3_work_0 (i := 9) rfl)
theorem dX3_work_10 : decode cX3_work 10 = Except.ok (Instr.istore_n 3, 1) := vyd_62 (vyb_cX3_work_1 (i := 0) rfl)
theorem dX3_work_11 : decode cX3_work 11 = Except.ok (Instr.iload_n 3, 1) := vyd_29 (vyb_cX3_work_1 (i := 1) rfl)
theorem dX3_work_12 : decode cX3_work 12 = Except.ok (Instr.iload_n 1, 1) := vyd_27 (vyb_cX3_work_1 (i := 2) rfl)
theorem dX3_work_13 : decode cX3_work 13 = Except.ok (Instr.if_icmp .ge 59, 3) := vyd_162 (vyb_cX3_work_1 (i := 3) rfl) (vyb_cX3_work_1 (i := 4) rfl) (vyb_cX3_work_1 (i := 5) rfl) (by decide +kernel)
theorem dX3_work_16 : decode cX3_work 16 = Except.ok (Instr.aload_n 0, 1) := vyd_42 (vyb_cX3_work_1 (i := 6) rfl)
theorem dX3_work_17 : decode cX3_work 17 = Except.ok (Instr.getfield 24, 3) := vyd_180 (vyb_cX3_work_1 (i := 7) rfl) (vyb_cX3_work_1 (i := 8) rfl) (vyb_cX3_work_1 (i := 9) rfl) rfl
theorem dX3_work_20 : decode cX3_work 20 = Except.ok (Instr.invokevirtual 96, 3) := vyd_182 (vyb_cX3_work_2 (i := 0) rfl) (vyb_cX3_work_2 (i := 1) rfl) (vyb_cX3_work_2 (i := 2) rfl) rfl
theorem dX3_work_23 : decode cX3_work 23 = Except.ok (Instr.ifCond .ne 49, 3) := vyd_154 (vyb_cX3_work_2 (i := 3) rfl) (vyb_cX3_work_2 (i := 4) rfl) (vyb_cX3_work_2 (i := 5) rfl) (by decide +kernel)
theorem dX3_work_26 : decode cX3_work 26 = Except.ok (Instr.aload_n 0, 1) := vyd_42 (vyb_cX3_work_2 (i := 6) rfl)
theorem dX3_work_27 : decode cX3_work 27 = Except.ok (Instr.getfield 24, 3) := vyd_180 (vyb_cX3_work_2 (i := 7) rfl) (vyb_cX3_work_2 (i := 8) rfl) (vyb_cX3_work_2 (i := 9) rfl) rfl
theorem dX3_work_30 : decode cX3_work 30 = Except.ok (Instr.iconst 0, 1) := vyd_3 (vyb_cX3_work_3 (i := 0) rfl)
theorem dX3_work_31 : decode cX3_work 31 = Except.ok (Instr.invokevirtual 113, 3) := vyd_182 (vyb_cX3_work_3 (i := 1) rfl) (vyb_cX3_work_3 (i := 2) rfl) (vyb_cX3_work_3 (i := 3) rfl) rfl
theorem dX3_work_34 : decode cX3_work 34 = Except.ok (Instr.istore 4, 2) := vyd_54 (vyb_cX3_work_3 (i := 4) rfl) (vyb_cX3_work_3 (i := 5) rfl) rfl
theorem dX3_work_36 : decode cX3_work 36 = Except.ok (Instr.aload_n 0, 1) := vyd_42 (vyb_cX3_work_3 (i := 6) rfl)
theorem dX3_work_37 : decode cX3_work 37 = Except.ok (Instr.iload 4, 2) := vyd_21 (vyb_cX3_work_3 (i := 7) rfl) (vyb_cX3_work_3 (i := 8) rfl) rfl
theorem dX3_work_39 : decode cX3_work 39 = Except.ok (Instr.invokevirtual 253, 3) := vyd_182 (vyb_cX3_work_3 (i := 9) rfl) (vyb_cX3_work_4 (i := 0) rfl) (vyb_cX3_work_4 (i := 1) rfl) rfl
theorem dX3_work_42 : decode cX3_work 42 = Except.ok (Instr.ifCond .eq 15, 3) := vyd_153 (vyb_cX3_work_4 (i := 2) rfl) (vyb_cX3_work_4 (i := 3) rfl) (vyb_cX3_work_4 (i := 4) rfl) (by decide +kernel)
theorem dX3_work_45 : decode cX3_work 45 = Except.ok (Instr.aload_n 0, 1) := vyd_42 (vyb_cX3_work_4 (i := 5) rfl)
theorem dX3_work_46 : decode cX3_work 46 = Except.ok (Instr.iload 4, 2) := vyd_21 (vyb_cX3_work_4 (i := 6) rfl) (vyb_cX3_work_4 (i := 7) rfl) rfl
theorem dX3_work_48 : decode cX3_work 48 = Except.ok (Instr.invokevirtual 256, 3) := vyd_182 (vyb_cX3_work_4 (i := 8) rfl) (vyb_cX3_work_4 (i := 9) rfl) (vyb_cX3_work_5 (i := 0) rfl) rfl
theorem dX3_work_51 : decode cX3_work 51 = .ok (.iinc 2 1, 3) := by decide +kernel
theorem dX3_work_54 : decode cX3_work 54 = Except.ok (Instr.goto 12, 3) := vyd_167 (vyb_cX3_work_5 (i := 4) rfl) (vyb_cX3_work_5 (i := 5) rfl) (vyb_cX3_work_5 (i := 6) rfl) (by decide +kernel)
theorem dX3_work_57 : decode cX3_work 57 = Except.ok (Instr.aload_n 0, 1) := vyd_42 (vyb_cX3_work_5 (i := 7) rfl)
theorem dX3_work_58 : decode cX3_work 58 = Except.ok (Instr.getfield 24, 3) := vyd_180 (vyb_cX3_work_5 (i := 8) rfl) (vyb_cX3_work_5 (i := 9) rfl) (vyb_cX3_work_6 (i := 0) rfl) rfl
theorem dX3_work_61 : decode cX3_work 61 = Except.ok (Instr.iload 4, 2) := vyd_21 (vyb_cX3_work_6 (i := 1) rfl) (vyb_cX3_work_6 (i := 2) rfl) rfl
theorem dX3_work_63 : decode cX3_work 63 = Except.ok (Instr.invokevirtual 197, 3) := vyd_182 (vyb_cX3_work_6 (i := 3) rfl) (vyb_cX3_work_6 (i := 4) rfl) (vyb_cX3_work_6 (i := 5) rfl) rfl
theorem dX3_work_66 : decode cX3_work 66 = .ok (.iinc 3 1, 3) := by decide +kernel
theorem dX3_work_69 : decode cX3_work 69 = Except.ok (Instr.goto (-58), 3) := vyd_167 (vyb_cX3_work_6 (i := 9) rfl) (vyb_cX3_work_7 (i := 0) rfl) (vyb_cX3_work_7 (i := 1) rfl) (by decide +kernel)
theorem dX3_work_72 : decode cX3_work 72 = Except.ok (Instr.iload_n 2, 1) := vyd_28 (vyb_cX3_work_7 (i := 2) rfl)
theorem dX3_work_73 : decode cX3_work 73 = Except.ok (Instr.ireturn, 1) := vyd_172 (vyb_cX3_work_7 (i := 3) rfl)
theorem vyb_cX3_cancel_0 {i : Nat} {b : UInt8} (h : ([0x1b, 0x03, 0x10, 0x07, 0xb8, 0x00, 0x4c, 0x2a, 0xb4, 0x00] : List UInt8)[i]? = some b) : vy_8 cX3_cancel (0 + i) b := vy_in (n := 10) (by decide +kernel) h
theorem vyb_cX3_cancel_1 {i : Nat} {b : UInt8} (h : ([0x18, 0x1b, 0x1c, 0xb6, 0x01, 0x03, 0x3e, 0x1d, 0x02, 0xa0] : List UInt8)[i]? = some b) : vy_8 cX3_cancel (10 + i) b := vy_in (n := 10) (by decide +kernel) h
theorem vyb_cX3_cancel_2 {i : Nat} {b : UInt8} (h : ([0x00, 0x05, 0x03, 0xac, 0x2a, 0xb4, 0x00, 0x18, 0x1d, 0xb6] : List UInt8)[i]? = some b) : vy_8 cX3_cancel (20 + i) b := vy_in (n := 10) (by decide +kernel) h
theorem vyb_cX3_cancel_3 {i : Nat} {b : UInt8} (h : ([0x00, 0x71, 0x57, 0x04, 0xac] : List UInt8)[i]? = some b) : vy_8 cX3_cancel (30 + i) b := vy_in (n := 5) (by decide +kernel) h
theorem dX3_cancel_0 : decode cX3_cancel 0 = Except.ok (Instr.iload_n 1, 1) := vyd_27 (vyb_cX3_cancel_0 (i := 0) rfl)
theorem dX3_cancel_1 : decode cX3_cancel 1 = Except.ok (Instr.iconst 0, 1) := vyd_3 (vyb_cX3_cancel_0 (i := 1) rfl)
theorem dX3_cancel_2 : decode cX3_cancel 2 = Except.ok (Instr.bipush 7, 2) := vyd_16 (vyb_cX3_cancel_0 (i := 2) rfl) (vyb_cX3_cancel_0 (i := 3) rfl) (by decide +kernel)
theorem dX3_cancel_4 : decode cX3_cancel 4 = Except.ok (Instr.invokestatic 76, 3) := vyd_184 (vyb_cX3_cancel_0 (i := 4) rfl) (vyb_cX3_cancel_0 (i := 5) rfl) (vyb_cX3_cancel_0 (i := 6) rfl) rfl
theorem dX3_cancel_7 : decode cX3_cancel 7 = Except.ok (Instr.aload_n 0, 1) := vyd_42 (vyb_cX3_cancel_0 (i := 7) rfl)
theorem dX3_cancel_8 : decode cX3_cancel 8 = Except.ok (Instr.getfield 24, 3) := vyd_180 (vyb_cX3_cancel_0 (i := 8) rfl) (vyb_cX3_cancel_0 (i := 9) rfl) (vyb_cX3_cancel_1 (i := 0) rfl) rfl
theorem dX3_cancel_11 : decode cX3_cancel 11 = Except.ok (Instr.iload_n 1, 1) := vyd_27 (vyb_cX3_cancel_1 (i := 1) rfl)
theorem dX3_cancel_12 : decode cX3_cancel 12 = Except.ok (Instr.iload_n 2, 1) := vyd_28 (vyb_cX3_cancel_1 (i := 2) rfl)
theorem dX3_cancel_13 : decode cX3_cancel 13 = Except.ok (Instr.invokevirtual 259, 3) := vyd_182 (vyb_cX3_cancel_1 (i := 3) rfl) (vyb_cX3_cancel_1 (i := 4) rfl) (vyb_cX3_cancel_1 (i := 5) rfl) rfl
theorem dX3_cancel_16 : decode cX3_cancel 16 = Except.ok (Instr.istore_n 3, 1) := vyd_62 (vyb_cX3_cancel_1 (i := 6) rfl)
theorem dX3_cancel_17 : decode cX3_cancel 17 = Except.ok (Instr.iload_n 3, 1) := vyd_29 (vyb_cX3_cancel_1 (i := 7) rfl)
theorem dX3_cancel_18 : decode cX3_cancel 18 = Except.ok (Instr.iconst (-1), 1) := vyd_2 (vyb_cX3_cancel_1 (i := 8) rfl)
theorem dX3_cancel_19 : decode cX3_cancel 19 = Except.ok (Instr.if_icmp .ne 5, 3) := vyd_160 (vyb_cX3_cancel_1 (i := 9) rfl) (vyb_cX3_cancel_2 (i := 0) rfl) (vyb_cX3_cancel_2 (i := 1) rfl) (by decide +kernel)
theorem dX3_cancel_22 : decode cX3_cancel 22 = Except.ok (Instr.iconst 0, 1) := vyd_3 (vyb_cX3_cancel_2 (i := 2) rfl)
theorem dX3_cancel_23 : decode cX3_cancel 23 = Except.ok (Instr.ireturn, 1) := vyd_172 (vyb_cX3_cancel_2 (i := 3) rfl)
theorem dX3_cancel_24 : decode cX3_cancel 24 = Except.ok (Instr.aload_n 0, 1) := vyd_42 (vyb_cX3_cancel_2 (i := 4) rfl)
theorem dX3_cancel_25 : decode cX3_cancel 25 = Except.ok (Instr.getfield 24, 3) := vyd_180 (vyb_cX3_cancel_2 (i := 5) rfl) (vyb_cX3_cancel_2 (i := 6) rfl) (vyb_cX3_cancel_2 (i := 7) rfl) rfl
theorem dX3_cancel_28 : decode cX3_cancel 28 = Except.ok (Instr.iload_n 3, 1) := vyd_29 (vyb_cX3_cancel_2 (i := 8) rfl)
theorem dX3_cancel_29 : decode cX3_cancel 29 = Except.ok (Instr.invokevirtual 113, 3) := vyd_182 (vyb_cX3_cancel_2 (i := 9) rfl) (vyb_cX3_cancel_3 (i := 0) rfl) (vyb_cX3_cancel_3 (i := 1) rfl) rfl
theorem dX3_cancel_32 : decode cX3_cancel 32 = Except.ok (Instr.pop, 1) := vyd_87 (vyb_cX3_cancel_3 (i := 2) rfl)
theorem dX3_cancel_33 : decode cX3_cancel 33 = Except.ok (Instr.iconst 1, 1) := vyd_4 (vyb_cX3_cancel_3 (i := 3) rfl)
theorem dX3_cancel_34 : decode cX3_cancel 34 = Except.ok (Instr.ireturn, 1) := vyd_172 (vyb_cX3_cancel_3 (i := 4) rfl)
theorem vyb_cX3_ask_0 {i : Nat} {b : UInt8} (h : ([0x1b, 0xb8, 0x00, 0x45, 0x1c, 0x03, 0x08, 0xb8, 0x00, 0x4c] : List UInt8)[i]? = some b) : vy_8 cX3_ask (0 + i) b := vy_in (n := 10) (by decide +kernel) h
theorem vyb_cX3_ask_1 {i : Nat} {b : UInt8} (h : ([0x2a, 0x1b, 0x1c, 0xb6, 0x01, 0x06, 0xac] : List UInt8)[i]? = some b) : vy_8 cX3_ask (10 + i) b := vy_in (n := 7) (by decide +kernel) h
theorem dX3_ask_0 : decode cX3_ask 0 = Except.ok (Instr.iload_n 1, 1) := vyd_27 (vyb_cX3_ask_0 (i := 0) rfl)
theorem dX3_ask_1 : decode cX3_ask 1 = Except.ok (Instr.invokestatic 69, 3) := vyd_184 (vyb_cX3_ask_0 (i := 1) rfl) (vyb_cX3_ask_0 (i := 2) rfl) (vyb_cX3_ask_0 (i := 3) rfl) rfl
theorem dX3_ask_4 : decode cX3_ask 4 = Except.ok (Instr.iload_n 2, 1) := vyd_28 (vyb_cX3_ask_0 (i := 4) rfl)
theorem dX3_ask_5 : decode cX3_ask 5 = Except.ok (Instr.iconst 0, 1) := vyd_3 (vyb_cX3_ask_0 (i := 5) rfl)
theorem dX3_ask_6 : decode cX3_ask 6 = Except.ok (Instr.iconst 5, 1) := vyd_8 (vyb_cX3_ask_0 (i := 6) rfl)
theorem dX3_ask_7 : decode cX3_ask 7 = Except.ok (Instr.invokestatic 76, 3) := vyd_184 (vyb_cX3_ask_0 (i := 7) rfl) (vyb_cX3_ask_0 (i := 8) rfl) (vyb_cX3_ask_0 (i := 9) rfl) rfl
theorem dX3_ask_10 : decode cX3_ask 10 = Except.ok (Instr.aload_n 0, 1) := vyd_42 (vyb_cX3_ask_1 (i := 0) rfl)
theorem dX3_ask_11 : decode cX3_ask 11 = Except.ok (Instr.iload_n 1, 1) := vyd_27 (vyb_cX3_ask_1 (i := 1) rfl)
theorem dX3_ask_12 : decode cX3_ask 12 = Except.ok (Instr.iload_n 2, 1) := vyd_28 (vyb_cX3_ask_1 (i := 2) rfl)
theorem dX3_ask_13 : decode cX3_ask 13 = Except.ok (Instr.invokevirtual 262, 3) := vyd_182 (vyb_cX3_ask_1 (i := 3) rfl) (vyb_cX3_ask_1 (i := 4) rfl) (vyb_cX3_ask_1 (i := 5) rfl) rfl
theorem dX3_ask_16 : decode cX3_ask 16 = Except.ok (Instr.ireturn, 1) := vyd_172 (vyb_cX3_ask_1 (i := 6) rfl)
theorem vyb_cX3_ofTrack_0 {i : Nat} {b : UInt8} (h : ([0x1b, 0xb8, 0x00, 0x45, 0x1c, 0x03, 0x06, 0xb8, 0x00, 0x4c] : List UInt8)[i]? = some b) : vy_8 cX3_ofTrack (0 + i) b := vy_in (n := 10) (by decide +kernel) h
theorem vyb_cX3_ofTrack_1 {i : Nat} {b : UInt8} (h : ([0x2a, 0x1b, 0x1c, 0xb6, 0x01, 0x09, 0xac] : List UInt8)[i]? = some b) : vy_8 cX3_ofTrack (10 + i) b := vy_in (n := 7) (by decide +kernel) h
theorem dX3_ofTrack_0 : decode cX3_ofTrack 0 = Except.ok (Instr.iload_n 1, 1) := vyd_27 (vyb_cX3_ofTrack_0 (i := 0) rfl)
theorem dX3_ofTrack_1 : decode cX3_ofTrack 1 = Except.ok (Instr.invokestatic 69, 3) := vyd_184 (vyb_cX3_ofTrack_0 (i := 1) rfl) (vyb_cX3_ofTrack_0 (i := 2) rfl) (vyb_cX3_ofTrack_0 (i := 3) rfl) rfl
theorem dX3_ofTrack_4 : decode cX3_ofTrack 4 = Except.ok (Instr.iload_n 2, 1) := vyd_28 (vyb_cX3_ofTrack_0 (i := 4) rfl)
theorem dX3_ofTrack_5 : decode cX3_ofTrack 5 = Except.ok (Instr.iconst 0, 1) := vyd_3 (vyb_cX3_ofTrack_0 (i := 5) rfl)
theorem dX3_ofTrack_6 : decode cX3_ofTrack 6 = Except.ok (Instr.iconst 3, 1) := vyd_6 (vyb_cX3_ofTrack_0 (i := 6) rfl)
theorem dX3_ofTrack_7 : decode cX3_ofTrack 7 = Except.ok (Instr.invokestatic 76, 3) := vyd_184 (vyb_cX3_ofTrack_0 (i := 7) rfl) (vyb_cX3_ofTrack_0 (i := 8) rfl) (vyb_cX3_ofTrack_0 (i := 9) rfl) rfl
theorem dX3_ofTrack_10 : decode cX3_ofTrack 10 = Except.ok (Instr.aload_n 0, 1) := vyd_42 (vyb_cX3_ofTrack_1 (i := 0) rfl)
theorem dX3_ofTrack_11 : decode cX3_ofTrack 11 = Except.ok (Instr.iload_n 1, 1) := vyd_27 (vyb_cX3_ofTrack_1 (i := 1) rfl)
theorem dX3_ofTrack_12 : decode cX3_ofTrack 12 = Except.ok (Instr.iload_n 2, 1) := vyd_28 (vyb_cX3_ofTrack_1 (i := 2) rfl)
theorem dX3_ofTrack_13 : decode cX3_ofTrack 13 = Except.ok (Instr.invokevirtual 265, 3) := vyd_182 (vyb_cX3_ofTrack_1 (i := 3) rfl) (vyb_cX3_ofTrack_1 (i := 4) rfl) (vyb_cX3_ofTrack_1 (i := 5) rfl) rfl
theorem dX3_ofTrack_16 : decode cX3_ofTrack 16 = Except.ok (Instr.ireturn, 1) := vyd_172 (vyb_cX3_ofTrack_1 (i := 6) rfl)
theorem vyb_cX3_has_0 {i : Nat} {b : UInt8} (h : ([0x1b, 0xb8, 0x00, 0x45, 0x1b, 0x1c, 0xb8, 0x00, 0x87, 0x2a] : List UInt8)[i]? = some b) : vy_8 cX3_has (0 + i) b := vy_in (n := 10) (by decide +kernel) h
theorem vyb_cX3_has_1 {i : Nat} {b : UInt8} (h : ([0x1b, 0xb6, 0x00, 0x3d, 0x1c, 0x03, 0xb6, 0x00, 0x8a, 0x02] : List UInt8)[i]? = some b) : vy_8 cX3_has (10 + i) b := vy_in (n := 10) (by decide +kernel) h
theorem vyb_cX3_has_2 {i : Nat} {b : UInt8} (h : ([0x9f, 0x00, 0x07, 0x04, 0xa7, 0x00, 0x04, 0x03, 0xac] : List UInt8)[i]? = some b) : vy_8 cX3_has (20 + i) b := vy_in (n := 9) (by decide +kernel) h
theorem dX3_has_0 : decode cX3_has 0 = Except.ok (Instr.iload_n 1, 1) := vyd_27 (vyb_cX3_has_0 (i := 0) rfl)
theorem dX3_has_1 : decode cX3_has 1 = Except.ok (Instr.invokestatic 69, 3) := vyd_184 (vyb_cX3_has_0 (i := 1) rfl) (vyb_cX3_has_0 (i := 2) rfl) (vyb_cX3_has_0 (i := 3) rfl) rfl
theorem dX3_has_4 : decode cX3_has 4 = Except.ok (Instr.iload_n 1, 1) := vyd_27 (vyb_cX3_has_0 (i := 4) rfl)
theorem dX3_has_5 : decode cX3_has 5 = Except.ok (Instr.iload_n 2, 1) := vyd_28 (vyb_cX3_has_0 (i := 5) rfl)
theorem dX3_has_6 : decode cX3_has 6 = Except.ok (Instr.invokestatic 135, 3) := vyd_184 (vyb_cX3_has_0 (i := 6) rfl) (vyb_cX3_has_0 (i := 7) rfl) (vyb_cX3_has_0 (i := 8) rfl) rfl
theorem dX3_has_9 : decode cX3_has 9 = Except.ok (Instr.aload_n 0, 1) := vyd_42 (vyb_cX3_has_0 (i := 9) rfl)
theorem dX3_has_10 : decode cX3_has 10 = Except.ok (Instr.iload_n 1, 1) := vyd_27 (vyb_cX3_has_1 (i := 0) rfl)
theorem dX3_has_11 : decode cX3_has 11 = Except.ok (Instr.invokevirtual 61, 3) := vyd_182 (vyb_cX3_has_1 (i := 1) rfl) (vyb_cX3_has_1 (i := 2) rfl) (vyb_cX3_has_1 (i := 3) rfl) rfl
theorem dX3_has_14 : decode cX3_has 14 = Except.ok (Instr.iload_n 2, 1) := vyd_28 (vyb_cX3_has_1 (i := 4) rfl)
theorem dX3_has_15 : decode cX3_has 15 = Except.ok (Instr.iconst 0, 1) := vyd_3 (vyb_cX3_has_1 (i := 5) rfl)
theorem dX3_has_16 : decode cX3_has 16 = Except.ok (Instr.invokevirtual 138, 3) := vyd_182 (vyb_cX3_has_1 (i := 6) rfl) (vyb_cX3_has_1 (i := 7) rfl) (vyb_cX3_has_1 (i := 8) rfl) rfl
theorem dX3_has_19 : decode cX3_has 19 = Except.ok (Instr.iconst (-1), 1) := vyd_2 (vyb_cX3_has_1 (i := 9) rfl)
theorem dX3_has_20 : decode cX3_has 20 = Except.ok (Instr.if_icmp .eq 7, 3) := vyd_159 (vyb_cX3_has_2 (i := 0) rfl) (vyb_cX3_has_2 (i := 1) rfl) (vyb_cX3_has_2 (i := 2) rfl) (by decide +kernel)
theorem dX3_has_23 : decode cX3_has 23 = Except.ok (Instr.iconst 1, 1) := vyd_4 (vyb_cX3_has_2 (i := 3) rfl)
theorem dX3_has_24 : decode cX3_has 24 = Except.ok (Instr.goto 4, 3) := vyd_167 (vyb_cX3_has_2 (i := 4) rfl) (vyb_cX3_has_2 (i := 5) rfl) (vyb_cX3_has_2 (i := 6) rfl) (by decide +kernel)
theorem dX3_has_27 : decode cX3_has 27 = Except.ok (Instr.iconst 0, 1) := vyd_3 (vyb_cX3_has_2 (i := 7) rfl)
theorem dX3_has_28 : decode cX3_has 28 = Except.ok (Instr.ireturn, 1) := vyd_172 (vyb_cX3_has_2 (i := 8) rfl)
theorem vyb_cX3_compare_0 {i : Nat} {b : UInt8} (h : ([0x1b, 0x99, 0x00, 0x0a, 0x2a, 0xb6, 0x01, 0x0c, 0xa7, 0x00] : List UInt8)[i]? = some b) : vy_8 cX3_compare (0 + i) b := vy_in (n := 10) (by decide +kernel) h
theorem vyb_cX3_compare_1 {i : Nat} {b : UInt8} (h : ([0x07, 0x2a, 0xb6, 0x01, 0x0f, 0xac] : List UInt8)[i]? = some b) : vy_8 cX3_compare (10 + i) b := vy_in (n := 6) (by decide +kernel) h
theorem dX3_compare_0 : decode cX3_compare 0 = Except.ok (Instr.iload_n 1, 1) := vyd_27 (vyb_cX3_compare_0 (i := 0) rfl)
theorem dX3_compare_1 : decode cX3_compare 1 = Except.ok (Instr.ifCond .eq 10, 3) := vyd_153 (vyb_cX3_compare_0 (i := 1) rfl) (vyb_cX3_compare_0 (i := 2) rfl) (vyb_cX3_compare_0 (i := 3) rfl) (by decide +kernel)
theorem dX3_compare_4 : decode cX3_compare 4 = Except.ok (Instr.aload_n 0, 1) := vyd_42 (vyb_cX3_compare_0 (i := 4) rfl)
theorem dX3_compare_5 : decode cX3_compare 5 = Except.ok (Instr.invokevirtual 268, 3) := vyd_182 (vyb_cX3_compare_0 (i := 5) rfl) (vyb_cX3_compare_0 (i := 6) rfl) (vyb_cX3_compare_0 (i := 7) rfl) rfl
theorem dX3_compare_8 : decode cX3_compare 8 = Except.ok (Instr.goto 7, 3) := vyd_167 (vyb_cX3_compare_0 (i := 8) rfl) (vyb_cX3_compare_0 (i := 9) rfl) (vyb_cX3_compare_1 (i := 0) rfl) (by decide +kernel)
theorem dX3_compare_11 : decode cX3_compare 11 = Except.ok (Instr.aload_n 0, 1) := vyd_42 (vyb_cX3_compare_1 (i := 1) rfl)
theorem dX3_compare_12 : decode cX3_compare 12 = Except.ok (Instr.invokevirtual 271, 3) := vyd_182 (vyb_cX3_compare_1 (i := 2) rfl) (vyb_cX3_compare_1 (i := 3) rfl) (vyb_cX3_compare_1 (i := 4) rfl) rfl
theorem dX3_compare_15 : decode cX3_compare 15 = Except.ok (Instr.ireturn, 1) := vyd_172 (vyb_cX3_compare_1 (i := 5) rfl)
theorem vyb_cX3_text_0 {i : Nat} {b : UInt8} (h : ([0x1b, 0xb8, 0x00, 0x45, 0x2a, 0x1b, 0xb6, 0x00, 0x3d, 0x4e] : List UInt8)[i]? = some b) : vy_8 cX3_text (0 + i) b := vy_in (n := 10) (by decide +kernel) h
theorem vyb_cX3_text_1 {i : Nat} {b : UInt8} (h : ([0xbb, 0x01, 0x12, 0x59, 0xb7, 0x01, 0x14, 0x3a, 0x04, 0x03] : List UInt8)[i]? = some b) : vy_8 cX3_text (10 + i) b := vy_in (n := 10) (by decide +kernel) h
theorem vyb_cX3_text_2 {i : Nat} {b : UInt8} (h : ([0x36, 0x05, 0x15, 0x05, 0x2d, 0xb6, 0x00, 0x41, 0xa2, 0x00] : List UInt8)[i]? = some b) : vy_8 cX3_text (20 + i) b := vy_in (n := 10) (by decide +kernel) h
theorem vyb_cX3_text_3 {i : Nat} {b : UInt8} (h : ([0x23, 0x15, 0x05, 0x9e, 0x00, 0x0b, 0x19, 0x04, 0x10, 0x20] : List UInt8)[i]? = some b) : vy_8 cX3_text (30 + i) b := vy_in (n := 10) (by decide +kernel) h
theorem vyb_cX3_text_4 {i : Nat} {b : UInt8} (h : ([0xb6, 0x01, 0x15, 0x57, 0x19, 0x04, 0x2d, 0x1c, 0x15, 0x05] : List UInt8)[i]? = some b) : vy_8 cX3_text (40 + i) b := vy_in (n := 10) (by decide +kernel) h
theorem vyb_cX3_text_5 {i : Nat} {b : UInt8} (h : ([0xb6, 0x01, 0x19, 0xb6, 0x01, 0x1d, 0x57, 0x84, 0x05, 0x01] : List UInt8)[i]? = some b) : vy_8 cX3_text (50 + i) b := vy_in (n := 10) (by decide +kernel) h
theorem vyb_cX3_text_6 {i : Nat} {b : UInt8} (h : ([0xa7, 0xff, 0xda, 0x19, 0x04, 0xb6, 0x01, 0x20, 0xb0] : List UInt8)[i]? = some b) : vy_8 cX3_text (60 + i) b := vy_in (n := 9) (by decide +kernel) h
theorem dX3_text_0 : decode cX3_text 0 = Except.ok (Instr.iload_n 1, 1) := vyd_27 (vyb_cX3_text_0 (i := 0) rfl)
theorem dX3_text_1 : decode cX3_text 1 = Except.ok (Instr.invokestatic 69, 3) := vyd_184 (vyb_cX3_text_0 (i := 1) rfl) (vyb_cX3_text_0 (i := 2) rfl) (vyb_cX3_text_0 (i := 3) rfl) rfl
theorem dX3_text_4 : decode cX3_text 4 = Except.ok (Instr.aload_n 0, 1) := vyd_42 (vyb_cX3_text_0 (i := 4) rfl)
theorem dX3_text_5 : decode cX3_text 5 = Except.ok (Instr.iload_n 1, 1) := vyd_27 (vyb_cX3_text_0 (i := 5) rfl)
theorem dX3_text_6 : decode cX3_text 6 = Except.ok (Instr.invokevirtual 61, 3) := vyd_182 (vyb_cX3_text_0 (i := 6) rfl) (vyb_cX3_text_0 (i := 7) rfl) (vyb_cX3_text_0 (i := 8) rfl) rfl
theorem dX3_text_9 : decode cX3_text 9 = Except.ok (Instr.astore_n 3, 1) := vyd_78 (vyb_cX3_text_0 (i := 9) rfl)
theorem dX3_text_10 : decode cX3_text 10 = Except.ok (Instr.new 274, 3) := vyd_187 (vyb_cX3_text_1 (i := 0) rfl) (vyb_cX3_text_1 (i := 1) rfl) (vyb_cX3_text_1 (i := 2) rfl) rfl
theorem dX3_text_13 : decode cX3_text 13 = Except.ok (Instr.dup, 1) := vyd_89 (vyb_cX3_text_1 (i := 3) rfl)
theorem dX3_text_14 : decode cX3_text 14 = Except.ok (Instr.invokespecial 276, 3) := vyd_183 (vyb_cX3_text_1 (i := 4) rfl) (vyb_cX3_text_1 (i := 5) rfl) (vyb_cX3_text_1 (i := 6) rfl) rfl
theorem dX3_text_17 : decode cX3_text 17 = Except.ok (Instr.astore 4, 2) := vyd_58 (vyb_cX3_text_1 (i := 7) rfl) (vyb_cX3_text_1 (i := 8) rfl) rfl
theorem dX3_text_19 : decode cX3_text 19 = Except.ok (Instr.iconst 0, 1) := vyd_3 (vyb_cX3_text_1 (i := 9) rfl)
theorem dX3_text_20 : decode cX3_text 20 = Except.ok (Instr.istore 5, 2) := vyd_54 (vyb_cX3_text_2 (i := 0) rfl) (vyb_cX3_text_2 (i := 1) rfl) rfl
theorem dX3_text_22 : decode cX3_text 22 = Except.ok (Instr.iload 5, 2) := vyd_21 (vyb_cX3_text_2 (i := 2) rfl) (vyb_cX3_text_2 (i := 3) rfl) rfl
theorem dX3_text_24 : decode cX3_text 24 = Except.ok (Instr.aload_n 3, 1) := vyd_45 (vyb_cX3_text_2 (i := 4) rfl)
theorem dX3_text_25 : decode cX3_text 25 = Except.ok (Instr.invokevirtual 65, 3) := vyd_182 (vyb_cX3_text_2 (i := 5) rfl) (vyb_cX3_text_2 (i := 6) rfl) (vyb_cX3_text_2 (i := 7) rfl) rfl
theorem dX3_text_28 : decode cX3_text 28 = Except.ok (Instr.if_icmp .ge 35, 3) := vyd_162 (vyb_cX3_text_2 (i := 8) rfl) (vyb_cX3_text_2 (i := 9) rfl) (vyb_cX3_text_3 (i := 0) rfl) (by decide +kernel)
theorem dX3_text_31 : decode cX3_text 31 = Except.ok (Instr.iload 5, 2) := vyd_21 (vyb_cX3_text_3 (i := 1) rfl) (vyb_cX3_text_3 (i := 2) rfl) rfl
theorem dX3_text_33 : decode cX3_text 33 = Except.ok (Instr.ifCond .le 11, 3) := vyd_158 (vyb_cX3_text_3 (i := 3) rfl) (vyb_cX3_text_3 (i := 4) rfl) (vyb_cX3_text_3 (i := 5) rfl) (by decide +kernel)
theorem dX3_text_36 : decode cX3_text 36 = Except.ok (Instr.aload 4, 2) := vyd_25 (vyb_cX3_text_3 (i := 6) rfl) (vyb_cX3_text_3 (i := 7) rfl) rfl
theorem dX3_text_38 : decode cX3_text 38 = Except.ok (Instr.bipush 32, 2) := vyd_16 (vyb_cX3_text_3 (i := 8) rfl) (vyb_cX3_text_3 (i := 9) rfl) (by decide +kernel)
theorem dX3_text_40 : decode cX3_text 40 = Except.ok (Instr.invokevirtual 277, 3) := vyd_182 (vyb_cX3_text_4 (i := 0) rfl) (vyb_cX3_text_4 (i := 1) rfl) (vyb_cX3_text_4 (i := 2) rfl) rfl
theorem dX3_text_43 : decode cX3_text 43 = Except.ok (Instr.pop, 1) := vyd_87 (vyb_cX3_text_4 (i := 3) rfl)
theorem dX3_text_44 : decode cX3_text 44 = Except.ok (Instr.aload 4, 2) := vyd_25 (vyb_cX3_text_4 (i := 4) rfl) (vyb_cX3_text_4 (i := 5) rfl) rfl
theorem dX3_text_46 : decode cX3_text 46 = Except.ok (Instr.aload_n 3, 1) := vyd_45 (vyb_cX3_text_4 (i := 6) rfl)
theorem dX3_text_47 : decode cX3_text 47 = Except.ok (Instr.iload_n 2, 1) := vyd_28 (vyb_cX3_text_4 (i := 7) rfl)
theorem dX3_text_48 : decode cX3_text 48 = Except.ok (Instr.iload 5, 2) := vyd_21 (vyb_cX3_text_4 (i := 8) rfl) (vyb_cX3_text_4 (i := 9) rfl) rfl
theorem dX3_text_50 : decode cX3_text 50 = Except.ok (Instr.invokevirtual 281, 3) := vyd_182 (vyb_cX3_text_5 (i := 0) rfl) (vyb_cX3_text_5 (i := 1) rfl) (vyb_cX3_text_5 (i := 2) rfl) rfl
theorem dX3_text_53 : decode cX3_text 53 = Except.ok (Instr.invokevirtual 285, 3) := vyd_182 (vyb_cX3_text_5 (i := 3) rfl) (vyb_cX3_text_5 (i := 4) rfl) (vyb_cX3_text_5 (i := 5) rfl) rfl
theorem dX3_text_56 : decode cX3_text 56 = Except.ok (Instr.pop, 1) := vyd_87 (vyb_cX3_text_5 (i := 6) rfl)
theorem dX3_text_57 : decode cX3_text 57 = .ok (.iinc 5 1, 3) := by decide +kernel
theorem dX3_text_60 : decode cX3_text 60 = Except.ok (Instr.goto (-38), 3) := vyd_167 (vyb_cX3_text_6 (i := 0) rfl) (vyb_cX3_text_6 (i := 1) rfl) (vyb_cX3_text_6 (i := 2) rfl) (by decide +kernel)
theorem dX3_text_63 : decode cX3_text 63 = Except.ok (Instr.aload 4, 2) := vyd_25 (vyb_cX3_text_6 (i := 3) rfl) (vyb_cX3_text_6 (i := 4) rfl) rfl
theorem dX3_text_65 : decode cX3_text 65 = Except.ok (Instr.invokevirtual 288, 3) := vyd_182 (vyb_cX3_text_6 (i := 5) rfl) (vyb_cX3_text_6 (i := 6) rfl) (vyb_cX3_text_6 (i := 7) rfl) rfl
theorem dX3_text_68 : decode cX3_text 68 = Except.ok (Instr.areturn, 1) := vyd_176 (vyb_cX3_text_6 (i := 8) rfl)
theorem vyb_cX3_nested_0 {i : Nat} {b : UInt8} (h : ([0x1b, 0xb8, 0x00, 0x45, 0x2a, 0x1b, 0xb6, 0x01, 0x24, 0xac] : List UInt8)[i]? = some b) : vy_8 cX3_nested (0 + i) b := vy_in (n := 10) (by decide +kernel) h
theorem dX3_nested_0 : decode cX3_nested 0 = Except.ok (Instr.iload_n 1, 1) := vyd_27 (vyb_cX3_nested_0 (i := 0) rfl)
theorem dX3_nested_1 : decode cX3_nested 1 = Except.ok (Instr.invokestatic 69, 3) := vyd_184 (vyb_cX3_nested_0 (i := 1) rfl) (vyb_cX3_nested_0 (i := 2) rfl) (vyb_cX3_nested_0 (i := 3) rfl) rfl
theorem dX3_nested_4 : decode cX3_nested 4 = Except.ok (Instr.aload_n 0, 1) := vyd_42 (vyb_cX3_nested_0 (i := 4) rfl)
theorem dX3_nested_5 : decode cX3_nested 5 = Except.ok (Instr.iload_n 1, 1) := vyd_27 (vyb_cX3_nested_0 (i := 5) rfl)
theorem dX3_nested_6 : decode cX3_nested 6 = Except.ok (Instr.invokevirtual 292, 3) := vyd_182 (vyb_cX3_nested_0 (i := 6) rfl) (vyb_cX3_nested_0 (i := 7) rfl) (vyb_cX3_nested_0 (i := 8) rfl) rfl
theorem dX3_nested_9 : decode cX3_nested 9 = Except.ok (Instr.ireturn, 1) := vyd_172 (vyb_cX3_nested_0 (i := 9) rfl)
theorem vyb_cX3_heaviest_0 {i : Nat} {b : UInt8} (h : ([0x1b, 0xb8, 0x00, 0x45, 0x1d, 0x10, 0x13, 0xb8, 0x00, 0xb9] : List UInt8)[i]? = some b) : vy_8 cX3_heaviest (0 + i) b := vy_in (n := 10) (by decide +kernel) h
theorem vyb_cX3_heaviest_1 {i : Nat} {b : UInt8} (h : ([0x1c, 0x04, 0x10, 0x14, 0xb8, 0x00, 0x4c, 0x2a, 0x1b, 0xb6] : List UInt8)[i]? = some b) : vy_8 cX3_heaviest (10 + i) b := vy_in (n := 10) (by decide +kernel) h
theorem vyb_cX3_heaviest_2 {i : Nat} {b : UInt8} (h : ([0x00, 0x3d, 0x3a, 0x04, 0x1d, 0x1c, 0x60, 0x19, 0x04, 0xb6] : List UInt8)[i]? = some b) : vy_8 cX3_heaviest (20 + i) b := vy_in (n := 10) (by decide +kernel) h
theorem vyb_cX3_heaviest_3 {i : Nat} {b : UInt8} (h : ([0x00, 0x41, 0xa4, 0x00, 0x05, 0x02, 0xac, 0x03, 0x36, 0x05] : List UInt8)[i]? = some b) : vy_8 cX3_heaviest (30 + i) b := vy_in (n := 10) (by decide +kernel) h
theorem vyb_cX3_heaviest_4 {i : Nat} {b : UInt8} (h : ([0x03, 0x36, 0x06, 0x15, 0x06, 0x1c, 0xa2, 0x00, 0x1c, 0x15] : List UInt8)[i]? = some b) : vy_8 cX3_heaviest (40 + i) b := vy_in (n := 10) (by decide +kernel) h
theorem vyb_cX3_heaviest_5 {i : Nat} {b : UInt8} (h : ([0x05, 0x19, 0x04, 0x1d, 0x15, 0x06, 0x60, 0xb6, 0x00, 0x90] : List UInt8)[i]? = some b) : vy_8 cX3_heaviest (50 + i) b := vy_in (n := 10) (by decide +kernel) h
theorem vyb_cX3_heaviest_6 {i : Nat} {b : UInt8} (h : ([0xb8, 0x00, 0x99, 0xb8, 0x01, 0x27, 0x36, 0x05, 0x84, 0x06] : List UInt8)[i]? = some b) : vy_8 cX3_heaviest (60 + i) b := vy_in (n := 10) (by decide +kernel) h
theorem vyb_cX3_heaviest_7 {i : Nat} {b : UInt8} (h : ([0x01, 0xa7, 0xff, 0xe4, 0x15, 0x05, 0xac] : List UInt8)[i]? = some b) : vy_8 cX3_heaviest (70 + i) b := vy_in (n := 7) (by decide +kernel) h
theorem dX3_heaviest_0 : decode cX3_heaviest 0 = Except.ok (Instr.iload_n 1, 1) := vyd_27 (vyb_cX3_heaviest_0 (i := 0) rfl)
theorem dX3_heaviest_1 : decode cX3_heaviest 1 = Except.ok (Instr.invokestatic 69, 3) := vyd_184 (vyb_cX3_heaviest_0 (i := 1) rfl) (vyb_cX3_heaviest_0 (i := 2) rfl) (vyb_cX3_heaviest_0 (i := 3) rfl) rfl
theorem dX3_heaviest_4 : decode cX3_heaviest 4 = Except.ok (Instr.iload_n 3, 1) := vyd_29 (vyb_cX3_heaviest_0 (i := 4) rfl)
theorem dX3_heaviest_5 : decode cX3_heaviest 5 = Except.ok (Instr.bipush 19, 2) := vyd_16 (vyb_cX3_heaviest_0 (i := 5) rfl) (vyb_cX3_heaviest_0 (i := 6) rfl) (by decide +kernel)
theorem dX3_heaviest_7 : decode cX3_heaviest 7 = Except.ok (Instr.invokestatic 185, 3) := vyd_184 (vyb_cX3_heaviest_0 (i := 7) rfl) (vyb_cX3_heaviest_0 (i := 8) rfl) (vyb_cX3_heaviest_0 (i := 9) rfl) rfl
theorem dX3_heaviest_10 : decode cX3_heaviest 10 = Except.ok (Instr.iload_n 2, 1) := vyd_28 (vyb_cX3_heaviest_1 (i := 0) rfl)
theorem dX3_heaviest_11 : decode cX3_heaviest 11 = Except.ok (Instr.iconst 1, 1) := vyd_4 (vyb_cX3_heaviest_1 (i := 1) rfl)
theorem dX3_heaviest_12 : decode cX3_heaviest 12 = Except.ok (Instr.bipush 20, 2) := vyd_16 (vyb_cX3_heaviest_1 (i := 2) rfl) (vyb_cX3_heaviest_1 (i := 3) rfl) (by decide +kernel)
theorem dX3_heaviest_14 : decode cX3_heaviest 14 = Except.ok (Instr.invokestatic 76, 3) := vyd_184 (vyb_cX3_heaviest_1 (i := 4) rfl) (vyb_cX3_heaviest_1 (i := 5) rfl) (vyb_cX3_heaviest_1 (i := 6) rfl) rfl
theorem dX3_heaviest_17 : decode cX3_heaviest 17 = Except.ok (Instr.aload_n 0, 1) := vyd_42 (vyb_cX3_heaviest_1 (i := 7) rfl)
theorem dX3_heaviest_18 : decode cX3_heaviest 18 = Except.ok (Instr.iload_n 1, 1) := vyd_27 (vyb_cX3_heaviest_1 (i := 8) rfl)
theorem dX3_heaviest_19 : decode cX3_heaviest 19 = Except.ok (Instr.invokevirtual 61, 3) := vyd_182 (vyb_cX3_heaviest_1 (i := 9) rfl) (vyb_cX3_heaviest_2 (i := 0) rfl) (vyb_cX3_heaviest_2 (i := 1) rfl) rfl
theorem dX3_heaviest_22 : decode cX3_heaviest 22 = Except.ok (Instr.astore 4, 2) := vyd_58 (vyb_cX3_heaviest_2 (i := 2) rfl) (vyb_cX3_heaviest_2 (i := 3) rfl) rfl
theorem dX3_heaviest_24 : decode cX3_heaviest 24 = Except.ok (Instr.iload_n 3, 1) := vyd_29 (vyb_cX3_heaviest_2 (i := 4) rfl)
theorem dX3_heaviest_25 : decode cX3_heaviest 25 = Except.ok (Instr.iload_n 2, 1) := vyd_28 (vyb_cX3_heaviest_2 (i := 5) rfl)
theorem dX3_heaviest_26 : decode cX3_heaviest 26 = Except.ok (Instr.iadd, 1) := vyd_96 (vyb_cX3_heaviest_2 (i := 6) rfl)
theorem dX3_heaviest_27 : decode cX3_heaviest 27 = Except.ok (Instr.aload 4, 2) := vyd_25 (vyb_cX3_heaviest_2 (i := 7) rfl) (vyb_cX3_heaviest_2 (i := 8) rfl) rfl
theorem dX3_heaviest_29 : decode cX3_heaviest 29 = Except.ok (Instr.invokevirtual 65, 3) := vyd_182 (vyb_cX3_heaviest_2 (i := 9) rfl) (vyb_cX3_heaviest_3 (i := 0) rfl) (vyb_cX3_heaviest_3 (i := 1) rfl) rfl
theorem dX3_heaviest_32 : decode cX3_heaviest 32 = Except.ok (Instr.if_icmp .le 5, 3) := vyd_164 (vyb_cX3_heaviest_3 (i := 2) rfl) (vyb_cX3_heaviest_3 (i := 3) rfl) (vyb_cX3_heaviest_3 (i := 4) rfl) (by decide +kernel)
theorem dX3_heaviest_35 : decode cX3_heaviest 35 = Except.ok (Instr.iconst (-1), 1) := vyd_2 (vyb_cX3_heaviest_3 (i := 5) rfl)
theorem dX3_heaviest_36 : decode cX3_heaviest 36 = Except.ok (Instr.ireturn, 1) := vyd_172 (vyb_cX3_heaviest_3 (i := 6) rfl)
theorem dX3_heaviest_37 : decode cX3_heaviest 37 = Except.ok (Instr.iconst 0, 1) := vyd_3 (vyb_cX3_heaviest_3 (i := 7) rfl)
theorem dX3_heaviest_38 : decode cX3_heaviest 38 = Except.ok (Instr.istore 5, 2) := vyd_54 (vyb_cX3_heaviest_3 (i := 8) rfl) (vyb_cX3_heaviest_3 (i := 9) rfl) rfl
theorem dX3_heaviest_40 : decode cX3_heaviest 40 = Except.ok (Instr.iconst 0, 1) := vyd_3 (vyb_cX3_heaviest_4 (i := 0) rfl)
theorem dX3_heaviest_41 : decode cX3_heaviest 41 = Except.ok (Instr.istore 6, 2) := vyd_54 (vyb_cX3_heaviest_4 (i := 1) rfl) (vyb_cX3_heaviest_4 (i := 2) rfl) rfl
theorem dX3_heaviest_43 : decode cX3_heaviest 43 = Except.ok (Instr.iload 6, 2) := vyd_21 (vyb_cX3_heaviest_4 (i := 3) rfl) (vyb_cX3_heaviest_4 (i := 4) rfl) rfl
theorem dX3_heaviest_45 : decode cX3_heaviest 45 = Except.ok (Instr.iload_n 2, 1) := vyd_28 (vyb_cX3_heaviest_4 (i := 5) rfl)
theorem dX3_heaviest_46 : decode cX3_heaviest 46 = Except.ok (Instr.if_icmp .ge 28, 3) := vyd_162 (vyb_cX3_heaviest_4 (i := 6) rfl) (vyb_cX3_heaviest_4 (i := 7) rfl) (vyb_cX3_heaviest_4 (i := 8) rfl) (by decide +kernel)
theorem dX3_heaviest_49 : decode cX3_heaviest 49 = Except.ok (Instr.iload 5, 2) := vyd_21 (vyb_cX3_heaviest_4 (i := 9) rfl) (vyb_cX3_heaviest_5 (i := 0) rfl) rfl
theorem dX3_heaviest_51 : decode cX3_heaviest 51 = Except.ok (Instr.aload 4, 2) := vyd_25 (vyb_cX3_heaviest_5 (i := 1) rfl) (vyb_cX3_heaviest_5 (i := 2) rfl) rfl
theorem dX3_heaviest_53 : decode cX3_heaviest 53 = Except.ok (Instr.iload_n 3, 1) := vyd_29 (vyb_cX3_heaviest_5 (i := 3) rfl)
theorem dX3_heaviest_54 : decode cX3_heaviest 54 = Except.ok (Instr.iload 6, 2) := vyd_21 (vyb_cX3_heaviest_5 (i := 4) rfl) (vyb_cX3_heaviest_5 (i := 5) rfl) rfl
theorem dX3_heaviest_56 : decode cX3_heaviest 56 = Except.ok (Instr.iadd, 1) := vyd_96 (vyb_cX3_heaviest_5 (i := 6) rfl)
theorem dX3_heaviest_57 : decode cX3_heaviest 57 = Except.ok (Instr.invokevirtual 144, 3) := vyd_182 (vyb_cX3_heaviest_5 (i := 7) rfl) (vyb_cX3_heaviest_5 (i := 8) rfl) (vyb_cX3_heaviest_5 (i := 9) rfl) rfl
theorem dX3_heaviest_60 : decode cX3_heaviest 60 = Except.ok (Instr.invokestatic 153, 3) := vyd_184 (vyb_cX3_heaviest_6 (i := 0) rfl) (vyb_cX3_heaviest_6 (i := 1) rfl) (vyb_cX3_heaviest_6 (i := 2) rfl) rfl
theorem dX3_heaviest_63 : decode cX3_heaviest 63 = Except.ok (Instr.invokestatic 295, 3) := vyd_184 (vyb_cX3_heaviest_6 (i := 3) rfl) (vyb_cX3_heaviest_6 (i := 4) rfl) (vyb_cX3_heaviest_6 (i := 5) rfl) rfl
theorem dX3_heaviest_66 : decode cX3_heaviest 66 = Except.ok (Instr.istore 5, 2) := vyd_54 (vyb_cX3_heaviest_6 (i := 6) rfl) (vyb_cX3_heaviest_6 (i := 7) rfl) rfl
theorem dX3_heaviest_68 : decode cX3_heaviest 68 = .ok (.iinc 6 1, 3) := by decide +kernel
theorem dX3_heaviest_71 : decode cX3_heaviest 71 = Except.ok (Instr.goto (-28), 3) := vyd_167 (vyb_cX3_heaviest_7 (i := 1) rfl) (vyb_cX3_heaviest_7 (i := 2) rfl) (vyb_cX3_heaviest_7 (i := 3) rfl) (by decide +kernel)
theorem dX3_heaviest_74 : decode cX3_heaviest 74 = Except.ok (Instr.iload 5, 2) := vyd_21 (vyb_cX3_heaviest_7 (i := 4) rfl) (vyb_cX3_heaviest_7 (i := 5) rfl) rfl
theorem dX3_heaviest_76 : decode cX3_heaviest 76 = Except.ok (Instr.ireturn, 1) := vyd_172 (vyb_cX3_heaviest_7 (i := 6) rfl)
theorem vyb_cX3_ahead_0 {i : Nat} {b : UInt8} (h : ([0x1b, 0xb8, 0x00, 0x45, 0x1c, 0x10, 0x13, 0xb8, 0x00, 0xb9] : List UInt8)[i]? = some b) : vy_8 cX3_ahead (0 + i) b := vy_in (n := 10) (by decide +kernel) h
theorem vyb_cX3_ahead_1 {i : Nat} {b : UInt8} (h : ([0x2a, 0x1b, 0xb6, 0x00, 0x3d, 0x4e, 0x1c, 0x2d, 0xb6, 0x00] : List UInt8)[i]? = some b) : vy_8 cX3_ahead (10 + i) b := vy_in (n := 10) (by decide +kernel) h
theorem vyb_cX3_ahead_2 {i : Nat} {b : UInt8} (h : ([0x41, 0xa1, 0x00, 0x06, 0x10, 0xf7, 0xac, 0x2d, 0x1c, 0xb6] : List UInt8)[i]? = some b) : vy_8 cX3_ahead (20 + i) b := vy_in (n := 10) (by decide +kernel) h
theorem vyb_cX3_ahead_3 {i : Nat} {b : UInt8} (h : ([0x00, 0x90, 0xb8, 0x00, 0x99, 0x36, 0x04, 0x1c, 0x04, 0x64] : List UInt8)[i]? = some b) : vy_8 cX3_ahead (30 + i) b := vy_in (n := 10) (by decide +kernel) h
theorem vyb_cX3_ahead_4 {i : Nat} {b : UInt8} (h : ([0x36, 0x05, 0x15, 0x05, 0x9b, 0x00, 0x1a, 0x2d, 0x15, 0x05] : List UInt8)[i]? = some b) : vy_8 cX3_ahead (40 + i) b := vy_in (n := 10) (by decide +kernel) h
theorem vyb_cX3_ahead_5 {i : Nat} {b : UInt8} (h : ([0xb6, 0x00, 0x90, 0xb8, 0x00, 0x99, 0x15, 0x04, 0xa4, 0x00] : List UInt8)[i]? = some b) : vy_8 cX3_ahead (50 + i) b := vy_in (n := 10) (by decide +kernel) h
theorem vyb_cX3_ahead_6 {i : Nat} {b : UInt8} (h : ([0x06, 0x15, 0x05, 0xac, 0x84, 0x05, 0xff, 0xa7, 0xff, 0xe7] : List UInt8)[i]? = some b) : vy_8 cX3_ahead (60 + i) b := vy_in (n := 10) (by decide +kernel) h
theorem vyb_cX3_ahead_7 {i : Nat} {b : UInt8} (h : ([0x02, 0xac] : List UInt8)[i]? = some b) : vy_8 cX3_ahead (70 + i) b := vy_in (n := 2) (by decide +kernel) h
theorem dX3_ahead_0 : decode cX3_ahead 0 = Except.ok (Instr.iload_n 1, 1) := vyd_27 (vyb_cX3_ahead_0 (i := 0) rfl)
theorem dX3_ahead_1 : decode cX3_ahead 1 = Except.ok (Instr.invokestatic 69, 3) := vyd_184 (vyb_cX3_ahead_0 (i := 1) rfl) (vyb_cX3_ahead_0 (i := 2) rfl) (vyb_cX3_ahead_0 (i := 3) rfl) rfl
theorem dX3_ahead_4 : decode cX3_ahead 4 = Except.ok (Instr.iload_n 2, 1) := vyd_28 (vyb_cX3_ahead_0 (i := 4) rfl)
theorem dX3_ahead_5 : decode cX3_ahead 5 = Except.ok (Instr.bipush 19, 2) := vyd_16 (vyb_cX3_ahead_0 (i := 5) rfl) (vyb_cX3_ahead_0 (i := 6) rfl) (by decide +kernel)
theorem dX3_ahead_7 : decode cX3_ahead 7 = Except.ok (Instr.invokestatic 185, 3) := vyd_184 (vyb_cX3_ahead_0 (i := 7) rfl) (vyb_cX3_ahead_0 (i := 8) rfl) (vyb_cX3_ahead_0 (i := 9) rfl) rfl
theorem dX3_ahead_10 : decode cX3_ahead 10 = Except.ok (Instr.aload_n 0, 1) := vyd_42 (vyb_cX3_ahead_1 (i := 0) rfl)
theorem dX3_ahead_11 : decode cX3_ahead 11 = Except.ok (Instr.iload_n 1, 1) := vyd_27 (vyb_cX3_ahead_1 (i := 1) rfl)
theorem dX3_ahead_12 : decode cX3_ahead 12 = Except.ok (Instr.invokevirtual 61, 3) := vyd_182 (vyb_cX3_ahead_1 (i := 2) rfl) (vyb_cX3_ahead_1 (i := 3) rfl) (vyb_cX3_ahead_1 (i := 4) rfl) rfl
theorem dX3_ahead_15 : decode cX3_ahead 15 = Except.ok (Instr.astore_n 3, 1) := vyd_78 (vyb_cX3_ahead_1 (i := 5) rfl)
theorem dX3_ahead_16 : decode cX3_ahead 16 = Except.ok (Instr.iload_n 2, 1) := vyd_28 (vyb_cX3_ahead_1 (i := 6) rfl)
theorem dX3_ahead_17 : decode cX3_ahead 17 = Except.ok (Instr.aload_n 3, 1) := vyd_45 (vyb_cX3_ahead_1 (i := 7) rfl)
theorem dX3_ahead_18 : decode cX3_ahead 18 = Except.ok (Instr.invokevirtual 65, 3) := vyd_182 (vyb_cX3_ahead_1 (i := 8) rfl) (vyb_cX3_ahead_1 (i := 9) rfl) (vyb_cX3_ahead_2 (i := 0) rfl) rfl
theorem dX3_ahead_21 : decode cX3_ahead 21 = Except.ok (Instr.if_icmp .lt 6, 3) := vyd_161 (vyb_cX3_ahead_2 (i := 1) rfl) (vyb_cX3_ahead_2 (i := 2) rfl) (vyb_cX3_ahead_2 (i := 3) rfl) (by decide +kernel)
theorem dX3_ahead_24 : decode cX3_ahead 24 = Except.ok (Instr.bipush (-9), 2) := vyd_16 (vyb_cX3_ahead_2 (i := 4) rfl) (vyb_cX3_ahead_2 (i := 5) rfl) (by decide +kernel)
theorem dX3_ahead_26 : decode cX3_ahead 26 = Except.ok (Instr.ireturn, 1) := vyd_172 (vyb_cX3_ahead_2 (i := 6) rfl)
theorem dX3_ahead_27 : decode cX3_ahead 27 = Except.ok (Instr.aload_n 3, 1) := vyd_45 (vyb_cX3_ahead_2 (i := 7) rfl)
theorem dX3_ahead_28 : decode cX3_ahead 28 = Except.ok (Instr.iload_n 2, 1) := vyd_28 (vyb_cX3_ahead_2 (i := 8) rfl)
theorem dX3_ahead_29 : decode cX3_ahead 29 = Except.ok (Instr.invokevirtual 144, 3) := vyd_182 (vyb_cX3_ahead_2 (i := 9) rfl) (vyb_cX3_ahead_3 (i := 0) rfl) (vyb_cX3_ahead_3 (i := 1) rfl) rfl
theorem dX3_ahead_32 : decode cX3_ahead 32 = Except.ok (Instr.invokestatic 153, 3) := vyd_184 (vyb_cX3_ahead_3 (i := 2) rfl) (vyb_cX3_ahead_3 (i := 3) rfl) (vyb_cX3_ahead_3 (i := 4) rfl) rfl
theorem dX3_ahead_35 : decode cX3_ahead 35 = Except.ok (Instr.istore 4, 2) := vyd_54 (vyb_cX3_ahead_3 (i := 5) rfl) (vyb_cX3_ahead_3 (i := 6) rfl) rfl
theorem dX3_ahead_37 : decode cX3_ahead 37 = Except.ok (Instr.iload_n 2, 1) := vyd_28 (vyb_cX3_ahead_3 (i := 7) rfl)
theorem dX3_ahead_38 : decode cX3_ahead 38 = Except.ok (Instr.iconst 1, 1) := vyd_4 (vyb_cX3_ahead_3 (i := 8) rfl)
theorem dX3_ahead_39 : decode cX3_ahead 39 = Except.ok (Instr.isub, 1) := vyd_100 (vyb_cX3_ahead_3 (i := 9) rfl)
theorem dX3_ahead_40 : decode cX3_ahead 40 = Except.ok (Instr.istore 5, 2) := vyd_54 (vyb_cX3_ahead_4 (i := 0) rfl) (vyb_cX3_ahead_4 (i := 1) rfl) rfl
theorem dX3_ahead_42 : decode cX3_ahead 42 = Except.ok (Instr.iload 5, 2) := vyd_21 (vyb_cX3_ahead_4 (i := 2) rfl) (vyb_cX3_ahead_4 (i := 3) rfl) rfl
theorem dX3_ahead_44 : decode cX3_ahead 44 = Except.ok (Instr.ifCond .lt 26, 3) := vyd_155 (vyb_cX3_ahead_4 (i := 4) rfl) (vyb_cX3_ahead_4 (i := 5) rfl) (vyb_cX3_ahead_4 (i := 6) rfl) (by decide +kernel)
theorem dX3_ahead_47 : decode cX3_ahead 47 = Except.ok (Instr.aload_n 3, 1) := vyd_45 (vyb_cX3_ahead_4 (i := 7) rfl)
theorem dX3_ahead_48 : decode cX3_ahead 48 = Except.ok (Instr.iload 5, 2) := vyd_21 (vyb_cX3_ahead_4 (i := 8) rfl) (vyb_cX3_ahead_4 (i := 9) rfl) rfl
theorem dX3_ahead_50 : decode cX3_ahead 50 = Except.ok (Instr.invokevirtual 144, 3) := vyd_182 (vyb_cX3_ahead_5 (i := 0) rfl) (vyb_cX3_ahead_5 (i := 1) rfl) (vyb_cX3_ahead_5 (i := 2) rfl) rfl
theorem dX3_ahead_53 : decode cX3_ahead 53 = Except.ok (Instr.invokestatic 153, 3) := vyd_184 (vyb_cX3_ahead_5 (i := 3) rfl) (vyb_cX3_ahead_5 (i := 4) rfl) (vyb_cX3_ahead_5 (i := 5) rfl) rfl
theorem dX3_ahead_56 : decode cX3_ahead 56 = Except.ok (Instr.iload 4, 2) := vyd_21 (vyb_cX3_ahead_5 (i := 6) rfl) (vyb_cX3_ahead_5 (i := 7) rfl) rfl
theorem dX3_ahead_58 : decode cX3_ahead 58 = Except.ok (Instr.if_icmp .le 6, 3) := vyd_164 (vyb_cX3_ahead_5 (i := 8) rfl) (vyb_cX3_ahead_5 (i := 9) rfl) (vyb_cX3_ahead_6 (i := 0) rfl) (by decide +kernel)
theorem dX3_ahead_61 : decode cX3_ahead 61 = Except.ok (Instr.iload 5, 2) := vyd_21 (vyb_cX3_ahead_6 (i := 1) rfl) (vyb_cX3_ahead_6 (i := 2) rfl) rfl
theorem dX3_ahead_63 : decode cX3_ahead 63 = Except.ok (Instr.ireturn, 1) := vyd_172 (vyb_cX3_ahead_6 (i := 3) rfl)
theorem dX3_ahead_64 : decode cX3_ahead 64 = .ok (.iinc 5 (-1), 3) := by decide +kernel
theorem dX3_ahead_67 : decode cX3_ahead 67 = Except.ok (Instr.goto (-25), 3) := vyd_167 (vyb_cX3_ahead_6 (i := 7) rfl) (vyb_cX3_ahead_6 (i := 8) rfl) (vyb_cX3_ahead_6 (i := 9) rfl) (by decide +kernel)
theorem dX3_ahead_70 : decode cX3_ahead 70 = Except.ok (Instr.iconst (-1), 1) := vyd_2 (vyb_cX3_ahead_7 (i := 0) rfl)
theorem dX3_ahead_71 : decode cX3_ahead 71 = Except.ok (Instr.ireturn, 1) := vyd_172 (vyb_cX3_ahead_7 (i := 1) rfl)
theorem vyb_cX3_yard_0 {i : Nat} {b : UInt8} (h : ([0x1b, 0x03, 0x10, 0x07, 0xb8, 0x00, 0x4c, 0x2a, 0x1b, 0xb6] : List UInt8)[i]? = some b) : vy_8 cX3_yard (0 + i) b := vy_in (n := 10) (by decide +kernel) h
theorem vyb_cX3_yard_1 {i : Nat} {b : UInt8} (h : ([0x01, 0x2a, 0xac] : List UInt8)[i]? = some b) : vy_8 cX3_yard (10 + i) b := vy_in (n := 3) (by decide +kernel) h
theorem dX3_yard_0 : decode cX3_yard 0 = Except.ok (Instr.iload_n 1, 1) := vyd_27 (vyb_cX3_yard_0 (i := 0) rfl)
theorem dX3_yard_1 : decode cX3_yard 1 = Except.ok (Instr.iconst 0, 1) := vyd_3 (vyb_cX3_yard_0 (i := 1) rfl)
theorem dX3_yard_2 : decode cX3_yard 2 = Except.ok (Instr.bipush 7, 2) := vyd_16 (vyb_cX3_yard_0 (i := 2) rfl) (vyb_cX3_yard_0 (i := 3) rfl) (by decide +kernel)
theorem dX3_yard_4 : decode cX3_yard 4 = Except.ok (Instr.invokestatic 76, 3) := vyd_184 (vyb_cX3_yard_0 (i := 4) rfl) (vyb_cX3_yard_0 (i := 5) rfl) (vyb_cX3_yard_0 (i := 6) rfl) rfl
theorem dX3_yard_7 : decode cX3_yard 7 = Except.ok (Instr.aload_n 0, 1) := vyd_42 (vyb_cX3_yard_0 (i := 7) rfl)
theorem dX3_yard_8 : decode cX3_yard 8 = Except.ok (Instr.iload_n 1, 1) := vyd_27 (vyb_cX3_yard_0 (i := 8) rfl)
theorem dX3_yard_9 : decode cX3_yard 9 = Except.ok (Instr.invokevirtual 298, 3) := vyd_182 (vyb_cX3_yard_0 (i := 9) rfl) (vyb_cX3_yard_1 (i := 0) rfl) (vyb_cX3_yard_1 (i := 1) rfl) rfl
theorem dX3_yard_12 : decode cX3_yard 12 = Except.ok (Instr.ireturn, 1) := vyd_172 (vyb_cX3_yard_1 (i := 2) rfl)
theorem vyb_cX3_knock_0 {i : Nat} {b : UInt8} (h : ([0x2a, 0x59, 0xb4, 0x00, 0x2c, 0x04, 0x60, 0xb5, 0x00, 0x2c] : List UInt8)[i]? = some b) : vy_8 cX3_knock (0 + i) b := vy_in (n := 10) (by decide +kernel) h
theorem vyb_cX3_knock_1 {i : Nat} {b : UInt8} (h : ([0x2a, 0xb4, 0x00, 0x2c, 0xac] : List UInt8)[i]? = some b) : vy_8 cX3_knock (10 + i) b := vy_in (n := 5) (by decide +kernel) h
theorem dX3_knock_0 : decode cX3_knock 0 = Except.ok (Instr.aload_n 0, 1) := vyd_42 (vyb_cX3_knock_0 (i := 0) rfl)
theorem dX3_knock_1 : decode cX3_knock 1 = Except.ok (Instr.dup, 1) := vyd_89 (vyb_cX3_knock_0 (i := 1) rfl)
theorem dX3_knock_2 : decode cX3_knock 2 = Except.ok (Instr.getfield 44, 3) := vyd_180 (vyb_cX3_knock_0 (i := 2) rfl) (vyb_cX3_knock_0 (i := 3) rfl) (vyb_cX3_knock_0 (i := 4) rfl) rfl
theorem dX3_knock_5 : decode cX3_knock 5 = Except.ok (Instr.iconst 1, 1) := vyd_4 (vyb_cX3_knock_0 (i := 5) rfl)
theorem dX3_knock_6 : decode cX3_knock 6 = Except.ok (Instr.iadd, 1) := vyd_96 (vyb_cX3_knock_0 (i := 6) rfl)
theorem dX3_knock_7 : decode cX3_knock 7 = Except.ok (Instr.putfield 44, 3) := vyd_181 (vyb_cX3_knock_0 (i := 7) rfl) (vyb_cX3_knock_0 (i := 8) rfl) (vyb_cX3_knock_0 (i := 9) rfl) rfl
theorem dX3_knock_10 : decode cX3_knock 10 = Except.ok (Instr.aload_n 0, 1) := vyd_42 (vyb_cX3_knock_1 (i := 0) rfl)
theorem dX3_knock_11 : decode cX3_knock 11 = Except.ok (Instr.getfield 44, 3) := vyd_180 (vyb_cX3_knock_1 (i := 1) rfl) (vyb_cX3_knock_1 (i := 2) rfl) (vyb_cX3_knock_1 (i := 3) rfl) rfl
theorem dX3_knock_14 : decode cX3_knock 14 = Except.ok (Instr.ireturn, 1) := vyd_172 (vyb_cX3_knock_1 (i := 4) rfl)
theorem vyb_cX3_isSound_0 {i : Nat} {b : UInt8} (h : ([0x2a, 0xb4, 0x00, 0x0e, 0xb8, 0x01, 0x2d, 0x99, 0x00, 0x5a] : List UInt8)[i]? = some b) : vy_8 cX3_isSound (0 + i) b := vy_in (n := 10) (by decide +kernel) h
theorem vyb_cX3_isSound_1 {i : Nat} {b : UInt8} (h : ([0x2a, 0xb4, 0x00, 0x12, 0xb8, 0x01, 0x2d, 0x99, 0x00, 0x50] : List UInt8)[i]? = some b) : vy_8 cX3_isSound (10 + i) b := vy_in (n := 10) (by decide +kernel) h
theorem vyb_cX3_isSound_2 {i : Nat} {b : UInt8} (h : ([0x2a, 0xb4, 0x00, 0x0e, 0x03, 0x03, 0xb6, 0x00, 0x8a, 0x02] : List UInt8)[i]? = some b) : vy_8 cX3_isSound (20 + i) b := vy_in (n := 10) (by decide +kernel) h
theorem vyb_cX3_isSound_3 {i : Nat} {b : UInt8} (h : ([0xa0, 0x00, 0x43, 0x2a, 0xb6, 0x01, 0x31, 0x99, 0x00, 0x3c] : List UInt8)[i]? = some b) : vy_8 cX3_isSound (30 + i) b := vy_in (n := 10) (by decide +kernel) h
theorem vyb_cX3_isSound_4 {i : Nat} {b : UInt8} (h : ([0x2a, 0x2a, 0xb4, 0x00, 0x25, 0xb6, 0x01, 0x34, 0x99, 0x00] : List UInt8)[i]? = some b) : vy_8 cX3_isSound (40 + i) b := vy_in (n := 10) (by decide +kernel) h
theorem vyb_cX3_isSound_5 {i : Nat} {b : UInt8} (h : ([0x31, 0x2a, 0x2a, 0xb4, 0x00, 0x29, 0xb6, 0x01, 0x34, 0x99] : List UInt8)[i]? = some b) : vy_8 cX3_isSound (50 + i) b := vy_in (n := 10) (by decide +kernel) h
theorem vyb_cX3_isSound_6 {i : Nat} {b : UInt8} (h : ([0x00, 0x26, 0x2a, 0xb4, 0x00, 0x15, 0xb6, 0x00, 0x41, 0x10] : List UInt8)[i]? = some b) : vy_8 cX3_isSound (60 + i) b := vy_in (n := 10) (by decide +kernel) h
theorem vyb_cX3_isSound_7 {i : Nat} {b : UInt8} (h : ([0x0c, 0xa3, 0x00, 0x1a, 0x2a, 0xb4, 0x00, 0x18, 0xb6, 0x00] : List UInt8)[i]? = some b) : vy_8 cX3_isSound (70 + i) b := vy_in (n := 10) (by decide +kernel) h
theorem vyb_cX3_isSound_8 {i : Nat} {b : UInt8} (h : ([0x41, 0x10, 0x0a, 0xa3, 0x00, 0x0e, 0x2a, 0xb6, 0x01, 0x38] : List UInt8)[i]? = some b) : vy_8 cX3_isSound (80 + i) b := vy_in (n := 10) (by decide +kernel) h
theorem vyb_cX3_isSound_9 {i : Nat} {b : UInt8} (h : ([0x99, 0x00, 0x07, 0x04, 0xa7, 0x00, 0x04, 0x03, 0xac] : List UInt8)[i]? = some b) : vy_8 cX3_isSound (90 + i) b := vy_in (n := 9) (by decide +kernel) h
theorem dX3_isSound_0 : decode cX3_isSound 0 = Except.ok (Instr.aload_n 0, 1) := vyd_42 (vyb_cX3_isSound_0 (i := 0) rfl)
theorem dX3_isSound_1 : decode cX3_isSound 1 = Except.ok (Instr.getfield 14, 3) := vyd_180 (vyb_cX3_isSound_0 (i := 1) rfl) (vyb_cX3_isSound_0 (i := 2) rfl) (vyb_cX3_isSound_0 (i := 3) rfl) rfl
theorem dX3_isSound_4 : decode cX3_isSound 4 = Except.ok (Instr.invokestatic 301, 3) := vyd_184 (vyb_cX3_isSound_0 (i := 4) rfl) (vyb_cX3_isSound_0 (i := 5) rfl) (vyb_cX3_isSound_0 (i := 6) rfl) rfl
theorem dX3_isSound_7 : decode cX3_isSound 7 = Except.ok (Instr.ifCond .eq 90, 3) := vyd_153 (vyb_cX3_isSound_0 (i := 7) rfl) (vyb_cX3_isSound_0 (i := 8) rfl) (vyb_cX3_isSound_0 (i := 9) rfl) (by decide +kernel)
theorem dX3_isSound_10 : decode cX3_isSound 10 = Except.ok (Instr.aload_n 0, 1) := vyd_42 (vyb_cX3_isSound_1 (i := 0) rfl)
theorem dX3_isSound_11 : decode cX3_isSound 11 = Except.ok (Instr.getfield 18, 3) := vyd_180 (vyb_cX3_isSound_1 (i := 1) rfl) (vyb_cX3_isSound_1 (i := 2) rfl) (vyb_cX3_isSound_1 (i := 3) rfl) rfl
theorem dX3_isSound_14 : decode cX3_isSound 14 = Except.ok (Instr.invokestatic 301, 3) := vyd_184 (vyb_cX3_isSound_1 (i := 4) rfl) (vyb_cX3_isSound_1 (i := 5) rfl) (vyb_cX3_isSound_1 (i := 6) rfl) rfl
theorem dX3_isSound_17 : decode cX3_isSound 17 = Except.ok (Instr.ifCond .eq 80, 3) := vyd_153 (vyb_cX3_isSound_1 (i := 7) rfl) (vyb_cX3_isSound_1 (i := 8) rfl) (vyb_cX3_isSound_1 (i := 9) rfl) (by decide +kernel)
theorem dX3_isSound_20 : decode cX3_isSound 20 = Except.ok (Instr.aload_n 0, 1) := vyd_42 (vyb_cX3_isSound_2 (i := 0) rfl)
theorem dX3_isSound_21 : decode cX3_isSound 21 = Except.ok (Instr.getfield 14, 3) := vyd_180 (vyb_cX3_isSound_2 (i := 1) rfl) (vyb_cX3_isSound_2 (i := 2) rfl) (vyb_cX3_isSound_2 (i := 3) rfl) rfl
theorem dX3_isSound_24 : decode cX3_isSound 24 = Except.ok (Instr.iconst 0, 1) := vyd_3 (vyb_cX3_isSound_2 (i := 4) rfl)
theorem dX3_isSound_25 : decode cX3_isSound 25 = Except.ok (Instr.iconst 0, 1) := vyd_3 (vyb_cX3_isSound_2 (i := 5) rfl)
theorem dX3_isSound_26 : decode cX3_isSound 26 = Except.ok (Instr.invokevirtual 138, 3) := vyd_182 (vyb_cX3_isSound_2 (i := 6) rfl) (vyb_cX3_isSound_2 (i := 7) rfl) (vyb_cX3_isSound_2 (i := 8) rfl) rfl
theorem dX3_isSound_29 : decode cX3_isSound 29 = Except.ok (Instr.iconst (-1), 1) := vyd_2 (vyb_cX3_isSound_2 (i := 9) rfl)
theorem dX3_isSound_30 : decode cX3_isSound 30 = Except.ok (Instr.if_icmp .ne 67, 3) := vyd_160 (vyb_cX3_isSound_3 (i := 0) rfl) (vyb_cX3_isSound_3 (i := 1) rfl) (vyb_cX3_isSound_3 (i := 2) rfl) (by decide +kernel)
theorem dX3_isSound_33 : decode cX3_isSound 33 = Except.ok (Instr.aload_n 0, 1) := vyd_42 (vyb_cX3_isSound_3 (i := 3) rfl)
theorem dX3_isSound_34 : decode cX3_isSound 34 = Except.ok (Instr.invokevirtual 305, 3) := vyd_182 (vyb_cX3_isSound_3 (i := 4) rfl) (vyb_cX3_isSound_3 (i := 5) rfl) (vyb_cX3_isSound_3 (i := 6) rfl) rfl
theorem dX3_isSound_37 : decode cX3_isSound 37 = Except.ok (Instr.ifCond .eq 60, 3) := vyd_153 (vyb_cX3_isSound_3 (i := 7) rfl) (vyb_cX3_isSound_3 (i := 8) rfl) (vyb_cX3_isSound_3 (i := 9) rfl) (by decide +kernel)
theorem dX3_isSound_40 : decode cX3_isSound 40 = Except.ok (Instr.aload_n 0, 1) := vyd_42 (vyb_cX3_isSound_4 (i := 0) rfl)
theorem dX3_isSound_41 : decode cX3_isSound 41 = Except.ok (Instr.aload_n 0, 1) := vyd_42 (vyb_cX3_isSound_4 (i := 1) rfl)
theorem dX3_isSound_42 : decode cX3_isSound 42 = Except.ok (Instr.getfield 37, 3) := vyd_180 (vyb_cX3_isSound_4 (i := 2) rfl) (vyb_cX3_isSound_4 (i := 3) rfl) (vyb_cX3_isSound_4 (i := 4) rfl) rfl
theorem dX3_isSound_45 : decode cX3_isSound 45 = Except.ok (Instr.invokevirtual 308, 3) := vyd_182 (vyb_cX3_isSound_4 (i := 5) rfl) (vyb_cX3_isSound_4 (i := 6) rfl) (vyb_cX3_isSound_4 (i := 7) rfl) rfl
theorem dX3_isSound_48 : decode cX3_isSound 48 = Except.ok (Instr.ifCond .eq 49, 3) := vyd_153 (vyb_cX3_isSound_4 (i := 8) rfl) (vyb_cX3_isSound_4 (i := 9) rfl) (vyb_cX3_isSound_5 (i := 0) rfl) (by decide +kernel)
theorem dX3_isSound_51 : decode cX3_isSound 51 = Except.ok (Instr.aload_n 0, 1) := vyd_42 (vyb_cX3_isSound_5 (i := 1) rfl)
theorem dX3_isSound_52 : decode cX3_isSound 52 = Except.ok (Instr.aload_n 0, 1) := vyd_42 (vyb_cX3_isSound_5 (i := 2) rfl)
theorem dX3_isSound_53 : decode cX3_isSound 53 = Except.ok (Instr.getfield 41, 3) := vyd_180 (vyb_cX3_isSound_5 (i := 3) rfl) (vyb_cX3_isSound_5 (i := 4) rfl) (vyb_cX3_isSound_5 (i := 5) rfl) rfl
theorem dX3_isSound_56 : decode cX3_isSound 56 = Except.ok (Instr.invokevirtual 308, 3) := vyd_182 (vyb_cX3_isSound_5 (i := 6) rfl) (vyb_cX3_isSound_5 (i := 7) rfl) (vyb_cX3_isSound_5 (i := 8) rfl) rfl
theorem dX3_isSound_59 : decode cX3_isSound 59 = Except.ok (Instr.ifCond .eq 38, 3) := vyd_153 (vyb_cX3_isSound_5 (i := 9) rfl) (vyb_cX3_isSound_6 (i := 0) rfl) (vyb_cX3_isSound_6 (i := 1) rfl) (by decide +kernel)
theorem dX3_isSound_62 : decode cX3_isSound 62 = Except.ok (Instr.aload_n 0, 1) := vyd_42 (vyb_cX3_isSound_6 (i := 2) rfl)
theorem dX3_isSound_63 : decode cX3_isSound 63 = Except.ok (Instr.getfield 21, 3) := vyd_180 (vyb_cX3_isSound_6 (i := 3) rfl) (vyb_cX3_isSound_6 (i := 4) rfl) (vyb_cX3_isSound_6 (i := 5) rfl) rfl
theorem dX3_isSound_66 : decode cX3_isSound 66 = Except.ok (Instr.invokevirtual 65, 3) := vyd_182 (vyb_cX3_isSound_6 (i := 6) rfl) (vyb_cX3_isSound_6 (i := 7) rfl) (vyb_cX3_isSound_6 (i := 8) rfl) rfl
theorem dX3_isSound_69 : decode cX3_isSound 69 = Except.ok (Instr.bipush 12, 2) := vyd_16 (vyb_cX3_isSound_6 (i := 9) rfl) (vyb_cX3_isSound_7 (i := 0) rfl) (by decide +kernel)
theorem dX3_isSound_71 : decode cX3_isSound 71 = Except.ok (Instr.if_icmp .gt 26, 3) := vyd_163 (vyb_cX3_isSound_7 (i := 1) rfl) (vyb_cX3_isSound_7 (i := 2) rfl) (vyb_cX3_isSound_7 (i := 3) rfl) (by decide +kernel)
theorem dX3_isSound_74 : decode cX3_isSound 74 = Except.ok (Instr.aload_n 0, 1) := vyd_42 (vyb_cX3_isSound_7 (i := 4) rfl)
theorem dX3_isSound_75 : decode cX3_isSound 75 = Except.ok (Instr.getfield 24, 3) := vyd_180 (vyb_cX3_isSound_7 (i := 5) rfl) (vyb_cX3_isSound_7 (i := 6) rfl) (vyb_cX3_isSound_7 (i := 7) rfl) rfl
theorem dX3_isSound_78 : decode cX3_isSound 78 = Except.ok (Instr.invokevirtual 65, 3) := vyd_182 (vyb_cX3_isSound_7 (i := 8) rfl) (vyb_cX3_isSound_7 (i := 9) rfl) (vyb_cX3_isSound_8 (i := 0) rfl) rfl
theorem dX3_isSound_81 : decode cX3_isSound 81 = Except.ok (Instr.bipush 10, 2) := vyd_16 (vyb_cX3_isSound_8 (i := 1) rfl) (vyb_cX3_isSound_8 (i := 2) rfl) (by decide +kernel)
theorem dX3_isSound_83 : decode cX3_isSound 83 = Except.ok (Instr.if_icmp .gt 14, 3) := vyd_163 (vyb_cX3_isSound_8 (i := 3) rfl) (vyb_cX3_isSound_8 (i := 4) rfl) (vyb_cX3_isSound_8 (i := 5) rfl) (by decide +kernel)
theorem dX3_isSound_86 : decode cX3_isSound 86 = Except.ok (Instr.aload_n 0, 1) := vyd_42 (vyb_cX3_isSound_8 (i := 6) rfl)
theorem dX3_isSound_87 : decode cX3_isSound 87 = Except.ok (Instr.invokevirtual 312, 3) := vyd_182 (vyb_cX3_isSound_8 (i := 7) rfl) (vyb_cX3_isSound_8 (i := 8) rfl) (vyb_cX3_isSound_8 (i := 9) rfl) rfl
theorem dX3_isSound_90 : decode cX3_isSound 90 = Except.ok (Instr.ifCond .eq 7, 3) := vyd_153 (vyb_cX3_isSound_9 (i := 0) rfl) (vyb_cX3_isSound_9 (i := 1) rfl) (vyb_cX3_isSound_9 (i := 2) rfl) (by decide +kernel)
theorem dX3_isSound_93 : decode cX3_isSound 93 = Except.ok (Instr.iconst 1, 1) := vyd_4 (vyb_cX3_isSound_9 (i := 3) rfl)
theorem dX3_isSound_94 : decode cX3_isSound 94 = Except.ok (Instr.goto 4, 3) := vyd_167 (vyb_cX3_isSound_9 (i := 4) rfl) (vyb_cX3_isSound_9 (i := 5) rfl) (vyb_cX3_isSound_9 (i := 6) rfl) (by decide +kernel)
theorem dX3_isSound_97 : decode cX3_isSound 97 = Except.ok (Instr.iconst 0, 1) := vyd_3 (vyb_cX3_isSound_9 (i := 7) rfl)
theorem dX3_isSound_98 : decode cX3_isSound 98 = Except.ok (Instr.ireturn, 1) := vyd_172 (vyb_cX3_isSound_9 (i := 8) rfl)
theorem vyb_cX3_digest_0 {i : Nat} {b : UInt8} (h : ([0x14, 0x01, 0x3b, 0x40, 0x2a, 0x1f, 0x03, 0xb6, 0x01, 0x3d] : List UInt8)[i]? = some b) : vy_8 cX3_digest (0 + i) b := vy_in (n := 10) (by decide +kernel) h
theorem vyb_cX3_digest_1 {i : Nat} {b : UInt8} (h : ([0x40, 0x2a, 0x1f, 0x04, 0xb6, 0x01, 0x3d, 0x40, 0x03, 0x3e] : List UInt8)[i]? = some b) : vy_8 cX3_digest (10 + i) b := vy_in (n := 10) (by decide +kernel) h
theorem vyb_cX3_digest_2 {i : Nat} {b : UInt8} (h : ([0x1d, 0x10, 0x09, 0xa3, 0x00, 0x25, 0x1f, 0x2a, 0xb4, 0x00] : List UInt8)[i]? = some b) : vy_8 cX3_digest (20 + i) b := vy_in (n := 10) (by decide +kernel) h
theorem vyb_cX3_digest_3 {i : Nat} {b : UInt8} (h : ([0x12, 0x1d, 0x03, 0xb6, 0x00, 0x8a, 0xb8, 0x01, 0x41, 0x40] : List UInt8)[i]? = some b) : vy_8 cX3_digest (30 + i) b := vy_in (n := 10) (by decide +kernel) h
theorem vyb_cX3_digest_4 {i : Nat} {b : UInt8} (h : ([0x1f, 0x2a, 0xb4, 0x00, 0x12, 0x1d, 0x04, 0xb6, 0x00, 0x8a] : List UInt8)[i]? = some b) : vy_8 cX3_digest (40 + i) b := vy_in (n := 10) (by decide +kernel) h
theorem vyb_cX3_digest_5 {i : Nat} {b : UInt8} (h : ([0xb8, 0x01, 0x41, 0x40, 0x84, 0x03, 0x01, 0xa7, 0xff, 0xdb] : List UInt8)[i]? = some b) : vy_8 cX3_digest (50 + i) b := vy_in (n := 10) (by decide +kernel) h
theorem vyb_cX3_digest_6 {i : Nat} {b : UInt8} (h : ([0x2a, 0x1f, 0x03, 0xb6, 0x01, 0x44, 0x40, 0x2a, 0x1f, 0x04] : List UInt8)[i]? = some b) : vy_8 cX3_digest (60 + i) b := vy_in (n := 10) (by decide +kernel) h
theorem vyb_cX3_digest_7 {i : Nat} {b : UInt8} (h : ([0xb6, 0x01, 0x44, 0x40, 0x03, 0x3e, 0x1d, 0x10, 0x07, 0xa3] : List UInt8)[i]? = some b) : vy_8 cX3_digest (70 + i) b := vy_in (n := 10) (by decide +kernel) h
theorem vyb_cX3_digest_8 {i : Nat} {b : UInt8} (h : ([0x00, 0x13, 0x1f, 0x2a, 0x1d, 0xb6, 0x01, 0x2a, 0xb8, 0x01] : List UInt8)[i]? = some b) : vy_8 cX3_digest (80 + i) b := vy_in (n := 10) (by decide +kernel) h
theorem vyb_cX3_digest_9 {i : Nat} {b : UInt8} (h : ([0x41, 0x40, 0x84, 0x03, 0x01, 0xa7, 0xff, 0xed, 0x2a, 0xb4] : List UInt8)[i]? = some b) : vy_8 cX3_digest (90 + i) b := vy_in (n := 10) (by decide +kernel) h
theorem vyb_cX3_digest_10 {i : Nat} {b : UInt8} (h : ([0x00, 0x15, 0xb6, 0x00, 0x41, 0x04, 0x64, 0x3e, 0x1d, 0x9b] : List UInt8)[i]? = some b) : vy_8 cX3_digest (100 + i) b := vy_in (n := 10) (by decide +kernel) h
theorem vyb_cX3_digest_11 {i : Nat} {b : UInt8} (h : ([0x00, 0x16, 0x1f, 0x2a, 0xb4, 0x00, 0x15, 0x1d, 0xb6, 0x00] : List UInt8)[i]? = some b) : vy_8 cX3_digest (110 + i) b := vy_in (n := 10) (by decide +kernel) h
theorem vyb_cX3_digest_12 {i : Nat} {b : UInt8} (h : ([0x90, 0xb8, 0x01, 0x41, 0x40, 0x84, 0x03, 0xff, 0xa7, 0xff] : List UInt8)[i]? = some b) : vy_8 cX3_digest (120 + i) b := vy_in (n := 10) (by decide +kernel) h
theorem vyb_cX3_digest_13 {i : Nat} {b : UInt8} (h : ([0xec, 0x03, 0x3e, 0x1d, 0x2a, 0xb4, 0x00, 0x18, 0xb6, 0x00] : List UInt8)[i]? = some b) : vy_8 cX3_digest (130 + i) b := vy_in (n := 10) (by decide +kernel) h
theorem vyb_cX3_digest_14 {i : Nat} {b : UInt8} (h : ([0x41, 0xa2, 0x00, 0x16, 0x1f, 0x2a, 0xb4, 0x00, 0x18, 0x1d] : List UInt8)[i]? = some b) : vy_8 cX3_digest (140 + i) b := vy_in (n := 10) (by decide +kernel) h
theorem vyb_cX3_digest_15 {i : Nat} {b : UInt8} (h : ([0xb6, 0x00, 0x90, 0xb8, 0x01, 0x41, 0x40, 0x84, 0x03, 0x01] : List UInt8)[i]? = some b) : vy_8 cX3_digest (150 + i) b := vy_in (n := 10) (by decide +kernel) h
theorem vyb_cX3_digest_16 {i : Nat} {b : UInt8} (h : ([0xa7, 0xff, 0xe5, 0x1f, 0x2a, 0x03, 0xb6, 0x01, 0x47, 0xb8] : List UInt8)[i]? = some b) : vy_8 cX3_digest (160 + i) b := vy_in (n := 10) (by decide +kernel) h
theorem vyb_cX3_digest_17 {i : Nat} {b : UInt8} (h : ([0x01, 0x4b, 0xb8, 0x01, 0x41, 0x40, 0x1f, 0x2a, 0x04, 0xb6] : List UInt8)[i]? = some b) : vy_8 cX3_digest (170 + i) b := vy_in (n := 10) (by decide +kernel) h
theorem vyb_cX3_digest_18 {i : Nat} {b : UInt8} (h : ([0x01, 0x47, 0xb8, 0x01, 0x4b, 0xb8, 0x01, 0x41, 0x40, 0x1f] : List UInt8)[i]? = some b) : vy_8 cX3_digest (180 + i) b := vy_in (n := 10) (by decide +kernel) h
theorem vyb_cX3_digest_19 {i : Nat} {b : UInt8} (h : ([0x2a, 0xb6, 0x01, 0x4e, 0xb8, 0x01, 0x4b, 0xb8, 0x01, 0x41] : List UInt8)[i]? = some b) : vy_8 cX3_digest (190 + i) b := vy_in (n := 10) (by decide +kernel) h
theorem vyb_cX3_digest_20 {i : Nat} {b : UInt8} (h : ([0xad] : List UInt8)[i]? = some b) : vy_8 cX3_digest (200 + i) b := vy_in (n := 1) (by decide +kernel) h
theorem dX3_digest_0 : decode cX3_digest 0 = Except.ok (Instr.ldc2_w 315, 3) := vyd_20 (vyb_cX3_digest_0 (i := 0) rfl) (vyb_cX3_digest_0 (i := 1) rfl) (vyb_cX3_digest_0 (i := 2) rfl) rfl
theorem dX3_digest_3 : decode cX3_digest 3 = Except.ok (Instr.lstore_n 1, 1) := vyd_64 (vyb_cX3_digest_0 (i := 3) rfl)
theorem dX3_digest_4 : decode cX3_digest 4 = Except.ok (Instr.aload_n 0, 1) := vyd_42 (vyb_cX3_digest_0 (i := 4) rfl)
theorem dX3_digest_5 : decode cX3_digest 5 = Except.ok (Instr.lload_n 1, 1) := vyd_31 (vyb_cX3_digest_0 (i := 5) rfl)
theorem dX3_digest_6 : decode cX3_digest 6 = Except.ok (Instr.iconst 0, 1) := vyd_3 (vyb_cX3_digest_0 (i := 6) rfl)
theorem dX3_digest_7 : decode cX3_digest 7 = Except.ok (Instr.invokevirtual 317, 3) := vyd_182 (vyb_cX3_digest_0 (i := 7) rfl) (vyb_cX3_digest_0 (i := 8) rfl) (vyb_cX3_digest_0 (i := 9) rfl) rfl
theorem dX3_digest_10 : decode cX3_digest 10 = Except.ok (Instr.lstore_n 1, 1) := vyd_64 (vyb_cX3_digest_1 (i := 0) rfl)
theorem dX3_digest_11 : decode cX3_digest 11 = Except.ok (Instr.aload_n 0, 1) := vyd_42 (vyb_cX3_digest_1 (i := 1) rfl)
theorem dX3_digest_12 : decode cX3_digest 12 = Except.ok (Instr.lload_n 1, 1) := vyd_31 (vyb_cX3_digest_1 (i := 2) rfl)
theorem dX3_digest_13 : decode cX3_digest 13 = Except.ok (Instr.iconst 1, 1) := vyd_4 (vyb_cX3_digest_1 (i := 3) rfl)
theorem dX3_digest_14 : decode cX3_digest 14 = Except.ok (Instr.invokevirtual 317, 3) := vyd_182 (vyb_cX3_digest_1 (i := 4) rfl) (vyb_cX3_digest_1 (i := 5) rfl) (vyb_cX3_digest_1 (i := 6) rfl) rfl
theorem dX3_digest_17 : decode cX3_digest 17 = Except.ok (Instr.lstore_n 1, 1) := vyd_64 (vyb_cX3_digest_1 (i := 7) rfl)
theorem dX3_digest_18 : decode cX3_digest 18 = Except.ok (Instr.iconst 0, 1) := vyd_3 (vyb_cX3_digest_1 (i := 8) rfl)
theorem dX3_digest_19 : decode cX3_digest 19 = Except.ok (Instr.istore_n 3, 1) := vyd_62 (vyb_cX3_digest_1 (i := 9) rfl)
theorem dX3_digest_20 : decode cX3_digest 20 = Except.ok (Instr.iload_n 3, 1) := vyd_29 (vyb_cX3_digest_2 (i := 0) rfl)
theorem dX3_digest_21 : decode cX3_digest 21 = Except.ok (Instr.bipush 9, 2) := vyd_16 (vyb_cX3_digest_2 (i := 1) rfl) (vyb_cX3_digest_2 (i := 2) rfl) (by decide +kernel)
theorem dX3_digest_23 : decode cX3_digest 23 = Except.ok (Instr.if_icmp .gt 37, 3) := vyd_163 (vyb_cX3_digest_2 (i := 3) rfl) (vyb_cX3_digest_2 (i := 4) rfl) (vyb_cX3_digest_2 (i := 5) rfl) (by decide +kernel)
theorem dX3_digest_26 : decode cX3_digest 26 = Except.ok (Instr.lload_n 1, 1) := vyd_31 (vyb_cX3_digest_2 (i := 6) rfl)
theorem dX3_digest_27 : decode cX3_digest 27 = Except.ok (Instr.aload_n 0, 1) := vyd_42 (vyb_cX3_digest_2 (i := 7) rfl)
theorem dX3_digest_28 : decode cX3_digest 28 = Except.ok (Instr.getfield 18, 3) := vyd_180 (vyb_cX3_digest_2 (i := 8) rfl) (vyb_cX3_digest_2 (i := 9) rfl) (vyb_cX3_digest_3 (i := 0) rfl) rfl
theorem dX3_digest_31 : decode cX3_digest 31 = Except.ok (Instr.iload_n 3, 1) := vyd_29 (vyb_cX3_digest_3 (i := 1) rfl)
theorem dX3_digest_32 : decode cX3_digest 32 = Except.ok (Instr.iconst 0, 1) := vyd_3 (vyb_cX3_digest_3 (i := 2) rfl)
theorem dX3_digest_33 : decode cX3_digest 33 = Except.ok (Instr.invokevirtual 138, 3) := vyd_182 (vyb_cX3_digest_3 (i := 3) rfl) (vyb_cX3_digest_3 (i := 4) rfl) (vyb_cX3_digest_3 (i := 5) rfl) rfl
theorem dX3_digest_36 : decode cX3_digest 36 = Except.ok (Instr.invokestatic 321, 3) := vyd_184 (vyb_cX3_digest_3 (i := 6) rfl) (vyb_cX3_digest_3 (i := 7) rfl) (vyb_cX3_digest_3 (i := 8) rfl) rfl
theorem dX3_digest_39 : decode cX3_digest 39 = Except.ok (Instr.lstore_n 1, 1) := vyd_64 (vyb_cX3_digest_3 (i := 9) rfl)
theorem dX3_digest_40 : decode cX3_digest 40 = Except.ok (Instr.lload_n 1, 1) := vyd_31 (vyb_cX3_digest_4 (i := 0) rfl)
theorem dX3_digest_41 : decode cX3_digest 41 = Except.ok (Instr.aload_n 0, 1) := vyd_42 (vyb_cX3_digest_4 (i := 1) rfl)
theorem dX3_digest_42 : decode cX3_digest 42 = Except.ok (Instr.getfield 18, 3) := vyd_180 (vyb_cX3_digest_4 (i := 2) rfl) (vyb_cX3_digest_4 (i := 3) rfl) (vyb_cX3_digest_4 (i := 4) rfl) rfl
theorem dX3_digest_45 : decode cX3_digest 45 = Except.ok (Instr.iload_n 3, 1) := vyd_29 (vyb_cX3_digest_4 (i := 5) rfl)
theorem dX3_digest_46 : decode cX3_digest 46 = Except.ok (Instr.iconst 1, 1) := vyd_4 (vyb_cX3_digest_4 (i := 6) rfl)
theorem dX3_digest_47 : decode cX3_digest 47 = Except.ok (Instr.invokevirtual 138, 3) := vyd_182 (vyb_cX3_digest_4 (i := 7) rfl) (vyb_cX3_digest_4 (i := 8) rfl) (vyb_cX3_digest_4 (i := 9) rfl) rfl
theorem dX3_digest_50 : decode cX3_digest 50 = Except.ok (Instr.invokestatic 321, 3) := vyd_184 (vyb_cX3_digest_5 (i := 0) rfl) (vyb_cX3_digest_5 (i := 1) rfl) (vyb_cX3_digest_5 (i := 2) rfl) rfl
theorem dX3_digest_53 : decode cX3_digest 53 = Except.ok (Instr.lstore_n 1, 1) := vyd_64 (vyb_cX3_digest_5 (i := 3) rfl)
theorem dX3_digest_54 : decode cX3_digest 54 = .ok (.iinc 3 1, 3) := by decide +kernel
theorem dX3_digest_57 : decode cX3_digest 57 = Except.ok (Instr.goto (-37), 3) := vyd_167 (vyb_cX3_digest_5 (i := 7) rfl) (vyb_cX3_digest_5 (i := 8) rfl) (vyb_cX3_digest_5 (i := 9) rfl) (by decide +kernel)
theorem dX3_digest_60 : decode cX3_digest 60 = Except.ok (Instr.aload_n 0, 1) := vyd_42 (vyb_cX3_digest_6 (i := 0) rfl)
theorem dX3_digest_61 : decode cX3_digest 61 = Except.ok (Instr.lload_n 1, 1) := vyd_31 (vyb_cX3_digest_6 (i := 1) rfl)
theorem dX3_digest_62 : decode cX3_digest 62 = Except.ok (Instr.iconst 0, 1) := vyd_3 (vyb_cX3_digest_6 (i := 2) rfl)
theorem dX3_digest_63 : decode cX3_digest 63 = Except.ok (Instr.invokevirtual 324, 3) := vyd_182 (vyb_cX3_digest_6 (i := 3) rfl) (vyb_cX3_digest_6 (i := 4) rfl) (vyb_cX3_digest_6 (i := 5) rfl) rfl
theorem dX3_digest_66 : decode cX3_digest 66 = Except.ok (Instr.lstore_n 1, 1) := vyd_64 (vyb_cX3_digest_6 (i := 6) rfl)
theorem dX3_digest_67 : decode cX3_digest 67 = Except.ok (Instr.aload_n 0, 1) := vyd_42 (vyb_cX3_digest_6 (i := 7) rfl)
theorem dX3_digest_68 : decode cX3_digest 68 = Except.ok (Instr.lload_n 1, 1) := vyd_31 (vyb_cX3_digest_6 (i := 8) rfl)
theorem dX3_digest_69 : decode cX3_digest 69 = Except.ok (Instr.iconst 1, 1) := vyd_4 (vyb_cX3_digest_6 (i := 9) rfl)
theorem dX3_digest_70 : decode cX3_digest 70 = Except.ok (Instr.invokevirtual 324, 3) := vyd_182 (vyb_cX3_digest_7 (i := 0) rfl) (vyb_cX3_digest_7 (i := 1) rfl) (vyb_cX3_digest_7 (i := 2) rfl) rfl
theorem dX3_digest_73 : decode cX3_digest 73 = Except.ok (Instr.lstore_n 1, 1) := vyd_64 (vyb_cX3_digest_7 (i := 3) rfl)
theorem dX3_digest_74 : decode cX3_digest 74 = Except.ok (Instr.iconst 0, 1) := vyd_3 (vyb_cX3_digest_7 (i := 4) rfl)
theorem dX3_digest_75 : decode cX3_digest 75 = Except.ok (Instr.istore_n 3, 1) := vyd_62 (vyb_cX3_digest_7 (i := 5) rfl)
theorem dX3_digest_76 : decode cX3_digest 76 = Except.ok (Instr.iload_n 3, 1) := vyd_29 (vyb_cX3_digest_7 (i := 6) rfl)
theorem dX3_digest_77 : decode cX3_digest 77 = Except.ok (Instr.bipush 7, 2) := vyd_16 (vyb_cX3_digest_7 (i := 7) rfl) (vyb_cX3_digest_7 (i := 8) rfl) (by decide +kernel)
theorem dX3_digest_79 : decode cX3_digest 79 = Except.ok (Instr.if_icmp .gt 19, 3) := vyd_163 (vyb_cX3_digest_7 (i := 9) rfl) (vyb_cX3_digest_8 (i := 0) rfl) (vyb_cX3_digest_8 (i := 1) rfl) (by decide +kernel)
theorem dX3_digest_82 : decode cX3_digest 82 = Except.ok (Instr.lload_n 1, 1) := vyd_31 (vyb_cX3_digest_8 (i := 2) rfl)
theorem dX3_digest_83 : decode cX3_digest 83 = Except.ok (Instr.aload_n 0, 1) := vyd_42 (vyb_cX3_digest_8 (i := 3) rfl)
theorem dX3_digest_84 : decode cX3_digest 84 = Except.ok (Instr.iload_n 3, 1) := vyd_29 (vyb_cX3_digest_8 (i := 4) rfl)
theorem dX3_digest_85 : decode cX3_digest 85 = Except.ok (Instr.invokevirtual 298, 3) := vyd_182 (vyb_cX3_digest_8 (i := 5) rfl) (vyb_cX3_digest_8 (i := 6) rfl) (vyb_cX3_digest_8 (i := 7) rfl) rfl
theorem dX3_digest_88 : decode cX3_digest 88 = Except.ok (Instr.invokestatic 321, 3) := vyd_184 (vyb_cX3_digest_8 (i := 8) rfl) (vyb_cX3_digest_8 (i := 9) rfl) (vyb_cX3_digest_9 (i := 0) rfl) rfl
theorem dX3_digest_91 : decode cX3_digest 91 = Except.ok (Instr.lstore_n 1, 1) := vyd_64 (vyb_cX3_digest_9 (i := 1) rfl)
theorem dX3_digest_92 : decode cX3_digest 92 = .ok (.iinc 3 1, 3) := by decide +kernel
theorem dX3_digest_95 : decode cX3_digest 95 = Except.ok (Instr.goto (-19), 3) := vyd_167 (vyb_cX3_digest_9 (i := 5) rfl) (vyb_cX3_digest_9 (i := 6) rfl) (vyb_cX3_digest_9 (i := 7) rfl) (by decide +kernel)
theorem dX3_digest_98 : decode cX3_digest 98 = Except.ok (Instr.aload_n 0, 1) := vyd_42 (vyb_cX3_digest_9 (i := 8) rfl)
theorem dX3_digest_99 : decode cX3_digest 99 = Except.ok (Instr.getfield 21, 3) := vyd_180 (vyb_cX3_digest_9 (i := 9) rfl) (vyb_cX3_digest_10 (i := 0) rfl) (vyb_cX3_digest_10 (i := 1) rfl) rfl
theorem dX3_digest_102 : decode cX3_digest 102 = Except.ok (Instr.invokevirtual 65, 3) := vyd_182 (vyb_cX3_digest_10 (i := 2) rfl) (vyb_cX3_digest_10 (i := 3) rfl) (vyb_cX3_digest_10 (i := 4) rfl) rfl
theorem dX3_digest_105 : decode cX3_digest 105 = Except.ok (Instr.iconst 1, 1) := vyd_4 (vyb_cX3_digest_10 (i := 5) rfl)
theorem dX3_digest_106 : decode cX3_digest 106 = Except.ok (Instr.isub, 1) := vyd_100 (vyb_cX3_digest_10 (i := 6) rfl)
theorem dX3_digest_107 : decode cX3_digest 107 = Except.ok (Instr.istore_n 3, 1) := vyd_62 (vyb_cX3_digest_10 (i := 7) rfl)
theorem dX3_digest_108 : decode cX3_digest 108 = Except.ok (Instr.iload_n 3, 1) := vyd_29 (vyb_cX3_digest_10 (i := 8) rfl)
theorem dX3_digest_109 : decode cX3_digest 109 = Except.ok (Instr.ifCond .lt 22, 3) := vyd_155 (vyb_cX3_digest_10 (i := 9) rfl) (vyb_cX3_digest_11 (i := 0) rfl) (vyb_cX3_digest_11 (i := 1) rfl) (by decide +kernel)
theorem dX3_digest_112 : decode cX3_digest 112 = Except.ok (Instr.lload_n 1, 1) := vyd_31 (vyb_cX3_digest_11 (i := 2) rfl)
theorem dX3_digest_113 : decode cX3_digest 113 = Except.ok (Instr.aload_n 0, 1) := vyd_42 (vyb_cX3_digest_11 (i := 3) rfl)
theorem dX3_digest_114 : decode cX3_digest 114 = Except.ok (Instr.getfield 21, 3) := vyd_180 (vyb_cX3_digest_11 (i := 4) rfl) (vyb_cX3_digest_11 (i := 5) rfl) (vyb_cX3_digest_11 (i := 6) rfl) rfl
theorem dX3_digest_117 : decode cX3_digest 117 = Except.ok (Instr.iload_n 3, 1) := vyd_29 (vyb_cX3_digest_11 (i := 7) rfl)
theorem dX3_digest_118 : decode cX3_digest 118 = Except.ok (Instr.invokevirtual 144, 3) := vyd_182 (vyb_cX3_digest_11 (i := 8) rfl) (vyb_cX3_digest_11 (i := 9) rfl) (vyb_cX3_digest_12 (i := 0) rfl) rfl
theorem dX3_digest_121 : decode cX3_digest 121 = Except.ok (Instr.invokestatic 321, 3) := vyd_184 (vyb_cX3_digest_12 (i := 1) rfl) (vyb_cX3_digest_12 (i := 2) rfl) (vyb_cX3_digest_12 (i := 3) rfl) rfl
theorem dX3_digest_124 : decode cX3_digest 124 = Except.ok (Instr.lstore_n 1, 1) := vyd_64 (vyb_cX3_digest_12 (i := 4) rfl)
theorem dX3_digest_125 : decode cX3_digest 125 = .ok (.iinc 3 (-1), 3) := by decide +kernel
theorem dX3_digest_128 : decode cX3_digest 128 = Except.ok (Instr.goto (-20), 3) := vyd_167 (vyb_cX3_digest_12 (i := 8) rfl) (vyb_cX3_digest_12 (i := 9) rfl) (vyb_cX3_digest_13 (i := 0) rfl) (by decide +kernel)
theorem dX3_digest_131 : decode cX3_digest 131 = Except.ok (Instr.iconst 0, 1) := vyd_3 (vyb_cX3_digest_13 (i := 1) rfl)
theorem dX3_digest_132 : decode cX3_digest 132 = Except.ok (Instr.istore_n 3, 1) := vyd_62 (vyb_cX3_digest_13 (i := 2) rfl)
theorem dX3_digest_133 : decode cX3_digest 133 = Except.ok (Instr.iload_n 3, 1) := vyd_29 (vyb_cX3_digest_13 (i := 3) rfl)
theorem dX3_digest_134 : decode cX3_digest 134 = Except.ok (Instr.aload_n 0, 1) := vyd_42 (vyb_cX3_digest_13 (i := 4) rfl)
theorem dX3_digest_135 : decode cX3_digest 135 = Except.ok (Instr.getfield 24, 3) := vyd_180 (vyb_cX3_digest_13 (i := 5) rfl) (vyb_cX3_digest_13 (i := 6) rfl) (vyb_cX3_digest_13 (i := 7) rfl) rfl
theorem dX3_digest_138 : decode cX3_digest 138 = Except.ok (Instr.invokevirtual 65, 3) := vyd_182 (vyb_cX3_digest_13 (i := 8) rfl) (vyb_cX3_digest_13 (i := 9) rfl) (vyb_cX3_digest_14 (i := 0) rfl) rfl
theorem dX3_digest_141 : decode cX3_digest 141 = Except.ok (Instr.if_icmp .ge 22, 3) := vyd_162 (vyb_cX3_digest_14 (i := 1) rfl) (vyb_cX3_digest_14 (i := 2) rfl) (vyb_cX3_digest_14 (i := 3) rfl) (by decide +kernel)
theorem dX3_digest_144 : decode cX3_digest 144 = Except.ok (Instr.lload_n 1, 1) := vyd_31 (vyb_cX3_digest_14 (i := 4) rfl)
theorem dX3_digest_145 : decode cX3_digest 145 = Except.ok (Instr.aload_n 0, 1) := vyd_42 (vyb_cX3_digest_14 (i := 5) rfl)
theorem dX3_digest_146 : decode cX3_digest 146 = Except.ok (Instr.getfield 24, 3) := vyd_180 (vyb_cX3_digest_14 (i := 6) rfl) (vyb_cX3_digest_14 (i := 7) rfl) (vyb_cX3_digest_14 (i := 8) rfl) rfl
theorem dX3_digest_149 : decode cX3_digest 149 = Except.ok (Instr.iload_n 3, 1) := vyd_29 (vyb_cX3_digest_14 (i := 9) rfl)
theorem dX3_digest_150 : decode cX3_digest 150 = Except.ok (Instr.invokevirtual 144, 3) := vyd_182 (vyb_cX3_digest_15 (i := 0) rfl) (vyb_cX3_digest_15 (i := 1) rfl) (vyb_cX3_digest_15 (i := 2) rfl) rfl
theorem dX3_digest_153 : decode cX3_digest 153 = Except.ok (Instr.invokestatic 321, 3) := vyd_184 (vyb_cX3_digest_15 (i := 3) rfl) (vyb_cX3_digest_15 (i := 4) rfl) (vyb_cX3_digest_15 (i := 5) rfl) rfl
theorem dX3_digest_156 : decode cX3_digest 156 = Except.ok (Instr.lstore_n 1, 1) := vyd_64 (vyb_cX3_digest_15 (i := 6) rfl)
theorem dX3_digest_157 : decode cX3_digest 157 = .ok (.iinc 3 1, 3) := by decide +kernel
theorem dX3_digest_160 : decode cX3_digest 160 = Except.ok (Instr.goto (-27), 3) := vyd_167 (vyb_cX3_digest_16 (i := 0) rfl) (vyb_cX3_digest_16 (i := 1) rfl) (vyb_cX3_digest_16 (i := 2) rfl) (by decide +kernel)
theorem dX3_digest_163 : decode cX3_digest 163 = Except.ok (Instr.lload_n 1, 1) := vyd_31 (vyb_cX3_digest_16 (i := 3) rfl)
theorem dX3_digest_164 : decode cX3_digest 164 = Except.ok (Instr.aload_n 0, 1) := vyd_42 (vyb_cX3_digest_16 (i := 4) rfl)
theorem dX3_digest_165 : decode cX3_digest 165 = Except.ok (Instr.iconst 0, 1) := vyd_3 (vyb_cX3_digest_16 (i := 5) rfl)
theorem dX3_digest_166 : decode cX3_digest 166 = Except.ok (Instr.invokevirtual 327, 3) := vyd_182 (vyb_cX3_digest_16 (i := 6) rfl) (vyb_cX3_digest_16 (i := 7) rfl) (vyb_cX3_digest_16 (i := 8) rfl) rfl
theorem dX3_digest_169 : decode cX3_digest 169 = Except.ok (Instr.invokestatic 331, 3) := vyd_184 (vyb_cX3_digest_16 (i := 9) rfl) (vyb_cX3_digest_17 (i := 0) rfl) (vyb_cX3_digest_17 (i := 1) rfl) rfl
theorem dX3_digest_172 : decode cX3_digest 172 = Except.ok (Instr.invokestatic 321, 3) := vyd_184 (vyb_cX3_digest_17 (i := 2) rfl) (vyb_cX3_digest_17 (i := 3) rfl) (vyb_cX3_digest_17 (i := 4) rfl) rfl
theorem dX3_digest_175 : decode cX3_digest 175 = Except.ok (Instr.lstore_n 1, 1) := vyd_64 (vyb_cX3_digest_17 (i := 5) rfl)
theorem dX3_digest_176 : decode cX3_digest 176 = Except.ok (Instr.lload_n 1, 1) := vyd_31 (vyb_cX3_digest_17 (i := 6) rfl)
theorem dX3_digest_177 : decode cX3_digest 177 = Except.ok (Instr.aload_n 0, 1) := vyd_42 (vyb_cX3_digest_17 (i := 7) rfl)
theorem dX3_digest_178 : decode cX3_digest 178 = Except.ok (Instr.iconst 1, 1) := vyd_4 (vyb_cX3_digest_17 (i := 8) rfl)
theorem dX3_digest_179 : decode cX3_digest 179 = Except.ok (Instr.invokevirtual 327, 3) := vyd_182 (vyb_cX3_digest_17 (i := 9) rfl) (vyb_cX3_digest_18 (i := 0) rfl) (vyb_cX3_digest_18 (i := 1) rfl) rfl
theorem dX3_digest_182 : decode cX3_digest 182 = Except.ok (Instr.invokestatic 331, 3) := vyd_184 (vyb_cX3_digest_18 (i := 2) rfl) (vyb_cX3_digest_18 (i := 3) rfl) (vyb_cX3_digest_18 (i := 4) rfl) rfl
theorem dX3_digest_185 : decode cX3_digest 185 = Except.ok (Instr.invokestatic 321, 3) := vyd_184 (vyb_cX3_digest_18 (i := 5) rfl) (vyb_cX3_digest_18 (i := 6) rfl) (vyb_cX3_digest_18 (i := 7) rfl) rfl
theorem dX3_digest_188 : decode cX3_digest 188 = Except.ok (Instr.lstore_n 1, 1) := vyd_64 (vyb_cX3_digest_18 (i := 8) rfl)
theorem dX3_digest_189 : decode cX3_digest 189 = Except.ok (Instr.lload_n 1, 1) := vyd_31 (vyb_cX3_digest_18 (i := 9) rfl)
theorem dX3_digest_190 : decode cX3_digest 190 = Except.ok (Instr.aload_n 0, 1) := vyd_42 (vyb_cX3_digest_19 (i := 0) rfl)
theorem dX3_digest_191 : decode cX3_digest 191 = Except.ok (Instr.invokevirtual 334, 3) := vyd_182 (vyb_cX3_digest_19 (i := 1) rfl) (vyb_cX3_digest_19 (i := 2) rfl) (vyb_cX3_digest_19 (i := 3) rfl) rfl
theorem dX3_digest_194 : decode cX3_digest 194 = Except.ok (Instr.invokestatic 331, 3) := vyd_184 (vyb_cX3_digest_19 (i := 4) rfl) (vyb_cX3_digest_19 (i := 5) rfl) (vyb_cX3_digest_19 (i := 6) rfl) rfl
theorem dX3_digest_197 : decode cX3_digest 197 = Except.ok (Instr.invokestatic 321, 3) := vyd_184 (vyb_cX3_digest_19 (i := 7) rfl) (vyb_cX3_digest_19 (i := 8) rfl) (vyb_cX3_digest_19 (i := 9) rfl) rfl
theorem dX3_digest_200 : decode cX3_digest 200 = Except.ok (Instr.lreturn, 1) := vyd_173 (vyb_cX3_digest_20 (i := 0) rfl)
theorem vyb_cX3_needWithin_0 {i : Nat} {b : UInt8} (h : ([0x1a, 0x1b, 0xa1, 0x00, 0x08, 0x1a, 0x1c, 0xa4, 0x00, 0x0e] : List UInt8)[i]? = some b) : vy_8 cX3_needWithin (0 + i) b := vy_in (n := 10) (by decide +kernel) h
theorem vyb_cX3_needWithin_1 {i : Nat} {b : UInt8} (h : ([0xbb, 0x01, 0x51, 0x59, 0x13, 0x01, 0x53, 0xb7, 0x01, 0x55] : List UInt8)[i]? = some b) : vy_8 cX3_needWithin (10 + i) b := vy_in (n := 10) (by decide +kernel) h
theorem vyb_cX3_needWithin_2 {i : Nat} {b : UInt8} (h : ([0xbf, 0xb1] : List UInt8)[i]? = some b) : vy_8 cX3_needWithin (20 + i) b := vy_in (n := 2) (by decide +kernel) h
theorem dX3_needWithin_0 : decode cX3_needWithin 0 = Except.ok (Instr.iload_n 0, 1) := vyd_26 (vyb_cX3_needWithin_0 (i := 0) rfl)
theorem dX3_needWithin_1 : decode cX3_needWithin 1 = Except.ok (Instr.iload_n 1, 1) := vyd_27 (vyb_cX3_needWithin_0 (i := 1) rfl)
theorem dX3_needWithin_2 : decode cX3_needWithin 2 = Except.ok (Instr.if_icmp .lt 8, 3) := vyd_161 (vyb_cX3_needWithin_0 (i := 2) rfl) (vyb_cX3_needWithin_0 (i := 3) rfl) (vyb_cX3_needWithin_0 (i := 4) rfl) (by decide +kernel)
theorem dX3_needWithin_5 : decode cX3_needWithin 5 = Except.ok (Instr.iload_n 0, 1) := vyd_26 (vyb_cX3_needWithin_0 (i := 5) rfl)
theorem dX3_needWithin_6 : decode cX3_needWithin 6 = Except.ok (Instr.iload_n 2, 1) := vyd_28 (vyb_cX3_needWithin_0 (i := 6) rfl)
theorem dX3_needWithin_7 : decode cX3_needWithin 7 = Except.ok (Instr.if_icmp .le 14, 3) := vyd_164 (vyb_cX3_needWithin_0 (i := 7) rfl) (vyb_cX3_needWithin_0 (i := 8) rfl) (vyb_cX3_needWithin_0 (i := 9) rfl) (by decide +kernel)
theorem dX3_needWithin_10 : decode cX3_needWithin 10 = Except.ok (Instr.new 337, 3) := vyd_187 (vyb_cX3_needWithin_1 (i := 0) rfl) (vyb_cX3_needWithin_1 (i := 1) rfl) (vyb_cX3_needWithin_1 (i := 2) rfl) rfl
theorem dX3_needWithin_13 : decode cX3_needWithin 13 = Except.ok (Instr.dup, 1) := vyd_89 (vyb_cX3_needWithin_1 (i := 3) rfl)
theorem dX3_needWithin_14 : decode cX3_needWithin 14 = Except.ok (Instr.ldc_w 339, 3) := vyd_19 (vyb_cX3_needWithin_1 (i := 4) rfl) (vyb_cX3_needWithin_1 (i := 5) rfl) (vyb_cX3_needWithin_1 (i := 6) rfl) rfl
theorem dX3_needWithin_17 : decode cX3_needWithin 17 = Except.ok (Instr.invokespecial 341, 3) := vyd_183 (vyb_cX3_needWithin_1 (i := 7) rfl) (vyb_cX3_needWithin_1 (i := 8) rfl) (vyb_cX3_needWithin_1 (i := 9) rfl) rfl
theorem dX3_needWithin_20 : decode cX3_needWithin 20 = Except.ok (Instr.athrow, 1) := vyd_191 (vyb_cX3_needWithin_2 (i := 0) rfl)
theorem dX3_needWithin_21 : decode cX3_needWithin 21 = Except.ok (Instr.return_, 1) := vyd_177 (vyb_cX3_needWithin_2 (i := 1) rfl)
theorem vyb_cX3_needTrack_0 {i : Nat} {b : UInt8} (h : ([0x1a, 0x99, 0x00, 0x13, 0x1a, 0x04, 0x9f, 0x00, 0x0e, 0xbb] : List UInt8)[i]? = some b) : vy_8 cX3_needTrack (0 + i) b := vy_in (n := 10) (by decide +kernel) h
theorem vyb_cX3_needTrack_1 {i : Nat} {b : UInt8} (h : ([0x01, 0x56, 0x59, 0x13, 0x01, 0x58, 0xb7, 0x01, 0x5a, 0xbf] : List UInt8)[i]? = some b) : vy_8 cX3_needTrack (10 + i) b := vy_in (n := 10) (by decide +kernel) h
theorem vyb_cX3_needTrack_2 {i : Nat} {b : UInt8} (h : ([0xb1] : List UInt8)[i]? = some b) : vy_8 cX3_needTrack (20 + i) b := vy_in (n := 1) (by decide +kernel) h
theorem dX3_needTrack_0 : decode cX3_needTrack 0 = Except.ok (Instr.iload_n 0, 1) := vyd_26 (vyb_cX3_needTrack_0 (i := 0) rfl)
theorem dX3_needTrack_1 : decode cX3_needTrack 1 = Except.ok (Instr.ifCond .eq 19, 3) := vyd_153 (vyb_cX3_needTrack_0 (i := 1) rfl) (vyb_cX3_needTrack_0 (i := 2) rfl) (vyb_cX3_needTrack_0 (i := 3) rfl) (by decide +kernel)
theorem dX3_needTrack_4 : decode cX3_needTrack 4 = Except.ok (Instr.iload_n 0, 1) := vyd_26 (vyb_cX3_needTrack_0 (i := 4) rfl)
theorem dX3_needTrack_5 : decode cX3_needTrack 5 = Except.ok (Instr.iconst 1, 1) := vyd_4 (vyb_cX3_needTrack_0 (i := 5) rfl)
theorem dX3_needTrack_6 : decode cX3_needTrack 6 = Except.ok (Instr.if_icmp .eq 14, 3) := vyd_159 (vyb_cX3_needTrack_0 (i := 6) rfl) (vyb_cX3_needTrack_0 (i := 7) rfl) (vyb_cX3_needTrack_0 (i := 8) rfl) (by decide +kernel)
theorem dX3_needTrack_9 : decode cX3_needTrack 9 = Except.ok (Instr.new 342, 3) := vyd_187 (vyb_cX3_needTrack_0 (i := 9) rfl) (vyb_cX3_needTrack_1 (i := 0) rfl) (vyb_cX3_needTrack_1 (i := 1) rfl) rfl
theorem dX3_needTrack_12 : decode cX3_needTrack 12 = Except.ok (Instr.dup, 1) := vyd_89 (vyb_cX3_needTrack_1 (i := 2) rfl)
theorem dX3_needTrack_13 : decode cX3_needTrack 13 = Except.ok (Instr.ldc_w 344, 3) := vyd_19 (vyb_cX3_needTrack_1 (i := 3) rfl) (vyb_cX3_needTrack_1 (i := 4) rfl) (vyb_cX3_needTrack_1 (i := 5) rfl) rfl
theorem dX3_needTrack_16 : decode cX3_needTrack 16 = Except.ok (Instr.invokespecial 346, 3) := vyd_183 (vyb_cX3_needTrack_1 (i := 6) rfl) (vyb_cX3_needTrack_1 (i := 7) rfl) (vyb_cX3_needTrack_1 (i := 8) rfl) rfl
theorem dX3_needTrack_19 : decode cX3_needTrack 19 = Except.ok (Instr.athrow, 1) := vyd_191 (vyb_cX3_needTrack_1 (i := 9) rfl)
theorem dX3_needTrack_20 : decode cX3_needTrack 20 = Except.ok (Instr.return_, 1) := vyd_177 (vyb_cX3_needTrack_2 (i := 0) rfl)
theorem vyb_cX3_needWalker_0 {i : Nat} {b : UInt8} (h : ([0x1a, 0x99, 0x00, 0x13, 0x1a, 0x04, 0x9f, 0x00, 0x0e, 0xbb] : List UInt8)[i]? = some b) : vy_8 cX3_needWalker (0 + i) b := vy_in (n := 10) (by decide +kernel) h
theorem vyb_cX3_needWalker_1 {i : Nat} {b : UInt8} (h : ([0x01, 0x56, 0x59, 0x13, 0x01, 0x5b, 0xb7, 0x01, 0x5a, 0xbf] : List UInt8)[i]? = some b) : vy_8 cX3_needWalker (10 + i) b := vy_in (n := 10) (by decide +kernel) h
theorem vyb_cX3_needWalker_2 {i : Nat} {b : UInt8} (h : ([0xb1] : List UInt8)[i]? = some b) : vy_8 cX3_needWalker (20 + i) b := vy_in (n := 1) (by decide +kernel) h
theorem dX3_needWalker_0 : decode cX3_needWalker 0 = Except.ok (Instr.iload_n 0, 1) := vyd_26 (vyb_cX3_needWalker_0 (i := 0) rfl)
theorem dX3_needWalker_1 : decode cX3_needWalker 1 = Except.ok (Instr.ifCond .eq 19, 3) := vyd_153 (vyb_cX3_needWalker_0 (i := 1) rfl) (vyb_cX3_needWalker_0 (i := 2) rfl) (vyb_cX3_needWalker_0 (i := 3) rfl) (by decide +kernel)
theorem dX3_needWalker_4 : decode cX3_needWalker 4 = Except.ok (Instr.iload_n 0, 1) := vyd_26 (vyb_cX3_needWalker_0 (i := 4) rfl)
theorem dX3_needWalker_5 : decode cX3_needWalker 5 = Except.ok (Instr.iconst 1, 1) := vyd_4 (vyb_cX3_needWalker_0 (i := 5) rfl)
theorem dX3_needWalker_6 : decode cX3_needWalker 6 = Except.ok (Instr.if_icmp .eq 14, 3) := vyd_159 (vyb_cX3_needWalker_0 (i := 6) rfl) (vyb_cX3_needWalker_0 (i := 7) rfl) (vyb_cX3_needWalker_0 (i := 8) rfl) (by decide +kernel)
theorem dX3_needWalker_9 : decode cX3_needWalker 9 = Except.ok (Instr.new 342, 3) := vyd_187 (vyb_cX3_needWalker_0 (i := 9) rfl) (vyb_cX3_needWalker_1 (i := 0) rfl) (vyb_cX3_needWalker_1 (i := 1) rfl) rfl
theorem dX3_needWalker_12 : decode cX3_needWalker 12 = Except.ok (Instr.dup, 1) := vyd_89 (vyb_cX3_needWalker_1 (i := 2) rfl)
theorem dX3_needWalker_13 : decode cX3_needWalker 13 = Except.ok (Instr.ldc_w 347, 3) := vyd_19 (vyb_cX3_needWalker_1 (i := 3) rfl) (vyb_cX3_needWalker_1 (i := 4) rfl) (vyb_cX3_needWalker_1 (i := 5) rfl) rfl
theorem dX3_needWalker_16 : decode cX3_needWalker 16 = Except.ok (Instr.invokespecial 346, 3) := vyd_183 (vyb_cX3_needWalker_1 (i := 6) rfl) (vyb_cX3_needWalker_1 (i := 7) rfl) (vyb_cX3_needWalker_1 (i := 8) rfl) rfl
theorem dX3_needWalker_19 : decode cX3_needWalker 19 = Except.ok (Instr.athrow, 1) := vyd_191 (vyb_cX3_needWalker_1 (i := 9) rfl)
theorem dX3_needWalker_20 : decode cX3_needWalker 20 = Except.ok (Instr.return_, 1) := vyd_177 (vyb_cX3_needWalker_2 (i := 0) rfl)
theorem vyb_cX3_needPlace_0 {i : Nat} {b : UInt8} (h : ([0x1a, 0x9b, 0x00, 0x08, 0x1a, 0x1b, 0xa4, 0x00, 0x0e, 0xbb] : List UInt8)[i]? = some b) : vy_8 cX3_needPlace (0 + i) b := vy_in (n := 10) (by decide +kernel) h
theorem vyb_cX3_needPlace_1 {i : Nat} {b : UInt8} (h : ([0x01, 0x56, 0x59, 0x13, 0x01, 0x5d, 0xb7, 0x01, 0x5a, 0xbf] : List UInt8)[i]? = some b) : vy_8 cX3_needPlace (10 + i) b := vy_in (n := 10) (by decide +kernel) h
theorem vyb_cX3_needPlace_2 {i : Nat} {b : UInt8} (h : ([0xb1] : List UInt8)[i]? = some b) : vy_8 cX3_needPlace (20 + i) b := vy_in (n := 1) (by decide +kernel) h
theorem dX3_needPlace_0 : decode cX3_needPlace 0 = Except.ok (Instr.iload_n 0, 1) := vyd_26 (vyb_cX3_needPlace_0 (i := 0) rfl)
theorem dX3_needPlace_1 : decode cX3_needPlace 1 = Except.ok (Instr.ifCond .lt 8, 3) := vyd_155 (vyb_cX3_needPlace_0 (i := 1) rfl) (vyb_cX3_needPlace_0 (i := 2) rfl) (vyb_cX3_needPlace_0 (i := 3) rfl) (by decide +kernel)
theorem dX3_needPlace_4 : decode cX3_needPlace 4 = Except.ok (Instr.iload_n 0, 1) := vyd_26 (vyb_cX3_needPlace_0 (i := 4) rfl)
theorem dX3_needPlace_5 : decode cX3_needPlace 5 = Except.ok (Instr.iload_n 1, 1) := vyd_27 (vyb_cX3_needPlace_0 (i := 5) rfl)
theorem dX3_needPlace_6 : decode cX3_needPlace 6 = Except.ok (Instr.if_icmp .le 14, 3) := vyd_164 (vyb_cX3_needPlace_0 (i := 6) rfl) (vyb_cX3_needPlace_0 (i := 7) rfl) (vyb_cX3_needPlace_0 (i := 8) rfl) (by decide +kernel)
theorem dX3_needPlace_9 : decode cX3_needPlace 9 = Except.ok (Instr.new 342, 3) := vyd_187 (vyb_cX3_needPlace_0 (i := 9) rfl) (vyb_cX3_needPlace_1 (i := 0) rfl) (vyb_cX3_needPlace_1 (i := 1) rfl) rfl
theorem dX3_needPlace_12 : decode cX3_needPlace 12 = Except.ok (Instr.dup, 1) := vyd_89 (vyb_cX3_needPlace_1 (i := 2) rfl)
theorem dX3_needPlace_13 : decode cX3_needPlace 13 = Except.ok (Instr.ldc_w 349, 3) := vyd_19 (vyb_cX3_needPlace_1 (i := 3) rfl) (vyb_cX3_needPlace_1 (i := 4) rfl) (vyb_cX3_needPlace_1 (i := 5) rfl) rfl
theorem dX3_needPlace_16 : decode cX3_needPlace 16 = Except.ok (Instr.invokespecial 346, 3) := vyd_183 (vyb_cX3_needPlace_1 (i := 6) rfl) (vyb_cX3_needPlace_1 (i := 7) rfl) (vyb_cX3_needPlace_1 (i := 8) rfl) rfl
theorem dX3_needPlace_19 : decode cX3_needPlace 19 = Except.ok (Instr.athrow, 1) := vyd_191 (vyb_cX3_needPlace_1 (i := 9) rfl)
theorem dX3_needPlace_20 : decode cX3_needPlace 20 = Except.ok (Instr.return_, 1) := vyd_177 (vyb_cX3_needPlace_2 (i := 0) rfl)
theorem vyb_cX3_needPiece_0 {i : Nat} {b : UInt8} (h : ([0x1a, 0x03, 0x10, 0x09, 0xb8, 0x00, 0x4c, 0x1b, 0x03, 0x10] : List UInt8)[i]? = some b) : vy_8 cX3_needPiece (0 + i) b := vy_in (n := 10) (by decide +kernel) h
theorem vyb_cX3_needPiece_1 {i : Nat} {b : UInt8} (h : ([0x63, 0xb8, 0x00, 0x4c, 0xb1] : List UInt8)[i]? = some b) : vy_8 cX3_needPiece (10 + i) b := vy_in (n := 5) (by decide +kernel) h
theorem dX3_needPiece_0 : decode cX3_needPiece 0 = Except.ok (Instr.iload_n 0, 1) := vyd_26 (vyb_cX3_needPiece_0 (i := 0) rfl)
theorem dX3_needPiece_1 : decode cX3_needPiece 1 = Except.ok (Instr.iconst 0, 1) := vyd_3 (vyb_cX3_needPiece_0 (i := 1) rfl)
theorem dX3_needPiece_2 : decode cX3_needPiece 2 = Except.ok (Instr.bipush 9, 2) := vyd_16 (vyb_cX3_needPiece_0 (i := 2) rfl) (vyb_cX3_needPiece_0 (i := 3) rfl) (by decide +kernel)
theorem dX3_needPiece_4 : decode cX3_needPiece 4 = Except.ok (Instr.invokestatic 76, 3) := vyd_184 (vyb_cX3_needPiece_0 (i := 4) rfl) (vyb_cX3_needPiece_0 (i := 5) rfl) (vyb_cX3_needPiece_0 (i := 6) rfl) rfl
theorem dX3_needPiece_7 : decode cX3_needPiece 7 = Except.ok (Instr.iload_n 1, 1) := vyd_27 (vyb_cX3_needPiece_0 (i := 7) rfl)
theorem dX3_needPiece_8 : decode cX3_needPiece 8 = Except.ok (Instr.iconst 0, 1) := vyd_3 (vyb_cX3_needPiece_0 (i := 8) rfl)
theorem dX3_needPiece_9 : decode cX3_needPiece 9 = Except.ok (Instr.bipush 99, 2) := vyd_16 (vyb_cX3_needPiece_0 (i := 9) rfl) (vyb_cX3_needPiece_1 (i := 0) rfl) (by decide +kernel)
theorem dX3_needPiece_11 : decode cX3_needPiece 11 = Except.ok (Instr.invokestatic 76, 3) := vyd_184 (vyb_cX3_needPiece_1 (i := 1) rfl) (vyb_cX3_needPiece_1 (i := 2) rfl) (vyb_cX3_needPiece_1 (i := 3) rfl) rfl
theorem dX3_needPiece_14 : decode cX3_needPiece 14 = Except.ok (Instr.return_, 1) := vyd_177 (vyb_cX3_needPiece_1 (i := 4) rfl)
theorem vyb_cX3_needKindOf_0 {i : Nat} {b : UInt8} (h : ([0x1b, 0x1a, 0x9a, 0x00, 0x07, 0x04, 0xa7, 0x00, 0x04, 0x03] : List UInt8)[i]? = some b) : vy_8 cX3_needKindOf (0 + i) b := vy_in (n := 10) (by decide +kernel) h
theorem vyb_cX3_needKindOf_1 {i : Nat} {b : UInt8} (h : ([0x10, 0x09, 0xb8, 0x00, 0x4c, 0xb1] : List UInt8)[i]? = some b) : vy_8 cX3_needKindOf (10 + i) b := vy_in (n := 6) (by decide +kernel) h
theorem dX3_needKindOf_0 : decode cX3_needKindOf 0 = Except.ok (Instr.iload_n 1, 1) := vyd_27 (vyb_cX3_needKindOf_0 (i := 0) rfl)
theorem dX3_needKindOf_1 : decode cX3_needKindOf 1 = Except.ok (Instr.iload_n 0, 1) := vyd_26 (vyb_cX3_needKindOf_0 (i := 1) rfl)
theorem dX3_needKindOf_2 : decode cX3_needKindOf 2 = Except.ok (Instr.ifCond .ne 7, 3) := vyd_154 (vyb_cX3_needKindOf_0 (i := 2) rfl) (vyb_cX3_needKindOf_0 (i := 3) rfl) (vyb_cX3_needKindOf_0 (i := 4) rfl) (by decide +kernel)
theorem dX3_needKindOf_5 : decode cX3_needKindOf 5 = Except.ok (Instr.iconst 1, 1) := vyd_4 (vyb_cX3_needKindOf_0 (i := 5) rfl)
theorem dX3_needKindOf_6 : decode cX3_needKindOf 6 = Except.ok (Instr.goto 4, 3) := vyd_167 (vyb_cX3_needKindOf_0 (i := 6) rfl) (vyb_cX3_needKindOf_0 (i := 7) rfl) (vyb_cX3_needKindOf_0 (i := 8) rfl) (by decide +kernel)
theorem dX3_needKindOf_9 : decode cX3_needKindOf 9 = Except.ok (Instr.iconst 0, 1) := vyd_3 (vyb_cX3_needKindOf_0 (i := 9) rfl)
theorem dX3_needKindOf_10 : decode cX3_needKindOf 10 = Except.ok (Instr.bipush 9, 2) := vyd_16 (vyb_cX3_needKindOf_1 (i := 0) rfl) (vyb_cX3_needKindOf_1 (i := 1) rfl) (by decide +kernel)
theorem dX3_needKindOf_12 : decode cX3_needKindOf 12 = Except.ok (Instr.invokestatic 76, 3) := vyd_184 (vyb_cX3_needKindOf_1 (i := 2) rfl) (vyb_cX3_needKindOf_1 (i := 3) rfl) (vyb_cX3_needKindOf_1 (i := 4) rfl) rfl
theorem dX3_needKindOf_15 : decode cX3_needKindOf 15 = Except.ok (Instr.return_, 1) := vyd_177 (vyb_cX3_needKindOf_1 (i := 5) rfl)
theorem vyb_cX3_needRoom_0 {i : Nat} {b : UInt8} (h : ([0x2a, 0x1b, 0xb6, 0x00, 0x3d, 0xb6, 0x00, 0x41, 0x1c, 0x60] : List UInt8)[i]? = some b) : vy_8 cX3_needRoom (0 + i) b := vy_in (n := 10) (by decide +kernel) h
theorem vyb_cX3_needRoom_1 {i : Nat} {b : UInt8} (h : ([0x10, 0x14, 0xa4, 0x00, 0x0e, 0xbb, 0x00, 0xee, 0x59, 0x13] : List UInt8)[i]? = some b) : vy_8 cX3_needRoom (10 + i) b := vy_in (n := 10) (by decide +kernel) h
theorem vyb_cX3_needRoom_2 {i : Nat} {b : UInt8} (h : ([0x01, 0x5f, 0xb7, 0x00, 0xf2, 0xbf, 0xb1] : List UInt8)[i]? = some b) : vy_8 cX3_needRoom (20 + i) b := vy_in (n := 7) (by decide +kernel) h
theorem dX3_needRoom_0 : decode cX3_needRoom 0 = Except.ok (Instr.aload_n 0, 1) := vyd_42 (vyb_cX3_needRoom_0 (i := 0) rfl)
theorem dX3_needRoom_1 : decode cX3_needRoom 1 = Except.ok (Instr.iload_n 1, 1) := vyd_27 (vyb_cX3_needRoom_0 (i := 1) rfl)
theorem dX3_needRoom_2 : decode cX3_needRoom 2 = Except.ok (Instr.invokevirtual 61, 3) := vyd_182 (vyb_cX3_needRoom_0 (i := 2) rfl) (vyb_cX3_needRoom_0 (i := 3) rfl) (vyb_cX3_needRoom_0 (i := 4) rfl) rfl
theorem dX3_needRoom_5 : decode cX3_needRoom 5 = Except.ok (Instr.invokevirtual 65, 3) := vyd_182 (vyb_cX3_needRoom_0 (i := 5) rfl) (vyb_cX3_needRoom_0 (i := 6) rfl) (vyb_cX3_needRoom_0 (i := 7) rfl) rfl
theorem dX3_needRoom_8 : decode cX3_needRoom 8 = Except.ok (Instr.iload_n 2, 1) := vyd_28 (vyb_cX3_needRoom_0 (i := 8) rfl)
theorem dX3_needRoom_9 : decode cX3_needRoom 9 = Except.ok (Instr.iadd, 1) := vyd_96 (vyb_cX3_needRoom_0 (i := 9) rfl)
theorem dX3_needRoom_10 : decode cX3_needRoom 10 = Except.ok (Instr.bipush 20, 2) := vyd_16 (vyb_cX3_needRoom_1 (i := 0) rfl) (vyb_cX3_needRoom_1 (i := 1) rfl) (by decide +kernel)
theorem dX3_needRoom_12 : decode cX3_needRoom 12 = Except.ok (Instr.if_icmp .le 14, 3) := vyd_164 (vyb_cX3_needRoom_1 (i := 2) rfl) (vyb_cX3_needRoom_1 (i := 3) rfl) (vyb_cX3_needRoom_1 (i := 4) rfl) (by decide +kernel)
theorem dX3_needRoom_15 : decode cX3_needRoom 15 = Except.ok (Instr.new 238, 3) := vyd_187 (vyb_cX3_needRoom_1 (i := 5) rfl) (vyb_cX3_needRoom_1 (i := 6) rfl) (vyb_cX3_needRoom_1 (i := 7) rfl) rfl
theorem dX3_needRoom_18 : decode cX3_needRoom 18 = Except.ok (Instr.dup, 1) := vyd_89 (vyb_cX3_needRoom_1 (i := 8) rfl)
theorem dX3_needRoom_19 : decode cX3_needRoom 19 = Except.ok (Instr.ldc_w 351, 3) := vyd_19 (vyb_cX3_needRoom_1 (i := 9) rfl) (vyb_cX3_needRoom_2 (i := 0) rfl) (vyb_cX3_needRoom_2 (i := 1) rfl) rfl
theorem dX3_needRoom_22 : decode cX3_needRoom 22 = Except.ok (Instr.invokespecial 242, 3) := vyd_183 (vyb_cX3_needRoom_2 (i := 2) rfl) (vyb_cX3_needRoom_2 (i := 3) rfl) (vyb_cX3_needRoom_2 (i := 4) rfl) rfl
theorem dX3_needRoom_25 : decode cX3_needRoom 25 = Except.ok (Instr.athrow, 1) := vyd_191 (vyb_cX3_needRoom_2 (i := 5) rfl)
theorem dX3_needRoom_26 : decode cX3_needRoom 26 = Except.ok (Instr.return_, 1) := vyd_177 (vyb_cX3_needRoom_2 (i := 6) rfl)
theorem vyb_cX3_needWalk_0 {i : Nat} {b : UInt8} (h : ([0x2a, 0xb4, 0x00, 0x1e, 0xb4, 0x01, 0x61, 0x9a, 0x00, 0x0e] : List UInt8)[i]? = some b) : vy_8 cX3_needWalk (0 + i) b := vy_in (n := 10) (by decide +kernel) h
theorem vyb_cX3_needWalk_1 {i : Nat} {b : UInt8} (h : ([0xbb, 0x00, 0xee, 0x59, 0x13, 0x01, 0x65, 0xb7, 0x00, 0xf2] : List UInt8)[i]? = some b) : vy_8 cX3_needWalk (10 + i) b := vy_in (n := 10) (by decide +kernel) h
theorem vyb_cX3_needWalk_2 {i : Nat} {b : UInt8} (h : ([0xbf, 0xb1] : List UInt8)[i]? = some b) : vy_8 cX3_needWalk (20 + i) b := vy_in (n := 2) (by decide +kernel) h
theorem dX3_needWalk_0 : decode cX3_needWalk 0 = Except.ok (Instr.aload_n 0, 1) := vyd_42 (vyb_cX3_needWalk_0 (i := 0) rfl)
theorem dX3_needWalk_1 : decode cX3_needWalk 1 = Except.ok (Instr.getfield 30, 3) := vyd_180 (vyb_cX3_needWalk_0 (i := 1) rfl) (vyb_cX3_needWalk_0 (i := 2) rfl) (vyb_cX3_needWalk_0 (i := 3) rfl) rfl
theorem dX3_needWalk_4 : decode cX3_needWalk 4 = Except.ok (Instr.getfield 353, 3) := vyd_180 (vyb_cX3_needWalk_0 (i := 4) rfl) (vyb_cX3_needWalk_0 (i := 5) rfl) (vyb_cX3_needWalk_0 (i := 6) rfl) rfl
theorem dX3_needWalk_7 : decode cX3_needWalk 7 = Except.ok (Instr.ifCond .ne 14, 3) := vyd_154 (vyb_cX3_needWalk_0 (i := 7) rfl) (vyb_cX3_needWalk_0 (i := 8) rfl) (vyb_cX3_needWalk_0 (i := 9) rfl) (by decide +kernel)
theorem dX3_needWalk_10 : decode cX3_needWalk 10 = Except.ok (Instr.new 238, 3) := vyd_187 (vyb_cX3_needWalk_1 (i := 0) rfl) (vyb_cX3_needWalk_1 (i := 1) rfl) (vyb_cX3_needWalk_1 (i := 2) rfl) rfl
theorem dX3_needWalk_13 : decode cX3_needWalk 13 = Except.ok (Instr.dup, 1) := vyd_89 (vyb_cX3_needWalk_1 (i := 3) rfl)
theorem dX3_needWalk_14 : decode cX3_needWalk 14 = Except.ok (Instr.ldc_w 357, 3) := vyd_19 (vyb_cX3_needWalk_1 (i := 4) rfl) (vyb_cX3_needWalk_1 (i := 5) rfl) (vyb_cX3_needWalk_1 (i := 6) rfl) rfl
theorem dX3_needWalk_17 : decode cX3_needWalk 17 = Except.ok (Instr.invokespecial 242, 3) := vyd_183 (vyb_cX3_needWalk_1 (i := 7) rfl) (vyb_cX3_needWalk_1 (i := 8) rfl) (vyb_cX3_needWalk_1 (i := 9) rfl) rfl
theorem dX3_needWalk_20 : decode cX3_needWalk 20 = Except.ok (Instr.athrow, 1) := vyd_191 (vyb_cX3_needWalk_2 (i := 0) rfl)
theorem dX3_needWalk_21 : decode cX3_needWalk 21 = Except.ok (Instr.return_, 1) := vyd_177 (vyb_cX3_needWalk_2 (i := 1) rfl)
theorem vyb_cX3_needSomewhere_0 {i : Nat} {b : UInt8} (h : ([0x2a, 0x1b, 0xb6, 0x00, 0xcb, 0xb4, 0x01, 0x67, 0x9a, 0x00] : List UInt8)[i]? = some b) : vy_8 cX3_needSomewhere (0 + i) b := vy_in (n := 10) (by decide +kernel) h
theorem vyb_cX3_needSomewhere_1 {i : Nat} {b : UInt8} (h : ([0x0e, 0xbb, 0x00, 0xee, 0x59, 0x13, 0x01, 0x6a, 0xb7, 0x00] : List UInt8)[i]? = some b) : vy_8 cX3_needSomewhere (10 + i) b := vy_in (n := 10) (by decide +kernel) h
theorem vyb_cX3_needSomewhere_2 {i : Nat} {b : UInt8} (h : ([0xf2, 0xbf, 0xb1] : List UInt8)[i]? = some b) : vy_8 cX3_needSomewhere (20 + i) b := vy_in (n := 3) (by decide +kernel) h
theorem dX3_needSomewhere_0 : decode cX3_needSomewhere 0 = Except.ok (Instr.aload_n 0, 1) := vyd_42 (vyb_cX3_needSomewhere_0 (i := 0) rfl)
theorem dX3_needSomewhere_1 : decode cX3_needSomewhere 1 = Except.ok (Instr.iload_n 1, 1) := vyd_27 (vyb_cX3_needSomewhere_0 (i := 1) rfl)
theorem dX3_needSomewhere_2 : decode cX3_needSomewhere 2 = Except.ok (Instr.invokevirtual 203, 3) := vyd_182 (vyb_cX3_needSomewhere_0 (i := 2) rfl) (vyb_cX3_needSomewhere_0 (i := 3) rfl) (vyb_cX3_needSomewhere_0 (i := 4) rfl) rfl
theorem dX3_needSomewhere_5 : decode cX3_needSomewhere 5 = Except.ok (Instr.getfield 359, 3) := vyd_180 (vyb_cX3_needSomewhere_0 (i := 5) rfl) (vyb_cX3_needSomewhere_0 (i := 6) rfl) (vyb_cX3_needSomewhere_0 (i := 7) rfl) rfl
theorem dX3_needSomewhere_8 : decode cX3_needSomewhere 8 = Except.ok (Instr.ifCond .ne 14, 3) := vyd_154 (vyb_cX3_needSomewhere_0 (i := 8) rfl) (vyb_cX3_needSomewhere_0 (i := 9) rfl) (vyb_cX3_needSomewhere_1 (i := 0) rfl) (by decide +kernel)
theorem dX3_needSomewhere_11 : decode cX3_needSomewhere 11 = Except.ok (Instr.new 238, 3) := vyd_187 (vyb_cX3_needSomewhere_1 (i := 1) rfl) (vyb_cX3_needSomewhere_1 (i := 2) rfl) (vyb_cX3_needSomewhere_1 (i := 3) rfl) rfl
theorem dX3_needSomewhere_14 : decode cX3_needSomewhere 14 = Except.ok (Instr.dup, 1) := vyd_89 (vyb_cX3_needSomewhere_1 (i := 4) rfl)
theorem dX3_needSomewhere_15 : decode cX3_needSomewhere 15 = Except.ok (Instr.ldc_w 362, 3) := vyd_19 (vyb_cX3_needSomewhere_1 (i := 5) rfl) (vyb_cX3_needSomewhere_1 (i := 6) rfl) (vyb_cX3_needSomewhere_1 (i := 7) rfl) rfl
theorem dX3_needSomewhere_18 : decode cX3_needSomewhere 18 = Except.ok (Instr.invokespecial 242, 3) := vyd_183 (vyb_cX3_needSomewhere_1 (i := 8) rfl) (vyb_cX3_needSomewhere_1 (i := 9) rfl) (vyb_cX3_needSomewhere_2 (i := 0) rfl) rfl
theorem dX3_needSomewhere_21 : decode cX3_needSomewhere 21 = Except.ok (Instr.athrow, 1) := vyd_191 (vyb_cX3_needSomewhere_2 (i := 1) rfl)
theorem dX3_needSomewhere_22 : decode cX3_needSomewhere 22 = Except.ok (Instr.return_, 1) := vyd_177 (vyb_cX3_needSomewhere_2 (i := 2) rfl)
theorem vyb_cX3_codeOf_0 {i : Nat} {b : UInt8} (h : ([0x1a, 0x9a, 0x00, 0x07, 0x03, 0xa7, 0x00, 0x09, 0x10, 0x64] : List UInt8)[i]? = some b) : vy_8 cX3_codeOf (0 + i) b := vy_in (n := 10) (by decide +kernel) h
theorem vyb_cX3_codeOf_1 {i : Nat} {b : UInt8} (h : ([0x1a, 0x68, 0x1b, 0x60, 0xac] : List UInt8)[i]? = some b) : vy_8 cX3_codeOf (10 + i) b := vy_in (n := 5) (by decide +kernel) h
theorem dX3_codeOf_0 : decode cX3_codeOf 0 = Except.ok (Instr.iload_n 0, 1) := vyd_26 (vyb_cX3_codeOf_0 (i := 0) rfl)
theorem dX3_codeOf_1 : decode cX3_codeOf 1 = Except.ok (Instr.ifCond .ne 7, 3) := vyd_154 (vyb_cX3_codeOf_0 (i := 1) rfl) (vyb_cX3_codeOf_0 (i := 2) rfl) (vyb_cX3_codeOf_0 (i := 3) rfl) (by decide +kernel)
theorem dX3_codeOf_4 : decode cX3_codeOf 4 = Except.ok (Instr.iconst 0, 1) := vyd_3 (vyb_cX3_codeOf_0 (i := 4) rfl)
theorem dX3_codeOf_5 : decode cX3_codeOf 5 = Except.ok (Instr.goto 9, 3) := vyd_167 (vyb_cX3_codeOf_0 (i := 5) rfl) (vyb_cX3_codeOf_0 (i := 6) rfl) (vyb_cX3_codeOf_0 (i := 7) rfl) (by decide +kernel)
theorem dX3_codeOf_8 : decode cX3_codeOf 8 = Except.ok (Instr.bipush 100, 2) := vyd_16 (vyb_cX3_codeOf_0 (i := 8) rfl) (vyb_cX3_codeOf_0 (i := 9) rfl) (by decide +kernel)
theorem dX3_codeOf_10 : decode cX3_codeOf 10 = Except.ok (Instr.iload_n 0, 1) := vyd_26 (vyb_cX3_codeOf_1 (i := 0) rfl)
theorem dX3_codeOf_11 : decode cX3_codeOf 11 = Except.ok (Instr.imul, 1) := vyd_104 (vyb_cX3_codeOf_1 (i := 1) rfl)
theorem dX3_codeOf_12 : decode cX3_codeOf 12 = Except.ok (Instr.iload_n 1, 1) := vyd_27 (vyb_cX3_codeOf_1 (i := 2) rfl)
theorem dX3_codeOf_13 : decode cX3_codeOf 13 = Except.ok (Instr.iadd, 1) := vyd_96 (vyb_cX3_codeOf_1 (i := 3) rfl)
theorem dX3_codeOf_14 : decode cX3_codeOf 14 = Except.ok (Instr.ireturn, 1) := vyd_172 (vyb_cX3_codeOf_1 (i := 4) rfl)
theorem vyb_cX3_kindOf_0 {i : Nat} {b : UInt8} (h : ([0x1a, 0x10, 0x64, 0x6c, 0xac] : List UInt8)[i]? = some b) : vy_8 cX3_kindOf (0 + i) b := vy_in (n := 5) (by decide +kernel) h
theorem dX3_kindOf_0 : decode cX3_kindOf 0 = Except.ok (Instr.iload_n 0, 1) := vyd_26 (vyb_cX3_kindOf_0 (i := 0) rfl)
theorem dX3_kindOf_1 : decode cX3_kindOf 1 = Except.ok (Instr.bipush 100, 2) := vyd_16 (vyb_cX3_kindOf_0 (i := 1) rfl) (vyb_cX3_kindOf_0 (i := 2) rfl) (by decide +kernel)
theorem dX3_kindOf_3 : decode cX3_kindOf 3 = Except.ok (Instr.idiv, 1) := vyd_108 (vyb_cX3_kindOf_0 (i := 3) rfl)
theorem dX3_kindOf_4 : decode cX3_kindOf 4 = Except.ok (Instr.ireturn, 1) := vyd_172 (vyb_cX3_kindOf_0 (i := 4) rfl)
theorem vyb_cX3_loadOf_0 {i : Nat} {b : UInt8} (h : ([0x1a, 0x10, 0x64, 0x70, 0xac] : List UInt8)[i]? = some b) : vy_8 cX3_loadOf (0 + i) b := vy_in (n := 5) (by decide +kernel) h
theorem dX3_loadOf_0 : decode cX3_loadOf 0 = Except.ok (Instr.iload_n 0, 1) := vyd_26 (vyb_cX3_loadOf_0 (i := 0) rfl)
theorem dX3_loadOf_1 : decode cX3_loadOf 1 = Except.ok (Instr.bipush 100, 2) := vyd_16 (vyb_cX3_loadOf_0 (i := 1) rfl) (vyb_cX3_loadOf_0 (i := 2) rfl) (by decide +kernel)
theorem dX3_loadOf_3 : decode cX3_loadOf 3 = Except.ok (Instr.irem, 1) := vyd_112 (vyb_cX3_loadOf_0 (i := 3) rfl)
theorem dX3_loadOf_4 : decode cX3_loadOf 4 = Except.ok (Instr.ireturn, 1) := vyd_172 (vyb_cX3_loadOf_0 (i := 4) rfl)
theorem vyb_cX3_slipOf_0 {i : Nat} {b : UInt8} (h : ([0x11, 0x03, 0xe8, 0x07, 0x1a, 0x68, 0x1b, 0x99, 0x00, 0x07] : List UInt8)[i]? = some b) : vy_8 cX3_slipOf (0 + i) b := vy_in (n := 10) (by decide +kernel) h
theorem vyb_cX3_slipOf_1 {i : Nat} {b : UInt8} (h : ([0x05, 0xa7, 0x00, 0x04, 0x03, 0x60, 0x1c, 0x99, 0x00, 0x07] : List UInt8)[i]? = some b) : vy_8 cX3_slipOf (10 + i) b := vy_in (n := 10) (by decide +kernel) h
theorem vyb_cX3_slipOf_2 {i : Nat} {b : UInt8} (h : ([0x04, 0xa7, 0x00, 0x04, 0x03, 0x60, 0x68, 0x1d, 0x60, 0xac] : List UInt8)[i]? = some b) : vy_8 cX3_slipOf (20 + i) b := vy_in (n := 10) (by decide +kernel) h
theorem dX3_slipOf_0 : decode cX3_slipOf 0 = Except.ok (Instr.sipush 1000, 3) := vyd_17 (vyb_cX3_slipOf_0 (i := 0) rfl) (vyb_cX3_slipOf_0 (i := 1) rfl) (vyb_cX3_slipOf_0 (i := 2) rfl) (by decide +kernel)
theorem dX3_slipOf_3 : decode cX3_slipOf 3 = Except.ok (Instr.iconst 4, 1) := vyd_7 (vyb_cX3_slipOf_0 (i := 3) rfl)
theorem dX3_slipOf_4 : decode cX3_slipOf 4 = Except.ok (Instr.iload_n 0, 1) := vyd_26 (vyb_cX3_slipOf_0 (i := 4) rfl)
theorem dX3_slipOf_5 : decode cX3_slipOf 5 = Except.ok (Instr.imul, 1) := vyd_104 (vyb_cX3_slipOf_0 (i := 5) rfl)
theorem dX3_slipOf_6 : decode cX3_slipOf 6 = Except.ok (Instr.iload_n 1, 1) := vyd_27 (vyb_cX3_slipOf_0 (i := 6) rfl)
theorem dX3_slipOf_7 : decode cX3_slipOf 7 = Except.ok (Instr.ifCond .eq 7, 3) := vyd_153 (vyb_cX3_slipOf_0 (i := 7) rfl) (vyb_cX3_slipOf_0 (i := 8) rfl) (vyb_cX3_slipOf_0 (i := 9) rfl) (by decide +kernel)
theorem dX3_slipOf_10 : decode cX3_slipOf 10 = Except.ok (Instr.iconst 2, 1) := vyd_5 (vyb_cX3_slipOf_1 (i := 0) rfl)
theorem dX3_slipOf_11 : decode cX3_slipOf 11 = Except.ok (Instr.goto 4, 3) := vyd_167 (vyb_cX3_slipOf_1 (i := 1) rfl) (vyb_cX3_slipOf_1 (i := 2) rfl) (vyb_cX3_slipOf_1 (i := 3) rfl) (by decide +kernel)
theorem dX3_slipOf_14 : decode cX3_slipOf 14 = Except.ok (Instr.iconst 0, 1) := vyd_3 (vyb_cX3_slipOf_1 (i := 4) rfl)
theorem dX3_slipOf_15 : decode cX3_slipOf 15 = Except.ok (Instr.iadd, 1) := vyd_96 (vyb_cX3_slipOf_1 (i := 5) rfl)
theorem dX3_slipOf_16 : decode cX3_slipOf 16 = Except.ok (Instr.iload_n 2, 1) := vyd_28 (vyb_cX3_slipOf_1 (i := 6) rfl)
theorem dX3_slipOf_17 : decode cX3_slipOf 17 = Except.ok (Instr.ifCond .eq 7, 3) := vyd_153 (vyb_cX3_slipOf_1 (i := 7) rfl) (vyb_cX3_slipOf_1 (i := 8) rfl) (vyb_cX3_slipOf_1 (i := 9) rfl) (by decide +kernel)
theorem dX3_slipOf_20 : decode cX3_slipOf 20 = Except.ok (Instr.iconst 1, 1) := vyd_4 (vyb_cX3_slipOf_2 (i := 0) rfl)
theorem dX3_slipOf_21 : decode cX3_slipOf 21 = Except.ok (Instr.goto 4, 3) := vyd_167 (vyb_cX3_slipOf_2 (i := 1) rfl) (vyb_cX3_slipOf_2 (i := 2) rfl) (vyb_cX3_slipOf_2 (i := 3) rfl) (by decide +kernel)
theorem dX3_slipOf_24 : decode cX3_slipOf 24 = Except.ok (Instr.iconst 0, 1) := vyd_3 (vyb_cX3_slipOf_2 (i := 4) rfl)
theorem dX3_slipOf_25 : decode cX3_slipOf 25 = Except.ok (Instr.iadd, 1) := vyd_96 (vyb_cX3_slipOf_2 (i := 5) rfl)
theorem dX3_slipOf_26 : decode cX3_slipOf 26 = Except.ok (Instr.imul, 1) := vyd_104 (vyb_cX3_slipOf_2 (i := 6) rfl)
theorem dX3_slipOf_27 : decode cX3_slipOf 27 = Except.ok (Instr.iload_n 3, 1) := vyd_29 (vyb_cX3_slipOf_2 (i := 7) rfl)
theorem dX3_slipOf_28 : decode cX3_slipOf 28 = Except.ok (Instr.iadd, 1) := vyd_96 (vyb_cX3_slipOf_2 (i := 8) rfl)
theorem dX3_slipOf_29 : decode cX3_slipOf 29 = Except.ok (Instr.ireturn, 1) := vyd_172 (vyb_cX3_slipOf_2 (i := 9) rfl)
theorem vyb_cX3_slipTrack_0 {i : Nat} {b : UInt8} (h : ([0x1a, 0x11, 0x0f, 0xa0, 0x6c, 0xac] : List UInt8)[i]? = some b) : vy_8 cX3_slipTrack (0 + i) b := vy_in (n := 6) (by decide +kernel) h
theorem dX3_slipTrack_0 : decode cX3_slipTrack 0 = Except.ok (Instr.iload_n 0, 1) := vyd_26 (vyb_cX3_slipTrack_0 (i := 0) rfl)
theorem dX3_slipTrack_1 : decode cX3_slipTrack 1 = Except.ok (Instr.sipush 4000, 3) := vyd_17 (vyb_cX3_slipTrack_0 (i := 1) rfl) (vyb_cX3_slipTrack_0 (i := 2) rfl) (vyb_cX3_slipTrack_0 (i := 3) rfl) (by decide +kernel)
theorem dX3_slipTrack_4 : decode cX3_slipTrack 4 = Except.ok (Instr.idiv, 1) := vyd_108 (vyb_cX3_slipTrack_0 (i := 4) rfl)
theorem dX3_slipTrack_5 : decode cX3_slipTrack 5 = Except.ok (Instr.ireturn, 1) := vyd_172 (vyb_cX3_slipTrack_0 (i := 5) rfl)
theorem vyb_cX3_slipIsBack_0 {i : Nat} {b : UInt8} (h : ([0x1a, 0x11, 0x07, 0xd0, 0x6c, 0x05, 0x70, 0x04, 0xa0, 0x00] : List UInt8)[i]? = some b) : vy_8 cX3_slipIsBack (0 + i) b := vy_in (n := 10) (by decide +kernel) h
theorem vyb_cX3_slipIsBack_1 {i : Nat} {b : UInt8} (h : ([0x07, 0x04, 0xa7, 0x00, 0x04, 0x03, 0xac] : List UInt8)[i]? = some b) : vy_8 cX3_slipIsBack (10 + i) b := vy_in (n := 7) (by decide +kernel) h
theorem dX3_slipIsBack_0 : decode cX3_slipIsBack 0 = Except.ok (Instr.iload_n 0, 1) := vyd_26 (vyb_cX3_slipIsBack_0 (i := 0) rfl)
theorem dX3_slipIsBack_1 : decode cX3_slipIsBack 1 = Except.ok (Instr.sipush 2000, 3) := vyd_17 (vyb_cX3_slipIsBack_0 (i := 1) rfl) (vyb_cX3_slipIsBack_0 (i := 2) rfl) (vyb_cX3_slipIsBack_0 (i := 3) rfl) (by decide +kernel)
theorem dX3_slipIsBack_4 : decode cX3_slipIsBack 4 = Except.ok (Instr.idiv, 1) := vyd_108 (vyb_cX3_slipIsBack_0 (i := 4) rfl)
theorem dX3_slipIsBack_5 : decode cX3_slipIsBack 5 = Except.ok (Instr.iconst 2, 1) := vyd_5 (vyb_cX3_slipIsBack_0 (i := 5) rfl)
theorem dX3_slipIsBack_6 : decode cX3_slipIsBack 6 = Except.ok (Instr.irem, 1) := vyd_112 (vyb_cX3_slipIsBack_0 (i := 6) rfl)
theorem dX3_slipIsBack_7 : decode cX3_slipIsBack 7 = Except.ok (Instr.iconst 1, 1) := vyd_4 (vyb_cX3_slipIsBack_0 (i := 7) rfl)
theorem dX3_slipIsBack_8 : decode cX3_slipIsBack 8 = Except.ok (Instr.if_icmp .ne 7, 3) := vyd_160 (vyb_cX3_slipIsBack_0 (i := 8) rfl) (vyb_cX3_slipIsBack_0 (i := 9) rfl) (vyb_cX3_slipIsBack_1 (i := 0) rfl) (by decide +kernel)
theorem dX3_slipIsBack_11 : decode cX3_slipIsBack 11 = Except.ok (Instr.iconst 1, 1) := vyd_4 (vyb_cX3_slipIsBack_1 (i := 1) rfl)
theorem dX3_slipIsBack_12 : decode cX3_slipIsBack 12 = Except.ok (Instr.goto 4, 3) := vyd_167 (vyb_cX3_slipIsBack_1 (i := 2) rfl) (vyb_cX3_slipIsBack_1 (i := 3) rfl) (vyb_cX3_slipIsBack_1 (i := 4) rfl) (by decide +kernel)
theorem dX3_slipIsBack_15 : decode cX3_slipIsBack 15 = Except.ok (Instr.iconst 0, 1) := vyd_3 (vyb_cX3_slipIsBack_1 (i := 5) rfl)
theorem dX3_slipIsBack_16 : decode cX3_slipIsBack 16 = Except.ok (Instr.ireturn, 1) := vyd_172 (vyb_cX3_slipIsBack_1 (i := 6) rfl)
theorem vyb_cX3_slipIsPut_0 {i : Nat} {b : UInt8} (h : ([0x1a, 0x11, 0x03, 0xe8, 0x6c, 0x05, 0x70, 0x04, 0xa0, 0x00] : List UInt8)[i]? = some b) : vy_8 cX3_slipIsPut (0 + i) b := vy_in (n := 10) (by decide +kernel) h
theorem vyb_cX3_slipIsPut_1 {i : Nat} {b : UInt8} (h : ([0x07, 0x04, 0xa7, 0x00, 0x04, 0x03, 0xac] : List UInt8)[i]? = some b) : vy_8 cX3_slipIsPut (10 + i) b := vy_in (n := 7) (by decide +kernel) h
theorem dX3_slipIsPut_0 : decode cX3_slipIsPut 0 = Except.ok (Instr.iload_n 0, 1) := vyd_26 (vyb_cX3_slipIsPut_0 (i := 0) rfl)
theorem dX3_slipIsPut_1 : decode cX3_slipIsPut 1 = Except.ok (Instr.sipush 1000, 3) := vyd_17 (vyb_cX3_slipIsPut_0 (i := 1) rfl) (vyb_cX3_slipIsPut_0 (i := 2) rfl) (vyb_cX3_slipIsPut_0 (i := 3) rfl) (by decide +kernel)
theorem dX3_slipIsPut_4 : decode cX3_slipIsPut 4 = Except.ok (Instr.idiv, 1) := vyd_108 (vyb_cX3_slipIsPut_0 (i := 4) rfl)
theorem dX3_slipIsPut_5 : decode cX3_slipIsPut 5 = Except.ok (Instr.iconst 2, 1) := vyd_5 (vyb_cX3_slipIsPut_0 (i := 5) rfl)
theorem dX3_slipIsPut_6 : decode cX3_slipIsPut 6 = Except.ok (Instr.irem, 1) := vyd_112 (vyb_cX3_slipIsPut_0 (i := 6) rfl)
theorem dX3_slipIsPut_7 : decode cX3_slipIsPut 7 = Except.ok (Instr.iconst 1, 1) := vyd_4 (vyb_cX3_slipIsPut_0 (i := 7) rfl)
theorem dX3_slipIsPut_8 : decode cX3_slipIsPut 8 = Except.ok (Instr.if_icmp .ne 7, 3) := vyd_160 (vyb_cX3_slipIsPut_0 (i := 8) rfl) (vyb_cX3_slipIsPut_0 (i := 9) rfl) (vyb_cX3_slipIsPut_1 (i := 0) rfl) (by decide +kernel)
theorem dX3_slipIsPut_11 : decode cX3_slipIsPut 11 = Except.ok (Instr.iconst 1, 1) := vyd_4 (vyb_cX3_slipIsPut_1 (i := 1) rfl)
theorem dX3_slipIsPut_12 : decode cX3_slipIsPut 12 = Except.ok (Instr.goto 4, 3) := vyd_167 (vyb_cX3_slipIsPut_1 (i := 2) rfl) (vyb_cX3_slipIsPut_1 (i := 3) rfl) (vyb_cX3_slipIsPut_1 (i := 4) rfl) (by decide +kernel)
theorem dX3_slipIsPut_15 : decode cX3_slipIsPut 15 = Except.ok (Instr.iconst 0, 1) := vyd_3 (vyb_cX3_slipIsPut_1 (i := 5) rfl)
theorem dX3_slipIsPut_16 : decode cX3_slipIsPut 16 = Except.ok (Instr.ireturn, 1) := vyd_172 (vyb_cX3_slipIsPut_1 (i := 6) rfl)
theorem vyb_cX3_slipCode_0 {i : Nat} {b : UInt8} (h : ([0x1a, 0x11, 0x03, 0xe8, 0x70, 0xac] : List UInt8)[i]? = some b) : vy_8 cX3_slipCode (0 + i) b := vy_in (n := 6) (by decide +kernel) h
theorem dX3_slipCode_0 : decode cX3_slipCode 0 = Except.ok (Instr.iload_n 0, 1) := vyd_26 (vyb_cX3_slipCode_0 (i := 0) rfl)
theorem dX3_slipCode_1 : decode cX3_slipCode 1 = Except.ok (Instr.sipush 1000, 3) := vyd_17 (vyb_cX3_slipCode_0 (i := 1) rfl) (vyb_cX3_slipCode_0 (i := 2) rfl) (vyb_cX3_slipCode_0 (i := 3) rfl) (by decide +kernel)
theorem dX3_slipCode_4 : decode cX3_slipCode 4 = Except.ok (Instr.irem, 1) := vyd_112 (vyb_cX3_slipCode_0 (i := 4) rfl)
theorem dX3_slipCode_5 : decode cX3_slipCode 5 = Except.ok (Instr.ireturn, 1) := vyd_172 (vyb_cX3_slipCode_0 (i := 5) rfl)
theorem vyb_cX3_oneIf_0 {i : Nat} {b : UInt8} (h : ([0x1a, 0x99, 0x00, 0x07, 0x04, 0xa7, 0x00, 0x04, 0x03, 0xac] : List UInt8)[i]? = some b) : vy_8 cX3_oneIf (0 + i) b := vy_in (n := 10) (by decide +kernel) h
theorem dX3_oneIf_0 : decode cX3_oneIf 0 = Except.ok (Instr.iload_n 0, 1) := vyd_26 (vyb_cX3_oneIf_0 (i := 0) rfl)
theorem dX3_oneIf_1 : decode cX3_oneIf 1 = Except.ok (Instr.ifCond .eq 7, 3) := vyd_153 (vyb_cX3_oneIf_0 (i := 1) rfl) (vyb_cX3_oneIf_0 (i := 2) rfl) (vyb_cX3_oneIf_0 (i := 3) rfl) (by decide +kernel)
theorem dX3_oneIf_4 : decode cX3_oneIf 4 = Except.ok (Instr.iconst 1, 1) := vyd_4 (vyb_cX3_oneIf_0 (i := 4) rfl)
theorem dX3_oneIf_5 : decode cX3_oneIf 5 = Except.ok (Instr.goto 4, 3) := vyd_167 (vyb_cX3_oneIf_0 (i := 5) rfl) (vyb_cX3_oneIf_0 (i := 6) rfl) (vyb_cX3_oneIf_0 (i := 7) rfl) (by decide +kernel)
theorem dX3_oneIf_8 : decode cX3_oneIf 8 = Except.ok (Instr.iconst 0, 1) := vyd_3 (vyb_cX3_oneIf_0 (i := 8) rfl)
theorem dX3_oneIf_9 : decode cX3_oneIf 9 = Except.ok (Instr.ireturn, 1) := vyd_172 (vyb_cX3_oneIf_0 (i := 9) rfl)
theorem vyb_cX3_trackOf_0 {i : Nat} {b : UInt8} (h : ([0x1b, 0x9a, 0x00, 0x0a, 0x2a, 0xb4, 0x00, 0x0e, 0xa7, 0x00] : List UInt8)[i]? = some b) : vy_8 cX3_trackOf (0 + i) b := vy_in (n := 10) (by decide +kernel) h
theorem vyb_cX3_trackOf_1 {i : Nat} {b : UInt8} (h : ([0x07, 0x2a, 0xb4, 0x00, 0x12, 0xb0] : List UInt8)[i]? = some b) : vy_8 cX3_trackOf (10 + i) b := vy_in (n := 6) (by decide +kernel) h
theorem dX3_trackOf_0 : decode cX3_trackOf 0 = Except.ok (Instr.iload_n 1, 1) := vyd_27 (vyb_cX3_trackOf_0 (i := 0) rfl)
theorem dX3_trackOf_1 : decode cX3_trackOf 1 = Except.ok (Instr.ifCond .ne 10, 3) := vyd_154 (vyb_cX3_trackOf_0 (i := 1) rfl) (vyb_cX3_trackOf_0 (i := 2) rfl) (vyb_cX3_trackOf_0 (i := 3) rfl) (by decide +kernel)
theorem dX3_trackOf_4 : decode cX3_trackOf 4 = Except.ok (Instr.aload_n 0, 1) := vyd_42 (vyb_cX3_trackOf_0 (i := 4) rfl)
theorem dX3_trackOf_5 : decode cX3_trackOf 5 = Except.ok (Instr.getfield 14, 3) := vyd_180 (vyb_cX3_trackOf_0 (i := 5) rfl) (vyb_cX3_trackOf_0 (i := 6) rfl) (vyb_cX3_trackOf_0 (i := 7) rfl) rfl
theorem dX3_trackOf_8 : decode cX3_trackOf 8 = Except.ok (Instr.goto 7, 3) := vyd_167 (vyb_cX3_trackOf_0 (i := 8) rfl) (vyb_cX3_trackOf_0 (i := 9) rfl) (vyb_cX3_trackOf_1 (i := 0) rfl) (by decide +kernel)
theorem dX3_trackOf_11 : decode cX3_trackOf 11 = Except.ok (Instr.aload_n 0, 1) := vyd_42 (vyb_cX3_trackOf_1 (i := 1) rfl)
theorem dX3_trackOf_12 : decode cX3_trackOf 12 = Except.ok (Instr.getfield 18, 3) := vyd_180 (vyb_cX3_trackOf_1 (i := 2) rfl) (vyb_cX3_trackOf_1 (i := 3) rfl) (vyb_cX3_trackOf_1 (i := 4) rfl) rfl
theorem dX3_trackOf_15 : decode cX3_trackOf 15 = Except.ok (Instr.areturn, 1) := vyd_176 (vyb_cX3_trackOf_1 (i := 5) rfl)
theorem vyb_cX3_walkerOf_0 {i : Nat} {b : UInt8} (h : ([0x1b, 0x9a, 0x00, 0x0a, 0x2a, 0xb4, 0x00, 0x25, 0xa7, 0x00] : List UInt8)[i]? = some b) : vy_8 cX3_walkerOf (0 + i) b := vy_in (n := 10) (by decide +kernel) h
theorem vyb_cX3_walkerOf_1 {i : Nat} {b : UInt8} (h : ([0x07, 0x2a, 0xb4, 0x00, 0x29, 0xb0] : List UInt8)[i]? = some b) : vy_8 cX3_walkerOf (10 + i) b := vy_in (n := 6) (by decide +kernel) h
theorem dX3_walkerOf_0 : decode cX3_walkerOf 0 = Except.ok (Instr.iload_n 1, 1) := vyd_27 (vyb_cX3_walkerOf_0 (i := 0) rfl)
theorem dX3_walkerOf_1 : decode cX3_walkerOf 1 = Except.ok (Instr.ifCond .ne 10, 3) := vyd_154 (vyb_cX3_walkerOf_0 (i := 1) rfl) (vyb_cX3_walkerOf_0 (i := 2) rfl) (vyb_cX3_walkerOf_0 (i := 3) rfl) (by decide +kernel)
theorem dX3_walkerOf_4 : decode cX3_walkerOf 4 = Except.ok (Instr.aload_n 0, 1) := vyd_42 (vyb_cX3_walkerOf_0 (i := 4) rfl)
theorem dX3_walkerOf_5 : decode cX3_walkerOf 5 = Except.ok (Instr.getfield 37, 3) := vyd_180 (vyb_cX3_walkerOf_0 (i := 5) rfl) (vyb_cX3_walkerOf_0 (i := 6) rfl) (vyb_cX3_walkerOf_0 (i := 7) rfl) rfl
theorem dX3_walkerOf_8 : decode cX3_walkerOf 8 = Except.ok (Instr.goto 7, 3) := vyd_167 (vyb_cX3_walkerOf_0 (i := 8) rfl) (vyb_cX3_walkerOf_0 (i := 9) rfl) (vyb_cX3_walkerOf_1 (i := 0) rfl) (by decide +kernel)
theorem dX3_walkerOf_11 : decode cX3_walkerOf 11 = Except.ok (Instr.aload_n 0, 1) := vyd_42 (vyb_cX3_walkerOf_1 (i := 1) rfl)
theorem dX3_walkerOf_12 : decode cX3_walkerOf 12 = Except.ok (Instr.getfield 41, 3) := vyd_180 (vyb_cX3_walkerOf_1 (i := 2) rfl) (vyb_cX3_walkerOf_1 (i := 3) rfl) (vyb_cX3_walkerOf_1 (i := 4) rfl) rfl
theorem dX3_walkerOf_15 : decode cX3_walkerOf 15 = Except.ok (Instr.areturn, 1) := vyd_176 (vyb_cX3_walkerOf_1 (i := 5) rfl)
theorem vyb_cX3_bringPiece_0 {i : Nat} {b : UInt8} (h : ([0x1b, 0xb8, 0x00, 0x45, 0x1d, 0x15, 0x04, 0xb8, 0x00, 0xbc] : List UInt8)[i]? = some b) : vy_8 cX3_bringPiece (0 + i) b := vy_in (n := 10) (by decide +kernel) h
theorem vyb_cX3_bringPiece_1 {i : Nat} {b : UInt8} (h : ([0x2a, 0x1b, 0x04, 0xb6, 0x00, 0x50, 0x1b, 0x9a, 0x00, 0x09] : List UInt8)[i]? = some b) : vy_8 cX3_bringPiece (10 + i) b := vy_in (n := 10) (by decide +kernel) h
theorem vyb_cX3_bringPiece_2 {i : Nat} {b : UInt8} (h : ([0x1d, 0x9a, 0x00, 0x05, 0x03, 0xac, 0x2a, 0x1b, 0x1c, 0x1d] : List UInt8)[i]? = some b) : vy_8 cX3_bringPiece (20 + i) b := vy_in (n := 10) (by decide +kernel) h
theorem vyb_cX3_bringPiece_3 {i : Nat} {b : UInt8} (h : ([0x15, 0x04, 0xb8, 0x00, 0x54, 0xb6, 0x00, 0x58, 0x04, 0xac] : List UInt8)[i]? = some b) : vy_8 cX3_bringPiece (30 + i) b := vy_in (n := 10) (by decide +kernel) h
theorem dX3_bringPiece_0 : decode cX3_bringPiece 0 = Except.ok (Instr.iload_n 1, 1) := vyd_27 (vyb_cX3_bringPiece_0 (i := 0) rfl)
theorem dX3_bringPiece_1 : decode cX3_bringPiece 1 = Except.ok (Instr.invokestatic 69, 3) := vyd_184 (vyb_cX3_bringPiece_0 (i := 1) rfl) (vyb_cX3_bringPiece_0 (i := 2) rfl) (vyb_cX3_bringPiece_0 (i := 3) rfl) rfl
theorem dX3_bringPiece_4 : decode cX3_bringPiece 4 = Except.ok (Instr.iload_n 3, 1) := vyd_29 (vyb_cX3_bringPiece_0 (i := 4) rfl)
theorem dX3_bringPiece_5 : decode cX3_bringPiece 5 = Except.ok (Instr.iload 4, 2) := vyd_21 (vyb_cX3_bringPiece_0 (i := 5) rfl) (vyb_cX3_bringPiece_0 (i := 6) rfl) rfl
theorem dX3_bringPiece_7 : decode cX3_bringPiece 7 = Except.ok (Instr.invokestatic 188, 3) := vyd_184 (vyb_cX3_bringPiece_0 (i := 7) rfl) (vyb_cX3_bringPiece_0 (i := 8) rfl) (vyb_cX3_bringPiece_0 (i := 9) rfl) rfl
theorem dX3_bringPiece_10 : decode cX3_bringPiece 10 = Except.ok (Instr.aload_n 0, 1) := vyd_42 (vyb_cX3_bringPiece_1 (i := 0) rfl)
theorem dX3_bringPiece_11 : decode cX3_bringPiece 11 = Except.ok (Instr.iload_n 1, 1) := vyd_27 (vyb_cX3_bringPiece_1 (i := 1) rfl)
theorem dX3_bringPiece_12 : decode cX3_bringPiece 12 = Except.ok (Instr.iconst 1, 1) := vyd_4 (vyb_cX3_bringPiece_1 (i := 2) rfl)
theorem dX3_bringPiece_13 : decode cX3_bringPiece 13 = Except.ok (Instr.invokevirtual 80, 3) := vyd_182 (vyb_cX3_bringPiece_1 (i := 3) rfl) (vyb_cX3_bringPiece_1 (i := 4) rfl) (vyb_cX3_bringPiece_1 (i := 5) rfl) rfl
theorem dX3_bringPiece_16 : decode cX3_bringPiece 16 = Except.ok (Instr.iload_n 1, 1) := vyd_27 (vyb_cX3_bringPiece_1 (i := 6) rfl)
theorem dX3_bringPiece_17 : decode cX3_bringPiece 17 = Except.ok (Instr.ifCond .ne 9, 3) := vyd_154 (vyb_cX3_bringPiece_1 (i := 7) rfl) (vyb_cX3_bringPiece_1 (i := 8) rfl) (vyb_cX3_bringPiece_1 (i := 9) rfl) (by decide +kernel)
theorem dX3_bringPiece_20 : decode cX3_bringPiece 20 = Except.ok (Instr.iload_n 3, 1) := vyd_29 (vyb_cX3_bringPiece_2 (i := 0) rfl)
theorem dX3_bringPiece_21 : decode cX3_bringPiece 21 = Except.ok (Instr.ifCond .ne 5, 3) := vyd_154 (vyb_cX3_bringPiece_2 (i := 1) rfl) (vyb_cX3_bringPiece_2 (i := 2) rfl) (vyb_cX3_bringPiece_2 (i := 3) rfl) (by decide +kernel)
theorem dX3_bringPiece_24 : decode cX3_bringPiece 24 = Except.ok (Instr.iconst 0, 1) := vyd_3 (vyb_cX3_bringPiece_2 (i := 4) rfl)
theorem dX3_bringPiece_25 : decode cX3_bringPiece 25 = Except.ok (Instr.ireturn, 1) := vyd_172 (vyb_cX3_bringPiece_2 (i := 5) rfl)
theorem dX3_bringPiece_26 : decode cX3_bringPiece 26 = Except.ok (Instr.aload_n 0, 1) := vyd_42 (vyb_cX3_bringPiece_2 (i := 6) rfl)
theorem dX3_bringPiece_27 : decode cX3_bringPiece 27 = Except.ok (Instr.iload_n 1, 1) := vyd_27 (vyb_cX3_bringPiece_2 (i := 7) rfl)
theorem dX3_bringPiece_28 : decode cX3_bringPiece 28 = Except.ok (Instr.iload_n 2, 1) := vyd_28 (vyb_cX3_bringPiece_2 (i := 8) rfl)
theorem dX3_bringPiece_29 : decode cX3_bringPiece 29 = Except.ok (Instr.iload_n 3, 1) := vyd_29 (vyb_cX3_bringPiece_2 (i := 9) rfl)
theorem dX3_bringPiece_30 : decode cX3_bringPiece 30 = Except.ok (Instr.iload 4, 2) := vyd_21 (vyb_cX3_bringPiece_3 (i := 0) rfl) (vyb_cX3_bringPiece_3 (i := 1) rfl) rfl
theorem dX3_bringPiece_32 : decode cX3_bringPiece 32 = Except.ok (Instr.invokestatic 84, 3) := vyd_184 (vyb_cX3_bringPiece_3 (i := 2) rfl) (vyb_cX3_bringPiece_3 (i := 3) rfl) (vyb_cX3_bringPiece_3 (i := 4) rfl) rfl
theorem dX3_bringPiece_35 : decode cX3_bringPiece 35 = Except.ok (Instr.invokevirtual 88, 3) := vyd_182 (vyb_cX3_bringPiece_3 (i := 5) rfl) (vyb_cX3_bringPiece_3 (i := 6) rfl) (vyb_cX3_bringPiece_3 (i := 7) rfl) rfl
theorem dX3_bringPiece_38 : decode cX3_bringPiece 38 = Except.ok (Instr.iconst 1, 1) := vyd_4 (vyb_cX3_bringPiece_3 (i := 8) rfl)
theorem dX3_bringPiece_39 : decode cX3_bringPiece 39 = Except.ok (Instr.ireturn, 1) := vyd_172 (vyb_cX3_bringPiece_3 (i := 9) rfl)
theorem vyb_cX3_fetchPiece_0 {i : Nat} {b : UInt8} (h : ([0x2a, 0x1b, 0xb6, 0x00, 0x3d, 0xb6, 0x00, 0x60, 0x99, 0x00] : List UInt8)[i]? = some b) : vy_8 cX3_fetchPiece (0 + i) b := vy_in (n := 10) (by decide +kernel) h
theorem vyb_cX3_fetchPiece_1 {i : Nat} {b : UInt8} (h : ([0x07, 0x1d, 0xa7, 0x00, 0x09, 0x2a, 0x1b, 0x1c, 0xb6, 0x00] : List UInt8)[i]? = some b) : vy_8 cX3_fetchPiece (10 + i) b := vy_in (n := 10) (by decide +kernel) h
theorem vyb_cX3_fetchPiece_2 {i : Nat} {b : UInt8} (h : ([0x6a, 0xac] : List UInt8)[i]? = some b) : vy_8 cX3_fetchPiece (20 + i) b := vy_in (n := 2) (by decide +kernel) h
theorem dX3_fetchPiece_0 : decode cX3_fetchPiece 0 = Except.ok (Instr.aload_n 0, 1) := vyd_42 (vyb_cX3_fetchPiece_0 (i := 0) rfl)
theorem dX3_fetchPiece_1 : decode cX3_fetchPiece 1 = Except.ok (Instr.iload_n 1, 1) := vyd_27 (vyb_cX3_fetchPiece_0 (i := 1) rfl)
theorem dX3_fetchPiece_2 : decode cX3_fetchPiece 2 = Except.ok (Instr.invokevirtual 61, 3) := vyd_182 (vyb_cX3_fetchPiece_0 (i := 2) rfl) (vyb_cX3_fetchPiece_0 (i := 3) rfl) (vyb_cX3_fetchPiece_0 (i := 4) rfl) rfl
theorem dX3_fetchPiece_5 : decode cX3_fetchPiece 5 = Except.ok (Instr.invokevirtual 96, 3) := vyd_182 (vyb_cX3_fetchPiece_0 (i := 5) rfl) (vyb_cX3_fetchPiece_0 (i := 6) rfl) (vyb_cX3_fetchPiece_0 (i := 7) rfl) rfl
theorem dX3_fetchPiece_8 : decode cX3_fetchPiece 8 = Except.ok (Instr.ifCond .eq 7, 3) := vyd_153 (vyb_cX3_fetchPiece_0 (i := 8) rfl) (vyb_cX3_fetchPiece_0 (i := 9) rfl) (vyb_cX3_fetchPiece_1 (i := 0) rfl) (by decide +kernel)
theorem dX3_fetchPiece_11 : decode cX3_fetchPiece 11 = Except.ok (Instr.iload_n 3, 1) := vyd_29 (vyb_cX3_fetchPiece_1 (i := 1) rfl)
theorem dX3_fetchPiece_12 : decode cX3_fetchPiece 12 = Except.ok (Instr.goto 9, 3) := vyd_167 (vyb_cX3_fetchPiece_1 (i := 2) rfl) (vyb_cX3_fetchPiece_1 (i := 3) rfl) (vyb_cX3_fetchPiece_1 (i := 4) rfl) (by decide +kernel)
theorem dX3_fetchPiece_15 : decode cX3_fetchPiece 15 = Except.ok (Instr.aload_n 0, 1) := vyd_42 (vyb_cX3_fetchPiece_1 (i := 5) rfl)
theorem dX3_fetchPiece_16 : decode cX3_fetchPiece 16 = Except.ok (Instr.iload_n 1, 1) := vyd_27 (vyb_cX3_fetchPiece_1 (i := 6) rfl)
theorem dX3_fetchPiece_17 : decode cX3_fetchPiece 17 = Except.ok (Instr.iload_n 2, 1) := vyd_28 (vyb_cX3_fetchPiece_1 (i := 7) rfl)
theorem dX3_fetchPiece_18 : decode cX3_fetchPiece 18 = Except.ok (Instr.invokevirtual 106, 3) := vyd_182 (vyb_cX3_fetchPiece_1 (i := 8) rfl) (vyb_cX3_fetchPiece_1 (i := 9) rfl) (vyb_cX3_fetchPiece_2 (i := 0) rfl) rfl
theorem dX3_fetchPiece_21 : decode cX3_fetchPiece 21 = Except.ok (Instr.ireturn, 1) := vyd_172 (vyb_cX3_fetchPiece_2 (i := 1) rfl)
theorem vyb_cX3_stepOn_0 {i : Nat} {b : UInt8} (h : ([0x2a, 0x1b, 0xb6, 0x00, 0x3d, 0x3a, 0x04, 0x19, 0x04, 0x1c] : List UInt8)[i]? = some b) : vy_8 cX3_stepOn (0 + i) b := vy_in (n := 10) (by decide +kernel) h
theorem vyb_cX3_stepOn_1 {i : Nat} {b : UInt8} (h : ([0x99, 0x00, 0x0b, 0x19, 0x04, 0xb6, 0x00, 0x41, 0xa7, 0x00] : List UInt8)[i]? = some b) : vy_8 cX3_stepOn (10 + i) b := vy_in (n := 10) (by decide +kernel) h
theorem vyb_cX3_stepOn_2 {i : Nat} {b : UInt8} (h : ([0x04, 0x03, 0x1d, 0xb6, 0x00, 0x81, 0x2a, 0x1b, 0x1c, 0x04] : List UInt8)[i]? = some b) : vy_8 cX3_stepOn (20 + i) b := vy_in (n := 10) (by decide +kernel) h
theorem vyb_cX3_stepOn_3 {i : Nat} {b : UInt8} (h : ([0x1d, 0xb8, 0x01, 0x6c, 0xb6, 0x01, 0x70, 0x2a, 0x1b, 0xb6] : List UInt8)[i]? = some b) : vy_8 cX3_stepOn (30 + i) b := vy_in (n := 10) (by decide +kernel) h
theorem vyb_cX3_stepOn_4 {i : Nat} {b : UInt8} (h : ([0x00, 0x84, 0xb1] : List UInt8)[i]? = some b) : vy_8 cX3_stepOn (40 + i) b := vy_in (n := 3) (by decide +kernel) h
theorem dX3_stepOn_0 : decode cX3_stepOn 0 = Except.ok (Instr.aload_n 0, 1) := vyd_42 (vyb_cX3_stepOn_0 (i := 0) rfl)
theorem dX3_stepOn_1 : decode cX3_stepOn 1 = Except.ok (Instr.iload_n 1, 1) := vyd_27 (vyb_cX3_stepOn_0 (i := 1) rfl)
theorem dX3_stepOn_2 : decode cX3_stepOn 2 = Except.ok (Instr.invokevirtual 61, 3) := vyd_182 (vyb_cX3_stepOn_0 (i := 2) rfl) (vyb_cX3_stepOn_0 (i := 3) rfl) (vyb_cX3_stepOn_0 (i := 4) rfl) rfl
theorem dX3_stepOn_5 : decode cX3_stepOn 5 = Except.ok (Instr.astore 4, 2) := vyd_58 (vyb_cX3_stepOn_0 (i := 5) rfl) (vyb_cX3_stepOn_0 (i := 6) rfl) rfl
theorem dX3_stepOn_7 : decode cX3_stepOn 7 = Except.ok (Instr.aload 4, 2) := vyd_25 (vyb_cX3_stepOn_0 (i := 7) rfl) (vyb_cX3_stepOn_0 (i := 8) rfl) rfl
theorem dX3_stepOn_9 : decode cX3_stepOn 9 = Except.ok (Instr.iload_n 2, 1) := vyd_28 (vyb_cX3_stepOn_0 (i := 9) rfl)
theorem dX3_stepOn_10 : decode cX3_stepOn 10 = Except.ok (Instr.ifCond .eq 11, 3) := vyd_153 (vyb_cX3_stepOn_1 (i := 0) rfl) (vyb_cX3_stepOn_1 (i := 1) rfl) (vyb_cX3_stepOn_1 (i := 2) rfl) (by decide +kernel)
theorem dX3_stepOn_13 : decode cX3_stepOn 13 = Except.ok (Instr.aload 4, 2) := vyd_25 (vyb_cX3_stepOn_1 (i := 3) rfl) (vyb_cX3_stepOn_1 (i := 4) rfl) rfl
theorem dX3_stepOn_15 : decode cX3_stepOn 15 = Except.ok (Instr.invokevirtual 65, 3) := vyd_182 (vyb_cX3_stepOn_1 (i := 5) rfl) (vyb_cX3_stepOn_1 (i := 6) rfl) (vyb_cX3_stepOn_1 (i := 7) rfl) rfl
theorem dX3_stepOn_18 : decode cX3_stepOn 18 = Except.ok (Instr.goto 4, 3) := vyd_167 (vyb_cX3_stepOn_1 (i := 8) rfl) (vyb_cX3_stepOn_1 (i := 9) rfl) (vyb_cX3_stepOn_2 (i := 0) rfl) (by decide +kernel)
theorem dX3_stepOn_21 : decode cX3_stepOn 21 = Except.ok (Instr.iconst 0, 1) := vyd_3 (vyb_cX3_stepOn_2 (i := 1) rfl)
theorem dX3_stepOn_22 : decode cX3_stepOn 22 = Except.ok (Instr.iload_n 3, 1) := vyd_29 (vyb_cX3_stepOn_2 (i := 2) rfl)
theorem dX3_stepOn_23 : decode cX3_stepOn 23 = Except.ok (Instr.invokevirtual 129, 3) := vyd_182 (vyb_cX3_stepOn_2 (i := 3) rfl) (vyb_cX3_stepOn_2 (i := 4) rfl) (vyb_cX3_stepOn_2 (i := 5) rfl) rfl
theorem dX3_stepOn_26 : decode cX3_stepOn 26 = Except.ok (Instr.aload_n 0, 1) := vyd_42 (vyb_cX3_stepOn_2 (i := 6) rfl)
theorem dX3_stepOn_27 : decode cX3_stepOn 27 = Except.ok (Instr.iload_n 1, 1) := vyd_27 (vyb_cX3_stepOn_2 (i := 7) rfl)
theorem dX3_stepOn_28 : decode cX3_stepOn 28 = Except.ok (Instr.iload_n 2, 1) := vyd_28 (vyb_cX3_stepOn_2 (i := 8) rfl)
theorem dX3_stepOn_29 : decode cX3_stepOn 29 = Except.ok (Instr.iconst 1, 1) := vyd_4 (vyb_cX3_stepOn_2 (i := 9) rfl)
theorem dX3_stepOn_30 : decode cX3_stepOn 30 = Except.ok (Instr.iload_n 3, 1) := vyd_29 (vyb_cX3_stepOn_3 (i := 0) rfl)
theorem dX3_stepOn_31 : decode cX3_stepOn 31 = Except.ok (Instr.invokestatic 364, 3) := vyd_184 (vyb_cX3_stepOn_3 (i := 1) rfl) (vyb_cX3_stepOn_3 (i := 2) rfl) (vyb_cX3_stepOn_3 (i := 3) rfl) rfl
theorem dX3_stepOn_34 : decode cX3_stepOn 34 = Except.ok (Instr.invokevirtual 368, 3) := vyd_182 (vyb_cX3_stepOn_3 (i := 4) rfl) (vyb_cX3_stepOn_3 (i := 5) rfl) (vyb_cX3_stepOn_3 (i := 6) rfl) rfl
theorem dX3_stepOn_37 : decode cX3_stepOn 37 = Except.ok (Instr.aload_n 0, 1) := vyd_42 (vyb_cX3_stepOn_3 (i := 7) rfl)
theorem dX3_stepOn_38 : decode cX3_stepOn 38 = Except.ok (Instr.iload_n 1, 1) := vyd_27 (vyb_cX3_stepOn_3 (i := 8) rfl)
theorem dX3_stepOn_39 : decode cX3_stepOn 39 = Except.ok (Instr.invokevirtual 132, 3) := vyd_182 (vyb_cX3_stepOn_3 (i := 9) rfl) (vyb_cX3_stepOn_4 (i := 0) rfl) (vyb_cX3_stepOn_4 (i := 1) rfl) rfl
theorem dX3_stepOn_42 : decode cX3_stepOn 42 = Except.ok (Instr.return_, 1) := vyd_177 (vyb_cX3_stepOn_4 (i := 2) rfl)
theorem vyb_cX3_stepOff_0 {i : Nat} {b : UInt8} (h : ([0x2a, 0x1b, 0xb6, 0x00, 0x3d, 0x4e, 0x2d, 0x2d, 0x1c, 0xb6] : List UInt8)[i]? = some b) : vy_8 cX3_stepOff (0 + i) b := vy_in (n := 10) (by decide +kernel) h
theorem vyb_cX3_stepOff_1 {i : Nat} {b : UInt8} (h : ([0x00, 0x6d, 0xb6, 0x00, 0x71, 0x36, 0x04, 0x2a, 0x1b, 0x1c] : List UInt8)[i]? = some b) : vy_8 cX3_stepOff (10 + i) b := vy_in (n := 10) (by decide +kernel) h
theorem vyb_cX3_stepOff_2 {i : Nat} {b : UInt8} (h : ([0x03, 0x15, 0x04, 0xb8, 0x01, 0x6c, 0xb6, 0x01, 0x70, 0x2a] : List UInt8)[i]? = some b) : vy_8 cX3_stepOff (20 + i) b := vy_in (n := 10) (by decide +kernel) h
theorem vyb_cX3_stepOff_3 {i : Nat} {b : UInt8} (h : ([0x1b, 0xb6, 0x00, 0x84, 0x15, 0x04, 0xac] : List UInt8)[i]? = some b) : vy_8 cX3_stepOff (30 + i) b := vy_in (n := 7) (by decide +kernel) h
theorem dX3_stepOff_0 : decode cX3_stepOff 0 = Except.ok (Instr.aload_n 0, 1) := vyd_42 (vyb_cX3_stepOff_0 (i := 0) rfl)
theorem dX3_stepOff_1 : decode cX3_stepOff 1 = Except.ok (Instr.iload_n 1, 1) := vyd_27 (vyb_cX3_stepOff_0 (i := 1) rfl)
theorem dX3_stepOff_2 : decode cX3_stepOff 2 = Except.ok (Instr.invokevirtual 61, 3) := vyd_182 (vyb_cX3_stepOff_0 (i := 2) rfl) (vyb_cX3_stepOff_0 (i := 3) rfl) (vyb_cX3_stepOff_0 (i := 4) rfl) rfl
theorem dX3_stepOff_5 : decode cX3_stepOff 5 = Except.ok (Instr.astore_n 3, 1) := vyd_78 (vyb_cX3_stepOff_0 (i := 5) rfl)
theorem dX3_stepOff_6 : decode cX3_stepOff 6 = Except.ok (Instr.aload_n 3, 1) := vyd_45 (vyb_cX3_stepOff_0 (i := 6) rfl)
theorem dX3_stepOff_7 : decode cX3_stepOff 7 = Except.ok (Instr.aload_n 3, 1) := vyd_45 (vyb_cX3_stepOff_0 (i := 7) rfl)
theorem dX3_stepOff_8 : decode cX3_stepOff 8 = Except.ok (Instr.iload_n 2, 1) := vyd_28 (vyb_cX3_stepOff_0 (i := 8) rfl)
theorem dX3_stepOff_9 : decode cX3_stepOff 9 = Except.ok (Instr.invokevirtual 109, 3) := vyd_182 (vyb_cX3_stepOff_0 (i := 9) rfl) (vyb_cX3_stepOff_1 (i := 0) rfl) (vyb_cX3_stepOff_1 (i := 1) rfl) rfl
theorem dX3_stepOff_12 : decode cX3_stepOff 12 = Except.ok (Instr.invokevirtual 113, 3) := vyd_182 (vyb_cX3_stepOff_1 (i := 2) rfl) (vyb_cX3_stepOff_1 (i := 3) rfl) (vyb_cX3_stepOff_1 (i := 4) rfl) rfl
theorem dX3_stepOff_15 : decode cX3_stepOff 15 = Except.ok (Instr.istore 4, 2) := vyd_54 (vyb_cX3_stepOff_1 (i := 5) rfl) (vyb_cX3_stepOff_1 (i := 6) rfl) rfl
theorem dX3_stepOff_17 : decode cX3_stepOff 17 = Except.ok (Instr.aload_n 0, 1) := vyd_42 (vyb_cX3_stepOff_1 (i := 7) rfl)
theorem dX3_stepOff_18 : decode cX3_stepOff 18 = Except.ok (Instr.iload_n 1, 1) := vyd_27 (vyb_cX3_stepOff_1 (i := 8) rfl)
theorem dX3_stepOff_19 : decode cX3_stepOff 19 = Except.ok (Instr.iload_n 2, 1) := vyd_28 (vyb_cX3_stepOff_1 (i := 9) rfl)
theorem dX3_stepOff_20 : decode cX3_stepOff 20 = Except.ok (Instr.iconst 0, 1) := vyd_3 (vyb_cX3_stepOff_2 (i := 0) rfl)
theorem dX3_stepOff_21 : decode cX3_stepOff 21 = Except.ok (Instr.iload 4, 2) := vyd_21 (vyb_cX3_stepOff_2 (i := 1) rfl) (vyb_cX3_stepOff_2 (i := 2) rfl) rfl
theorem dX3_stepOff_23 : decode cX3_stepOff 23 = Except.ok (Instr.invokestatic 364, 3) := vyd_184 (vyb_cX3_stepOff_2 (i := 3) rfl) (vyb_cX3_stepOff_2 (i := 4) rfl) (vyb_cX3_stepOff_2 (i := 5) rfl) rfl
theorem dX3_stepOff_26 : decode cX3_stepOff 26 = Except.ok (Instr.invokevirtual 368, 3) := vyd_182 (vyb_cX3_stepOff_2 (i := 6) rfl) (vyb_cX3_stepOff_2 (i := 7) rfl) (vyb_cX3_stepOff_2 (i := 8) rfl) rfl
theorem dX3_stepOff_29 : decode cX3_stepOff 29 = Except.ok (Instr.aload_n 0, 1) := vyd_42 (vyb_cX3_stepOff_2 (i := 9) rfl)
theorem dX3_stepOff_30 : decode cX3_stepOff 30 = Except.ok (Instr.iload_n 1, 1) := vyd_27 (vyb_cX3_stepOff_3 (i := 0) rfl)
theorem dX3_stepOff_31 : decode cX3_stepOff 31 = Except.ok (Instr.invokevirtual 132, 3) := vyd_182 (vyb_cX3_stepOff_3 (i := 1) rfl) (vyb_cX3_stepOff_3 (i := 2) rfl) (vyb_cX3_stepOff_3 (i := 3) rfl) rfl
theorem dX3_stepOff_34 : decode cX3_stepOff 34 = Except.ok (Instr.iload 4, 2) := vyd_21 (vyb_cX3_stepOff_3 (i := 4) rfl) (vyb_cX3_stepOff_3 (i := 5) rfl) rfl
theorem dX3_stepOff_36 : decode cX3_stepOff 36 = Except.ok (Instr.ireturn, 1) := vyd_172 (vyb_cX3_stepOff_3 (i := 6) rfl)
theorem vyb_cX3_laySlip_0 {i : Nat} {b : UInt8} (h : ([0x2a, 0xb4, 0x00, 0x15, 0xb6, 0x00, 0xf8, 0x99, 0x00, 0x0c] : List UInt8)[i]? = some b) : vy_8 cX3_laySlip (0 + i) b := vy_in (n := 10) (by decide +kernel) h
theorem vyb_cX3_laySlip_1 {i : Nat} {b : UInt8} (h : ([0x2a, 0xb4, 0x00, 0x15, 0x03, 0xb6, 0x00, 0x71, 0x57, 0x2a] : List UInt8)[i]? = some b) : vy_8 cX3_laySlip (10 + i) b := vy_in (n := 10) (by decide +kernel) h
theorem vyb_cX3_laySlip_2 {i : Nat} {b : UInt8} (h : ([0xb4, 0x00, 0x15, 0x1b, 0xb6, 0x00, 0xc5, 0xb1] : List UInt8)[i]? = some b) : vy_8 cX3_laySlip (20 + i) b := vy_in (n := 8) (by decide +kernel) h
theorem dX3_laySlip_0 : decode cX3_laySlip 0 = Except.ok (Instr.aload_n 0, 1) := vyd_42 (vyb_cX3_laySlip_0 (i := 0) rfl)
theorem dX3_laySlip_1 : decode cX3_laySlip 1 = Except.ok (Instr.getfield 21, 3) := vyd_180 (vyb_cX3_laySlip_0 (i := 1) rfl) (vyb_cX3_laySlip_0 (i := 2) rfl) (vyb_cX3_laySlip_0 (i := 3) rfl) rfl
theorem dX3_laySlip_4 : decode cX3_laySlip 4 = Except.ok (Instr.invokevirtual 248, 3) := vyd_182 (vyb_cX3_laySlip_0 (i := 4) rfl) (vyb_cX3_laySlip_0 (i := 5) rfl) (vyb_cX3_laySlip_0 (i := 6) rfl) rfl
theorem dX3_laySlip_7 : decode cX3_laySlip 7 = Except.ok (Instr.ifCond .eq 12, 3) := vyd_153 (vyb_cX3_laySlip_0 (i := 7) rfl) (vyb_cX3_laySlip_0 (i := 8) rfl) (vyb_cX3_laySlip_0 (i := 9) rfl) (by decide +kernel)
theorem dX3_laySlip_10 : decode cX3_laySlip 10 = Except.ok (Instr.aload_n 0, 1) := vyd_42 (vyb_cX3_laySlip_1 (i := 0) rfl)
theorem dX3_laySlip_11 : decode cX3_laySlip 11 = Except.ok (Instr.getfield 21, 3) := vyd_180 (vyb_cX3_laySlip_1 (i := 1) rfl) (vyb_cX3_laySlip_1 (i := 2) rfl) (vyb_cX3_laySlip_1 (i := 3) rfl) rfl
theorem dX3_laySlip_14 : decode cX3_laySlip 14 = Except.ok (Instr.iconst 0, 1) := vyd_3 (vyb_cX3_laySlip_1 (i := 4) rfl)
theorem dX3_laySlip_15 : decode cX3_laySlip 15 = Except.ok (Instr.invokevirtual 113, 3) := vyd_182 (vyb_cX3_laySlip_1 (i := 5) rfl) (vyb_cX3_laySlip_1 (i := 6) rfl) (vyb_cX3_laySlip_1 (i := 7) rfl) rfl
theorem dX3_laySlip_18 : decode cX3_laySlip 18 = Except.ok (Instr.pop, 1) := vyd_87 (vyb_cX3_laySlip_1 (i := 8) rfl)
theorem dX3_laySlip_19 : decode cX3_laySlip 19 = Except.ok (Instr.aload_n 0, 1) := vyd_42 (vyb_cX3_laySlip_1 (i := 9) rfl)
theorem dX3_laySlip_20 : decode cX3_laySlip 20 = Except.ok (Instr.getfield 21, 3) := vyd_180 (vyb_cX3_laySlip_2 (i := 0) rfl) (vyb_cX3_laySlip_2 (i := 1) rfl) (vyb_cX3_laySlip_2 (i := 2) rfl) rfl
theorem dX3_laySlip_23 : decode cX3_laySlip 23 = Except.ok (Instr.iload_n 1, 1) := vyd_27 (vyb_cX3_laySlip_2 (i := 3) rfl)
theorem dX3_laySlip_24 : decode cX3_laySlip 24 = Except.ok (Instr.invokevirtual 197, 3) := vyd_182 (vyb_cX3_laySlip_2 (i := 4) rfl) (vyb_cX3_laySlip_2 (i := 5) rfl) (vyb_cX3_laySlip_2 (i := 6) rfl) rfl
theorem dX3_laySlip_27 : decode cX3_laySlip 27 = Except.ok (Instr.return_, 1) := vyd_177 (vyb_cX3_laySlip_2 (i := 7) rfl)
theorem vyb_cX3_disturb_0 {i : Nat} {b : UInt8} (h : ([0x1b, 0x9a, 0x00, 0x0d, 0x2a, 0xb4, 0x00, 0x1e, 0xb6, 0x01] : List UInt8)[i]? = some b) : vy_8 cX3_disturb (0 + i) b := vy_in (n := 10) (by decide +kernel) h
theorem vyb_cX3_disturb_1 {i : Nat} {b : UInt8} (h : ([0x73, 0xa7, 0x00, 0x11, 0x2a, 0xb4, 0x00, 0x25, 0xb6, 0x01] : List UInt8)[i]? = some b) : vy_8 cX3_disturb (10 + i) b := vy_in (n := 10) (by decide +kernel) h
theorem vyb_cX3_disturb_2 {i : Nat} {b : UInt8} (h : ([0x76, 0x2a, 0xb4, 0x00, 0x29, 0xb6, 0x01, 0x76, 0xb1] : List UInt8)[i]? = some b) : vy_8 cX3_disturb (20 + i) b := vy_in (n := 9) (by decide +kernel) h
theorem dX3_disturb_0 : decode cX3_disturb 0 = Except.ok (Instr.iload_n 1, 1) := vyd_27 (vyb_cX3_disturb_0 (i := 0) rfl)
theorem dX3_disturb_1 : decode cX3_disturb 1 = Except.ok (Instr.ifCond .ne 13, 3) := vyd_154 (vyb_cX3_disturb_0 (i := 1) rfl) (vyb_cX3_disturb_0 (i := 2) rfl) (vyb_cX3_disturb_0 (i := 3) rfl) (by decide +kernel)
theorem dX3_disturb_4 : decode cX3_disturb 4 = Except.ok (Instr.aload_n 0, 1) := vyd_42 (vyb_cX3_disturb_0 (i := 4) rfl)
theorem dX3_disturb_5 : decode cX3_disturb 5 = Except.ok (Instr.getfield 30, 3) := vyd_180 (vyb_cX3_disturb_0 (i := 5) rfl) (vyb_cX3_disturb_0 (i := 6) rfl) (vyb_cX3_disturb_0 (i := 7) rfl) rfl
theorem dX3_disturb_8 : decode cX3_disturb 8 = Except.ok (Instr.invokevirtual 371, 3) := vyd_182 (vyb_cX3_disturb_0 (i := 8) rfl) (vyb_cX3_disturb_0 (i := 9) rfl) (vyb_cX3_disturb_1 (i := 0) rfl) rfl
theorem dX3_disturb_11 : decode cX3_disturb 11 = Except.ok (Instr.goto 17, 3) := vyd_167 (vyb_cX3_disturb_1 (i := 1) rfl) (vyb_cX3_disturb_1 (i := 2) rfl) (vyb_cX3_disturb_1 (i := 3) rfl) (by decide +kernel)
theorem dX3_disturb_14 : decode cX3_disturb 14 = Except.ok (Instr.aload_n 0, 1) := vyd_42 (vyb_cX3_disturb_1 (i := 4) rfl)
theorem dX3_disturb_15 : decode cX3_disturb 15 = Except.ok (Instr.getfield 37, 3) := vyd_180 (vyb_cX3_disturb_1 (i := 5) rfl) (vyb_cX3_disturb_1 (i := 6) rfl) (vyb_cX3_disturb_1 (i := 7) rfl) rfl
theorem dX3_disturb_18 : decode cX3_disturb 18 = Except.ok (Instr.invokevirtual 374, 3) := vyd_182 (vyb_cX3_disturb_1 (i := 8) rfl) (vyb_cX3_disturb_1 (i := 9) rfl) (vyb_cX3_disturb_2 (i := 0) rfl) rfl
theorem dX3_disturb_21 : decode cX3_disturb 21 = Except.ok (Instr.aload_n 0, 1) := vyd_42 (vyb_cX3_disturb_2 (i := 1) rfl)
theorem dX3_disturb_22 : decode cX3_disturb 22 = Except.ok (Instr.getfield 41, 3) := vyd_180 (vyb_cX3_disturb_2 (i := 2) rfl) (vyb_cX3_disturb_2 (i := 3) rfl) (vyb_cX3_disturb_2 (i := 4) rfl) rfl
theorem dX3_disturb_25 : decode cX3_disturb 25 = Except.ok (Instr.invokevirtual 374, 3) := vyd_182 (vyb_cX3_disturb_2 (i := 5) rfl) (vyb_cX3_disturb_2 (i := 6) rfl) (vyb_cX3_disturb_2 (i := 7) rfl) rfl
theorem dX3_disturb_28 : decode cX3_disturb 28 = Except.ok (Instr.return_, 1) := vyd_177 (vyb_cX3_disturb_2 (i := 8) rfl)
theorem vyb_cX3_tearFor_0 {i : Nat} {b : UInt8} (h : ([0x2a, 0xb4, 0x00, 0x15, 0xb6, 0x00, 0x9f, 0x2a, 0x1b, 0xb6] : List UInt8)[i]? = some b) : vy_8 cX3_tearFor (0 + i) b := vy_in (n := 10) (by decide +kernel) h
theorem vyb_cX3_tearFor_1 {i : Nat} {b : UInt8} (h : ([0x00, 0x84, 0xb1] : List UInt8)[i]? = some b) : vy_8 cX3_tearFor (10 + i) b := vy_in (n := 3) (by decide +kernel) h
theorem dX3_tearFor_0 : decode cX3_tearFor 0 = Except.ok (Instr.aload_n 0, 1) := vyd_42 (vyb_cX3_tearFor_0 (i := 0) rfl)
theorem dX3_tearFor_1 : decode cX3_tearFor 1 = Except.ok (Instr.getfield 21, 3) := vyd_180 (vyb_cX3_tearFor_0 (i := 1) rfl) (vyb_cX3_tearFor_0 (i := 2) rfl) (vyb_cX3_tearFor_0 (i := 3) rfl) rfl
theorem dX3_tearFor_4 : decode cX3_tearFor 4 = Except.ok (Instr.invokevirtual 159, 3) := vyd_182 (vyb_cX3_tearFor_0 (i := 4) rfl) (vyb_cX3_tearFor_0 (i := 5) rfl) (vyb_cX3_tearFor_0 (i := 6) rfl) rfl
theorem dX3_tearFor_7 : decode cX3_tearFor 7 = Except.ok (Instr.aload_n 0, 1) := vyd_42 (vyb_cX3_tearFor_0 (i := 7) rfl)
theorem dX3_tearFor_8 : decode cX3_tearFor 8 = Except.ok (Instr.iload_n 1, 1) := vyd_27 (vyb_cX3_tearFor_0 (i := 8) rfl)
theorem dX3_tearFor_9 : decode cX3_tearFor 9 = Except.ok (Instr.invokevirtual 132, 3) := vyd_182 (vyb_cX3_tearFor_0 (i := 9) rfl) (vyb_cX3_tearFor_1 (i := 0) rfl) (vyb_cX3_tearFor_1 (i := 1) rfl) rfl
theorem dX3_tearFor_12 : decode cX3_tearFor 12 = Except.ok (Instr.return_, 1) := vyd_177 (vyb_cX3_tearFor_1 (i := 2) rfl)
theorem vyb_cX3_tearIfAny_0 {i : Nat} {b : UInt8} (h : ([0x1c, 0x9e, 0x00, 0x08, 0x2a, 0x1b, 0xb6, 0x00, 0x8d, 0xb1] : List UInt8)[i]? = some b) : vy_8 cX3_tearIfAny (0 + i) b := vy_in (n := 10) (by decide +kernel) h
theorem dX3_tearIfAny_0 : decode cX3_tearIfAny 0 = Except.ok (Instr.iload_n 2, 1) := vyd_28 (vyb_cX3_tearIfAny_0 (i := 0) rfl)
theorem dX3_tearIfAny_1 : decode cX3_tearIfAny 1 = Except.ok (Instr.ifCond .le 8, 3) := vyd_158 (vyb_cX3_tearIfAny_0 (i := 1) rfl) (vyb_cX3_tearIfAny_0 (i := 2) rfl) (vyb_cX3_tearIfAny_0 (i := 3) rfl) (by decide +kernel)
theorem dX3_tearIfAny_4 : decode cX3_tearIfAny 4 = Except.ok (Instr.aload_n 0, 1) := vyd_42 (vyb_cX3_tearIfAny_0 (i := 4) rfl)
theorem dX3_tearIfAny_5 : decode cX3_tearIfAny 5 = Except.ok (Instr.iload_n 1, 1) := vyd_27 (vyb_cX3_tearIfAny_0 (i := 5) rfl)
theorem dX3_tearIfAny_6 : decode cX3_tearIfAny 6 = Except.ok (Instr.invokevirtual 141, 3) := vyd_182 (vyb_cX3_tearIfAny_0 (i := 6) rfl) (vyb_cX3_tearIfAny_0 (i := 7) rfl) (vyb_cX3_tearIfAny_0 (i := 8) rfl) rfl
theorem dX3_tearIfAny_9 : decode cX3_tearIfAny 9 = Except.ok (Instr.return_, 1) := vyd_177 (vyb_cX3_tearIfAny_0 (i := 9) rfl)
theorem vyb_cX3_tearForWalker_0 {i : Nat} {b : UInt8} (h : ([0x2a, 0xb4, 0x00, 0x15, 0xb6, 0x00, 0x9f, 0x2a, 0x04, 0x1b] : List UInt8)[i]? = some b) : vy_8 cX3_tearForWalker (0 + i) b := vy_in (n := 10) (by decide +kernel) h
theorem vyb_cX3_tearForWalker_1 {i : Nat} {b : UInt8} (h : ([0x64, 0xb6, 0x00, 0xcb, 0xb6, 0x01, 0x76, 0xb1] : List UInt8)[i]? = some b) : vy_8 cX3_tearForWalker (10 + i) b := vy_in (n := 8) (by decide +kernel) h
theorem dX3_tearForWalker_0 : decode cX3_tearForWalker 0 = Except.ok (Instr.aload_n 0, 1) := vyd_42 (vyb_cX3_tearForWalker_0 (i := 0) rfl)
theorem dX3_tearForWalker_1 : decode cX3_tearForWalker 1 = Except.ok (Instr.getfield 21, 3) := vyd_180 (vyb_cX3_tearForWalker_0 (i := 1) rfl) (vyb_cX3_tearForWalker_0 (i := 2) rfl) (vyb_cX3_tearForWalker_0 (i := 3) rfl) rfl
theorem dX3_tearForWalker_4 : decode cX3_tearForWalker 4 = Except.ok (Instr.invokevirtual 159, 3) := vyd_182 (vyb_cX3_tearForWalker_0 (i := 4) rfl) (vyb_cX3_tearForWalker_0 (i := 5) rfl) (vyb_cX3_tearForWalker_0 (i := 6) rfl) rfl
theorem dX3_tearForWalker_7 : decode cX3_tearForWalker 7 = Except.ok (Instr.aload_n 0, 1) := vyd_42 (vyb_cX3_tearForWalker_0 (i := 7) rfl)
theorem dX3_tearForWalker_8 : decode cX3_tearForWalker 8 = Except.ok (Instr.iconst 1, 1) := vyd_4 (vyb_cX3_tearForWalker_0 (i := 8) rfl)
theorem dX3_tearForWalker_9 : decode cX3_tearForWalker 9 = Except.ok (Instr.iload_n 1, 1) := vyd_27 (vyb_cX3_tearForWalker_0 (i := 9) rfl)
theorem dX3_tearForWalker_10 : decode cX3_tearForWalker 10 = Except.ok (Instr.isub, 1) := vyd_100 (vyb_cX3_tearForWalker_1 (i := 0) rfl)
theorem dX3_tearForWalker_11 : decode cX3_tearForWalker 11 = Except.ok (Instr.invokevirtual 203, 3) := vyd_182 (vyb_cX3_tearForWalker_1 (i := 1) rfl) (vyb_cX3_tearForWalker_1 (i := 2) rfl) (vyb_cX3_tearForWalker_1 (i := 3) rfl) rfl
theorem dX3_tearForWalker_14 : decode cX3_tearForWalker 14 = Except.ok (Instr.invokevirtual 374, 3) := vyd_182 (vyb_cX3_tearForWalker_1 (i := 4) rfl) (vyb_cX3_tearForWalker_1 (i := 5) rfl) (vyb_cX3_tearForWalker_1 (i := 6) rfl) rfl
theorem dX3_tearForWalker_17 : decode cX3_tearForWalker 17 = Except.ok (Instr.return_, 1) := vyd_177 (vyb_cX3_tearForWalker_1 (i := 7) rfl)
theorem vyb_cX3_layAnew_0 {i : Nat} {b : UInt8} (h : ([0x2a, 0xb4, 0x00, 0x12, 0x1b, 0x1c, 0xb6, 0x00, 0x9c, 0x2a] : List UInt8)[i]? = some b) : vy_8 cX3_layAnew (0 + i) b := vy_in (n := 10) (by decide +kernel) h
theorem vyb_cX3_layAnew_1 {i : Nat} {b : UInt8} (h : ([0xb4, 0x00, 0x15, 0xb6, 0x00, 0x9f, 0xb1] : List UInt8)[i]? = some b) : vy_8 cX3_layAnew (10 + i) b := vy_in (n := 7) (by decide +kernel) h
theorem dX3_layAnew_0 : decode cX3_layAnew 0 = Except.ok (Instr.aload_n 0, 1) := vyd_42 (vyb_cX3_layAnew_0 (i := 0) rfl)
theorem dX3_layAnew_1 : decode cX3_layAnew 1 = Except.ok (Instr.getfield 18, 3) := vyd_180 (vyb_cX3_layAnew_0 (i := 1) rfl) (vyb_cX3_layAnew_0 (i := 2) rfl) (vyb_cX3_layAnew_0 (i := 3) rfl) rfl
theorem dX3_layAnew_4 : decode cX3_layAnew 4 = Except.ok (Instr.iload_n 1, 1) := vyd_27 (vyb_cX3_layAnew_0 (i := 4) rfl)
theorem dX3_layAnew_5 : decode cX3_layAnew 5 = Except.ok (Instr.iload_n 2, 1) := vyd_28 (vyb_cX3_layAnew_0 (i := 5) rfl)
theorem dX3_layAnew_6 : decode cX3_layAnew 6 = Except.ok (Instr.invokevirtual 156, 3) := vyd_182 (vyb_cX3_layAnew_0 (i := 6) rfl) (vyb_cX3_layAnew_0 (i := 7) rfl) (vyb_cX3_layAnew_0 (i := 8) rfl) rfl
theorem dX3_layAnew_9 : decode cX3_layAnew 9 = Except.ok (Instr.aload_n 0, 1) := vyd_42 (vyb_cX3_layAnew_0 (i := 9) rfl)
theorem dX3_layAnew_10 : decode cX3_layAnew 10 = Except.ok (Instr.getfield 21, 3) := vyd_180 (vyb_cX3_layAnew_1 (i := 0) rfl) (vyb_cX3_layAnew_1 (i := 1) rfl) (vyb_cX3_layAnew_1 (i := 2) rfl) rfl
theorem dX3_layAnew_13 : decode cX3_layAnew 13 = Except.ok (Instr.invokevirtual 159, 3) := vyd_182 (vyb_cX3_layAnew_1 (i := 3) rfl) (vyb_cX3_layAnew_1 (i := 4) rfl) (vyb_cX3_layAnew_1 (i := 5) rfl) rfl
theorem dX3_layAnew_16 : decode cX3_layAnew 16 = Except.ok (Instr.return_, 1) := vyd_177 (vyb_cX3_layAnew_1 (i := 6) rfl)
theorem vyb_cX3_orderTrack_0 {i : Nat} {b : UInt8} (h : ([0x1a, 0x07, 0x6c, 0xac] : List UInt8)[i]? = some b) : vy_8 cX3_orderTrack (0 + i) b := vy_in (n := 4) (by decide +kernel) h
theorem dX3_orderTrack_0 : decode cX3_orderTrack 0 = Except.ok (Instr.iload_n 0, 1) := vyd_26 (vyb_cX3_orderTrack_0 (i := 0) rfl)
theorem dX3_orderTrack_1 : decode cX3_orderTrack 1 = Except.ok (Instr.iconst 4, 1) := vyd_7 (vyb_cX3_orderTrack_0 (i := 1) rfl)
theorem dX3_orderTrack_2 : decode cX3_orderTrack 2 = Except.ok (Instr.idiv, 1) := vyd_108 (vyb_cX3_orderTrack_0 (i := 2) rfl)
theorem dX3_orderTrack_3 : decode cX3_orderTrack 3 = Except.ok (Instr.ireturn, 1) := vyd_172 (vyb_cX3_orderTrack_0 (i := 3) rfl)
theorem vyb_cX3_orderIsFromBack_0 {i : Nat} {b : UInt8} (h : ([0x1a, 0x05, 0x6c, 0x05, 0x70, 0x04, 0xa0, 0x00, 0x07, 0x04] : List UInt8)[i]? = some b) : vy_8 cX3_orderIsFromBack (0 + i) b := vy_in (n := 10) (by decide +kernel) h
theorem vyb_cX3_orderIsFromBack_1 {i : Nat} {b : UInt8} (h : ([0xa7, 0x00, 0x04, 0x03, 0xac] : List UInt8)[i]? = some b) : vy_8 cX3_orderIsFromBack (10 + i) b := vy_in (n := 5) (by decide +kernel) h
theorem dX3_orderIsFromBack_0 : decode cX3_orderIsFromBack 0 = Except.ok (Instr.iload_n 0, 1) := vyd_26 (vyb_cX3_orderIsFromBack_0 (i := 0) rfl)
theorem dX3_orderIsFromBack_1 : decode cX3_orderIsFromBack 1 = Except.ok (Instr.iconst 2, 1) := vyd_5 (vyb_cX3_orderIsFromBack_0 (i := 1) rfl)
theorem dX3_orderIsFromBack_2 : decode cX3_orderIsFromBack 2 = Except.ok (Instr.idiv, 1) := vyd_108 (vyb_cX3_orderIsFromBack_0 (i := 2) rfl)
theorem dX3_orderIsFromBack_3 : decode cX3_orderIsFromBack 3 = Except.ok (Instr.iconst 2, 1) := vyd_5 (vyb_cX3_orderIsFromBack_0 (i := 3) rfl)
theorem dX3_orderIsFromBack_4 : decode cX3_orderIsFromBack 4 = Except.ok (Instr.irem, 1) := vyd_112 (vyb_cX3_orderIsFromBack_0 (i := 4) rfl)
theorem dX3_orderIsFromBack_5 : decode cX3_orderIsFromBack 5 = Except.ok (Instr.iconst 1, 1) := vyd_4 (vyb_cX3_orderIsFromBack_0 (i := 5) rfl)
theorem dX3_orderIsFromBack_6 : decode cX3_orderIsFromBack 6 = Except.ok (Instr.if_icmp .ne 7, 3) := vyd_160 (vyb_cX3_orderIsFromBack_0 (i := 6) rfl) (vyb_cX3_orderIsFromBack_0 (i := 7) rfl) (vyb_cX3_orderIsFromBack_0 (i := 8) rfl) (by decide +kernel)
theorem dX3_orderIsFromBack_9 : decode cX3_orderIsFromBack 9 = Except.ok (Instr.iconst 1, 1) := vyd_4 (vyb_cX3_orderIsFromBack_0 (i := 9) rfl)
theorem dX3_orderIsFromBack_10 : decode cX3_orderIsFromBack 10 = Except.ok (Instr.goto 4, 3) := vyd_167 (vyb_cX3_orderIsFromBack_1 (i := 0) rfl) (vyb_cX3_orderIsFromBack_1 (i := 1) rfl) (vyb_cX3_orderIsFromBack_1 (i := 2) rfl) (by decide +kernel)
theorem dX3_orderIsFromBack_13 : decode cX3_orderIsFromBack 13 = Except.ok (Instr.iconst 0, 1) := vyd_3 (vyb_cX3_orderIsFromBack_1 (i := 3) rfl)
theorem dX3_orderIsFromBack_14 : decode cX3_orderIsFromBack 14 = Except.ok (Instr.ireturn, 1) := vyd_172 (vyb_cX3_orderIsFromBack_1 (i := 4) rfl)
theorem vyb_cX3_orderIsToBack_0 {i : Nat} {b : UInt8} (h : ([0x1a, 0x05, 0x70, 0x04, 0xa0, 0x00, 0x07, 0x04, 0xa7, 0x00] : List UInt8)[i]? = some b) : vy_8 cX3_orderIsToBack (0 + i) b := vy_in (n := 10) (by decide +kernel) h
theorem vyb_cX3_orderIsToBack_1 {i : Nat} {b : UInt8} (h : ([0x04, 0x03, 0xac] : List UInt8)[i]? = some b) : vy_8 cX3_orderIsToBack (10 + i) b := vy_in (n := 3) (by decide +kernel) h
theorem dX3_orderIsToBack_0 : decode cX3_orderIsToBack 0 = Except.ok (Instr.iload_n 0, 1) := vyd_26 (vyb_cX3_orderIsToBack_0 (i := 0) rfl)
theorem dX3_orderIsToBack_1 : decode cX3_orderIsToBack 1 = Except.ok (Instr.iconst 2, 1) := vyd_5 (vyb_cX3_orderIsToBack_0 (i := 1) rfl)
theorem dX3_orderIsToBack_2 : decode cX3_orderIsToBack 2 = Except.ok (Instr.irem, 1) := vyd_112 (vyb_cX3_orderIsToBack_0 (i := 2) rfl)
theorem dX3_orderIsToBack_3 : decode cX3_orderIsToBack 3 = Except.ok (Instr.iconst 1, 1) := vyd_4 (vyb_cX3_orderIsToBack_0 (i := 3) rfl)
theorem dX3_orderIsToBack_4 : decode cX3_orderIsToBack 4 = Except.ok (Instr.if_icmp .ne 7, 3) := vyd_160 (vyb_cX3_orderIsToBack_0 (i := 4) rfl) (vyb_cX3_orderIsToBack_0 (i := 5) rfl) (vyb_cX3_orderIsToBack_0 (i := 6) rfl) (by decide +kernel)
theorem dX3_orderIsToBack_7 : decode cX3_orderIsToBack 7 = Except.ok (Instr.iconst 1, 1) := vyd_4 (vyb_cX3_orderIsToBack_0 (i := 7) rfl)
theorem dX3_orderIsToBack_8 : decode cX3_orderIsToBack 8 = Except.ok (Instr.goto 4, 3) := vyd_167 (vyb_cX3_orderIsToBack_0 (i := 8) rfl) (vyb_cX3_orderIsToBack_0 (i := 9) rfl) (vyb_cX3_orderIsToBack_1 (i := 0) rfl) (by decide +kernel)
theorem dX3_orderIsToBack_11 : decode cX3_orderIsToBack 11 = Except.ok (Instr.iconst 0, 1) := vyd_3 (vyb_cX3_orderIsToBack_1 (i := 1) rfl)
theorem dX3_orderIsToBack_12 : decode cX3_orderIsToBack 12 = Except.ok (Instr.ireturn, 1) := vyd_172 (vyb_cX3_orderIsToBack_1 (i := 2) rfl)
theorem vyb_cX3_canMove_0 {i : Nat} {b : UInt8} (h : ([0x1b, 0xb8, 0x01, 0x79, 0x3d, 0x04, 0x1c, 0x64, 0x3e, 0x2a] : List UInt8)[i]? = some b) : vy_8 cX3_canMove (0 + i) b := vy_in (n := 10) (by decide +kernel) h
theorem vyb_cX3_canMove_1 {i : Nat} {b : UInt8} (h : ([0x1c, 0xb6, 0x00, 0x3d, 0xb6, 0x00, 0x60, 0x9a, 0x00, 0x0e] : List UInt8)[i]? = some b) : vy_8 cX3_canMove (10 + i) b := vy_in (n := 10) (by decide +kernel) h
theorem vyb_cX3_canMove_2 {i : Nat} {b : UInt8} (h : ([0x2a, 0x1d, 0xb6, 0x00, 0x3d, 0xb6, 0x00, 0xf8, 0x99, 0x00] : List UInt8)[i]? = some b) : vy_8 cX3_canMove (20 + i) b := vy_in (n := 10) (by decide +kernel) h
theorem vyb_cX3_canMove_3 {i : Nat} {b : UInt8} (h : ([0x05, 0x03, 0xac, 0x1d, 0x04, 0x9f, 0x00, 0x12, 0x2a, 0x1c] : List UInt8)[i]? = some b) : vy_8 cX3_canMove (30 + i) b := vy_in (n := 10) (by decide +kernel) h
theorem vyb_cX3_canMove_4 {i : Nat} {b : UInt8} (h : ([0x1b, 0xb8, 0x01, 0x7c, 0xb6, 0x00, 0x48, 0xb8, 0x00, 0x93] : List UInt8)[i]? = some b) : vy_8 cX3_canMove (40 + i) b := vy_in (n := 10) (by decide +kernel) h
theorem vyb_cX3_canMove_5 {i : Nat} {b : UInt8} (h : ([0x99, 0x00, 0x07, 0x04, 0xa7, 0x00, 0x04, 0x03, 0xac] : List UInt8)[i]? = some b) : vy_8 cX3_canMove (50 + i) b := vy_in (n := 9) (by decide +kernel) h
theorem dX3_canMove_0 : decode cX3_canMove 0 = Except.ok (Instr.iload_n 1, 1) := vyd_27 (vyb_cX3_canMove_0 (i := 0) rfl)
theorem dX3_canMove_1 : decode cX3_canMove 1 = Except.ok (Instr.invokestatic 377, 3) := vyd_184 (vyb_cX3_canMove_0 (i := 1) rfl) (vyb_cX3_canMove_0 (i := 2) rfl) (vyb_cX3_canMove_0 (i := 3) rfl) rfl
theorem dX3_canMove_4 : decode cX3_canMove 4 = Except.ok (Instr.istore_n 2, 1) := vyd_61 (vyb_cX3_canMove_0 (i := 4) rfl)
theorem dX3_canMove_5 : decode cX3_canMove 5 = Except.ok (Instr.iconst 1, 1) := vyd_4 (vyb_cX3_canMove_0 (i := 5) rfl)
theorem dX3_canMove_6 : decode cX3_canMove 6 = Except.ok (Instr.iload_n 2, 1) := vyd_28 (vyb_cX3_canMove_0 (i := 6) rfl)
theorem dX3_canMove_7 : decode cX3_canMove 7 = Except.ok (Instr.isub, 1) := vyd_100 (vyb_cX3_canMove_0 (i := 7) rfl)
theorem dX3_canMove_8 : decode cX3_canMove 8 = Except.ok (Instr.istore_n 3, 1) := vyd_62 (vyb_cX3_canMove_0 (i := 8) rfl)
theorem dX3_canMove_9 : decode cX3_canMove 9 = Except.ok (Instr.aload_n 0, 1) := vyd_42 (vyb_cX3_canMove_0 (i := 9) rfl)
theorem dX3_canMove_10 : decode cX3_canMove 10 = Except.ok (Instr.iload_n 2, 1) := vyd_28 (vyb_cX3_canMove_1 (i := 0) rfl)
theorem dX3_canMove_11 : decode cX3_canMove 11 = Except.ok (Instr.invokevirtual 61, 3) := vyd_182 (vyb_cX3_canMove_1 (i := 1) rfl) (vyb_cX3_canMove_1 (i := 2) rfl) (vyb_cX3_canMove_1 (i := 3) rfl) rfl
theorem dX3_canMove_14 : decode cX3_canMove 14 = Except.ok (Instr.invokevirtual 96, 3) := vyd_182 (vyb_cX3_canMove_1 (i := 4) rfl) (vyb_cX3_canMove_1 (i := 5) rfl) (vyb_cX3_canMove_1 (i := 6) rfl) rfl
theorem dX3_canMove_17 : decode cX3_canMove 17 = Except.ok (Instr.ifCond .ne 14, 3) := vyd_154 (vyb_cX3_canMove_1 (i := 7) rfl) (vyb_cX3_canMove_1 (i := 8) rfl) (vyb_cX3_canMove_1 (i := 9) rfl) (by decide +kernel)
theorem dX3_canMove_20 : decode cX3_canMove 20 = Except.ok (Instr.aload_n 0, 1) := vyd_42 (vyb_cX3_canMove_2 (i := 0) rfl)
theorem dX3_canMove_21 : decode cX3_canMove 21 = Except.ok (Instr.iload_n 3, 1) := vyd_29 (vyb_cX3_canMove_2 (i := 1) rfl)
theorem dX3_canMove_22 : decode cX3_canMove 22 = Except.ok (Instr.invokevirtual 61, 3) := vyd_182 (vyb_cX3_canMove_2 (i := 2) rfl) (vyb_cX3_canMove_2 (i := 3) rfl) (vyb_cX3_canMove_2 (i := 4) rfl) rfl
theorem dX3_canMove_25 : decode cX3_canMove 25 = Except.ok (Instr.invokevirtual 248, 3) := vyd_182 (vyb_cX3_canMove_2 (i := 5) rfl) (vyb_cX3_canMove_2 (i := 6) rfl) (vyb_cX3_canMove_2 (i := 7) rfl) rfl
theorem dX3_canMove_28 : decode cX3_canMove 28 = Except.ok (Instr.ifCond .eq 5, 3) := vyd_153 (vyb_cX3_canMove_2 (i := 8) rfl) (vyb_cX3_canMove_2 (i := 9) rfl) (vyb_cX3_canMove_3 (i := 0) rfl) (by decide +kernel)
theorem dX3_canMove_31 : decode cX3_canMove 31 = Except.ok (Instr.iconst 0, 1) := vyd_3 (vyb_cX3_canMove_3 (i := 1) rfl)
theorem dX3_canMove_32 : decode cX3_canMove 32 = Except.ok (Instr.ireturn, 1) := vyd_172 (vyb_cX3_canMove_3 (i := 2) rfl)
theorem dX3_canMove_33 : decode cX3_canMove 33 = Except.ok (Instr.iload_n 3, 1) := vyd_29 (vyb_cX3_canMove_3 (i := 3) rfl)
theorem dX3_canMove_34 : decode cX3_canMove 34 = Except.ok (Instr.iconst 1, 1) := vyd_4 (vyb_cX3_canMove_3 (i := 4) rfl)
theorem dX3_canMove_35 : decode cX3_canMove 35 = Except.ok (Instr.if_icmp .eq 18, 3) := vyd_159 (vyb_cX3_canMove_3 (i := 5) rfl) (vyb_cX3_canMove_3 (i := 6) rfl) (vyb_cX3_canMove_3 (i := 7) rfl) (by decide +kernel)
theorem dX3_canMove_38 : decode cX3_canMove 38 = Except.ok (Instr.aload_n 0, 1) := vyd_42 (vyb_cX3_canMove_3 (i := 8) rfl)
theorem dX3_canMove_39 : decode cX3_canMove 39 = Except.ok (Instr.iload_n 2, 1) := vyd_28 (vyb_cX3_canMove_3 (i := 9) rfl)
theorem dX3_canMove_40 : decode cX3_canMove 40 = Except.ok (Instr.iload_n 1, 1) := vyd_27 (vyb_cX3_canMove_4 (i := 0) rfl)
theorem dX3_canMove_41 : decode cX3_canMove 41 = Except.ok (Instr.invokestatic 380, 3) := vyd_184 (vyb_cX3_canMove_4 (i := 1) rfl) (vyb_cX3_canMove_4 (i := 2) rfl) (vyb_cX3_canMove_4 (i := 3) rfl) rfl
theorem dX3_canMove_44 : decode cX3_canMove 44 = Except.ok (Instr.invokevirtual 72, 3) := vyd_182 (vyb_cX3_canMove_4 (i := 4) rfl) (vyb_cX3_canMove_4 (i := 5) rfl) (vyb_cX3_canMove_4 (i := 6) rfl) rfl
theorem dX3_canMove_47 : decode cX3_canMove 47 = Except.ok (Instr.invokestatic 147, 3) := vyd_184 (vyb_cX3_canMove_4 (i := 7) rfl) (vyb_cX3_canMove_4 (i := 8) rfl) (vyb_cX3_canMove_4 (i := 9) rfl) rfl
theorem dX3_canMove_50 : decode cX3_canMove 50 = Except.ok (Instr.ifCond .eq 7, 3) := vyd_153 (vyb_cX3_canMove_5 (i := 0) rfl) (vyb_cX3_canMove_5 (i := 1) rfl) (vyb_cX3_canMove_5 (i := 2) rfl) (by decide +kernel)
theorem dX3_canMove_53 : decode cX3_canMove 53 = Except.ok (Instr.iconst 1, 1) := vyd_4 (vyb_cX3_canMove_5 (i := 3) rfl)
theorem dX3_canMove_54 : decode cX3_canMove 54 = Except.ok (Instr.goto 4, 3) := vyd_167 (vyb_cX3_canMove_5 (i := 4) rfl) (vyb_cX3_canMove_5 (i := 5) rfl) (vyb_cX3_canMove_5 (i := 6) rfl) (by decide +kernel)
theorem dX3_canMove_57 : decode cX3_canMove 57 = Except.ok (Instr.iconst 0, 1) := vyd_3 (vyb_cX3_canMove_5 (i := 7) rfl)
theorem dX3_canMove_58 : decode cX3_canMove 58 = Except.ok (Instr.ireturn, 1) := vyd_172 (vyb_cX3_canMove_5 (i := 8) rfl)
theorem vyb_cX3_move_0 {i : Nat} {b : UInt8} (h : ([0x1b, 0xb8, 0x01, 0x79, 0x3d, 0x2a, 0x1c, 0x1b, 0xb8, 0x01] : List UInt8)[i]? = some b) : vy_8 cX3_move (0 + i) b := vy_in (n := 10) (by decide +kernel) h
theorem vyb_cX3_move_1 {i : Nat} {b : UInt8} (h : ([0x7c, 0xb6, 0x00, 0x6a, 0x3e, 0x2a, 0x04, 0x1c, 0x64, 0x1b] : List UInt8)[i]? = some b) : vy_8 cX3_move (10 + i) b := vy_in (n := 10) (by decide +kernel) h
theorem vyb_cX3_move_2 {i : Nat} {b : UInt8} (h : ([0xb8, 0x01, 0x7f, 0x1d, 0xb6, 0x00, 0x58, 0xb1] : List UInt8)[i]? = some b) : vy_8 cX3_move (20 + i) b := vy_in (n := 8) (by decide +kernel) h
theorem dX3_move_0 : decode cX3_move 0 = Except.ok (Instr.iload_n 1, 1) := vyd_27 (vyb_cX3_move_0 (i := 0) rfl)
theorem dX3_move_1 : decode cX3_move 1 = Except.ok (Instr.invokestatic 377, 3) := vyd_184 (vyb_cX3_move_0 (i := 1) rfl) (vyb_cX3_move_0 (i := 2) rfl) (vyb_cX3_move_0 (i := 3) rfl) rfl
theorem dX3_move_4 : decode cX3_move 4 = Except.ok (Instr.istore_n 2, 1) := vyd_61 (vyb_cX3_move_0 (i := 4) rfl)
theorem dX3_move_5 : decode cX3_move 5 = Except.ok (Instr.aload_n 0, 1) := vyd_42 (vyb_cX3_move_0 (i := 5) rfl)
theorem dX3_move_6 : decode cX3_move 6 = Except.ok (Instr.iload_n 2, 1) := vyd_28 (vyb_cX3_move_0 (i := 6) rfl)
theorem dX3_move_7 : decode cX3_move 7 = Except.ok (Instr.iload_n 1, 1) := vyd_27 (vyb_cX3_move_0 (i := 7) rfl)
theorem dX3_move_8 : decode cX3_move 8 = Except.ok (Instr.invokestatic 380, 3) := vyd_184 (vyb_cX3_move_0 (i := 8) rfl) (vyb_cX3_move_0 (i := 9) rfl) (vyb_cX3_move_1 (i := 0) rfl) rfl
theorem dX3_move_11 : decode cX3_move 11 = Except.ok (Instr.invokevirtual 106, 3) := vyd_182 (vyb_cX3_move_1 (i := 1) rfl) (vyb_cX3_move_1 (i := 2) rfl) (vyb_cX3_move_1 (i := 3) rfl) rfl
theorem dX3_move_14 : decode cX3_move 14 = Except.ok (Instr.istore_n 3, 1) := vyd_62 (vyb_cX3_move_1 (i := 4) rfl)
theorem dX3_move_15 : decode cX3_move 15 = Except.ok (Instr.aload_n 0, 1) := vyd_42 (vyb_cX3_move_1 (i := 5) rfl)
theorem dX3_move_16 : decode cX3_move 16 = Except.ok (Instr.iconst 1, 1) := vyd_4 (vyb_cX3_move_1 (i := 6) rfl)
theorem dX3_move_17 : decode cX3_move 17 = Except.ok (Instr.iload_n 2, 1) := vyd_28 (vyb_cX3_move_1 (i := 7) rfl)
theorem dX3_move_18 : decode cX3_move 18 = Except.ok (Instr.isub, 1) := vyd_100 (vyb_cX3_move_1 (i := 8) rfl)
theorem dX3_move_19 : decode cX3_move 19 = Except.ok (Instr.iload_n 1, 1) := vyd_27 (vyb_cX3_move_1 (i := 9) rfl)
theorem dX3_move_20 : decode cX3_move 20 = Except.ok (Instr.invokestatic 383, 3) := vyd_184 (vyb_cX3_move_2 (i := 0) rfl) (vyb_cX3_move_2 (i := 1) rfl) (vyb_cX3_move_2 (i := 2) rfl) rfl
theorem dX3_move_23 : decode cX3_move 23 = Except.ok (Instr.iload_n 3, 1) := vyd_29 (vyb_cX3_move_2 (i := 3) rfl)
theorem dX3_move_24 : decode cX3_move 24 = Except.ok (Instr.invokevirtual 88, 3) := vyd_182 (vyb_cX3_move_2 (i := 4) rfl) (vyb_cX3_move_2 (i := 5) rfl) (vyb_cX3_move_2 (i := 6) rfl) rfl
theorem dX3_move_27 : decode cX3_move 27 = Except.ok (Instr.return_, 1) := vyd_177 (vyb_cX3_move_2 (i := 7) rfl)
theorem vyb_cX3_codeAtEnd_0 {i : Nat} {b : UInt8} (h : ([0x2a, 0x1b, 0xb6, 0x00, 0x3d, 0x4e, 0x2d, 0x2d, 0x1c, 0xb6] : List UInt8)[i]? = some b) : vy_8 cX3_codeAtEnd (0 + i) b := vy_in (n := 10) (by decide +kernel) h
theorem vyb_cX3_codeAtEnd_1 {i : Nat} {b : UInt8} (h : ([0x00, 0x6d, 0xb6, 0x00, 0x90, 0xac] : List UInt8)[i]? = some b) : vy_8 cX3_codeAtEnd (10 + i) b := vy_in (n := 6) (by decide +kernel) h
theorem dX3_codeAtEnd_0 : decode cX3_codeAtEnd 0 = Except.ok (Instr.aload_n 0, 1) := vyd_42 (vyb_cX3_codeAtEnd_0 (i := 0) rfl)
theorem dX3_codeAtEnd_1 : decode cX3_codeAtEnd 1 = Except.ok (Instr.iload_n 1, 1) := vyd_27 (vyb_cX3_codeAtEnd_0 (i := 1) rfl)
theorem dX3_codeAtEnd_2 : decode cX3_codeAtEnd 2 = Except.ok (Instr.invokevirtual 61, 3) := vyd_182 (vyb_cX3_codeAtEnd_0 (i := 2) rfl) (vyb_cX3_codeAtEnd_0 (i := 3) rfl) (vyb_cX3_codeAtEnd_0 (i := 4) rfl) rfl
theorem dX3_codeAtEnd_5 : decode cX3_codeAtEnd 5 = Except.ok (Instr.astore_n 3, 1) := vyd_78 (vyb_cX3_codeAtEnd_0 (i := 5) rfl)
theorem dX3_codeAtEnd_6 : decode cX3_codeAtEnd 6 = Except.ok (Instr.aload_n 3, 1) := vyd_45 (vyb_cX3_codeAtEnd_0 (i := 6) rfl)
theorem dX3_codeAtEnd_7 : decode cX3_codeAtEnd 7 = Except.ok (Instr.aload_n 3, 1) := vyd_45 (vyb_cX3_codeAtEnd_0 (i := 7) rfl)
theorem dX3_codeAtEnd_8 : decode cX3_codeAtEnd 8 = Except.ok (Instr.iload_n 2, 1) := vyd_28 (vyb_cX3_codeAtEnd_0 (i := 8) rfl)
theorem dX3_codeAtEnd_9 : decode cX3_codeAtEnd 9 = Except.ok (Instr.invokevirtual 109, 3) := vyd_182 (vyb_cX3_codeAtEnd_0 (i := 9) rfl) (vyb_cX3_codeAtEnd_1 (i := 0) rfl) (vyb_cX3_codeAtEnd_1 (i := 1) rfl) rfl
theorem dX3_codeAtEnd_12 : decode cX3_codeAtEnd 12 = Except.ok (Instr.invokevirtual 144, 3) := vyd_182 (vyb_cX3_codeAtEnd_1 (i := 2) rfl) (vyb_cX3_codeAtEnd_1 (i := 3) rfl) (vyb_cX3_codeAtEnd_1 (i := 4) rfl) rfl
theorem dX3_codeAtEnd_15 : decode cX3_codeAtEnd 15 = Except.ok (Instr.ireturn, 1) := vyd_172 (vyb_cX3_codeAtEnd_1 (i := 5) rfl)
theorem vyb_cX3_atEnd_0 {i : Nat} {b : UInt8} (h : ([0x2a, 0x1b, 0xb6, 0x00, 0x3d, 0xb6, 0x00, 0x60, 0x99, 0x00] : List UInt8)[i]? = some b) : vy_8 cX3_atEnd (0 + i) b := vy_in (n := 10) (by decide +kernel) h
theorem vyb_cX3_atEnd_1 {i : Nat} {b : UInt8} (h : ([0x18, 0x1c, 0x99, 0x00, 0x0d, 0x1c, 0x04, 0x9f, 0x00, 0x08] : List UInt8)[i]? = some b) : vy_8 cX3_atEnd (10 + i) b := vy_in (n := 10) (by decide +kernel) h
theorem vyb_cX3_atEnd_2 {i : Nat} {b : UInt8} (h : ([0x1c, 0x07, 0xa0, 0x00, 0x08, 0x10, 0xf7, 0xa7, 0x00, 0x04] : List UInt8)[i]? = some b) : vy_8 cX3_atEnd (20 + i) b := vy_in (n := 10) (by decide +kernel) h
theorem vyb_cX3_atEnd_3 {i : Nat} {b : UInt8} (h : ([0x03, 0xac, 0x2a, 0x1b, 0x1c, 0x04, 0x9f, 0x00, 0x08, 0x1c] : List UInt8)[i]? = some b) : vy_8 cX3_atEnd (30 + i) b := vy_in (n := 10) (by decide +kernel) h
theorem vyb_cX3_atEnd_4 {i : Nat} {b : UInt8} (h : ([0x06, 0xa0, 0x00, 0x07, 0x04, 0xa7, 0x00, 0x04, 0x03, 0xb6] : List UInt8)[i]? = some b) : vy_8 cX3_atEnd (40 + i) b := vy_in (n := 10) (by decide +kernel) h
theorem vyb_cX3_atEnd_5 {i : Nat} {b : UInt8} (h : ([0x00, 0x48, 0xac] : List UInt8)[i]? = some b) : vy_8 cX3_atEnd (50 + i) b := vy_in (n := 3) (by decide +kernel) h
theorem dX3_atEnd_0 : decode cX3_atEnd 0 = Except.ok (Instr.aload_n 0, 1) := vyd_42 (vyb_cX3_atEnd_0 (i := 0) rfl)
theorem dX3_atEnd_1 : decode cX3_atEnd 1 = Except.ok (Instr.iload_n 1, 1) := vyd_27 (vyb_cX3_atEnd_0 (i := 1) rfl)
theorem dX3_atEnd_2 : decode cX3_atEnd 2 = Except.ok (Instr.invokevirtual 61, 3) := vyd_182 (vyb_cX3_atEnd_0 (i := 2) rfl) (vyb_cX3_atEnd_0 (i := 3) rfl) (vyb_cX3_atEnd_0 (i := 4) rfl) rfl
theorem dX3_atEnd_5 : decode cX3_atEnd 5 = Except.ok (Instr.invokevirtual 96, 3) := vyd_182 (vyb_cX3_atEnd_0 (i := 5) rfl) (vyb_cX3_atEnd_0 (i := 6) rfl) (vyb_cX3_atEnd_0 (i := 7) rfl) rfl
theorem dX3_atEnd_8 : decode cX3_atEnd 8 = Except.ok (Instr.ifCond .eq 24, 3) := vyd_153 (vyb_cX3_atEnd_0 (i := 8) rfl) (vyb_cX3_atEnd_0 (i := 9) rfl) (vyb_cX3_atEnd_1 (i := 0) rfl) (by decide +kernel)
theorem dX3_atEnd_11 : decode cX3_atEnd 11 = Except.ok (Instr.iload_n 2, 1) := vyd_28 (vyb_cX3_atEnd_1 (i := 1) rfl)
theorem dX3_atEnd_12 : decode cX3_atEnd 12 = Except.ok (Instr.ifCond .eq 13, 3) := vyd_153 (vyb_cX3_atEnd_1 (i := 2) rfl) (vyb_cX3_atEnd_1 (i := 3) rfl) (vyb_cX3_atEnd_1 (i := 4) rfl) (by decide +kernel)
theorem dX3_atEnd_15 : decode cX3_atEnd 15 = Except.ok (Instr.iload_n 2, 1) := vyd_28 (vyb_cX3_atEnd_1 (i := 5) rfl)
theorem dX3_atEnd_16 : decode cX3_atEnd 16 = Except.ok (Instr.iconst 1, 1) := vyd_4 (vyb_cX3_atEnd_1 (i := 6) rfl)
theorem dX3_atEnd_17 : decode cX3_atEnd 17 = Except.ok (Instr.if_icmp .eq 8, 3) := vyd_159 (vyb_cX3_atEnd_1 (i := 7) rfl) (vyb_cX3_atEnd_1 (i := 8) rfl) (vyb_cX3_atEnd_1 (i := 9) rfl) (by decide +kernel)
theorem dX3_atEnd_20 : decode cX3_atEnd 20 = Except.ok (Instr.iload_n 2, 1) := vyd_28 (vyb_cX3_atEnd_2 (i := 0) rfl)
theorem dX3_atEnd_21 : decode cX3_atEnd 21 = Except.ok (Instr.iconst 4, 1) := vyd_7 (vyb_cX3_atEnd_2 (i := 1) rfl)
theorem dX3_atEnd_22 : decode cX3_atEnd 22 = Except.ok (Instr.if_icmp .ne 8, 3) := vyd_160 (vyb_cX3_atEnd_2 (i := 2) rfl) (vyb_cX3_atEnd_2 (i := 3) rfl) (vyb_cX3_atEnd_2 (i := 4) rfl) (by decide +kernel)
theorem dX3_atEnd_25 : decode cX3_atEnd 25 = Except.ok (Instr.bipush (-9), 2) := vyd_16 (vyb_cX3_atEnd_2 (i := 5) rfl) (vyb_cX3_atEnd_2 (i := 6) rfl) (by decide +kernel)
theorem dX3_atEnd_27 : decode cX3_atEnd 27 = Except.ok (Instr.goto 4, 3) := vyd_167 (vyb_cX3_atEnd_2 (i := 7) rfl) (vyb_cX3_atEnd_2 (i := 8) rfl) (vyb_cX3_atEnd_2 (i := 9) rfl) (by decide +kernel)
theorem dX3_atEnd_30 : decode cX3_atEnd 30 = Except.ok (Instr.iconst 0, 1) := vyd_3 (vyb_cX3_atEnd_3 (i := 0) rfl)
theorem dX3_atEnd_31 : decode cX3_atEnd 31 = Except.ok (Instr.ireturn, 1) := vyd_172 (vyb_cX3_atEnd_3 (i := 1) rfl)
theorem dX3_atEnd_32 : decode cX3_atEnd 32 = Except.ok (Instr.aload_n 0, 1) := vyd_42 (vyb_cX3_atEnd_3 (i := 2) rfl)
theorem dX3_atEnd_33 : decode cX3_atEnd 33 = Except.ok (Instr.iload_n 1, 1) := vyd_27 (vyb_cX3_atEnd_3 (i := 3) rfl)
theorem dX3_atEnd_34 : decode cX3_atEnd 34 = Except.ok (Instr.iload_n 2, 1) := vyd_28 (vyb_cX3_atEnd_3 (i := 4) rfl)
theorem dX3_atEnd_35 : decode cX3_atEnd 35 = Except.ok (Instr.iconst 1, 1) := vyd_4 (vyb_cX3_atEnd_3 (i := 5) rfl)
theorem dX3_atEnd_36 : decode cX3_atEnd 36 = Except.ok (Instr.if_icmp .eq 8, 3) := vyd_159 (vyb_cX3_atEnd_3 (i := 6) rfl) (vyb_cX3_atEnd_3 (i := 7) rfl) (vyb_cX3_atEnd_3 (i := 8) rfl) (by decide +kernel)
theorem dX3_atEnd_39 : decode cX3_atEnd 39 = Except.ok (Instr.iload_n 2, 1) := vyd_28 (vyb_cX3_atEnd_3 (i := 9) rfl)
theorem dX3_atEnd_40 : decode cX3_atEnd 40 = Except.ok (Instr.iconst 3, 1) := vyd_6 (vyb_cX3_atEnd_4 (i := 0) rfl)
theorem dX3_atEnd_41 : decode cX3_atEnd 41 = Except.ok (Instr.if_icmp .ne 7, 3) := vyd_160 (vyb_cX3_atEnd_4 (i := 1) rfl) (vyb_cX3_atEnd_4 (i := 2) rfl) (vyb_cX3_atEnd_4 (i := 3) rfl) (by decide +kernel)
theorem dX3_atEnd_44 : decode cX3_atEnd 44 = Except.ok (Instr.iconst 1, 1) := vyd_4 (vyb_cX3_atEnd_4 (i := 4) rfl)
theorem dX3_atEnd_45 : decode cX3_atEnd 45 = Except.ok (Instr.goto 4, 3) := vyd_167 (vyb_cX3_atEnd_4 (i := 5) rfl) (vyb_cX3_atEnd_4 (i := 6) rfl) (vyb_cX3_atEnd_4 (i := 7) rfl) (by decide +kernel)
theorem dX3_atEnd_48 : decode cX3_atEnd 48 = Except.ok (Instr.iconst 0, 1) := vyd_3 (vyb_cX3_atEnd_4 (i := 8) rfl)
theorem dX3_atEnd_49 : decode cX3_atEnd 49 = Except.ok (Instr.invokevirtual 72, 3) := vyd_182 (vyb_cX3_atEnd_4 (i := 9) rfl) (vyb_cX3_atEnd_5 (i := 0) rfl) (vyb_cX3_atEnd_5 (i := 1) rfl) rfl
theorem dX3_atEnd_52 : decode cX3_atEnd 52 = Except.ok (Instr.ireturn, 1) := vyd_172 (vyb_cX3_atEnd_5 (i := 2) rfl)
theorem vyb_cX3_factOfTrack_0 {i : Nat} {b : UInt8} (h : ([0x2a, 0x1b, 0xb6, 0x00, 0x3d, 0x4e, 0x1c, 0xaa, 0x00, 0x00] : List UInt8)[i]? = some b) : vy_8 cX3_factOfTrack (0 + i) b := vy_in (n := 10) (by decide +kernel) h
theorem vyb_cX3_factOfTrack_1 {i : Nat} {b : UInt8} (h : ([0x00, 0x2b, 0x00, 0x00, 0x00, 0x00, 0x00, 0x00, 0x00, 0x02] : List UInt8)[i]? = some b) : vy_8 cX3_factOfTrack (10 + i) b := vy_in (n := 10) (by decide +kernel) h
theorem vyb_cX3_factOfTrack_2 {i : Nat} {b : UInt8} (h : ([0x00, 0x00, 0x00, 0x19, 0x00, 0x00, 0x00, 0x1e, 0x00, 0x00] : List UInt8)[i]? = some b) : vy_8 cX3_factOfTrack (20 + i) b := vy_in (n := 10) (by decide +kernel) h
theorem vyb_cX3_factOfTrack_3 {i : Nat} {b : UInt8} (h : ([0x00, 0x26, 0x2d, 0xb6, 0x00, 0x41, 0xac, 0x2d, 0xb6, 0x00] : List UInt8)[i]? = some b) : vy_8 cX3_factOfTrack (30 + i) b := vy_in (n := 10) (by decide +kernel) h
theorem vyb_cX3_factOfTrack_4 {i : Nat} {b : UInt8} (h : ([0x60, 0xb8, 0x01, 0x4b, 0xac, 0x2d, 0xb8, 0x01, 0x82, 0xac] : List UInt8)[i]? = some b) : vy_8 cX3_factOfTrack (40 + i) b := vy_in (n := 10) (by decide +kernel) h
theorem vyb_cX3_factOfTrack_5 {i : Nat} {b : UInt8} (h : ([0x2d, 0xb8, 0x01, 0x86, 0xac] : List UInt8)[i]? = some b) : vy_8 cX3_factOfTrack (50 + i) b := vy_in (n := 5) (by decide +kernel) h
theorem dX3_factOfTrack_0 : decode cX3_factOfTrack 0 = Except.ok (Instr.aload_n 0, 1) := vyd_42 (vyb_cX3_factOfTrack_0 (i := 0) rfl)
theorem dX3_factOfTrack_1 : decode cX3_factOfTrack 1 = Except.ok (Instr.iload_n 1, 1) := vyd_27 (vyb_cX3_factOfTrack_0 (i := 1) rfl)
theorem dX3_factOfTrack_2 : decode cX3_factOfTrack 2 = Except.ok (Instr.invokevirtual 61, 3) := vyd_182 (vyb_cX3_factOfTrack_0 (i := 2) rfl) (vyb_cX3_factOfTrack_0 (i := 3) rfl) (vyb_cX3_factOfTrack_0 (i := 4) rfl) rfl
theorem dX3_factOfTrack_5 : decode cX3_factOfTrack 5 = Except.ok (Instr.astore_n 3, 1) := vyd_78 (vyb_cX3_factOfTrack_0 (i := 5) rfl)
theorem dX3_factOfTrack_6 : decode cX3_factOfTrack 6 = Except.ok (Instr.iload_n 2, 1) := vyd_28 (vyb_cX3_factOfTrack_0 (i := 6) rfl)
theorem dX3_factOfTrack_7 : decode cX3_factOfTrack 7 = .ok (.tableswitch 43 0 2 #[25, 30, 38], 25) := by decide +kernel
theorem dX3_factOfTrack_32 : decode cX3_factOfTrack 32 = Except.ok (Instr.aload_n 3, 1) := vyd_45 (vyb_cX3_factOfTrack_3 (i := 2) rfl)
theorem dX3_factOfTrack_33 : decode cX3_factOfTrack 33 = Except.ok (Instr.invokevirtual 65, 3) := vyd_182 (vyb_cX3_factOfTrack_3 (i := 3) rfl) (vyb_cX3_factOfTrack_3 (i := 4) rfl) (vyb_cX3_factOfTrack_3 (i := 5) rfl) rfl
theorem dX3_factOfTrack_36 : decode cX3_factOfTrack 36 = Except.ok (Instr.ireturn, 1) := vyd_172 (vyb_cX3_factOfTrack_3 (i := 6) rfl)
theorem dX3_factOfTrack_37 : decode cX3_factOfTrack 37 = Except.ok (Instr.aload_n 3, 1) := vyd_45 (vyb_cX3_factOfTrack_3 (i := 7) rfl)
theorem dX3_factOfTrack_38 : decode cX3_factOfTrack 38 = Except.ok (Instr.invokevirtual 96, 3) := vyd_182 (vyb_cX3_factOfTrack_3 (i := 8) rfl) (vyb_cX3_factOfTrack_3 (i := 9) rfl) (vyb_cX3_factOfTrack_4 (i := 0) rfl) rfl
theorem dX3_factOfTrack_41 : decode cX3_factOfTrack 41 = Except.ok (Instr.invokestatic 331, 3) := vyd_184 (vyb_cX3_factOfTrack_4 (i := 1) rfl) (vyb_cX3_factOfTrack_4 (i := 2) rfl) (vyb_cX3_factOfTrack_4 (i := 3) rfl) rfl
theorem dX3_factOfTrack_44 : decode cX3_factOfTrack 44 = Except.ok (Instr.ireturn, 1) := vyd_172 (vyb_cX3_factOfTrack_4 (i := 4) rfl)
theorem dX3_factOfTrack_45 : decode cX3_factOfTrack 45 = Except.ok (Instr.aload_n 3, 1) := vyd_45 (vyb_cX3_factOfTrack_4 (i := 5) rfl)
theorem dX3_factOfTrack_46 : decode cX3_factOfTrack 46 = Except.ok (Instr.invokestatic 386, 3) := vyd_184 (vyb_cX3_factOfTrack_4 (i := 6) rfl) (vyb_cX3_factOfTrack_4 (i := 7) rfl) (vyb_cX3_factOfTrack_4 (i := 8) rfl) rfl
theorem dX3_factOfTrack_49 : decode cX3_factOfTrack 49 = Except.ok (Instr.ireturn, 1) := vyd_172 (vyb_cX3_factOfTrack_4 (i := 9) rfl)
theorem dX3_factOfTrack_50 : decode cX3_factOfTrack 50 = Except.ok (Instr.aload_n 3, 1) := vyd_45 (vyb_cX3_factOfTrack_5 (i := 0) rfl)
theorem dX3_factOfTrack_51 : decode cX3_factOfTrack 51 = Except.ok (Instr.invokestatic 390, 3) := vyd_184 (vyb_cX3_factOfTrack_5 (i := 1) rfl) (vyb_cX3_factOfTrack_5 (i := 2) rfl) (vyb_cX3_factOfTrack_5 (i := 3) rfl) rfl
theorem dX3_factOfTrack_54 : decode cX3_factOfTrack 54 = Except.ok (Instr.ireturn, 1) := vyd_172 (vyb_cX3_factOfTrack_5 (i := 4) rfl)
theorem vyb_cX3_sumOfLoads_0 {i : Nat} {b : UInt8} (h : ([0x03, 0x3c, 0x03, 0x3d, 0x1c, 0x2a, 0xb6, 0x00, 0x41, 0xa2] : List UInt8)[i]? = some b) : vy_8 cX3_sumOfLoads (0 + i) b := vy_in (n := 10) (by decide +kernel) h
theorem vyb_cX3_sumOfLoads_1 {i : Nat} {b : UInt8} (h : ([0x00, 0x14, 0x1b, 0x2a, 0x1c, 0xb6, 0x00, 0x90, 0xb8, 0x00] : List UInt8)[i]? = some b) : vy_8 cX3_sumOfLoads (10 + i) b := vy_in (n := 10) (by decide +kernel) h
theorem vyb_cX3_sumOfLoads_2 {i : Nat} {b : UInt8} (h : ([0x99, 0x60, 0x3c, 0x84, 0x02, 0x01, 0xa7, 0xff, 0xea, 0x1b] : List UInt8)[i]? = some b) : vy_8 cX3_sumOfLoads (20 + i) b := vy_in (n := 10) (by decide +kernel) h
theorem vyb_cX3_sumOfLoads_3 {i : Nat} {b : UInt8} (h : ([0xac] : List UInt8)[i]? = some b) : vy_8 cX3_sumOfLoads (30 + i) b := vy_in (n := 1) (by decide +kernel) h
theorem dX3_sumOfLoads_0 : decode cX3_sumOfLoads 0 = Except.ok (Instr.iconst 0, 1) := vyd_3 (vyb_cX3_sumOfLoads_0 (i := 0) rfl)
theorem dX3_sumOfLoads_1 : decode cX3_sumOfLoads 1 = Except.ok (Instr.istore_n 1, 1) := vyd_60 (vyb_cX3_sumOfLoads_0 (i := 1) rfl)
theorem dX3_sumOfLoads_2 : decode cX3_sumOfLoads 2 = Except.ok (Instr.iconst 0, 1) := vyd_3 (vyb_cX3_sumOfLoads_0 (i := 2) rfl)
theorem dX3_sumOfLoads_3 : decode cX3_sumOfLoads 3 = Except.ok (Instr.istore_n 2, 1) := vyd_61 (vyb_cX3_sumOfLoads_0 (i := 3) rfl)
theorem dX3_sumOfLoads_4 : decode cX3_sumOfLoads 4 = Except.ok (Instr.iload_n 2, 1) := vyd_28 (vyb_cX3_sumOfLoads_0 (i := 4) rfl)
theorem dX3_sumOfLoads_5 : decode cX3_sumOfLoads 5 = Except.ok (Instr.aload_n 0, 1) := vyd_42 (vyb_cX3_sumOfLoads_0 (i := 5) rfl)
theorem dX3_sumOfLoads_6 : decode cX3_sumOfLoads 6 = Except.ok (Instr.invokevirtual 65, 3) := vyd_182 (vyb_cX3_sumOfLoads_0 (i := 6) rfl) (vyb_cX3_sumOfLoads_0 (i := 7) rfl) (vyb_cX3_sumOfLoads_0 (i := 8) rfl) rfl
theorem dX3_sumOfLoads_9 : decode cX3_sumOfLoads 9 = Except.ok (Instr.if_icmp .ge 20, 3) := vyd_162 (vyb_cX3_sumOfLoads_0 (i := 9) rfl) (vyb_cX3_sumOfLoads_1 (i := 0) rfl) (vyb_cX3_sumOfLoads_1 (i := 1) rfl) (by decide +kernel)
theorem dX3_sumOfLoads_12 : decode cX3_sumOfLoads 12 = Except.ok (Instr.iload_n 1, 1) := vyd_27 (vyb_cX3_sumOfLoads_1 (i := 2) rfl)
theorem dX3_sumOfLoads_13 : decode cX3_sumOfLoads 13 = Except.ok (Instr.aload_n 0, 1) := vyd_42 (vyb_cX3_sumOfLoads_1 (i := 3) rfl)
theorem dX3_sumOfLoads_14 : decode cX3_sumOfLoads 14 = Except.ok (Instr.iload_n 2, 1) := vyd_28 (vyb_cX3_sumOfLoads_1 (i := 4) rfl)
theorem dX3_sumOfLoads_15 : decode cX3_sumOfLoads 15 = Except.ok (Instr.invokevirtual 144, 3) := vyd_182 (vyb_cX3_sumOfLoads_1 (i := 5) rfl) (vyb_cX3_sumOfLoads_1 (i := 6) rfl) (vyb_cX3_sumOfLoads_1 (i := 7) rfl) rfl
theorem dX3_sumOfLoads_18 : decode cX3_sumOfLoads 18 = Except.ok (Instr.invokestatic 153, 3) := vyd_184 (vyb_cX3_sumOfLoads_1 (i := 8) rfl) (vyb_cX3_sumOfLoads_1 (i := 9) rfl) (vyb_cX3_sumOfLoads_2 (i := 0) rfl) rfl
theorem dX3_sumOfLoads_21 : decode cX3_sumOfLoads 21 = Except.ok (Instr.iadd, 1) := vyd_96 (vyb_cX3_sumOfLoads_2 (i := 1) rfl)
theorem dX3_sumOfLoads_22 : decode cX3_sumOfLoads 22 = Except.ok (Instr.istore_n 1, 1) := vyd_60 (vyb_cX3_sumOfLoads_2 (i := 2) rfl)
theorem dX3_sumOfLoads_23 : decode cX3_sumOfLoads 23 = .ok (.iinc 2 1, 3) := by decide +kernel
theorem dX3_sumOfLoads_26 : decode cX3_sumOfLoads 26 = Except.ok (Instr.goto (-22), 3) := vyd_167 (vyb_cX3_sumOfLoads_2 (i := 6) rfl) (vyb_cX3_sumOfLoads_2 (i := 7) rfl) (vyb_cX3_sumOfLoads_2 (i := 8) rfl) (by decide +kernel)
theorem dX3_sumOfLoads_29 : decode cX3_sumOfLoads 29 = Except.ok (Instr.iload_n 1, 1) := vyd_27 (vyb_cX3_sumOfLoads_2 (i := 9) rfl)
theorem dX3_sumOfLoads_30 : decode cX3_sumOfLoads 30 = Except.ok (Instr.ireturn, 1) := vyd_172 (vyb_cX3_sumOfLoads_3 (i := 0) rfl)
theorem vyb_cX3_sealOf_0 {i : Nat} {b : UInt8} (h : ([0x04, 0x3c, 0x03, 0x3d, 0x1c, 0x2a, 0xb6, 0x00, 0x41, 0xa2] : List UInt8)[i]? = some b) : vy_8 cX3_sealOf (0 + i) b := vy_in (n := 10) (by decide +kernel) h
theorem vyb_cX3_sealOf_1 {i : Nat} {b : UInt8} (h : ([0x00, 0x17, 0x10, 0x1f, 0x1b, 0x68, 0x2a, 0x1c, 0xb6, 0x00] : List UInt8)[i]? = some b) : vy_8 cX3_sealOf (10 + i) b := vy_in (n := 10) (by decide +kernel) h
theorem vyb_cX3_sealOf_2 {i : Nat} {b : UInt8} (h : ([0x90, 0xb8, 0x00, 0x93, 0x60, 0x3c, 0x84, 0x02, 0x01, 0xa7] : List UInt8)[i]? = some b) : vy_8 cX3_sealOf (20 + i) b := vy_in (n := 10) (by decide +kernel) h
theorem vyb_cX3_sealOf_3 {i : Nat} {b : UInt8} (h : ([0xff, 0xe7, 0x1b, 0xac] : List UInt8)[i]? = some b) : vy_8 cX3_sealOf (30 + i) b := vy_in (n := 4) (by decide +kernel) h
theorem dX3_sealOf_0 : decode cX3_sealOf 0 = Except.ok (Instr.iconst 1, 1) := vyd_4 (vyb_cX3_sealOf_0 (i := 0) rfl)
theorem dX3_sealOf_1 : decode cX3_sealOf 1 = Except.ok (Instr.istore_n 1, 1) := vyd_60 (vyb_cX3_sealOf_0 (i := 1) rfl)
theorem dX3_sealOf_2 : decode cX3_sealOf 2 = Except.ok (Instr.iconst 0, 1) := vyd_3 (vyb_cX3_sealOf_0 (i := 2) rfl)
theorem dX3_sealOf_3 : decode cX3_sealOf 3 = Except.ok (Instr.istore_n 2, 1) := vyd_61 (vyb_cX3_sealOf_0 (i := 3) rfl)
theorem dX3_sealOf_4 : decode cX3_sealOf 4 = Except.ok (Instr.iload_n 2, 1) := vyd_28 (vyb_cX3_sealOf_0 (i := 4) rfl)
theorem dX3_sealOf_5 : decode cX3_sealOf 5 = Except.ok (Instr.aload_n 0, 1) := vyd_42 (vyb_cX3_sealOf_0 (i := 5) rfl)
theorem dX3_sealOf_6 : decode cX3_sealOf 6 = Except.ok (Instr.invokevirtual 65, 3) := vyd_182 (vyb_cX3_sealOf_0 (i := 6) rfl) (vyb_cX3_sealOf_0 (i := 7) rfl) (vyb_cX3_sealOf_0 (i := 8) rfl) rfl
theorem dX3_sealOf_9 : decode cX3_sealOf 9 = Except.ok (Instr.if_icmp .ge 23, 3) := vyd_162 (vyb_cX3_sealOf_0 (i := 9) rfl) (vyb_cX3_sealOf_1 (i := 0) rfl) (vyb_cX3_sealOf_1 (i := 1) rfl) (by decide +kernel)
theorem dX3_sealOf_12 : decode cX3_sealOf 12 = Except.ok (Instr.bipush 31, 2) := vyd_16 (vyb_cX3_sealOf_1 (i := 2) rfl) (vyb_cX3_sealOf_1 (i := 3) rfl) (by decide +kernel)
theorem dX3_sealOf_14 : decode cX3_sealOf 14 = Except.ok (Instr.iload_n 1, 1) := vyd_27 (vyb_cX3_sealOf_1 (i := 4) rfl)
theorem dX3_sealOf_15 : decode cX3_sealOf 15 = Except.ok (Instr.imul, 1) := vyd_104 (vyb_cX3_sealOf_1 (i := 5) rfl)
theorem dX3_sealOf_16 : decode cX3_sealOf 16 = Except.ok (Instr.aload_n 0, 1) := vyd_42 (vyb_cX3_sealOf_1 (i := 6) rfl)
theorem dX3_sealOf_17 : decode cX3_sealOf 17 = Except.ok (Instr.iload_n 2, 1) := vyd_28 (vyb_cX3_sealOf_1 (i := 7) rfl)
theorem dX3_sealOf_18 : decode cX3_sealOf 18 = Except.ok (Instr.invokevirtual 144, 3) := vyd_182 (vyb_cX3_sealOf_1 (i := 8) rfl) (vyb_cX3_sealOf_1 (i := 9) rfl) (vyb_cX3_sealOf_2 (i := 0) rfl) rfl
theorem dX3_sealOf_21 : decode cX3_sealOf 21 = Except.ok (Instr.invokestatic 147, 3) := vyd_184 (vyb_cX3_sealOf_2 (i := 1) rfl) (vyb_cX3_sealOf_2 (i := 2) rfl) (vyb_cX3_sealOf_2 (i := 3) rfl) rfl
theorem dX3_sealOf_24 : decode cX3_sealOf 24 = Except.ok (Instr.iadd, 1) := vyd_96 (vyb_cX3_sealOf_2 (i := 4) rfl)
theorem dX3_sealOf_25 : decode cX3_sealOf 25 = Except.ok (Instr.istore_n 1, 1) := vyd_60 (vyb_cX3_sealOf_2 (i := 5) rfl)
theorem dX3_sealOf_26 : decode cX3_sealOf 26 = .ok (.iinc 2 1, 3) := by decide +kernel
theorem dX3_sealOf_29 : decode cX3_sealOf 29 = Except.ok (Instr.goto (-25), 3) := vyd_167 (vyb_cX3_sealOf_2 (i := 9) rfl) (vyb_cX3_sealOf_3 (i := 0) rfl) (vyb_cX3_sealOf_3 (i := 1) rfl) (by decide +kernel)
theorem dX3_sealOf_32 : decode cX3_sealOf 32 = Except.ok (Instr.iload_n 1, 1) := vyd_27 (vyb_cX3_sealOf_3 (i := 2) rfl)
theorem dX3_sealOf_33 : decode cX3_sealOf 33 = Except.ok (Instr.ireturn, 1) := vyd_172 (vyb_cX3_sealOf_3 (i := 3) rfl)
theorem vyb_cX3_ofWalker_0 {i : Nat} {b : UInt8} (h : ([0x2a, 0x1b, 0xb6, 0x00, 0xcb, 0x4e, 0x1c, 0xaa, 0x00, 0x00] : List UInt8)[i]? = some b) : vy_8 cX3_ofWalker (0 + i) b := vy_in (n := 10) (by decide +kernel) h
theorem vyb_cX3_ofWalker_1 {i : Nat} {b : UInt8} (h : ([0x00, 0x45, 0x00, 0x00, 0x00, 0x00, 0x00, 0x00, 0x00, 0x03] : List UInt8)[i]? = some b) : vy_8 cX3_ofWalker (10 + i) b := vy_in (n := 10) (by decide +kernel) h
theorem vyb_cX3_ofWalker_2 {i : Nat} {b : UInt8} (h : ([0x00, 0x00, 0x00, 0x1d, 0x00, 0x00, 0x00, 0x22, 0x00, 0x00] : List UInt8)[i]? = some b) : vy_8 cX3_ofWalker (20 + i) b := vy_in (n := 10) (by decide +kernel) h
theorem vyb_cX3_ofWalker_3 {i : Nat} {b : UInt8} (h : ([0x00, 0x27, 0x00, 0x00, 0x00, 0x2e, 0x2d, 0xb4, 0x01, 0x67] : List UInt8)[i]? = some b) : vy_8 cX3_ofWalker (30 + i) b := vy_in (n := 10) (by decide +kernel) h
theorem vyb_cX3_ofWalker_4 {i : Nat} {b : UInt8} (h : ([0xac, 0x2d, 0xb4, 0x00, 0xd8, 0xac, 0x2d, 0xb4, 0x00, 0xd8] : List UInt8)[i]? = some b) : vy_8 cX3_ofWalker (40 + i) b := vy_in (n := 10) (by decide +kernel) h
theorem vyb_cX3_ofWalker_5 {i : Nat} {b : UInt8} (h : ([0x04, 0x64, 0xac, 0x2d, 0xb4, 0x00, 0xd8, 0x2a, 0xb4, 0x00] : List UInt8)[i]? = some b) : vy_8 cX3_ofWalker (50 + i) b := vy_in (n := 10) (by decide +kernel) h
theorem vyb_cX3_ofWalker_6 {i : Nat} {b : UInt8} (h : ([0x12, 0xb6, 0x00, 0x41, 0xa2, 0x00, 0x07, 0x04, 0xa7, 0x00] : List UInt8)[i]? = some b) : vy_8 cX3_ofWalker (60 + i) b := vy_in (n := 10) (by decide +kernel) h
theorem vyb_cX3_ofWalker_7 {i : Nat} {b : UInt8} (h : ([0x04, 0x03, 0xb8, 0x01, 0x4b, 0xac, 0x2d, 0xb4, 0x00, 0xd8] : List UInt8)[i]? = some b) : vy_8 cX3_ofWalker (70 + i) b := vy_in (n := 10) (by decide +kernel) h
theorem vyb_cX3_ofWalker_8 {i : Nat} {b : UInt8} (h : ([0x9e, 0x00, 0x07, 0x04, 0xa7, 0x00, 0x04, 0x03, 0xb8, 0x01] : List UInt8)[i]? = some b) : vy_8 cX3_ofWalker (80 + i) b := vy_in (n := 10) (by decide +kernel) h
theorem vyb_cX3_ofWalker_9 {i : Nat} {b : UInt8} (h : ([0x4b, 0xac] : List UInt8)[i]? = some b) : vy_8 cX3_ofWalker (90 + i) b := vy_in (n := 2) (by decide +kernel) h
theorem dX3_ofWalker_0 : decode cX3_ofWalker 0 = Except.ok (Instr.aload_n 0, 1) := vyd_42 (vyb_cX3_ofWalker_0 (i := 0) rfl)
theorem dX3_ofWalker_1 : decode cX3_ofWalker 1 = Except.ok (Instr.iload_n 1, 1) := vyd_27 (vyb_cX3_ofWalker_0 (i := 1) rfl)
theorem dX3_ofWalker_2 : decode cX3_ofWalker 2 = Except.ok (Instr.invokevirtual 203, 3) := vyd_182 (vyb_cX3_ofWalker_0 (i := 2) rfl) (vyb_cX3_ofWalker_0 (i := 3) rfl) (vyb_cX3_ofWalker_0 (i := 4) rfl) rfl
theorem dX3_ofWalker_5 : decode cX3_ofWalker 5 = Except.ok (Instr.astore_n 3, 1) := vyd_78 (vyb_cX3_ofWalker_0 (i := 5) rfl)
theorem dX3_ofWalker_6 : decode cX3_ofWalker 6 = Except.ok (Instr.iload_n 2, 1) := vyd_28 (vyb_cX3_ofWalker_0 (i := 6) rfl)
theorem dX3_ofWalker_7 : decode cX3_ofWalker 7 = .ok (.tableswitch 69 0 3 #[29, 34, 39, 46], 29) := by decide +kernel
theorem dX3_ofWalker_36 : decode cX3_ofWalker 36 = Except.ok (Instr.aload_n 3, 1) := vyd_45 (vyb_cX3_ofWalker_3 (i := 6) rfl)
theorem dX3_ofWalker_37 : decode cX3_ofWalker 37 = Except.ok (Instr.getfield 359, 3) := vyd_180 (vyb_cX3_ofWalker_3 (i := 7) rfl) (vyb_cX3_ofWalker_3 (i := 8) rfl) (vyb_cX3_ofWalker_3 (i := 9) rfl) rfl
theorem dX3_ofWalker_40 : decode cX3_ofWalker 40 = Except.ok (Instr.ireturn, 1) := vyd_172 (vyb_cX3_ofWalker_4 (i := 0) rfl)
theorem dX3_ofWalker_41 : decode cX3_ofWalker 41 = Except.ok (Instr.aload_n 3, 1) := vyd_45 (vyb_cX3_ofWalker_4 (i := 1) rfl)
theorem dX3_ofWalker_42 : decode cX3_ofWalker 42 = Except.ok (Instr.getfield 216, 3) := vyd_180 (vyb_cX3_ofWalker_4 (i := 2) rfl) (vyb_cX3_ofWalker_4 (i := 3) rfl) (vyb_cX3_ofWalker_4 (i := 4) rfl) rfl
theorem dX3_ofWalker_45 : decode cX3_ofWalker 45 = Except.ok (Instr.ireturn, 1) := vyd_172 (vyb_cX3_ofWalker_4 (i := 5) rfl)
theorem dX3_ofWalker_46 : decode cX3_ofWalker 46 = Except.ok (Instr.aload_n 3, 1) := vyd_45 (vyb_cX3_ofWalker_4 (i := 6) rfl)
theorem dX3_ofWalker_47 : decode cX3_ofWalker 47 = Except.ok (Instr.getfield 216, 3) := vyd_180 (vyb_cX3_ofWalker_4 (i := 7) rfl) (vyb_cX3_ofWalker_4 (i := 8) rfl) (vyb_cX3_ofWalker_4 (i := 9) rfl) rfl
theorem dX3_ofWalker_50 : decode cX3_ofWalker 50 = Except.ok (Instr.iconst 1, 1) := vyd_4 (vyb_cX3_ofWalker_5 (i := 0) rfl)
theorem dX3_ofWalker_51 : decode cX3_ofWalker 51 = Except.ok (Instr.isub, 1) := vyd_100 (vyb_cX3_ofWalker_5 (i := 1) rfl)
theorem dX3_ofWalker_52 : decode cX3_ofWalker 52 = Except.ok (Instr.ireturn, 1) := vyd_172 (vyb_cX3_ofWalker_5 (i := 2) rfl)
theorem dX3_ofWalker_53 : decode cX3_ofWalker 53 = Except.ok (Instr.aload_n 3, 1) := vyd_45 (vyb_cX3_ofWalker_5 (i := 3) rfl)
theorem dX3_ofWalker_54 : decode cX3_ofWalker 54 = Except.ok (Instr.getfield 216, 3) := vyd_180 (vyb_cX3_ofWalker_5 (i := 4) rfl) (vyb_cX3_ofWalker_5 (i := 5) rfl) (vyb_cX3_ofWalker_5 (i := 6) rfl) rfl
theorem dX3_ofWalker_57 : decode cX3_ofWalker 57 = Except.ok (Instr.aload_n 0, 1) := vyd_42 (vyb_cX3_ofWalker_5 (i := 7) rfl)
theorem dX3_ofWalker_58 : decode cX3_ofWalker 58 = Except.ok (Instr.getfield 18, 3) := vyd_180 (vyb_cX3_ofWalker_5 (i := 8) rfl) (vyb_cX3_ofWalker_5 (i := 9) rfl) (vyb_cX3_ofWalker_6 (i := 0) rfl) rfl
theorem dX3_ofWalker_61 : decode cX3_ofWalker 61 = Except.ok (Instr.invokevirtual 65, 3) := vyd_182 (vyb_cX3_ofWalker_6 (i := 1) rfl) (vyb_cX3_ofWalker_6 (i := 2) rfl) (vyb_cX3_ofWalker_6 (i := 3) rfl) rfl
theorem dX3_ofWalker_64 : decode cX3_ofWalker 64 = Except.ok (Instr.if_icmp .ge 7, 3) := vyd_162 (vyb_cX3_ofWalker_6 (i := 4) rfl) (vyb_cX3_ofWalker_6 (i := 5) rfl) (vyb_cX3_ofWalker_6 (i := 6) rfl) (by decide +kernel)
theorem dX3_ofWalker_67 : decode cX3_ofWalker 67 = Except.ok (Instr.iconst 1, 1) := vyd_4 (vyb_cX3_ofWalker_6 (i := 7) rfl)
theorem dX3_ofWalker_68 : decode cX3_ofWalker 68 = Except.ok (Instr.goto 4, 3) := vyd_167 (vyb_cX3_ofWalker_6 (i := 8) rfl) (vyb_cX3_ofWalker_6 (i := 9) rfl) (vyb_cX3_ofWalker_7 (i := 0) rfl) (by decide +kernel)
theorem dX3_ofWalker_71 : decode cX3_ofWalker 71 = Except.ok (Instr.iconst 0, 1) := vyd_3 (vyb_cX3_ofWalker_7 (i := 1) rfl)
theorem dX3_ofWalker_72 : decode cX3_ofWalker 72 = Except.ok (Instr.invokestatic 331, 3) := vyd_184 (vyb_cX3_ofWalker_7 (i := 2) rfl) (vyb_cX3_ofWalker_7 (i := 3) rfl) (vyb_cX3_ofWalker_7 (i := 4) rfl) rfl
theorem dX3_ofWalker_75 : decode cX3_ofWalker 75 = Except.ok (Instr.ireturn, 1) := vyd_172 (vyb_cX3_ofWalker_7 (i := 5) rfl)
theorem dX3_ofWalker_76 : decode cX3_ofWalker 76 = Except.ok (Instr.aload_n 3, 1) := vyd_45 (vyb_cX3_ofWalker_7 (i := 6) rfl)
theorem dX3_ofWalker_77 : decode cX3_ofWalker 77 = Except.ok (Instr.getfield 216, 3) := vyd_180 (vyb_cX3_ofWalker_7 (i := 7) rfl) (vyb_cX3_ofWalker_7 (i := 8) rfl) (vyb_cX3_ofWalker_7 (i := 9) rfl) rfl
theorem dX3_ofWalker_80 : decode cX3_ofWalker 80 = Except.ok (Instr.ifCond .le 7, 3) := vyd_158 (vyb_cX3_ofWalker_8 (i := 0) rfl) (vyb_cX3_ofWalker_8 (i := 1) rfl) (vyb_cX3_ofWalker_8 (i := 2) rfl) (by decide +kernel)
theorem dX3_ofWalker_83 : decode cX3_ofWalker 83 = Except.ok (Instr.iconst 1, 1) := vyd_4 (vyb_cX3_ofWalker_8 (i := 3) rfl)
theorem dX3_ofWalker_84 : decode cX3_ofWalker 84 = Except.ok (Instr.goto 4, 3) := vyd_167 (vyb_cX3_ofWalker_8 (i := 4) rfl) (vyb_cX3_ofWalker_8 (i := 5) rfl) (vyb_cX3_ofWalker_8 (i := 6) rfl) (by decide +kernel)
theorem dX3_ofWalker_87 : decode cX3_ofWalker 87 = Except.ok (Instr.iconst 0, 1) := vyd_3 (vyb_cX3_ofWalker_8 (i := 7) rfl)
theorem dX3_ofWalker_88 : decode cX3_ofWalker 88 = Except.ok (Instr.invokestatic 331, 3) := vyd_184 (vyb_cX3_ofWalker_8 (i := 8) rfl) (vyb_cX3_ofWalker_8 (i := 9) rfl) (vyb_cX3_ofWalker_9 (i := 0) rfl) rfl
theorem dX3_ofWalker_91 : decode cX3_ofWalker 91 = Except.ok (Instr.ireturn, 1) := vyd_172 (vyb_cX3_ofWalker_9 (i := 1) rfl)
theorem vyb_cX3_factOfYard_0 {i : Nat} {b : UInt8} (h : ([0x1b, 0xaa, 0x00, 0x00, 0x00, 0x00, 0x00, 0xa5, 0x00, 0x00] : List UInt8)[i]? = some b) : vy_8 cX3_factOfYard (0 + i) b := vy_in (n := 10) (by decide +kernel) h
theorem vyb_cX3_factOfYard_1 {i : Nat} {b : UInt8} (h : ([0x00, 0x00, 0x00, 0x00, 0x00, 0x06, 0x00, 0x00, 0x00, 0x2b] : List UInt8)[i]? = some b) : vy_8 cX3_factOfYard (10 + i) b := vy_in (n := 10) (by decide +kernel) h
theorem vyb_cX3_factOfYard_2 {i : Nat} {b : UInt8} (h : ([0x00, 0x00, 0x00, 0x33, 0x00, 0x00, 0x00, 0x4a, 0x00, 0x00] : List UInt8)[i]? = some b) : vy_8 cX3_factOfYard (20 + i) b := vy_in (n := 10) (by decide +kernel) h
theorem vyb_cX3_factOfYard_3 {i : Nat} {b : UInt8} (h : ([0x00, 0x68, 0x00, 0x00, 0x00, 0x70, 0x00, 0x00, 0x00, 0x8e] : List UInt8)[i]? = some b) : vy_8 cX3_factOfYard (30 + i) b := vy_in (n := 10) (by decide +kernel) h
theorem vyb_cX3_factOfYard_4 {i : Nat} {b : UInt8} (h : ([0x00, 0x00, 0x00, 0x93, 0x2a, 0xb4, 0x00, 0x18, 0xb6, 0x00] : List UInt8)[i]? = some b) : vy_8 cX3_factOfYard (40 + i) b := vy_in (n := 10) (by decide +kernel) h
theorem vyb_cX3_factOfYard_5 {i : Nat} {b : UInt8} (h : ([0x41, 0xac, 0x2a, 0xb4, 0x00, 0x18, 0xb6, 0x00, 0x60, 0x99] : List UInt8)[i]? = some b) : vy_8 cX3_factOfYard (50 + i) b := vy_in (n := 10) (by decide +kernel) h
theorem vyb_cX3_factOfYard_6 {i : Nat} {b : UInt8} (h : ([0x00, 0x07, 0x02, 0xa7, 0x00, 0x0b, 0x2a, 0xb4, 0x00, 0x18] : List UInt8)[i]? = some b) : vy_8 cX3_factOfYard (60 + i) b := vy_in (n := 10) (by decide +kernel) h
theorem vyb_cX3_factOfYard_7 {i : Nat} {b : UInt8} (h : ([0x03, 0xb6, 0x00, 0x90, 0xac, 0x2a, 0xb4, 0x00, 0x18, 0xb6] : List UInt8)[i]? = some b) : vy_8 cX3_factOfYard (70 + i) b := vy_in (n := 10) (by decide +kernel) h
theorem vyb_cX3_factOfYard_8 {i : Nat} {b : UInt8} (h : ([0x00, 0x60, 0x99, 0x00, 0x07, 0x02, 0xa7, 0x00, 0x12, 0x2a] : List UInt8)[i]? = some b) : vy_8 cX3_factOfYard (80 + i) b := vy_in (n := 10) (by decide +kernel) h
theorem vyb_cX3_factOfYard_9 {i : Nat} {b : UInt8} (h : ([0xb4, 0x00, 0x18, 0x2a, 0xb4, 0x00, 0x18, 0x04, 0xb6, 0x00] : List UInt8)[i]? = some b) : vy_8 cX3_factOfYard (90 + i) b := vy_in (n := 10) (by decide +kernel) h
theorem vyb_cX3_factOfYard_10 {i : Nat} {b : UInt8} (h : ([0x6d, 0xb6, 0x00, 0x90, 0xac, 0x2a, 0xb4, 0x00, 0x15, 0xb6] : List UInt8)[i]? = some b) : vy_8 cX3_factOfYard (100 + i) b := vy_in (n := 10) (by decide +kernel) h
theorem vyb_cX3_factOfYard_11 {i : Nat} {b : UInt8} (h : ([0x00, 0x41, 0xac, 0x2a, 0xb4, 0x00, 0x15, 0xb6, 0x00, 0x60] : List UInt8)[i]? = some b) : vy_8 cX3_factOfYard (110 + i) b := vy_in (n := 10) (by decide +kernel) h
theorem vyb_cX3_factOfYard_12 {i : Nat} {b : UInt8} (h : ([0x99, 0x00, 0x07, 0x02, 0xa7, 0x00, 0x12, 0x2a, 0xb4, 0x00] : List UInt8)[i]? = some b) : vy_8 cX3_factOfYard (120 + i) b := vy_in (n := 10) (by decide +kernel) h
theorem vyb_cX3_factOfYard_13 {i : Nat} {b : UInt8} (h : ([0x15, 0x2a, 0xb4, 0x00, 0x15, 0x04, 0xb6, 0x00, 0x6d, 0xb6] : List UInt8)[i]? = some b) : vy_8 cX3_factOfYard (130 + i) b := vy_in (n := 10) (by decide +kernel) h
theorem vyb_cX3_factOfYard_14 {i : Nat} {b : UInt8} (h : ([0x00, 0x90, 0xac, 0x2a, 0xb6, 0x01, 0x89, 0xac, 0x2a, 0xb4] : List UInt8)[i]? = some b) : vy_8 cX3_factOfYard (140 + i) b := vy_in (n := 10) (by decide +kernel) h
theorem vyb_cX3_factOfYard_15 {i : Nat} {b : UInt8} (h : ([0x00, 0x1e, 0x2a, 0xb4, 0x00, 0x0e, 0xb6, 0x00, 0x41, 0xb6] : List UInt8)[i]? = some b) : vy_8 cX3_factOfYard (150 + i) b := vy_in (n := 10) (by decide +kernel) h
theorem vyb_cX3_factOfYard_16 {i : Nat} {b : UInt8} (h : ([0x00, 0xad, 0xb8, 0x01, 0x4b, 0xac, 0x2a, 0xb4, 0x00, 0x2c] : List UInt8)[i]? = some b) : vy_8 cX3_factOfYard (160 + i) b := vy_in (n := 10) (by decide +kernel) h
theorem vyb_cX3_factOfYard_17 {i : Nat} {b : UInt8} (h : ([0xac] : List UInt8)[i]? = some b) : vy_8 cX3_factOfYard (170 + i) b := vy_in (n := 1) (by decide +kernel) h
theorem dX3_factOfYard_0 : decode cX3_factOfYard 0 = Except.ok (Instr.iload_n 1, 1) := vyd_27 (vyb_cX3_factOfYard_0 (i := 0) rfl)
theorem dX3_factOfYard_1 : decode cX3_factOfYard 1 = .ok (.tableswitch 165 0 6 #[43, 51, 74, 104, 112, 142, 147], 43) := by decide +kernel
theorem dX3_factOfYard_44 : decode cX3_factOfYard 44 = Except.ok (Instr.aload_n 0, 1) := vyd_42 (vyb_cX3_factOfYard_4 (i := 4) rfl)
theorem dX3_factOfYard_45 : decode cX3_factOfYard 45 = Except.ok (Instr.getfield 24, 3) := vyd_180 (vyb_cX3_factOfYard_4 (i := 5) rfl) (vyb_cX3_factOfYard_4 (i := 6) rfl) (vyb_cX3_factOfYard_4 (i := 7) rfl) rfl
theorem dX3_factOfYard_48 : decode cX3_factOfYard 48 = Except.ok (Instr.invokevirtual 65, 3) := vyd_182 (vyb_cX3_factOfYard_4 (i := 8) rfl) (vyb_cX3_factOfYard_4 (i := 9) rfl) (vyb_cX3_factOfYard_5 (i := 0) rfl) rfl
theorem dX3_factOfYard_51 : decode cX3_factOfYard 51 = Except.ok (Instr.ireturn, 1) := vyd_172 (vyb_cX3_factOfYard_5 (i := 1) rfl)
theorem dX3_factOfYard_52 : decode cX3_factOfYard 52 = Except.ok (Instr.aload_n 0, 1) := vyd_42 (vyb_cX3_factOfYard_5 (i := 2) rfl)
theorem dX3_factOfYard_53 : decode cX3_factOfYard 53 = Except.ok (Instr.getfield 24, 3) := vyd_180 (vyb_cX3_factOfYard_5 (i := 3) rfl) (vyb_cX3_factOfYard_5 (i := 4) rfl) (vyb_cX3_factOfYard_5 (i := 5) rfl) rfl
theorem dX3_factOfYard_56 : decode cX3_factOfYard 56 = Except.ok (Instr.invokevirtual 96, 3) := vyd_182 (vyb_cX3_factOfYard_5 (i := 6) rfl) (vyb_cX3_factOfYard_5 (i := 7) rfl) (vyb_cX3_factOfYard_5 (i := 8) rfl) rfl
theorem dX3_factOfYard_59 : decode cX3_factOfYard 59 = Except.ok (Instr.ifCond .eq 7, 3) := vyd_153 (vyb_cX3_factOfYard_5 (i := 9) rfl) (vyb_cX3_factOfYard_6 (i := 0) rfl) (vyb_cX3_factOfYard_6 (i := 1) rfl) (by decide +kernel)
theorem dX3_factOfYard_62 : decode cX3_factOfYard 62 = Except.ok (Instr.iconst (-1), 1) := vyd_2 (vyb_cX3_factOfYard_6 (i := 2) rfl)
theorem dX3_factOfYard_63 : decode cX3_factOfYard 63 = Except.ok (Instr.goto 11, 3) := vyd_167 (vyb_cX3_factOfYard_6 (i := 3) rfl) (vyb_cX3_factOfYard_6 (i := 4) rfl) (vyb_cX3_factOfYard_6 (i := 5) rfl) (by decide +kernel)
theorem dX3_factOfYard_66 : decode cX3_factOfYard 66 = Except.ok (Instr.aload_n 0, 1) := vyd_42 (vyb_cX3_factOfYard_6 (i := 6) rfl)
theorem dX3_factOfYard_67 : decode cX3_factOfYard 67 = Except.ok (Instr.getfield 24, 3) := vyd_180 (vyb_cX3_factOfYard_6 (i := 7) rfl) (vyb_cX3_factOfYard_6 (i := 8) rfl) (vyb_cX3_factOfYard_6 (i := 9) rfl) rfl
theorem dX3_factOfYard_70 : decode cX3_factOfYard 70 = Except.ok (Instr.iconst 0, 1) := vyd_3 (vyb_cX3_factOfYard_7 (i := 0) rfl)
theorem dX3_factOfYard_71 : decode cX3_factOfYard 71 = Except.ok (Instr.invokevirtual 144, 3) := vyd_182 (vyb_cX3_factOfYard_7 (i := 1) rfl) (vyb_cX3_factOfYard_7 (i := 2) rfl) (vyb_cX3_factOfYard_7 (i := 3) rfl) rfl
theorem dX3_factOfYard_74 : decode cX3_factOfYard 74 = Except.ok (Instr.ireturn, 1) := vyd_172 (vyb_cX3_factOfYard_7 (i := 4) rfl)
theorem dX3_factOfYard_75 : decode cX3_factOfYard 75 = Except.ok (Instr.aload_n 0, 1) := vyd_42 (vyb_cX3_factOfYard_7 (i := 5) rfl)
theorem dX3_factOfYard_76 : decode cX3_factOfYard 76 = Except.ok (Instr.getfield 24, 3) := vyd_180 (vyb_cX3_factOfYard_7 (i := 6) rfl) (vyb_cX3_factOfYard_7 (i := 7) rfl) (vyb_cX3_factOfYard_7 (i := 8) rfl) rfl
theorem dX3_factOfYard_79 : decode cX3_factOfYard 79 = Except.ok (Instr.invokevirtual 96, 3) := vyd_182 (vyb_cX3_factOfYard_7 (i := 9) rfl) (vyb_cX3_factOfYard_8 (i := 0) rfl) (vyb_cX3_factOfYard_8 (i := 1) rfl) rfl
theorem dX3_factOfYard_82 : decode cX3_factOfYard 82 = Except.ok (Instr.ifCond .eq 7, 3) := vyd_153 (vyb_cX3_factOfYard_8 (i := 2) rfl) (vyb_cX3_factOfYard_8 (i := 3) rfl) (vyb_cX3_factOfYard_8 (i := 4) rfl) (by decide +kernel)
theorem dX3_factOfYard_85 : decode cX3_factOfYard 85 = Except.ok (Instr.iconst (-1), 1) := vyd_2 (vyb_cX3_factOfYard_8 (i := 5) rfl)
theorem dX3_factOfYard_86 : decode cX3_factOfYard 86 = Except.ok (Instr.goto 18, 3) := vyd_167 (vyb_cX3_factOfYard_8 (i := 6) rfl) (vyb_cX3_factOfYard_8 (i := 7) rfl) (vyb_cX3_factOfYard_8 (i := 8) rfl) (by decide +kernel)
theorem dX3_factOfYard_89 : decode cX3_factOfYard 89 = Except.ok (Instr.aload_n 0, 1) := vyd_42 (vyb_cX3_factOfYard_8 (i := 9) rfl)
theorem dX3_factOfYard_90 : decode cX3_factOfYard 90 = Except.ok (Instr.getfield 24, 3) := vyd_180 (vyb_cX3_factOfYard_9 (i := 0) rfl) (vyb_cX3_factOfYard_9 (i := 1) rfl) (vyb_cX3_factOfYard_9 (i := 2) rfl) rfl
theorem dX3_factOfYard_93 : decode cX3_factOfYard 93 = Except.ok (Instr.aload_n 0, 1) := vyd_42 (vyb_cX3_factOfYard_9 (i := 3) rfl)
theorem dX3_factOfYard_94 : decode cX3_factOfYard 94 = Except.ok (Instr.getfield 24, 3) := vyd_180 (vyb_cX3_factOfYard_9 (i := 4) rfl) (vyb_cX3_factOfYard_9 (i := 5) rfl) (vyb_cX3_factOfYard_9 (i := 6) rfl) rfl
theorem dX3_factOfYard_97 : decode cX3_factOfYard 97 = Except.ok (Instr.iconst 1, 1) := vyd_4 (vyb_cX3_factOfYard_9 (i := 7) rfl)
theorem dX3_factOfYard_98 : decode cX3_factOfYard 98 = Except.ok (Instr.invokevirtual 109, 3) := vyd_182 (vyb_cX3_factOfYard_9 (i := 8) rfl) (vyb_cX3_factOfYard_9 (i := 9) rfl) (vyb_cX3_factOfYard_10 (i := 0) rfl) rfl
theorem dX3_factOfYard_101 : decode cX3_factOfYard 101 = Except.ok (Instr.invokevirtual 144, 3) := vyd_182 (vyb_cX3_factOfYard_10 (i := 1) rfl) (vyb_cX3_factOfYard_10 (i := 2) rfl) (vyb_cX3_factOfYard_10 (i := 3) rfl) rfl
theorem dX3_factOfYard_104 : decode cX3_factOfYard 104 = Except.ok (Instr.ireturn, 1) := vyd_172 (vyb_cX3_factOfYard_10 (i := 4) rfl)
theorem dX3_factOfYard_105 : decode cX3_factOfYard 105 = Except.ok (Instr.aload_n 0, 1) := vyd_42 (vyb_cX3_factOfYard_10 (i := 5) rfl)
theorem dX3_factOfYard_106 : decode cX3_factOfYard 106 = Except.ok (Instr.getfield 21, 3) := vyd_180 (vyb_cX3_factOfYard_10 (i := 6) rfl) (vyb_cX3_factOfYard_10 (i := 7) rfl) (vyb_cX3_factOfYard_10 (i := 8) rfl) rfl
theorem dX3_factOfYard_109 : decode cX3_factOfYard 109 = Except.ok (Instr.invokevirtual 65, 3) := vyd_182 (vyb_cX3_factOfYard_10 (i := 9) rfl) (vyb_cX3_factOfYard_11 (i := 0) rfl) (vyb_cX3_factOfYard_11 (i := 1) rfl) rfl
theorem dX3_factOfYard_112 : decode cX3_factOfYard 112 = Except.ok (Instr.ireturn, 1) := vyd_172 (vyb_cX3_factOfYard_11 (i := 2) rfl)
theorem dX3_factOfYard_113 : decode cX3_factOfYard 113 = Except.ok (Instr.aload_n 0, 1) := vyd_42 (vyb_cX3_factOfYard_11 (i := 3) rfl)
theorem dX3_factOfYard_114 : decode cX3_factOfYard 114 = Except.ok (Instr.getfield 21, 3) := vyd_180 (vyb_cX3_factOfYard_11 (i := 4) rfl) (vyb_cX3_factOfYard_11 (i := 5) rfl) (vyb_cX3_factOfYard_11 (i := 6) rfl) rfl
theorem dX3_factOfYard_117 : decode cX3_factOfYard 117 = Except.ok (Instr.invokevirtual 96, 3) := vyd_182 (vyb_cX3_factOfYard_11 (i := 7) rfl) (vyb_cX3_factOfYard_11 (i := 8) rfl) (vyb_cX3_factOfYard_11 (i := 9) rfl) rfl
theorem dX3_factOfYard_120 : decode cX3_factOfYard 120 = Except.ok (Instr.ifCond .eq 7, 3) := vyd_153 (vyb_cX3_factOfYard_12 (i := 0) rfl) (vyb_cX3_factOfYard_12 (i := 1) rfl) (vyb_cX3_factOfYard_12 (i := 2) rfl) (by decide +kernel)
theorem dX3_factOfYard_123 : decode cX3_factOfYard 123 = Except.ok (Instr.iconst (-1), 1) := vyd_2 (vyb_cX3_factOfYard_12 (i := 3) rfl)
theorem dX3_factOfYard_124 : decode cX3_factOfYard 124 = Except.ok (Instr.goto 18, 3) := vyd_167 (vyb_cX3_factOfYard_12 (i := 4) rfl) (vyb_cX3_factOfYard_12 (i := 5) rfl) (vyb_cX3_factOfYard_12 (i := 6) rfl) (by decide +kernel)
theorem dX3_factOfYard_127 : decode cX3_factOfYard 127 = Except.ok (Instr.aload_n 0, 1) := vyd_42 (vyb_cX3_factOfYard_12 (i := 7) rfl)
theorem dX3_factOfYard_128 : decode cX3_factOfYard 128 = Except.ok (Instr.getfield 21, 3) := vyd_180 (vyb_cX3_factOfYard_12 (i := 8) rfl) (vyb_cX3_factOfYard_12 (i := 9) rfl) (vyb_cX3_factOfYard_13 (i := 0) rfl) rfl
theorem dX3_factOfYard_131 : decode cX3_factOfYard 131 = Except.ok (Instr.aload_n 0, 1) := vyd_42 (vyb_cX3_factOfYard_13 (i := 1) rfl)
theorem dX3_factOfYard_132 : decode cX3_factOfYard 132 = Except.ok (Instr.getfield 21, 3) := vyd_180 (vyb_cX3_factOfYard_13 (i := 2) rfl) (vyb_cX3_factOfYard_13 (i := 3) rfl) (vyb_cX3_factOfYard_13 (i := 4) rfl) rfl
theorem dX3_factOfYard_135 : decode cX3_factOfYard 135 = Except.ok (Instr.iconst 1, 1) := vyd_4 (vyb_cX3_factOfYard_13 (i := 5) rfl)
theorem dX3_factOfYard_136 : decode cX3_factOfYard 136 = Except.ok (Instr.invokevirtual 109, 3) := vyd_182 (vyb_cX3_factOfYard_13 (i := 6) rfl) (vyb_cX3_factOfYard_13 (i := 7) rfl) (vyb_cX3_factOfYard_13 (i := 8) rfl) rfl
theorem dX3_factOfYard_139 : decode cX3_factOfYard 139 = Except.ok (Instr.invokevirtual 144, 3) := vyd_182 (vyb_cX3_factOfYard_13 (i := 9) rfl) (vyb_cX3_factOfYard_14 (i := 0) rfl) (vyb_cX3_factOfYard_14 (i := 1) rfl) rfl
theorem dX3_factOfYard_142 : decode cX3_factOfYard 142 = Except.ok (Instr.ireturn, 1) := vyd_172 (vyb_cX3_factOfYard_14 (i := 2) rfl)
theorem dX3_factOfYard_143 : decode cX3_factOfYard 143 = Except.ok (Instr.aload_n 0, 1) := vyd_42 (vyb_cX3_factOfYard_14 (i := 3) rfl)
theorem dX3_factOfYard_144 : decode cX3_factOfYard 144 = Except.ok (Instr.invokevirtual 393, 3) := vyd_182 (vyb_cX3_factOfYard_14 (i := 4) rfl) (vyb_cX3_factOfYard_14 (i := 5) rfl) (vyb_cX3_factOfYard_14 (i := 6) rfl) rfl
theorem dX3_factOfYard_147 : decode cX3_factOfYard 147 = Except.ok (Instr.ireturn, 1) := vyd_172 (vyb_cX3_factOfYard_14 (i := 7) rfl)
theorem dX3_factOfYard_148 : decode cX3_factOfYard 148 = Except.ok (Instr.aload_n 0, 1) := vyd_42 (vyb_cX3_factOfYard_14 (i := 8) rfl)
theorem dX3_factOfYard_149 : decode cX3_factOfYard 149 = Except.ok (Instr.getfield 30, 3) := vyd_180 (vyb_cX3_factOfYard_14 (i := 9) rfl) (vyb_cX3_factOfYard_15 (i := 0) rfl) (vyb_cX3_factOfYard_15 (i := 1) rfl) rfl
theorem dX3_factOfYard_152 : decode cX3_factOfYard 152 = Except.ok (Instr.aload_n 0, 1) := vyd_42 (vyb_cX3_factOfYard_15 (i := 2) rfl)
theorem dX3_factOfYard_153 : decode cX3_factOfYard 153 = Except.ok (Instr.getfield 14, 3) := vyd_180 (vyb_cX3_factOfYard_15 (i := 3) rfl) (vyb_cX3_factOfYard_15 (i := 4) rfl) (vyb_cX3_factOfYard_15 (i := 5) rfl) rfl
theorem dX3_factOfYard_156 : decode cX3_factOfYard 156 = Except.ok (Instr.invokevirtual 65, 3) := vyd_182 (vyb_cX3_factOfYard_15 (i := 6) rfl) (vyb_cX3_factOfYard_15 (i := 7) rfl) (vyb_cX3_factOfYard_15 (i := 8) rfl) rfl
theorem dX3_factOfYard_159 : decode cX3_factOfYard 159 = Except.ok (Instr.invokevirtual 173, 3) := vyd_182 (vyb_cX3_factOfYard_15 (i := 9) rfl) (vyb_cX3_factOfYard_16 (i := 0) rfl) (vyb_cX3_factOfYard_16 (i := 1) rfl) rfl
theorem dX3_factOfYard_162 : decode cX3_factOfYard 162 = Except.ok (Instr.invokestatic 331, 3) := vyd_184 (vyb_cX3_factOfYard_16 (i := 2) rfl) (vyb_cX3_factOfYard_16 (i := 3) rfl) (vyb_cX3_factOfYard_16 (i := 4) rfl) rfl
theorem dX3_factOfYard_165 : decode cX3_factOfYard 165 = Except.ok (Instr.ireturn, 1) := vyd_172 (vyb_cX3_factOfYard_16 (i := 5) rfl)
theorem dX3_factOfYard_166 : decode cX3_factOfYard 166 = Except.ok (Instr.aload_n 0, 1) := vyd_42 (vyb_cX3_factOfYard_16 (i := 6) rfl)
theorem dX3_factOfYard_167 : decode cX3_factOfYard 167 = Except.ok (Instr.getfield 44, 3) := vyd_180 (vyb_cX3_factOfYard_16 (i := 7) rfl) (vyb_cX3_factOfYard_16 (i := 8) rfl) (vyb_cX3_factOfYard_16 (i := 9) rfl) rfl
theorem dX3_factOfYard_170 : decode cX3_factOfYard 170 = Except.ok (Instr.ireturn, 1) := vyd_172 (vyb_cX3_factOfYard_17 (i := 0) rfl)
theorem vyb_cX3_wayOfWalk_0 {i : Nat} {b : UInt8} (h : ([0x2a, 0xb4, 0x00, 0x1e, 0xb4, 0x01, 0x61, 0x9a, 0x00, 0x05] : List UInt8)[i]? = some b) : vy_8 cX3_wayOfWalk (0 + i) b := vy_in (n := 10) (by decide +kernel) h
theorem vyb_cX3_wayOfWalk_1 {i : Nat} {b : UInt8} (h : ([0x03, 0xac, 0x2a, 0xb4, 0x00, 0x1e, 0xb4, 0x01, 0x8c, 0x99] : List UInt8)[i]? = some b) : vy_8 cX3_wayOfWalk (10 + i) b := vy_in (n := 10) (by decide +kernel) h
theorem vyb_cX3_wayOfWalk_2 {i : Nat} {b : UInt8} (h : ([0x00, 0x07, 0x05, 0xa7, 0x00, 0x04, 0x04, 0xac] : List UInt8)[i]? = some b) : vy_8 cX3_wayOfWalk (20 + i) b := vy_in (n := 8) (by decide +kernel) h
theorem dX3_wayOfWalk_0 : decode cX3_wayOfWalk 0 = Except.ok (Instr.aload_n 0, 1) := vyd_42 (vyb_cX3_wayOfWalk_0 (i := 0) rfl)
theorem dX3_wayOfWalk_1 : decode cX3_wayOfWalk 1 = Except.ok (Instr.getfield 30, 3) := vyd_180 (vyb_cX3_wayOfWalk_0 (i := 1) rfl) (vyb_cX3_wayOfWalk_0 (i := 2) rfl) (vyb_cX3_wayOfWalk_0 (i := 3) rfl) rfl
theorem dX3_wayOfWalk_4 : decode cX3_wayOfWalk 4 = Except.ok (Instr.getfield 353, 3) := vyd_180 (vyb_cX3_wayOfWalk_0 (i := 4) rfl) (vyb_cX3_wayOfWalk_0 (i := 5) rfl) (vyb_cX3_wayOfWalk_0 (i := 6) rfl) rfl
theorem dX3_wayOfWalk_7 : decode cX3_wayOfWalk 7 = Except.ok (Instr.ifCond .ne 5, 3) := vyd_154 (vyb_cX3_wayOfWalk_0 (i := 7) rfl) (vyb_cX3_wayOfWalk_0 (i := 8) rfl) (vyb_cX3_wayOfWalk_0 (i := 9) rfl) (by decide +kernel)
theorem dX3_wayOfWalk_10 : decode cX3_wayOfWalk 10 = Except.ok (Instr.iconst 0, 1) := vyd_3 (vyb_cX3_wayOfWalk_1 (i := 0) rfl)
theorem dX3_wayOfWalk_11 : decode cX3_wayOfWalk 11 = Except.ok (Instr.ireturn, 1) := vyd_172 (vyb_cX3_wayOfWalk_1 (i := 1) rfl)
theorem dX3_wayOfWalk_12 : decode cX3_wayOfWalk 12 = Except.ok (Instr.aload_n 0, 1) := vyd_42 (vyb_cX3_wayOfWalk_1 (i := 2) rfl)
theorem dX3_wayOfWalk_13 : decode cX3_wayOfWalk 13 = Except.ok (Instr.getfield 30, 3) := vyd_180 (vyb_cX3_wayOfWalk_1 (i := 3) rfl) (vyb_cX3_wayOfWalk_1 (i := 4) rfl) (vyb_cX3_wayOfWalk_1 (i := 5) rfl) rfl
theorem dX3_wayOfWalk_16 : decode cX3_wayOfWalk 16 = Except.ok (Instr.getfield 396, 3) := vyd_180 (vyb_cX3_wayOfWalk_1 (i := 6) rfl) (vyb_cX3_wayOfWalk_1 (i := 7) rfl) (vyb_cX3_wayOfWalk_1 (i := 8) rfl) rfl
theorem dX3_wayOfWalk_19 : decode cX3_wayOfWalk 19 = Except.ok (Instr.ifCond .eq 7, 3) := vyd_153 (vyb_cX3_wayOfWalk_1 (i := 9) rfl) (vyb_cX3_wayOfWalk_2 (i := 0) rfl) (vyb_cX3_wayOfWalk_2 (i := 1) rfl) (by decide +kernel)
theorem dX3_wayOfWalk_22 : decode cX3_wayOfWalk 22 = Except.ok (Instr.iconst 2, 1) := vyd_5 (vyb_cX3_wayOfWalk_2 (i := 2) rfl)
theorem dX3_wayOfWalk_23 : decode cX3_wayOfWalk 23 = Except.ok (Instr.goto 4, 3) := vyd_167 (vyb_cX3_wayOfWalk_2 (i := 3) rfl) (vyb_cX3_wayOfWalk_2 (i := 4) rfl) (vyb_cX3_wayOfWalk_2 (i := 5) rfl) (by decide +kernel)
theorem dX3_wayOfWalk_26 : decode cX3_wayOfWalk 26 = Except.ok (Instr.iconst 1, 1) := vyd_4 (vyb_cX3_wayOfWalk_2 (i := 6) rfl)
theorem dX3_wayOfWalk_27 : decode cX3_wayOfWalk 27 = Except.ok (Instr.ireturn, 1) := vyd_172 (vyb_cX3_wayOfWalk_2 (i := 7) rfl)
theorem vyb_cX3_isLikeOneOf_0 {i : Nat} {b : UInt8} (h : ([0x2a, 0x1b, 0xb8, 0x00, 0x93, 0x03, 0xb6, 0x00, 0x8a, 0x02] : List UInt8)[i]? = some b) : vy_8 cX3_isLikeOneOf (0 + i) b := vy_in (n := 10) (by decide +kernel) h
theorem vyb_cX3_isLikeOneOf_1 {i : Nat} {b : UInt8} (h : ([0x9f, 0x00, 0x07, 0x04, 0xa7, 0x00, 0x04, 0x03, 0xac] : List UInt8)[i]? = some b) : vy_8 cX3_isLikeOneOf (10 + i) b := vy_in (n := 9) (by decide +kernel) h
theorem dX3_isLikeOneOf_0 : decode cX3_isLikeOneOf 0 = Except.ok (Instr.aload_n 0, 1) := vyd_42 (vyb_cX3_isLikeOneOf_0 (i := 0) rfl)
theorem dX3_isLikeOneOf_1 : decode cX3_isLikeOneOf 1 = Except.ok (Instr.iload_n 1, 1) := vyd_27 (vyb_cX3_isLikeOneOf_0 (i := 1) rfl)
theorem dX3_isLikeOneOf_2 : decode cX3_isLikeOneOf 2 = Except.ok (Instr.invokestatic 147, 3) := vyd_184 (vyb_cX3_isLikeOneOf_0 (i := 2) rfl) (vyb_cX3_isLikeOneOf_0 (i := 3) rfl) (vyb_cX3_isLikeOneOf_0 (i := 4) rfl) rfl
theorem dX3_isLikeOneOf_5 : decode cX3_isLikeOneOf 5 = Except.ok (Instr.iconst 0, 1) := vyd_3 (vyb_cX3_isLikeOneOf_0 (i := 5) rfl)
theorem dX3_isLikeOneOf_6 : decode cX3_isLikeOneOf 6 = Except.ok (Instr.invokevirtual 138, 3) := vyd_182 (vyb_cX3_isLikeOneOf_0 (i := 6) rfl) (vyb_cX3_isLikeOneOf_0 (i := 7) rfl) (vyb_cX3_isLikeOneOf_0 (i := 8) rfl) rfl
theorem dX3_isLikeOneOf_9 : decode cX3_isLikeOneOf 9 = Except.ok (Instr.iconst (-1), 1) := vyd_2 (vyb_cX3_isLikeOneOf_0 (i := 9) rfl)
theorem dX3_isLikeOneOf_10 : decode cX3_isLikeOneOf 10 = Except.ok (Instr.if_icmp .eq 7, 3) := vyd_159 (vyb_cX3_isLikeOneOf_1 (i := 0) rfl) (vyb_cX3_isLikeOneOf_1 (i := 1) rfl) (vyb_cX3_isLikeOneOf_1 (i := 2) rfl) (by decide +kernel)
theorem dX3_isLikeOneOf_13 : decode cX3_isLikeOneOf 13 = Except.ok (Instr.iconst 1, 1) := vyd_4 (vyb_cX3_isLikeOneOf_1 (i := 3) rfl)
theorem dX3_isLikeOneOf_14 : decode cX3_isLikeOneOf 14 = Except.ok (Instr.goto 4, 3) := vyd_167 (vyb_cX3_isLikeOneOf_1 (i := 4) rfl) (vyb_cX3_isLikeOneOf_1 (i := 5) rfl) (vyb_cX3_isLikeOneOf_1 (i := 6) rfl) (by decide +kernel)
theorem dX3_isLikeOneOf_17 : decode cX3_isLikeOneOf 17 = Except.ok (Instr.iconst 0, 1) := vyd_3 (vyb_cX3_isLikeOneOf_1 (i := 7) rfl)
theorem dX3_isLikeOneOf_18 : decode cX3_isLikeOneOf 18 = Except.ok (Instr.ireturn, 1) := vyd_172 (vyb_cX3_isLikeOneOf_1 (i := 8) rfl)
theorem vyb_cX3_isSameAllAlong_0 {i : Nat} {b : UInt8} (h : ([0x2a, 0xb4, 0x00, 0x0e, 0xb6, 0x00, 0x41, 0x2a, 0xb4, 0x00] : List UInt8)[i]? = some b) : vy_8 cX3_isSameAllAlong (0 + i) b := vy_in (n := 10) (by decide +kernel) h
theorem vyb_cX3_isSameAllAlong_1 {i : Nat} {b : UInt8} (h : ([0x12, 0xb6, 0x00, 0x41, 0x9f, 0x00, 0x05, 0x03, 0xac, 0x03] : List UInt8)[i]? = some b) : vy_8 cX3_isSameAllAlong (10 + i) b := vy_in (n := 10) (by decide +kernel) h
theorem vyb_cX3_isSameAllAlong_2 {i : Nat} {b : UInt8} (h : ([0x3c, 0x1b, 0x2a, 0xb4, 0x00, 0x12, 0xb6, 0x00, 0x41, 0xa2] : List UInt8)[i]? = some b) : vy_8 cX3_isSameAllAlong (20 + i) b := vy_in (n := 10) (by decide +kernel) h
theorem vyb_cX3_isSameAllAlong_3 {i : Nat} {b : UInt8} (h : ([0x00, 0x24, 0x2a, 0xb4, 0x00, 0x0e, 0x1b, 0xb6, 0x00, 0x90] : List UInt8)[i]? = some b) : vy_8 cX3_isSameAllAlong (30 + i) b := vy_in (n := 10) (by decide +kernel) h
theorem vyb_cX3_isSameAllAlong_4 {i : Nat} {b : UInt8} (h : ([0xb8, 0x00, 0x93, 0x2a, 0xb4, 0x00, 0x12, 0x1b, 0xb6, 0x00] : List UInt8)[i]? = some b) : vy_8 cX3_isSameAllAlong (40 + i) b := vy_in (n := 10) (by decide +kernel) h
theorem vyb_cX3_isSameAllAlong_5 {i : Nat} {b : UInt8} (h : ([0x90, 0xb8, 0x00, 0x93, 0x9f, 0x00, 0x05, 0x03, 0xac, 0x84] : List UInt8)[i]? = some b) : vy_8 cX3_isSameAllAlong (50 + i) b := vy_in (n := 10) (by decide +kernel) h
theorem vyb_cX3_isSameAllAlong_6 {i : Nat} {b : UInt8} (h : ([0x01, 0x01, 0xa7, 0xff, 0xd7, 0x04, 0xac] : List UInt8)[i]? = some b) : vy_8 cX3_isSameAllAlong (60 + i) b := vy_in (n := 7) (by decide +kernel) h
theorem dX3_isSameAllAlong_0 : decode cX3_isSameAllAlong 0 = Except.ok (Instr.aload_n 0, 1) := vyd_42 (vyb_cX3_isSameAllAlong_0 (i := 0) rfl)
theorem dX3_isSameAllAlong_1 : decode cX3_isSameAllAlong 1 = Except.ok (Instr.getfield 14, 3) := vyd_180 (vyb_cX3_isSameAllAlong_0 (i := 1) rfl) (vyb_cX3_isSameAllAlong_0 (i := 2) rfl) (vyb_cX3_isSameAllAlong_0 (i := 3) rfl) rfl
theorem dX3_isSameAllAlong_4 : decode cX3_isSameAllAlong 4 = Except.ok (Instr.invokevirtual 65, 3) := vyd_182 (vyb_cX3_isSameAllAlong_0 (i := 4) rfl) (vyb_cX3_isSameAllAlong_0 (i := 5) rfl) (vyb_cX3_isSameAllAlong_0 (i := 6) rfl) rfl
theorem dX3_isSameAllAlong_7 : decode cX3_isSameAllAlong 7 = Except.ok (Instr.aload_n 0, 1) := vyd_42 (vyb_cX3_isSameAllAlong_0 (i := 7) rfl)
theorem dX3_isSameAllAlong_8 : decode cX3_isSameAllAlong 8 = Except.ok (Instr.getfield 18, 3) := vyd_180 (vyb_cX3_isSameAllAlong_0 (i := 8) rfl) (vyb_cX3_isSameAllAlong_0 (i := 9) rfl) (vyb_cX3_isSameAllAlong_1 (i := 0) rfl) rfl
theorem dX3_isSameAllAlong_11 : decode cX3_isSameAllAlong 11 = Except.ok (Instr.invokevirtual 65, 3) := vyd_182 (vyb_cX3_isSameAllAlong_1 (i := 1) rfl) (vyb_cX3_isSameAllAlong_1 (i := 2) rfl) (vyb_cX3_isSameAllAlong_1 (i := 3) rfl) rfl
theorem dX3_isSameAllAlong_14 : decode cX3_isSameAllAlong 14 = Except.ok (Instr.if_icmp .eq 5, 3) := vyd_159 (vyb_cX3_isSameAllAlong_1 (i := 4) rfl) (vyb_cX3_isSameAllAlong_1 (i := 5) rfl) (vyb_cX3_isSameAllAlong_1 (i := 6) rfl) (by decide +kernel)
theorem dX3_isSameAllAlong_17 : decode cX3_isSameAllAlong 17 = Except.ok (Instr.iconst 0, 1) := vyd_3 (vyb_cX3_isSameAllAlong_1 (i := 7) rfl)
theorem dX3_isSameAllAlong_18 : decode cX3_isSameAllAlong 18 = Except.ok (Instr.ireturn, 1) := vyd_172 (vyb_cX3_isSameAllAlong_1 (i := 8) rfl)
theorem dX3_isSameAllAlong_19 : decode cX3_isSameAllAlong 19 = Except.ok (Instr.iconst 0, 1) := vyd_3 (vyb_cX3_isSameAllAlong_1 (i := 9) rfl)
theorem dX3_isSameAllAlong_20 : decode cX3_isSameAllAlong 20 = Except.ok (Instr.istore_n 1, 1) := vyd_60 (vyb_cX3_isSameAllAlong_2 (i := 0) rfl)
theorem dX3_isSameAllAlong_21 : decode cX3_isSameAllAlong 21 = Except.ok (Instr.iload_n 1, 1) := vyd_27 (vyb_cX3_isSameAllAlong_2 (i := 1) rfl)
theorem dX3_isSameAllAlong_22 : decode cX3_isSameAllAlong 22 = Except.ok (Instr.aload_n 0, 1) := vyd_42 (vyb_cX3_isSameAllAlong_2 (i := 2) rfl)
theorem dX3_isSameAllAlong_23 : decode cX3_isSameAllAlong 23 = Except.ok (Instr.getfield 18, 3) := vyd_180 (vyb_cX3_isSameAllAlong_2 (i := 3) rfl) (vyb_cX3_isSameAllAlong_2 (i := 4) rfl) (vyb_cX3_isSameAllAlong_2 (i := 5) rfl) rfl
theorem dX3_isSameAllAlong_26 : decode cX3_isSameAllAlong 26 = Except.ok (Instr.invokevirtual 65, 3) := vyd_182 (vyb_cX3_isSameAllAlong_2 (i := 6) rfl) (vyb_cX3_isSameAllAlong_2 (i := 7) rfl) (vyb_cX3_isSameAllAlong_2 (i := 8) rfl) rfl
theorem dX3_isSameAllAlong_29 : decode cX3_isSameAllAlong 29 = Except.ok (Instr.if_icmp .ge 36, 3) := vyd_162 (vyb_cX3_isSameAllAlong_2 (i := 9) rfl) (vyb_cX3_isSameAllAlong_3 (i := 0) rfl) (vyb_cX3_isSameAllAlong_3 (i := 1) rfl) (by decide +kernel)
theorem dX3_isSameAllAlong_32 : decode cX3_isSameAllAlong 32 = Except.ok (Instr.aload_n 0, 1) := vyd_42 (vyb_cX3_isSameAllAlong_3 (i := 2) rfl)
theorem dX3_isSameAllAlong_33 : decode cX3_isSameAllAlong 33 = Except.ok (Instr.getfield 14, 3) := vyd_180 (vyb_cX3_isSameAllAlong_3 (i := 3) rfl) (vyb_cX3_isSameAllAlong_3 (i := 4) rfl) (vyb_cX3_isSameAllAlong_3 (i := 5) rfl) rfl
theorem dX3_isSameAllAlong_36 : decode cX3_isSameAllAlong 36 = Except.ok (Instr.iload_n 1, 1) := vyd_27 (vyb_cX3_isSameAllAlong_3 (i := 6) rfl)
theorem dX3_isSameAllAlong_37 : decode cX3_isSameAllAlong 37 = Except.ok (Instr.invokevirtual 144, 3) := vyd_182 (vyb_cX3_isSameAllAlong_3 (i := 7) rfl) (vyb_cX3_isSameAllAlong_3 (i := 8) rfl) (vyb_cX3_isSameAllAlong_3 (i := 9) rfl) rfl
theorem dX3_isSameAllAlong_40 : decode cX3_isSameAllAlong 40 = Except.ok (Instr.invokestatic 147, 3) := vyd_184 (vyb_cX3_isSameAllAlong_4 (i := 0) rfl) (vyb_cX3_isSameAllAlong_4 (i := 1) rfl) (vyb_cX3_isSameAllAlong_4 (i := 2) rfl) rfl
theorem dX3_isSameAllAlong_43 : decode cX3_isSameAllAlong 43 = Except.ok (Instr.aload_n 0, 1) := vyd_42 (vyb_cX3_isSameAllAlong_4 (i := 3) rfl)
theorem dX3_isSameAllAlong_44 : decode cX3_isSameAllAlong 44 = Except.ok (Instr.getfield 18, 3) := vyd_180 (vyb_cX3_isSameAllAlong_4 (i := 4) rfl) (vyb_cX3_isSameAllAlong_4 (i := 5) rfl) (vyb_cX3_isSameAllAlong_4 (i := 6) rfl) rfl
theorem dX3_isSameAllAlong_47 : decode cX3_isSameAllAlong 47 = Except.ok (Instr.iload_n 1, 1) := vyd_27 (vyb_cX3_isSameAllAlong_4 (i := 7) rfl)
theorem dX3_isSameAllAlong_48 : decode cX3_isSameAllAlong 48 = Except.ok (Instr.invokevirtual 144, 3) := vyd_182 (vyb_cX3_isSameAllAlong_4 (i := 8) rfl) (vyb_cX3_isSameAllAlong_4 (i := 9) rfl) (vyb_cX3_isSameAllAlong_5 (i := 0) rfl) rfl
theorem dX3_isSameAllAlong_51 : decode cX3_isSameAllAlong 51 = Except.ok (Instr.invokestatic 147, 3) := vyd_184 (vyb_cX3_isSameAllAlong_5 (i := 1) rfl) (vyb_cX3_isSameAllAlong_5 (i := 2) rfl) (vyb_cX3_isSameAllAlong_5 (i := 3) rfl) rfl
theorem dX3_isSameAllAlong_54 : decode cX3_isSameAllAlong 54 = Except.ok (Instr.if_icmp .eq 5, 3) := vyd_159 (vyb_cX3_isSameAllAlong_5 (i := 4) rfl) (vyb_cX3_isSameAllAlong_5 (i := 5) rfl) (vyb_cX3_isSameAllAlong_5 (i := 6) rfl) (by decide +kernel)
theorem dX3_isSameAllAlong_57 : decode cX3_isSameAllAlong 57 = Except.ok (Instr.iconst 0, 1) := vyd_3 (vyb_cX3_isSameAllAlong_5 (i := 7) rfl)
theorem dX3_isSameAllAlong_58 : decode cX3_isSameAllAlong 58 = Except.ok (Instr.ireturn, 1) := vyd_172 (vyb_cX3_isSameAllAlong_5 (i := 8) rfl)
theorem dX3_isSameAllAlong_59 : decode cX3_isSameAllAlong 59 = .ok (.iinc 1 1, 3) := by decide +kernel
theorem dX3_isSameAllAlong_62 : decode cX3_isSameAllAlong 62 = Except.ok (Instr.goto (-41), 3) := vyd_167 (vyb_cX3_isSameAllAlong_6 (i := 2) rfl) (vyb_cX3_isSameAllAlong_6 (i := 3) rfl) (vyb_cX3_isSameAllAlong_6 (i := 4) rfl) (by decide +kernel)
theorem dX3_isSameAllAlong_65 : decode cX3_isSameAllAlong 65 = Except.ok (Instr.iconst 1, 1) := vyd_4 (vyb_cX3_isSameAllAlong_6 (i := 5) rfl)
theorem dX3_isSameAllAlong_66 : decode cX3_isSameAllAlong 66 = Except.ok (Instr.ireturn, 1) := vyd_172 (vyb_cX3_isSameAllAlong_6 (i := 6) rfl)
theorem vyb_cX3_isSidingAmongLine_0 {i : Nat} {b : UInt8} (h : ([0x03, 0x3c, 0x1b, 0x2a, 0xb4, 0x00, 0x0e, 0xb6, 0x00, 0x41] : List UInt8)[i]? = some b) : vy_8 cX3_isSidingAmongLine (0 + i) b := vy_in (n := 10) (by decide +kernel) h
theorem vyb_cX3_isSidingAmongLine_1 {i : Nat} {b : UInt8} (h : ([0xa2, 0x00, 0x1d, 0x2a, 0xb4, 0x00, 0x12, 0x2a, 0xb4, 0x00] : List UInt8)[i]? = some b) : vy_8 cX3_isSidingAmongLine (10 + i) b := vy_in (n := 10) (by decide +kernel) h
theorem vyb_cX3_isSidingAmongLine_2 {i : Nat} {b : UInt8} (h : ([0x0e, 0x1b, 0xb6, 0x00, 0x90, 0xb8, 0x00, 0xa2, 0x9a, 0x00] : List UInt8)[i]? = some b) : vy_8 cX3_isSidingAmongLine (20 + i) b := vy_in (n := 10) (by decide +kernel) h
theorem vyb_cX3_isSidingAmongLine_3 {i : Nat} {b : UInt8} (h : ([0x05, 0x03, 0xac, 0x84, 0x01, 0x01, 0xa7, 0xff, 0xde, 0x04] : List UInt8)[i]? = some b) : vy_8 cX3_isSidingAmongLine (30 + i) b := vy_in (n := 10) (by decide +kernel) h
theorem vyb_cX3_isSidingAmongLine_4 {i : Nat} {b : UInt8} (h : ([0xac] : List UInt8)[i]? = some b) : vy_8 cX3_isSidingAmongLine (40 + i) b := vy_in (n := 1) (by decide +kernel) h
theorem dX3_isSidingAmongLine_0 : decode cX3_isSidingAmongLine 0 = Except.ok (Instr.iconst 0, 1) := vyd_3 (vyb_cX3_isSidingAmongLine_0 (i := 0) rfl)
theorem dX3_isSidingAmongLine_1 : decode cX3_isSidingAmongLine 1 = Except.ok (Instr.istore_n 1, 1) := vyd_60 (vyb_cX3_isSidingAmongLine_0 (i := 1) rfl)
theorem dX3_isSidingAmongLine_2 : decode cX3_isSidingAmongLine 2 = Except.ok (Instr.iload_n 1, 1) := vyd_27 (vyb_cX3_isSidingAmongLine_0 (i := 2) rfl)
theorem dX3_isSidingAmongLine_3 : decode cX3_isSidingAmongLine 3 = Except.ok (Instr.aload_n 0, 1) := vyd_42 (vyb_cX3_isSidingAmongLine_0 (i := 3) rfl)
theorem dX3_isSidingAmongLine_4 : decode cX3_isSidingAmongLine 4 = Except.ok (Instr.getfield 14, 3) := vyd_180 (vyb_cX3_isSidingAmongLine_0 (i := 4) rfl) (vyb_cX3_isSidingAmongLine_0 (i := 5) rfl) (vyb_cX3_isSidingAmongLine_0 (i := 6) rfl) rfl
theorem dX3_isSidingAmongLine_7 : decode cX3_isSidingAmongLine 7 = Except.ok (Instr.invokevirtual 65, 3) := vyd_182 (vyb_cX3_isSidingAmongLine_0 (i := 7) rfl) (vyb_cX3_isSidingAmongLine_0 (i := 8) rfl) (vyb_cX3_isSidingAmongLine_0 (i := 9) rfl) rfl
theorem dX3_isSidingAmongLine_10 : decode cX3_isSidingAmongLine 10 = Except.ok (Instr.if_icmp .ge 29, 3) := vyd_162 (vyb_cX3_isSidingAmongLine_1 (i := 0) rfl) (vyb_cX3_isSidingAmongLine_1 (i := 1) rfl) (vyb_cX3_isSidingAmongLine_1 (i := 2) rfl) (by decide +kernel)
theorem dX3_isSidingAmongLine_13 : decode cX3_isSidingAmongLine 13 = Except.ok (Instr.aload_n 0, 1) := vyd_42 (vyb_cX3_isSidingAmongLine_1 (i := 3) rfl)
theorem dX3_isSidingAmongLine_14 : decode cX3_isSidingAmongLine 14 = Except.ok (Instr.getfield 18, 3) := vyd_180 (vyb_cX3_isSidingAmongLine_1 (i := 4) rfl) (vyb_cX3_isSidingAmongLine_1 (i := 5) rfl) (vyb_cX3_isSidingAmongLine_1 (i := 6) rfl) rfl
theorem dX3_isSidingAmongLine_17 : decode cX3_isSidingAmongLine 17 = Except.ok (Instr.aload_n 0, 1) := vyd_42 (vyb_cX3_isSidingAmongLine_1 (i := 7) rfl)
theorem dX3_isSidingAmongLine_18 : decode cX3_isSidingAmongLine 18 = Except.ok (Instr.getfield 14, 3) := vyd_180 (vyb_cX3_isSidingAmongLine_1 (i := 8) rfl) (vyb_cX3_isSidingAmongLine_1 (i := 9) rfl) (vyb_cX3_isSidingAmongLine_2 (i := 0) rfl) rfl
theorem dX3_isSidingAmongLine_21 : decode cX3_isSidingAmongLine 21 = Except.ok (Instr.iload_n 1, 1) := vyd_27 (vyb_cX3_isSidingAmongLine_2 (i := 1) rfl)
theorem dX3_isSidingAmongLine_22 : decode cX3_isSidingAmongLine 22 = Except.ok (Instr.invokevirtual 144, 3) := vyd_182 (vyb_cX3_isSidingAmongLine_2 (i := 2) rfl) (vyb_cX3_isSidingAmongLine_2 (i := 3) rfl) (vyb_cX3_isSidingAmongLine_2 (i := 4) rfl) rfl
theorem dX3_isSidingAmongLine_25 : decode cX3_isSidingAmongLine 25 = Except.ok (Instr.invokestatic 162, 3) := vyd_184 (vyb_cX3_isSidingAmongLine_2 (i := 5) rfl) (vyb_cX3_isSidingAmongLine_2 (i := 6) rfl) (vyb_cX3_isSidingAmongLine_2 (i := 7) rfl) rfl
theorem dX3_isSidingAmongLine_28 : decode cX3_isSidingAmongLine 28 = Except.ok (Instr.ifCond .ne 5, 3) := vyd_154 (vyb_cX3_isSidingAmongLine_2 (i := 8) rfl) (vyb_cX3_isSidingAmongLine_2 (i := 9) rfl) (vyb_cX3_isSidingAmongLine_3 (i := 0) rfl) (by decide +kernel)
theorem dX3_isSidingAmongLine_31 : decode cX3_isSidingAmongLine 31 = Except.ok (Instr.iconst 0, 1) := vyd_3 (vyb_cX3_isSidingAmongLine_3 (i := 1) rfl)
theorem dX3_isSidingAmongLine_32 : decode cX3_isSidingAmongLine 32 = Except.ok (Instr.ireturn, 1) := vyd_172 (vyb_cX3_isSidingAmongLine_3 (i := 2) rfl)
theorem dX3_isSidingAmongLine_33 : decode cX3_isSidingAmongLine 33 = .ok (.iinc 1 1, 3) := by decide +kernel
theorem dX3_isSidingAmongLine_36 : decode cX3_isSidingAmongLine 36 = Except.ok (Instr.goto (-34), 3) := vyd_167 (vyb_cX3_isSidingAmongLine_3 (i := 6) rfl) (vyb_cX3_isSidingAmongLine_3 (i := 7) rfl) (vyb_cX3_isSidingAmongLine_3 (i := 8) rfl) (by decide +kernel)
theorem dX3_isSidingAmongLine_39 : decode cX3_isSidingAmongLine 39 = Except.ok (Instr.iconst 1, 1) := vyd_4 (vyb_cX3_isSidingAmongLine_3 (i := 9) rfl)
theorem dX3_isSidingAmongLine_40 : decode cX3_isSidingAmongLine 40 = Except.ok (Instr.ireturn, 1) := vyd_172 (vyb_cX3_isSidingAmongLine_4 (i := 0) rfl)
theorem vyb_cX3_writtenLength_0 {i : Nat} {b : UInt8} (h : ([0x03, 0x2a, 0xb6, 0x00, 0x41, 0x04, 0x64, 0xb8, 0x01, 0x27] : List UInt8)[i]? = some b) : vy_8 cX3_writtenLength (0 + i) b := vy_in (n := 10) (by decide +kernel) h
theorem vyb_cX3_writtenLength_1 {i : Nat} {b : UInt8} (h : ([0x3c, 0x03, 0x3d, 0x1c, 0x2a, 0xb6, 0x00, 0x41, 0xa2, 0x00] : List UInt8)[i]? = some b) : vy_8 cX3_writtenLength (10 + i) b := vy_in (n := 10) (by decide +kernel) h
theorem vyb_cX3_writtenLength_2 {i : Nat} {b : UInt8} (h : ([0x1c, 0x1b, 0x2a, 0x1c, 0xb6, 0x00, 0x90, 0xb8, 0x00, 0x93] : List UInt8)[i]? = some b) : vy_8 cX3_writtenLength (20 + i) b := vy_in (n := 10) (by decide +kernel) h
theorem vyb_cX3_writtenLength_3 {i : Nat} {b : UInt8} (h : ([0x9a, 0x00, 0x07, 0x04, 0xa7, 0x00, 0x04, 0x06, 0x60, 0x3c] : List UInt8)[i]? = some b) : vy_8 cX3_writtenLength (30 + i) b := vy_in (n := 10) (by decide +kernel) h
theorem vyb_cX3_writtenLength_4 {i : Nat} {b : UInt8} (h : ([0x84, 0x02, 0x01, 0xa7, 0xff, 0xe2, 0x1b, 0xac] : List UInt8)[i]? = some b) : vy_8 cX3_writtenLength (40 + i) b := vy_in (n := 8) (by decide +kernel) h
theorem dX3_writtenLength_0 : decode cX3_writtenLength 0 = Except.ok (Instr.iconst 0, 1) := vyd_3 (vyb_cX3_writtenLength_0 (i := 0) rfl)
theorem dX3_writtenLength_1 : decode cX3_writtenLength 1 = Except.ok (Instr.aload_n 0, 1) := vyd_42 (vyb_cX3_writtenLength_0 (i := 1) rfl)
theorem dX3_writtenLength_2 : decode cX3_writtenLength 2 = Except.ok (Instr.invokevirtual 65, 3) := vyd_182 (vyb_cX3_writtenLength_0 (i := 2) rfl) (vyb_cX3_writtenLength_0 (i := 3) rfl) (vyb_cX3_writtenLength_0 (i := 4) rfl) rfl
theorem dX3_writtenLength_5 : decode cX3_writtenLength 5 = Except.ok (Instr.iconst 1, 1) := vyd_4 (vyb_cX3_writtenLength_0 (i := 5) rfl)
theorem dX3_writtenLength_6 : decode cX3_writtenLength 6 = Except.ok (Instr.isub, 1) := vyd_100 (vyb_cX3_writtenLength_0 (i := 6) rfl)
theorem dX3_writtenLength_7 : decode cX3_writtenLength 7 = Except.ok (Instr.invokestatic 295, 3) := vyd_184 (vyb_cX3_writtenLength_0 (i := 7) rfl) (vyb_cX3_writtenLength_0 (i := 8) rfl) (vyb_cX3_writtenLength_0 (i := 9) rfl) rfl
theorem dX3_writtenLength_10 : decode cX3_writtenLength 10 = Except.ok (Instr.istore_n 1, 1) := vyd_60 (vyb_cX3_writtenLength_1 (i := 0) rfl)
theorem dX3_writtenLength_11 : decode cX3_writtenLength 11 = Except.ok (Instr.iconst 0, 1) := vyd_3 (vyb_cX3_writtenLength_1 (i := 1) rfl)
theorem dX3_writtenLength_12 : decode cX3_writtenLength 12 = Except.ok (Instr.istore_n 2, 1) := vyd_61 (vyb_cX3_writtenLength_1 (i := 2) rfl)
theorem dX3_writtenLength_13 : decode cX3_writtenLength 13 = Except.ok (Instr.iload_n 2, 1) := vyd_28 (vyb_cX3_writtenLength_1 (i := 3) rfl)
theorem dX3_writtenLength_14 : decode cX3_writtenLength 14 = Except.ok (Instr.aload_n 0, 1) := vyd_42 (vyb_cX3_writtenLength_1 (i := 4) rfl)
theorem dX3_writtenLength_15 : decode cX3_writtenLength 15 = Except.ok (Instr.invokevirtual 65, 3) := vyd_182 (vyb_cX3_writtenLength_1 (i := 5) rfl) (vyb_cX3_writtenLength_1 (i := 6) rfl) (vyb_cX3_writtenLength_1 (i := 7) rfl) rfl
theorem dX3_writtenLength_18 : decode cX3_writtenLength 18 = Except.ok (Instr.if_icmp .ge 28, 3) := vyd_162 (vyb_cX3_writtenLength_1 (i := 8) rfl) (vyb_cX3_writtenLength_1 (i := 9) rfl) (vyb_cX3_writtenLength_2 (i := 0) rfl) (by decide +kernel)
theorem dX3_writtenLength_21 : decode cX3_writtenLength 21 = Except.ok (Instr.iload_n 1, 1) := vyd_27 (vyb_cX3_writtenLength_2 (i := 1) rfl)
theorem dX3_writtenLength_22 : decode cX3_writtenLength 22 = Except.ok (Instr.aload_n 0, 1) := vyd_42 (vyb_cX3_writtenLength_2 (i := 2) rfl)
theorem dX3_writtenLength_23 : decode cX3_writtenLength 23 = Except.ok (Instr.iload_n 2, 1) := vyd_28 (vyb_cX3_writtenLength_2 (i := 3) rfl)
theorem dX3_writtenLength_24 : decode cX3_writtenLength 24 = Except.ok (Instr.invokevirtual 144, 3) := vyd_182 (vyb_cX3_writtenLength_2 (i := 4) rfl) (vyb_cX3_writtenLength_2 (i := 5) rfl) (vyb_cX3_writtenLength_2 (i := 6) rfl) rfl
theorem dX3_writtenLength_27 : decode cX3_writtenLength 27 = Except.ok (Instr.invokestatic 147, 3) := vyd_184 (vyb_cX3_writtenLength_2 (i := 7) rfl) (vyb_cX3_writtenLength_2 (i := 8) rfl) (vyb_cX3_writtenLength_2 (i := 9) rfl) rfl
theorem dX3_writtenLength_30 : decode cX3_writtenLength 30 = Except.ok (Instr.ifCond .ne 7, 3) := vyd_154 (vyb_cX3_writtenLength_3 (i := 0) rfl) (vyb_cX3_writtenLength_3 (i := 1) rfl) (vyb_cX3_writtenLength_3 (i := 2) rfl) (by decide +kernel)
theorem dX3_writtenLength_33 : decode cX3_writtenLength 33 = Except.ok (Instr.iconst 1, 1) := vyd_4 (vyb_cX3_writtenLength_3 (i := 3) rfl)
theorem dX3_writtenLength_34 : decode cX3_writtenLength 34 = Except.ok (Instr.goto 4, 3) := vyd_167 (vyb_cX3_writtenLength_3 (i := 4) rfl) (vyb_cX3_writtenLength_3 (i := 5) rfl) (vyb_cX3_writtenLength_3 (i := 6) rfl) (by decide +kernel)
theorem dX3_writtenLength_37 : decode cX3_writtenLength 37 = Except.ok (Instr.iconst 3, 1) := vyd_6 (vyb_cX3_writtenLength_3 (i := 7) rfl)
theorem dX3_writtenLength_38 : decode cX3_writtenLength 38 = Except.ok (Instr.iadd, 1) := vyd_96 (vyb_cX3_writtenLength_3 (i := 8) rfl)
theorem dX3_writtenLength_39 : decode cX3_writtenLength 39 = Except.ok (Instr.istore_n 1, 1) := vyd_60 (vyb_cX3_writtenLength_3 (i := 9) rfl)
theorem dX3_writtenLength_40 : decode cX3_writtenLength 40 = .ok (.iinc 2 1, 3) := by decide +kernel
theorem dX3_writtenLength_43 : decode cX3_writtenLength 43 = Except.ok (Instr.goto (-30), 3) := vyd_167 (vyb_cX3_writtenLength_4 (i := 3) rfl) (vyb_cX3_writtenLength_4 (i := 4) rfl) (vyb_cX3_writtenLength_4 (i := 5) rfl) (by decide +kernel)
theorem dX3_writtenLength_46 : decode cX3_writtenLength 46 = Except.ok (Instr.iload_n 1, 1) := vyd_27 (vyb_cX3_writtenLength_4 (i := 6) rfl)
theorem dX3_writtenLength_47 : decode cX3_writtenLength 47 = Except.ok (Instr.ireturn, 1) := vyd_172 (vyb_cX3_writtenLength_4 (i := 7) rfl)
theorem vyb_cX3_mostOpen_0 {i : Nat} {b : UInt8} (h : ([0x2a, 0x1b, 0xb6, 0x00, 0x3d, 0x4d, 0x03, 0x3e, 0x2a, 0xb4] : List UInt8)[i]? = some b) : vy_8 cX3_mostOpen (0 + i) b := vy_in (n := 10) (by decide +kernel) h
theorem vyb_cX3_mostOpen_1 {i : Nat} {b : UInt8} (h : ([0x00, 0x36, 0xb6, 0x00, 0x9f, 0x03, 0x36, 0x04, 0x15, 0x04] : List UInt8)[i]? = some b) : vy_8 cX3_mostOpen (10 + i) b := vy_in (n := 10) (by decide +kernel) h
theorem vyb_cX3_mostOpen_2 {i : Nat} {b : UInt8} (h : ([0x2c, 0xb6, 0x00, 0x41, 0xa2, 0x00, 0x52, 0x2c, 0x15, 0x04] : List UInt8)[i]? = some b) : vy_8 cX3_mostOpen (20 + i) b := vy_in (n := 10) (by decide +kernel) h
theorem vyb_cX3_mostOpen_3 {i : Nat} {b : UInt8} (h : ([0xb6, 0x00, 0x90, 0xb8, 0x00, 0x93, 0x36, 0x05, 0x15, 0x05] : List UInt8)[i]? = some b) : vy_8 cX3_mostOpen (30 + i) b := vy_in (n := 10) (by decide +kernel) h
theorem vyb_cX3_mostOpen_4 {i : Nat} {b : UInt8} (h : ([0x05, 0x70, 0x04, 0xa0, 0x00, 0x22, 0x15, 0x05, 0x10, 0x09] : List UInt8)[i]? = some b) : vy_8 cX3_mostOpen (40 + i) b := vy_in (n := 10) (by decide +kernel) h
theorem vyb_cX3_mostOpen_5 {i : Nat} {b : UInt8} (h : ([0xa2, 0x00, 0x1b, 0x2a, 0xb4, 0x00, 0x36, 0x15, 0x05, 0xb6] : List UInt8)[i]? = some b) : vy_8 cX3_mostOpen (50 + i) b := vy_in (n := 10) (by decide +kernel) h
theorem vyb_cX3_mostOpen_6 {i : Nat} {b : UInt8} (h : ([0x00, 0xc5, 0x1d, 0x2a, 0xb4, 0x00, 0x36, 0xb6, 0x00, 0x41] : List UInt8)[i]? = some b) : vy_8 cX3_mostOpen (60 + i) b := vy_in (n := 10) (by decide +kernel) h
theorem vyb_cX3_mostOpen_7 {i : Nat} {b : UInt8} (h : ([0xb8, 0x01, 0x27, 0x3e, 0xa7, 0x00, 0x1a, 0x15, 0x05, 0x05] : List UInt8)[i]? = some b) : vy_8 cX3_mostOpen (70 + i) b := vy_in (n := 10) (by decide +kernel) h
theorem vyb_cX3_mostOpen_8 {i : Nat} {b : UInt8} (h : ([0x70, 0x9a, 0x00, 0x13, 0x15, 0x05, 0x99, 0x00, 0x0e, 0x2a] : List UInt8)[i]? = some b) : vy_8 cX3_mostOpen (80 + i) b := vy_in (n := 10) (by decide +kernel) h
theorem vyb_cX3_mostOpen_9 {i : Nat} {b : UInt8} (h : ([0x15, 0x05, 0xb6, 0x01, 0x8f, 0x9a, 0x00, 0x05, 0x02, 0xac] : List UInt8)[i]? = some b) : vy_8 cX3_mostOpen (90 + i) b := vy_in (n := 10) (by decide +kernel) h
theorem vyb_cX3_mostOpen_10 {i : Nat} {b : UInt8} (h : ([0x84, 0x04, 0x01, 0xa7, 0xff, 0xab, 0x2a, 0xb4, 0x00, 0x36] : List UInt8)[i]? = some b) : vy_8 cX3_mostOpen (100 + i) b := vy_in (n := 10) (by decide +kernel) h
theorem vyb_cX3_mostOpen_11 {i : Nat} {b : UInt8} (h : ([0xb6, 0x00, 0x60, 0x99, 0x00, 0x07, 0x1d, 0xa7, 0x00, 0x04] : List UInt8)[i]? = some b) : vy_8 cX3_mostOpen (110 + i) b := vy_in (n := 10) (by decide +kernel) h
theorem vyb_cX3_mostOpen_12 {i : Nat} {b : UInt8} (h : ([0x02, 0xac] : List UInt8)[i]? = some b) : vy_8 cX3_mostOpen (120 + i) b := vy_in (n := 2) (by decide +kernel) h
theorem dX3_mostOpen_0 : decode cX3_mostOpen 0 = Except.ok (Instr.aload_n 0, 1) := vyd_42 (vyb_cX3_mostOpen_0 (i := 0) rfl)
theorem dX3_mostOpen_1 : decode cX3_mostOpen 1 = Except.ok (Instr.iload_n 1, 1) := vyd_27 (vyb_cX3_mostOpen_0 (i := 1) rfl)
theorem dX3_mostOpen_2 : decode cX3_mostOpen 2 = Except.ok (Instr.invokevirtual 61, 3) := vyd_182 (vyb_cX3_mostOpen_0 (i := 2) rfl) (vyb_cX3_mostOpen_0 (i := 3) rfl) (vyb_cX3_mostOpen_0 (i := 4) rfl) rfl
theorem dX3_mostOpen_5 : decode cX3_mostOpen 5 = Except.ok (Instr.astore_n 2, 1) := vyd_77 (vyb_cX3_mostOpen_0 (i := 5) rfl)
theorem dX3_mostOpen_6 : decode cX3_mostOpen 6 = Except.ok (Instr.iconst 0, 1) := vyd_3 (vyb_cX3_mostOpen_0 (i := 6) rfl)
theorem dX3_mostOpen_7 : decode cX3_mostOpen 7 = Except.ok (Instr.istore_n 3, 1) := vyd_62 (vyb_cX3_mostOpen_0 (i := 7) rfl)
theorem dX3_mostOpen_8 : decode cX3_mostOpen 8 = Except.ok (Instr.aload_n 0, 1) := vyd_42 (vyb_cX3_mostOpen_0 (i := 8) rfl)
theorem dX3_mostOpen_9 : decode cX3_mostOpen 9 = Except.ok (Instr.getfield 54, 3) := vyd_180 (vyb_cX3_mostOpen_0 (i := 9) rfl) (vyb_cX3_mostOpen_1 (i := 0) rfl) (vyb_cX3_mostOpen_1 (i := 1) rfl) rfl
theorem dX3_mostOpen_12 : decode cX3_mostOpen 12 = Except.ok (Instr.invokevirtual 159, 3) := vyd_182 (vyb_cX3_mostOpen_1 (i := 2) rfl) (vyb_cX3_mostOpen_1 (i := 3) rfl) (vyb_cX3_mostOpen_1 (i := 4) rfl) rfl
theorem dX3_mostOpen_15 : decode cX3_mostOpen 15 = Except.ok (Instr.iconst 0, 1) := vyd_3 (vyb_cX3_mostOpen_1 (i := 5) rfl)
theorem dX3_mostOpen_16 : decode cX3_mostOpen 16 = Except.ok (Instr.istore 4, 2) := vyd_54 (vyb_cX3_mostOpen_1 (i := 6) rfl) (vyb_cX3_mostOpen_1 (i := 7) rfl) rfl
theorem dX3_mostOpen_18 : decode cX3_mostOpen 18 = Except.ok (Instr.iload 4, 2) := vyd_21 (vyb_cX3_mostOpen_1 (i := 8) rfl) (vyb_cX3_mostOpen_1 (i := 9) rfl) rfl
theorem dX3_mostOpen_20 : decode cX3_mostOpen 20 = Except.ok (Instr.aload_n 2, 1) := vyd_44 (vyb_cX3_mostOpen_2 (i := 0) rfl)
theorem dX3_mostOpen_21 : decode cX3_mostOpen 21 = Except.ok (Instr.invokevirtual 65, 3) := vyd_182 (vyb_cX3_mostOpen_2 (i := 1) rfl) (vyb_cX3_mostOpen_2 (i := 2) rfl) (vyb_cX3_mostOpen_2 (i := 3) rfl) rfl
theorem dX3_mostOpen_24 : decode cX3_mostOpen 24 = Except.ok (Instr.if_icmp .ge 82, 3) := vyd_162 (vyb_cX3_mostOpen_2 (i := 4) rfl) (vyb_cX3_mostOpen_2 (i := 5) rfl) (vyb_cX3_mostOpen_2 (i := 6) rfl) (by decide +kernel)
theorem dX3_mostOpen_27 : decode cX3_mostOpen 27 = Except.ok (Instr.aload_n 2, 1) := vyd_44 (vyb_cX3_mostOpen_2 (i := 7) rfl)
theorem dX3_mostOpen_28 : decode cX3_mostOpen 28 = Except.ok (Instr.iload 4, 2) := vyd_21 (vyb_cX3_mostOpen_2 (i := 8) rfl) (vyb_cX3_mostOpen_2 (i := 9) rfl) rfl
theorem dX3_mostOpen_30 : decode cX3_mostOpen 30 = Except.ok (Instr.invokevirtual 144, 3) := vyd_182 (vyb_cX3_mostOpen_3 (i := 0) rfl) (vyb_cX3_mostOpen_3 (i := 1) rfl) (vyb_cX3_mostOpen_3 (i := 2) rfl) rfl
theorem dX3_mostOpen_33 : decode cX3_mostOpen 33 = Except.ok (Instr.invokestatic 147, 3) := vyd_184 (vyb_cX3_mostOpen_3 (i := 3) rfl) (vyb_cX3_mostOpen_3 (i := 4) rfl) (vyb_cX3_mostOpen_3 (i := 5) rfl) rfl
theorem dX3_mostOpen_36 : decode cX3_mostOpen 36 = Except.ok (Instr.istore 5, 2) := vyd_54 (vyb_cX3_mostOpen_3 (i := 6) rfl) (vyb_cX3_mostOpen_3 (i := 7) rfl) rfl
theorem dX3_mostOpen_38 : decode cX3_mostOpen 38 = Except.ok (Instr.iload 5, 2) := vyd_21 (vyb_cX3_mostOpen_3 (i := 8) rfl) (vyb_cX3_mostOpen_3 (i := 9) rfl) rfl
theorem dX3_mostOpen_40 : decode cX3_mostOpen 40 = Except.ok (Instr.iconst 2, 1) := vyd_5 (vyb_cX3_mostOpen_4 (i := 0) rfl)
theorem dX3_mostOpen_41 : decode cX3_mostOpen 41 = Except.ok (Instr.irem, 1) := vyd_112 (vyb_cX3_mostOpen_4 (i := 1) rfl)
theorem dX3_mostOpen_42 : decode cX3_mostOpen 42 = Except.ok (Instr.iconst 1, 1) := vyd_4 (vyb_cX3_mostOpen_4 (i := 2) rfl)
theorem dX3_mostOpen_43 : decode cX3_mostOpen 43 = Except.ok (Instr.if_icmp .ne 34, 3) := vyd_160 (vyb_cX3_mostOpen_4 (i := 3) rfl) (vyb_cX3_mostOpen_4 (i := 4) rfl) (vyb_cX3_mostOpen_4 (i := 5) rfl) (by decide +kernel)
theorem dX3_mostOpen_46 : decode cX3_mostOpen 46 = Except.ok (Instr.iload 5, 2) := vyd_21 (vyb_cX3_mostOpen_4 (i := 6) rfl) (vyb_cX3_mostOpen_4 (i := 7) rfl) rfl
theorem dX3_mostOpen_48 : decode cX3_mostOpen 48 = Except.ok (Instr.bipush 9, 2) := vyd_16 (vyb_cX3_mostOpen_4 (i := 8) rfl) (vyb_cX3_mostOpen_4 (i := 9) rfl) (by decide +kernel)
theorem dX3_mostOpen_50 : decode cX3_mostOpen 50 = Except.ok (Instr.if_icmp .ge 27, 3) := vyd_162 (vyb_cX3_mostOpen_5 (i := 0) rfl) (vyb_cX3_mostOpen_5 (i := 1) rfl) (vyb_cX3_mostOpen_5 (i := 2) rfl) (by decide +kernel)
theorem dX3_mostOpen_53 : decode cX3_mostOpen 53 = Except.ok (Instr.aload_n 0, 1) := vyd_42 (vyb_cX3_mostOpen_5 (i := 3) rfl)
theorem dX3_mostOpen_54 : decode cX3_mostOpen 54 = Except.ok (Instr.getfield 54, 3) := vyd_180 (vyb_cX3_mostOpen_5 (i := 4) rfl) (vyb_cX3_mostOpen_5 (i := 5) rfl) (vyb_cX3_mostOpen_5 (i := 6) rfl) rfl
theorem dX3_mostOpen_57 : decode cX3_mostOpen 57 = Except.ok (Instr.iload 5, 2) := vyd_21 (vyb_cX3_mostOpen_5 (i := 7) rfl) (vyb_cX3_mostOpen_5 (i := 8) rfl) rfl
theorem dX3_mostOpen_59 : decode cX3_mostOpen 59 = Except.ok (Instr.invokevirtual 197, 3) := vyd_182 (vyb_cX3_mostOpen_5 (i := 9) rfl) (vyb_cX3_mostOpen_6 (i := 0) rfl) (vyb_cX3_mostOpen_6 (i := 1) rfl) rfl
theorem dX3_mostOpen_62 : decode cX3_mostOpen 62 = Except.ok (Instr.iload_n 3, 1) := vyd_29 (vyb_cX3_mostOpen_6 (i := 2) rfl)
theorem dX3_mostOpen_63 : decode cX3_mostOpen 63 = Except.ok (Instr.aload_n 0, 1) := vyd_42 (vyb_cX3_mostOpen_6 (i := 3) rfl)
theorem dX3_mostOpen_64 : decode cX3_mostOpen 64 = Except.ok (Instr.getfield 54, 3) := vyd_180 (vyb_cX3_mostOpen_6 (i := 4) rfl) (vyb_cX3_mostOpen_6 (i := 5) rfl) (vyb_cX3_mostOpen_6 (i := 6) rfl) rfl
theorem dX3_mostOpen_67 : decode cX3_mostOpen 67 = Except.ok (Instr.invokevirtual 65, 3) := vyd_182 (vyb_cX3_mostOpen_6 (i := 7) rfl) (vyb_cX3_mostOpen_6 (i := 8) rfl) (vyb_cX3_mostOpen_6 (i := 9) rfl) rfl
theorem dX3_mostOpen_70 : decode cX3_mostOpen 70 = Except.ok (Instr.invokestatic 295, 3) := vyd_184 (vyb_cX3_mostOpen_7 (i := 0) rfl) (vyb_cX3_mostOpen_7 (i := 1) rfl) (vyb_cX3_mostOpen_7 (i := 2) rfl) rfl
theorem dX3_mostOpen_73 : decode cX3_mostOpen 73 = Except.ok (Instr.istore_n 3, 1) := vyd_62 (vyb_cX3_mostOpen_7 (i := 3) rfl)
theorem dX3_mostOpen_74 : decode cX3_mostOpen 74 = Except.ok (Instr.goto 26, 3) := vyd_167 (vyb_cX3_mostOpen_7 (i := 4) rfl) (vyb_cX3_mostOpen_7 (i := 5) rfl) (vyb_cX3_mostOpen_7 (i := 6) rfl) (by decide +kernel)
theorem dX3_mostOpen_77 : decode cX3_mostOpen 77 = Except.ok (Instr.iload 5, 2) := vyd_21 (vyb_cX3_mostOpen_7 (i := 7) rfl) (vyb_cX3_mostOpen_7 (i := 8) rfl) rfl
theorem dX3_mostOpen_79 : decode cX3_mostOpen 79 = Except.ok (Instr.iconst 2, 1) := vyd_5 (vyb_cX3_mostOpen_7 (i := 9) rfl)
theorem dX3_mostOpen_80 : decode cX3_mostOpen 80 = Except.ok (Instr.irem, 1) := vyd_112 (vyb_cX3_mostOpen_8 (i := 0) rfl)
theorem dX3_mostOpen_81 : decode cX3_mostOpen 81 = Except.ok (Instr.ifCond .ne 19, 3) := vyd_154 (vyb_cX3_mostOpen_8 (i := 1) rfl) (vyb_cX3_mostOpen_8 (i := 2) rfl) (vyb_cX3_mostOpen_8 (i := 3) rfl) (by decide +kernel)
theorem dX3_mostOpen_84 : decode cX3_mostOpen 84 = Except.ok (Instr.iload 5, 2) := vyd_21 (vyb_cX3_mostOpen_8 (i := 4) rfl) (vyb_cX3_mostOpen_8 (i := 5) rfl) rfl
theorem dX3_mostOpen_86 : decode cX3_mostOpen 86 = Except.ok (Instr.ifCond .eq 14, 3) := vyd_153 (vyb_cX3_mostOpen_8 (i := 6) rfl) (vyb_cX3_mostOpen_8 (i := 7) rfl) (vyb_cX3_mostOpen_8 (i := 8) rfl) (by decide +kernel)
theorem dX3_mostOpen_89 : decode cX3_mostOpen 89 = Except.ok (Instr.aload_n 0, 1) := vyd_42 (vyb_cX3_mostOpen_8 (i := 9) rfl)
theorem dX3_mostOpen_90 : decode cX3_mostOpen 90 = Except.ok (Instr.iload 5, 2) := vyd_21 (vyb_cX3_mostOpen_9 (i := 0) rfl) (vyb_cX3_mostOpen_9 (i := 1) rfl) rfl
theorem dX3_mostOpen_92 : decode cX3_mostOpen 92 = Except.ok (Instr.invokevirtual 399, 3) := vyd_182 (vyb_cX3_mostOpen_9 (i := 2) rfl) (vyb_cX3_mostOpen_9 (i := 3) rfl) (vyb_cX3_mostOpen_9 (i := 4) rfl) rfl
theorem dX3_mostOpen_95 : decode cX3_mostOpen 95 = Except.ok (Instr.ifCond .ne 5, 3) := vyd_154 (vyb_cX3_mostOpen_9 (i := 5) rfl) (vyb_cX3_mostOpen_9 (i := 6) rfl) (vyb_cX3_mostOpen_9 (i := 7) rfl) (by decide +kernel)
theorem dX3_mostOpen_98 : decode cX3_mostOpen 98 = Except.ok (Instr.iconst (-1), 1) := vyd_2 (vyb_cX3_mostOpen_9 (i := 8) rfl)
theorem dX3_mostOpen_99 : decode cX3_mostOpen 99 = Except.ok (Instr.ireturn, 1) := vyd_172 (vyb_cX3_mostOpen_9 (i := 9) rfl)
theorem dX3_mostOpen_100 : decode cX3_mostOpen 100 = .ok (.iinc 4 1, 3) := by decide +kernel
theorem dX3_mostOpen_103 : decode cX3_mostOpen 103 = Except.ok (Instr.goto (-85), 3) := vyd_167 (vyb_cX3_mostOpen_10 (i := 3) rfl) (vyb_cX3_mostOpen_10 (i := 4) rfl) (vyb_cX3_mostOpen_10 (i := 5) rfl) (by decide +kernel)
theorem dX3_mostOpen_106 : decode cX3_mostOpen 106 = Except.ok (Instr.aload_n 0, 1) := vyd_42 (vyb_cX3_mostOpen_10 (i := 6) rfl)
theorem dX3_mostOpen_107 : decode cX3_mostOpen 107 = Except.ok (Instr.getfield 54, 3) := vyd_180 (vyb_cX3_mostOpen_10 (i := 7) rfl) (vyb_cX3_mostOpen_10 (i := 8) rfl) (vyb_cX3_mostOpen_10 (i := 9) rfl) rfl
theorem dX3_mostOpen_110 : decode cX3_mostOpen 110 = Except.ok (Instr.invokevirtual 96, 3) := vyd_182 (vyb_cX3_mostOpen_11 (i := 0) rfl) (vyb_cX3_mostOpen_11 (i := 1) rfl) (vyb_cX3_mostOpen_11 (i := 2) rfl) rfl
theorem dX3_mostOpen_113 : decode cX3_mostOpen 113 = Except.ok (Instr.ifCond .eq 7, 3) := vyd_153 (vyb_cX3_mostOpen_11 (i := 3) rfl) (vyb_cX3_mostOpen_11 (i := 4) rfl) (vyb_cX3_mostOpen_11 (i := 5) rfl) (by decide +kernel)
theorem dX3_mostOpen_116 : decode cX3_mostOpen 116 = Except.ok (Instr.iload_n 3, 1) := vyd_29 (vyb_cX3_mostOpen_11 (i := 6) rfl)
theorem dX3_mostOpen_117 : decode cX3_mostOpen 117 = Except.ok (Instr.goto 4, 3) := vyd_167 (vyb_cX3_mostOpen_11 (i := 7) rfl) (vyb_cX3_mostOpen_11 (i := 8) rfl) (vyb_cX3_mostOpen_11 (i := 9) rfl) (by decide +kernel)
theorem dX3_mostOpen_120 : decode cX3_mostOpen 120 = Except.ok (Instr.iconst (-1), 1) := vyd_2 (vyb_cX3_mostOpen_12 (i := 0) rfl)
theorem dX3_mostOpen_121 : decode cX3_mostOpen 121 = Except.ok (Instr.ireturn, 1) := vyd_172 (vyb_cX3_mostOpen_12 (i := 1) rfl)
theorem vyb_cX3_closedBy_0 {i : Nat} {b : UInt8} (h : ([0x2a, 0xb4, 0x00, 0x36, 0x2a, 0xb4, 0x00, 0x36, 0x04, 0xb6] : List UInt8)[i]? = some b) : vy_8 cX3_closedBy (0 + i) b := vy_in (n := 10) (by decide +kernel) h
theorem vyb_cX3_closedBy_1 {i : Nat} {b : UInt8} (h : ([0x00, 0x6d, 0xb6, 0x00, 0x71, 0x1b, 0x04, 0x64, 0xa0, 0x00] : List UInt8)[i]? = some b) : vy_8 cX3_closedBy (10 + i) b := vy_in (n := 10) (by decide +kernel) h
theorem vyb_cX3_closedBy_2 {i : Nat} {b : UInt8} (h : ([0x07, 0x04, 0xa7, 0x00, 0x04, 0x03, 0xac] : List UInt8)[i]? = some b) : vy_8 cX3_closedBy (20 + i) b := vy_in (n := 7) (by decide +kernel) h
theorem dX3_closedBy_0 : decode cX3_closedBy 0 = Except.ok (Instr.aload_n 0, 1) := vyd_42 (vyb_cX3_closedBy_0 (i := 0) rfl)
theorem dX3_closedBy_1 : decode cX3_closedBy 1 = Except.ok (Instr.getfield 54, 3) := vyd_180 (vyb_cX3_closedBy_0 (i := 1) rfl) (vyb_cX3_closedBy_0 (i := 2) rfl) (vyb_cX3_closedBy_0 (i := 3) rfl) rfl
theorem dX3_closedBy_4 : decode cX3_closedBy 4 = Except.ok (Instr.aload_n 0, 1) := vyd_42 (vyb_cX3_closedBy_0 (i := 4) rfl)
theorem dX3_closedBy_5 : decode cX3_closedBy 5 = Except.ok (Instr.getfield 54, 3) := vyd_180 (vyb_cX3_closedBy_0 (i := 5) rfl) (vyb_cX3_closedBy_0 (i := 6) rfl) (vyb_cX3_closedBy_0 (i := 7) rfl) rfl
theorem dX3_closedBy_8 : decode cX3_closedBy 8 = Except.ok (Instr.iconst 1, 1) := vyd_4 (vyb_cX3_closedBy_0 (i := 8) rfl)
theorem dX3_closedBy_9 : decode cX3_closedBy 9 = Except.ok (Instr.invokevirtual 109, 3) := vyd_182 (vyb_cX3_closedBy_0 (i := 9) rfl) (vyb_cX3_closedBy_1 (i := 0) rfl) (vyb_cX3_closedBy_1 (i := 1) rfl) rfl
theorem dX3_closedBy_12 : decode cX3_closedBy 12 = Except.ok (Instr.invokevirtual 113, 3) := vyd_182 (vyb_cX3_closedBy_1 (i := 2) rfl) (vyb_cX3_closedBy_1 (i := 3) rfl) (vyb_cX3_closedBy_1 (i := 4) rfl) rfl
theorem dX3_closedBy_15 : decode cX3_closedBy 15 = Except.ok (Instr.iload_n 1, 1) := vyd_27 (vyb_cX3_closedBy_1 (i := 5) rfl)
theorem dX3_closedBy_16 : decode cX3_closedBy 16 = Except.ok (Instr.iconst 1, 1) := vyd_4 (vyb_cX3_closedBy_1 (i := 6) rfl)
theorem dX3_closedBy_17 : decode cX3_closedBy 17 = Except.ok (Instr.isub, 1) := vyd_100 (vyb_cX3_closedBy_1 (i := 7) rfl)
theorem dX3_closedBy_18 : decode cX3_closedBy 18 = Except.ok (Instr.if_icmp .ne 7, 3) := vyd_160 (vyb_cX3_closedBy_1 (i := 8) rfl) (vyb_cX3_closedBy_1 (i := 9) rfl) (vyb_cX3_closedBy_2 (i := 0) rfl) (by decide +kernel)
theorem dX3_closedBy_21 : decode cX3_closedBy 21 = Except.ok (Instr.iconst 1, 1) := vyd_4 (vyb_cX3_closedBy_2 (i := 1) rfl)
theorem dX3_closedBy_22 : decode cX3_closedBy 22 = Except.ok (Instr.goto 4, 3) := vyd_167 (vyb_cX3_closedBy_2 (i := 2) rfl) (vyb_cX3_closedBy_2 (i := 3) rfl) (vyb_cX3_closedBy_2 (i := 4) rfl) (by decide +kernel)
theorem dX3_closedBy_25 : decode cX3_closedBy 25 = Except.ok (Instr.iconst 0, 1) := vyd_3 (vyb_cX3_closedBy_2 (i := 5) rfl)
theorem dX3_closedBy_26 : decode cX3_closedBy 26 = Except.ok (Instr.ireturn, 1) := vyd_172 (vyb_cX3_closedBy_2 (i := 6) rfl)
theorem vyb_cX3_isRowSound_0 {i : Nat} {b : UInt8} (h : ([0x2a, 0xb6, 0x00, 0x41, 0x9b, 0x00, 0x0c, 0x2a, 0xb6, 0x00] : List UInt8)[i]? = some b) : vy_8 cX3_isRowSound (0 + i) b := vy_in (n := 10) (by decide +kernel) h
theorem vyb_cX3_isRowSound_1 {i : Nat} {b : UInt8} (h : ([0x41, 0x10, 0x14, 0xa4, 0x00, 0x05, 0x03, 0xac, 0x03, 0x3c] : List UInt8)[i]? = some b) : vy_8 cX3_isRowSound (10 + i) b := vy_in (n := 10) (by decide +kernel) h
theorem vyb_cX3_isRowSound_2 {i : Nat} {b : UInt8} (h : ([0x1b, 0x2a, 0xb6, 0x00, 0x41, 0xa2, 0x00, 0x21, 0x2a, 0x03] : List UInt8)[i]? = some b) : vy_8 cX3_isRowSound (20 + i) b := vy_in (n := 10) (by decide +kernel) h
theorem vyb_cX3_isRowSound_3 {i : Nat} {b : UInt8} (h : ([0x1b, 0xb6, 0x01, 0x19, 0x2a, 0x04, 0x2a, 0xb6, 0x00, 0x41] : List UInt8)[i]? = some b) : vy_8 cX3_isRowSound (30 + i) b := vy_in (n := 10) (by decide +kernel) h
theorem vyb_cX3_isRowSound_4 {i : Nat} {b : UInt8} (h : ([0x04, 0x64, 0x1b, 0x64, 0xb6, 0x01, 0x19, 0x9f, 0x00, 0x05] : List UInt8)[i]? = some b) : vy_8 cX3_isRowSound (40 + i) b := vy_in (n := 10) (by decide +kernel) h
theorem vyb_cX3_isRowSound_5 {i : Nat} {b : UInt8} (h : ([0x03, 0xac, 0x84, 0x01, 0x01, 0xa7, 0xff, 0xdd, 0x04, 0xac] : List UInt8)[i]? = some b) : vy_8 cX3_isRowSound (50 + i) b := vy_in (n := 10) (by decide +kernel) h
theorem dX3_isRowSound_0 : decode cX3_isRowSound 0 = Except.ok (Instr.aload_n 0, 1) := vyd_42 (vyb_cX3_isRowSound_0 (i := 0) rfl)
theorem dX3_isRowSound_1 : decode cX3_isRowSound 1 = Except.ok (Instr.invokevirtual 65, 3) := vyd_182 (vyb_cX3_isRowSound_0 (i := 1) rfl) (vyb_cX3_isRowSound_0 (i := 2) rfl) (vyb_cX3_isRowSound_0 (i := 3) rfl) rfl
theorem dX3_isRowSound_4 : decode cX3_isRowSound 4 = Except.ok (Instr.ifCond .lt 12, 3) := vyd_155 (vyb_cX3_isRowSound_0 (i := 4) rfl) (vyb_cX3_isRowSound_0 (i := 5) rfl) (vyb_cX3_isRowSound_0 (i := 6) rfl) (by decide +kernel)
theorem dX3_isRowSound_7 : decode cX3_isRowSound 7 = Except.ok (Instr.aload_n 0, 1) := vyd_42 (vyb_cX3_isRowSound_0 (i := 7) rfl)
theorem dX3_isRowSound_8 : decode cX3_isRowSound 8 = Except.ok (Instr.invokevirtual 65, 3) := vyd_182 (vyb_cX3_isRowSound_0 (i := 8) rfl) (vyb_cX3_isRowSound_0 (i := 9) rfl) (vyb_cX3_isRowSound_1 (i := 0) rfl) rfl
theorem dX3_isRowSound_11 : decode cX3_isRowSound 11 = Except.ok (Instr.bipush 20, 2) := vyd_16 (vyb_cX3_isRowSound_1 (i := 1) rfl) (vyb_cX3_isRowSound_1 (i := 2) rfl) (by decide +kernel)
theorem dX3_isRowSound_13 : decode cX3_isRowSound 13 = Except.ok (Instr.if_icmp .le 5, 3) := vyd_164 (vyb_cX3_isRowSound_1 (i := 3) rfl) (vyb_cX3_isRowSound_1 (i := 4) rfl) (vyb_cX3_isRowSound_1 (i := 5) rfl) (by decide +kernel)
theorem dX3_isRowSound_16 : decode cX3_isRowSound 16 = Except.ok (Instr.iconst 0, 1) := vyd_3 (vyb_cX3_isRowSound_1 (i := 6) rfl)
theorem dX3_isRowSound_17 : decode cX3_isRowSound 17 = Except.ok (Instr.ireturn, 1) := vyd_172 (vyb_cX3_isRowSound_1 (i := 7) rfl)
theorem dX3_isRowSound_18 : decode cX3_isRowSound 18 = Except.ok (Instr.iconst 0, 1) := vyd_3 (vyb_cX3_isRowSound_1 (i := 8) rfl)
theorem dX3_isRowSound_19 : decode cX3_isRowSound 19 = Except.ok (Instr.istore_n 1, 1) := vyd_60 (vyb_cX3_isRowSound_1 (i := 9) rfl)
theorem dX3_isRowSound_20 : decode cX3_isRowSound 20 = Except.ok (Instr.iload_n 1, 1) := vyd_27 (vyb_cX3_isRowSound_2 (i := 0) rfl)
theorem dX3_isRowSound_21 : decode cX3_isRowSound 21 = Except.ok (Instr.aload_n 0, 1) := vyd_42 (vyb_cX3_isRowSound_2 (i := 1) rfl)
theorem dX3_isRowSound_22 : decode cX3_isRowSound 22 = Except.ok (Instr.invokevirtual 65, 3) := vyd_182 (vyb_cX3_isRowSound_2 (i := 2) rfl) (vyb_cX3_isRowSound_2 (i := 3) rfl) (vyb_cX3_isRowSound_2 (i := 4) rfl) rfl
theorem dX3_isRowSound_25 : decode cX3_isRowSound 25 = Except.ok (Instr.if_icmp .ge 33, 3) := vyd_162 (vyb_cX3_isRowSound_2 (i := 5) rfl) (vyb_cX3_isRowSound_2 (i := 6) rfl) (vyb_cX3_isRowSound_2 (i := 7) rfl) (by decide +kernel)
theorem dX3_isRowSound_28 : decode cX3_isRowSound 28 = Except.ok (Instr.aload_n 0, 1) := vyd_42 (vyb_cX3_isRowSound_2 (i := 8) rfl)
theorem dX3_isRowSound_29 : decode cX3_isRowSound 29 = Except.ok (Instr.iconst 0, 1) := vyd_3 (vyb_cX3_isRowSound_2 (i := 9) rfl)
theorem dX3_isRowSound_30 : decode cX3_isRowSound 30 = Except.ok (Instr.iload_n 1, 1) := vyd_27 (vyb_cX3_isRowSound_3 (i := 0) rfl)
theorem dX3_isRowSound_31 : decode cX3_isRowSound 31 = Except.ok (Instr.invokevirtual 281, 3) := vyd_182 (vyb_cX3_isRowSound_3 (i := 1) rfl) (vyb_cX3_isRowSound_3 (i := 2) rfl) (vyb_cX3_isRowSound_3 (i := 3) rfl) rfl
theorem dX3_isRowSound_34 : decode cX3_isRowSound 34 = Except.ok (Instr.aload_n 0, 1) := vyd_42 (vyb_cX3_isRowSound_3 (i := 4) rfl)
theorem dX3_isRowSound_35 : decode cX3_isRowSound 35 = Except.ok (Instr.iconst 1, 1) := vyd_4 (vyb_cX3_isRowSound_3 (i := 5) rfl)
theorem dX3_isRowSound_36 : decode cX3_isRowSound 36 = Except.ok (Instr.aload_n 0, 1) := vyd_42 (vyb_cX3_isRowSound_3 (i := 6) rfl)
theorem dX3_isRowSound_37 : decode cX3_isRowSound 37 = Except.ok (Instr.invokevirtual 65, 3) := vyd_182 (vyb_cX3_isRowSound_3 (i := 7) rfl) (vyb_cX3_isRowSound_3 (i := 8) rfl) (vyb_cX3_isRowSound_3 (i := 9) rfl) rfl
theorem dX3_isRowSound_40 : decode cX3_isRowSound 40 = Except.ok (Instr.iconst 1, 1) := vyd_4 (vyb_cX3_isRowSound_4 (i := 0) rfl)
theorem dX3_isRowSound_41 : decode cX3_isRowSound 41 = Except.ok (Instr.isub, 1) := vyd_100 (vyb_cX3_isRowSound_4 (i := 1) rfl)
theorem dX3_isRowSound_42 : decode cX3_isRowSound 42 = Except.ok (Instr.iload_n 1, 1) := vyd_27 (vyb_cX3_isRowSound_4 (i := 2) rfl)
theorem dX3_isRowSound_43 : decode cX3_isRowSound 43 = Except.ok (Instr.isub, 1) := vyd_100 (vyb_cX3_isRowSound_4 (i := 3) rfl)
theorem dX3_isRowSound_44 : decode cX3_isRowSound 44 = Except.ok (Instr.invokevirtual 281, 3) := vyd_182 (vyb_cX3_isRowSound_4 (i := 4) rfl) (vyb_cX3_isRowSound_4 (i := 5) rfl) (vyb_cX3_isRowSound_4 (i := 6) rfl) rfl
theorem dX3_isRowSound_47 : decode cX3_isRowSound 47 = Except.ok (Instr.if_icmp .eq 5, 3) := vyd_159 (vyb_cX3_isRowSound_4 (i := 7) rfl) (vyb_cX3_isRowSound_4 (i := 8) rfl) (vyb_cX3_isRowSound_4 (i := 9) rfl) (by decide +kernel)
theorem dX3_isRowSound_50 : decode cX3_isRowSound 50 = Except.ok (Instr.iconst 0, 1) := vyd_3 (vyb_cX3_isRowSound_5 (i := 0) rfl)
theorem dX3_isRowSound_51 : decode cX3_isRowSound 51 = Except.ok (Instr.ireturn, 1) := vyd_172 (vyb_cX3_isRowSound_5 (i := 1) rfl)
theorem dX3_isRowSound_52 : decode cX3_isRowSound 52 = .ok (.iinc 1 1, 3) := by decide +kernel
theorem dX3_isRowSound_55 : decode cX3_isRowSound 55 = Except.ok (Instr.goto (-35), 3) := vyd_167 (vyb_cX3_isRowSound_5 (i := 5) rfl) (vyb_cX3_isRowSound_5 (i := 6) rfl) (vyb_cX3_isRowSound_5 (i := 7) rfl) (by decide +kernel)
theorem dX3_isRowSound_58 : decode cX3_isRowSound 58 = Except.ok (Instr.iconst 1, 1) := vyd_4 (vyb_cX3_isRowSound_5 (i := 8) rfl)
theorem dX3_isRowSound_59 : decode cX3_isRowSound 59 = Except.ok (Instr.ireturn, 1) := vyd_172 (vyb_cX3_isRowSound_5 (i := 9) rfl)
theorem vyb_cX3_isLineFound_0 {i : Nat} {b : UInt8} (h : ([0x03, 0x3c, 0x1b, 0x2a, 0xb4, 0x00, 0x12, 0xb6, 0x00, 0x41] : List UInt8)[i]? = some b) : vy_8 cX3_isLineFound (0 + i) b := vy_in (n := 10) (by decide +kernel) h
theorem vyb_cX3_isLineFound_1 {i : Nat} {b : UInt8} (h : ([0xa2, 0x00, 0x31, 0x2a, 0xb4, 0x00, 0x12, 0x1b, 0xb6, 0x00] : List UInt8)[i]? = some b) : vy_8 cX3_isLineFound (10 + i) b := vy_in (n := 10) (by decide +kernel) h
theorem vyb_cX3_isLineFound_2 {i : Nat} {b : UInt8} (h : ([0x90, 0xb8, 0x00, 0x93, 0x3d, 0x2a, 0xb4, 0x00, 0x12, 0x1c] : List UInt8)[i]? = some b) : vy_8 cX3_isLineFound (20 + i) b := vy_in (n := 10) (by decide +kernel) h
theorem vyb_cX3_isLineFound_3 {i : Nat} {b : UInt8} (h : ([0x03, 0xb6, 0x00, 0x8a, 0x1b, 0xa3, 0x00, 0x10, 0x2a, 0xb4] : List UInt8)[i]? = some b) : vy_8 cX3_isLineFound (30 + i) b := vy_in (n := 10) (by decide +kernel) h
theorem vyb_cX3_isLineFound_4 {i : Nat} {b : UInt8} (h : ([0x00, 0x12, 0x1c, 0x04, 0xb6, 0x00, 0x8a, 0x1b, 0xa2, 0x00] : List UInt8)[i]? = some b) : vy_8 cX3_isLineFound (40 + i) b := vy_in (n := 10) (by decide +kernel) h
theorem vyb_cX3_isLineFound_5 {i : Nat} {b : UInt8} (h : ([0x05, 0x03, 0xac, 0x84, 0x01, 0x01, 0xa7, 0xff, 0xca, 0x04] : List UInt8)[i]? = some b) : vy_8 cX3_isLineFound (50 + i) b := vy_in (n := 10) (by decide +kernel) h
theorem vyb_cX3_isLineFound_6 {i : Nat} {b : UInt8} (h : ([0xac] : List UInt8)[i]? = some b) : vy_8 cX3_isLineFound (60 + i) b := vy_in (n := 1) (by decide +kernel) h
theorem dX3_isLineFound_0 : decode cX3_isLineFound 0 = Except.ok (Instr.iconst 0, 1) := vyd_3 (vyb_cX3_isLineFound_0 (i := 0) rfl)
theorem dX3_isLineFound_1 : decode cX3_isLineFound 1 = Except.ok (Instr.istore_n 1, 1) := vyd_60 (vyb_cX3_isLineFound_0 (i := 1) rfl)
theorem dX3_isLineFound_2 : decode cX3_isLineFound 2 = Except.ok (Instr.iload_n 1, 1) := vyd_27 (vyb_cX3_isLineFound_0 (i := 2) rfl)
theorem dX3_isLineFound_3 : decode cX3_isLineFound 3 = Except.ok (Instr.aload_n 0, 1) := vyd_42 (vyb_cX3_isLineFound_0 (i := 3) rfl)
theorem dX3_isLineFound_4 : decode cX3_isLineFound 4 = Except.ok (Instr.getfield 18, 3) := vyd_180 (vyb_cX3_isLineFound_0 (i := 4) rfl) (vyb_cX3_isLineFound_0 (i := 5) rfl) (vyb_cX3_isLineFound_0 (i := 6) rfl) rfl
theorem dX3_isLineFound_7 : decode cX3_isLineFound 7 = Except.ok (Instr.invokevirtual 65, 3) := vyd_182 (vyb_cX3_isLineFound_0 (i := 7) rfl) (vyb_cX3_isLineFound_0 (i := 8) rfl) (vyb_cX3_isLineFound_0 (i := 9) rfl) rfl
theorem dX3_isLineFound_10 : decode cX3_isLineFound 10 = Except.ok (Instr.if_icmp .ge 49, 3) := vyd_162 (vyb_cX3_isLineFound_1 (i := 0) rfl) (vyb_cX3_isLineFound_1 (i := 1) rfl) (vyb_cX3_isLineFound_1 (i := 2) rfl) (by decide +kernel)
theorem dX3_isLineFound_13 : decode cX3_isLineFound 13 = Except.ok (Instr.aload_n 0, 1) := vyd_42 (vyb_cX3_isLineFound_1 (i := 3) rfl)
theorem dX3_isLineFound_14 : decode cX3_isLineFound 14 = Except.ok (Instr.getfield 18, 3) := vyd_180 (vyb_cX3_isLineFound_1 (i := 4) rfl) (vyb_cX3_isLineFound_1 (i := 5) rfl) (vyb_cX3_isLineFound_1 (i := 6) rfl) rfl
theorem dX3_isLineFound_17 : decode cX3_isLineFound 17 = Except.ok (Instr.iload_n 1, 1) := vyd_27 (vyb_cX3_isLineFound_1 (i := 7) rfl)
theorem dX3_isLineFound_18 : decode cX3_isLineFound 18 = Except.ok (Instr.invokevirtual 144, 3) := vyd_182 (vyb_cX3_isLineFound_1 (i := 8) rfl) (vyb_cX3_isLineFound_1 (i := 9) rfl) (vyb_cX3_isLineFound_2 (i := 0) rfl) rfl
theorem dX3_isLineFound_21 : decode cX3_isLineFound 21 = Except.ok (Instr.invokestatic 147, 3) := vyd_184 (vyb_cX3_isLineFound_2 (i := 1) rfl) (vyb_cX3_isLineFound_2 (i := 2) rfl) (vyb_cX3_isLineFound_2 (i := 3) rfl) rfl
theorem dX3_isLineFound_24 : decode cX3_isLineFound 24 = Except.ok (Instr.istore_n 2, 1) := vyd_61 (vyb_cX3_isLineFound_2 (i := 4) rfl)
theorem dX3_isLineFound_25 : decode cX3_isLineFound 25 = Except.ok (Instr.aload_n 0, 1) := vyd_42 (vyb_cX3_isLineFound_2 (i := 5) rfl)
theorem dX3_isLineFound_26 : decode cX3_isLineFound 26 = Except.ok (Instr.getfield 18, 3) := vyd_180 (vyb_cX3_isLineFound_2 (i := 6) rfl) (vyb_cX3_isLineFound_2 (i := 7) rfl) (vyb_cX3_isLineFound_2 (i := 8) rfl) rfl
theorem dX3_isLineFound_29 : decode cX3_isLineFound 29 = Except.ok (Instr.iload_n 2, 1) := vyd_28 (vyb_cX3_isLineFound_2 (i := 9) rfl)
theorem dX3_isLineFound_30 : decode cX3_isLineFound 30 = Except.ok (Instr.iconst 0, 1) := vyd_3 (vyb_cX3_isLineFound_3 (i := 0) rfl)
theorem dX3_isLineFound_31 : decode cX3_isLineFound 31 = Except.ok (Instr.invokevirtual 138, 3) := vyd_182 (vyb_cX3_isLineFound_3 (i := 1) rfl) (vyb_cX3_isLineFound_3 (i := 2) rfl) (vyb_cX3_isLineFound_3 (i := 3) rfl) rfl
theorem dX3_isLineFound_34 : decode cX3_isLineFound 34 = Except.ok (Instr.iload_n 1, 1) := vyd_27 (vyb_cX3_isLineFound_3 (i := 4) rfl)
theorem dX3_isLineFound_35 : decode cX3_isLineFound 35 = Except.ok (Instr.if_icmp .gt 16, 3) := vyd_163 (vyb_cX3_isLineFound_3 (i := 5) rfl) (vyb_cX3_isLineFound_3 (i := 6) rfl) (vyb_cX3_isLineFound_3 (i := 7) rfl) (by decide +kernel)
theorem dX3_isLineFound_38 : decode cX3_isLineFound 38 = Except.ok (Instr.aload_n 0, 1) := vyd_42 (vyb_cX3_isLineFound_3 (i := 8) rfl)
theorem dX3_isLineFound_39 : decode cX3_isLineFound 39 = Except.ok (Instr.getfield 18, 3) := vyd_180 (vyb_cX3_isLineFound_3 (i := 9) rfl) (vyb_cX3_isLineFound_4 (i := 0) rfl) (vyb_cX3_isLineFound_4 (i := 1) rfl) rfl
theorem dX3_isLineFound_42 : decode cX3_isLineFound 42 = Except.ok (Instr.iload_n 2, 1) := vyd_28 (vyb_cX3_isLineFound_4 (i := 2) rfl)
theorem dX3_isLineFound_43 : decode cX3_isLineFound 43 = Except.ok (Instr.iconst 1, 1) := vyd_4 (vyb_cX3_isLineFound_4 (i := 3) rfl)
theorem dX3_isLineFound_44 : decode cX3_isLineFound 44 = Except.ok (Instr.invokevirtual 138, 3) := vyd_182 (vyb_cX3_isLineFound_4 (i := 4) rfl) (vyb_cX3_isLineFound_4 (i := 5) rfl) (vyb_cX3_isLineFound_4 (i := 6) rfl) rfl
theorem dX3_isLineFound_47 : decode cX3_isLineFound 47 = Except.ok (Instr.iload_n 1, 1) := vyd_27 (vyb_cX3_isLineFound_4 (i := 7) rfl)
theorem dX3_isLineFound_48 : decode cX3_isLineFound 48 = Except.ok (Instr.if_icmp .ge 5, 3) := vyd_162 (vyb_cX3_isLineFound_4 (i := 8) rfl) (vyb_cX3_isLineFound_4 (i := 9) rfl) (vyb_cX3_isLineFound_5 (i := 0) rfl) (by decide +kernel)
theorem dX3_isLineFound_51 : decode cX3_isLineFound 51 = Except.ok (Instr.iconst 0, 1) := vyd_3 (vyb_cX3_isLineFound_5 (i := 1) rfl)
theorem dX3_isLineFound_52 : decode cX3_isLineFound 52 = Except.ok (Instr.ireturn, 1) := vyd_172 (vyb_cX3_isLineFound_5 (i := 2) rfl)
theorem dX3_isLineFound_53 : decode cX3_isLineFound 53 = .ok (.iinc 1 1, 3) := by decide +kernel
theorem dX3_isLineFound_56 : decode cX3_isLineFound 56 = Except.ok (Instr.goto (-54), 3) := vyd_167 (vyb_cX3_isLineFound_5 (i := 6) rfl) (vyb_cX3_isLineFound_5 (i := 7) rfl) (vyb_cX3_isLineFound_5 (i := 8) rfl) (by decide +kernel)
theorem dX3_isLineFound_59 : decode cX3_isLineFound 59 = Except.ok (Instr.iconst 1, 1) := vyd_4 (vyb_cX3_isLineFound_5 (i := 9) rfl)
theorem dX3_isLineFound_60 : decode cX3_isLineFound 60 = Except.ok (Instr.ireturn, 1) := vyd_172 (vyb_cX3_isLineFound_6 (i := 0) rfl)
theorem vyb_cX3_isWalkerSound_0 {i : Nat} {b : UInt8} (h : ([0x2b, 0xb6, 0x00, 0xd5, 0x99, 0x00, 0x18, 0x2b, 0xb4, 0x00] : List UInt8)[i]? = some b) : vy_8 cX3_isWalkerSound (0 + i) b := vy_in (n := 10) (by decide +kernel) h
theorem vyb_cX3_isWalkerSound_1 {i : Nat} {b : UInt8} (h : ([0xd8, 0x9b, 0x00, 0x15, 0x2b, 0xb4, 0x00, 0xd8, 0x2a, 0xb4] : List UInt8)[i]? = some b) : vy_8 cX3_isWalkerSound (10 + i) b := vy_in (n := 10) (by decide +kernel) h
theorem vyb_cX3_isWalkerSound_2 {i : Nat} {b : UInt8} (h : ([0x00, 0x12, 0xb6, 0x00, 0x41, 0xa3, 0x00, 0x07, 0x04, 0xa7] : List UInt8)[i]? = some b) : vy_8 cX3_isWalkerSound (20 + i) b := vy_in (n := 10) (by decide +kernel) h
theorem vyb_cX3_isWalkerSound_3 {i : Nat} {b : UInt8} (h : ([0x00, 0x04, 0x03, 0xac] : List UInt8)[i]? = some b) : vy_8 cX3_isWalkerSound (30 + i) b := vy_in (n := 4) (by decide +kernel) h
theorem dX3_isWalkerSound_0 : decode cX3_isWalkerSound 0 = Except.ok (Instr.aload_n 1, 1) := vyd_43 (vyb_cX3_isWalkerSound_0 (i := 0) rfl)
theorem dX3_isWalkerSound_1 : decode cX3_isWalkerSound 1 = Except.ok (Instr.invokevirtual 213, 3) := vyd_182 (vyb_cX3_isWalkerSound_0 (i := 1) rfl) (vyb_cX3_isWalkerSound_0 (i := 2) rfl) (vyb_cX3_isWalkerSound_0 (i := 3) rfl) rfl
theorem dX3_isWalkerSound_4 : decode cX3_isWalkerSound 4 = Except.ok (Instr.ifCond .eq 24, 3) := vyd_153 (vyb_cX3_isWalkerSound_0 (i := 4) rfl) (vyb_cX3_isWalkerSound_0 (i := 5) rfl) (vyb_cX3_isWalkerSound_0 (i := 6) rfl) (by decide +kernel)
theorem dX3_isWalkerSound_7 : decode cX3_isWalkerSound 7 = Except.ok (Instr.aload_n 1, 1) := vyd_43 (vyb_cX3_isWalkerSound_0 (i := 7) rfl)
theorem dX3_isWalkerSound_8 : decode cX3_isWalkerSound 8 = Except.ok (Instr.getfield 216, 3) := vyd_180 (vyb_cX3_isWalkerSound_0 (i := 8) rfl) (vyb_cX3_isWalkerSound_0 (i := 9) rfl) (vyb_cX3_isWalkerSound_1 (i := 0) rfl) rfl
theorem dX3_isWalkerSound_11 : decode cX3_isWalkerSound 11 = Except.ok (Instr.ifCond .lt 21, 3) := vyd_155 (vyb_cX3_isWalkerSound_1 (i := 1) rfl) (vyb_cX3_isWalkerSound_1 (i := 2) rfl) (vyb_cX3_isWalkerSound_1 (i := 3) rfl) (by decide +kernel)
theorem dX3_isWalkerSound_14 : decode cX3_isWalkerSound 14 = Except.ok (Instr.aload_n 1, 1) := vyd_43 (vyb_cX3_isWalkerSound_1 (i := 4) rfl)
theorem dX3_isWalkerSound_15 : decode cX3_isWalkerSound 15 = Except.ok (Instr.getfield 216, 3) := vyd_180 (vyb_cX3_isWalkerSound_1 (i := 5) rfl) (vyb_cX3_isWalkerSound_1 (i := 6) rfl) (vyb_cX3_isWalkerSound_1 (i := 7) rfl) rfl
theorem dX3_isWalkerSound_18 : decode cX3_isWalkerSound 18 = Except.ok (Instr.aload_n 0, 1) := vyd_42 (vyb_cX3_isWalkerSound_1 (i := 8) rfl)
theorem dX3_isWalkerSound_19 : decode cX3_isWalkerSound 19 = Except.ok (Instr.getfield 18, 3) := vyd_180 (vyb_cX3_isWalkerSound_1 (i := 9) rfl) (vyb_cX3_isWalkerSound_2 (i := 0) rfl) (vyb_cX3_isWalkerSound_2 (i := 1) rfl) rfl
theorem dX3_isWalkerSound_22 : decode cX3_isWalkerSound 22 = Except.ok (Instr.invokevirtual 65, 3) := vyd_182 (vyb_cX3_isWalkerSound_2 (i := 2) rfl) (vyb_cX3_isWalkerSound_2 (i := 3) rfl) (vyb_cX3_isWalkerSound_2 (i := 4) rfl) rfl
theorem dX3_isWalkerSound_25 : decode cX3_isWalkerSound 25 = Except.ok (Instr.if_icmp .gt 7, 3) := vyd_163 (vyb_cX3_isWalkerSound_2 (i := 5) rfl) (vyb_cX3_isWalkerSound_2 (i := 6) rfl) (vyb_cX3_isWalkerSound_2 (i := 7) rfl) (by decide +kernel)
theorem dX3_isWalkerSound_28 : decode cX3_isWalkerSound 28 = Except.ok (Instr.iconst 1, 1) := vyd_4 (vyb_cX3_isWalkerSound_2 (i := 8) rfl)
theorem dX3_isWalkerSound_29 : decode cX3_isWalkerSound 29 = Except.ok (Instr.goto 4, 3) := vyd_167 (vyb_cX3_isWalkerSound_2 (i := 9) rfl) (vyb_cX3_isWalkerSound_3 (i := 0) rfl) (vyb_cX3_isWalkerSound_3 (i := 1) rfl) (by decide +kernel)
theorem dX3_isWalkerSound_32 : decode cX3_isWalkerSound 32 = Except.ok (Instr.iconst 0, 1) := vyd_3 (vyb_cX3_isWalkerSound_3 (i := 2) rfl)
theorem dX3_isWalkerSound_33 : decode cX3_isWalkerSound 33 = Except.ok (Instr.ireturn, 1) := vyd_172 (vyb_cX3_isWalkerSound_3 (i := 3) rfl)
theorem vyb_cX3_isUndoneOnPaper_0 {i : Nat} {b : UInt8} (h : ([0x2a, 0xb4, 0x00, 0x30, 0x2a, 0xb4, 0x00, 0x0e, 0xb6, 0x01] : List UInt8)[i]? = some b) : vy_8 cX3_isUndoneOnPaper (0 + i) b := vy_in (n := 10) (by decide +kernel) h
theorem vyb_cX3_isUndoneOnPaper_1 {i : Nat} {b : UInt8} (h : ([0x92, 0x2a, 0xb4, 0x00, 0x33, 0x2a, 0xb4, 0x00, 0x12, 0xb6] : List UInt8)[i]? = some b) : vy_8 cX3_isUndoneOnPaper (10 + i) b := vy_in (n := 10) (by decide +kernel) h
theorem vyb_cX3_isUndoneOnPaper_2 {i : Nat} {b : UInt8} (h : ([0x01, 0x92, 0x2a, 0xb4, 0x00, 0x15, 0xb6, 0x00, 0x41, 0x04] : List UInt8)[i]? = some b) : vy_8 cX3_isUndoneOnPaper (20 + i) b := vy_in (n := 10) (by decide +kernel) h
theorem vyb_cX3_isUndoneOnPaper_3 {i : Nat} {b : UInt8} (h : ([0x64, 0x3c, 0x1b, 0x9b, 0x00, 0x2f, 0x2a, 0xb4, 0x00, 0x15] : List UInt8)[i]? = some b) : vy_8 cX3_isUndoneOnPaper (30 + i) b := vy_in (n := 10) (by decide +kernel) h
theorem vyb_cX3_isUndoneOnPaper_4 {i : Nat} {b : UInt8} (h : ([0x1b, 0xb6, 0x00, 0x90, 0x3d, 0x1c, 0xb8, 0x00, 0x74, 0x9a] : List UInt8)[i]? = some b) : vy_8 cX3_isUndoneOnPaper (40 + i) b := vy_in (n := 10) (by decide +kernel) h
theorem vyb_cX3_isUndoneOnPaper_5 {i : Nat} {b : UInt8} (h : ([0x00, 0x0a, 0x2a, 0xb4, 0x00, 0x30, 0xa7, 0x00, 0x07, 0x2a] : List UInt8)[i]? = some b) : vy_8 cX3_isUndoneOnPaper (50 + i) b := vy_in (n := 10) (by decide +kernel) h
theorem vyb_cX3_isUndoneOnPaper_6 {i : Nat} {b : UInt8} (h : ([0xb4, 0x00, 0x33, 0x4e, 0x2d, 0x1c, 0xb8, 0x01, 0x96, 0x9a] : List UInt8)[i]? = some b) : vy_8 cX3_isUndoneOnPaper (60 + i) b := vy_in (n := 10) (by decide +kernel) h
theorem vyb_cX3_isUndoneOnPaper_7 {i : Nat} {b : UInt8} (h : ([0x00, 0x05, 0x03, 0xac, 0x84, 0x01, 0xff, 0xa7, 0xff, 0xd3] : List UInt8)[i]? = some b) : vy_8 cX3_isUndoneOnPaper (70 + i) b := vy_in (n := 10) (by decide +kernel) h
theorem vyb_cX3_isUndoneOnPaper_8 {i : Nat} {b : UInt8} (h : ([0x04, 0xac] : List UInt8)[i]? = some b) : vy_8 cX3_isUndoneOnPaper (80 + i) b := vy_in (n := 2) (by decide +kernel) h
theorem dX3_isUndoneOnPaper_0 : decode cX3_isUndoneOnPaper 0 = Except.ok (Instr.aload_n 0, 1) := vyd_42 (vyb_cX3_isUndoneOnPaper_0 (i := 0) rfl)
theorem dX3_isUndoneOnPaper_1 : decode cX3_isUndoneOnPaper 1 = Except.ok (Instr.getfield 48, 3) := vyd_180 (vyb_cX3_isUndoneOnPaper_0 (i := 1) rfl) (vyb_cX3_isUndoneOnPaper_0 (i := 2) rfl) (vyb_cX3_isUndoneOnPaper_0 (i := 3) rfl) rfl
theorem dX3_isUndoneOnPaper_4 : decode cX3_isUndoneOnPaper 4 = Except.ok (Instr.aload_n 0, 1) := vyd_42 (vyb_cX3_isUndoneOnPaper_0 (i := 4) rfl)
theorem dX3_isUndoneOnPaper_5 : decode cX3_isUndoneOnPaper 5 = Except.ok (Instr.getfield 14, 3) := vyd_180 (vyb_cX3_isUndoneOnPaper_0 (i := 5) rfl) (vyb_cX3_isUndoneOnPaper_0 (i := 6) rfl) (vyb_cX3_isUndoneOnPaper_0 (i := 7) rfl) rfl
theorem dX3_isUndoneOnPaper_8 : decode cX3_isUndoneOnPaper 8 = Except.ok (Instr.invokevirtual 402, 3) := vyd_182 (vyb_cX3_isUndoneOnPaper_0 (i := 8) rfl) (vyb_cX3_isUndoneOnPaper_0 (i := 9) rfl) (vyb_cX3_isUndoneOnPaper_1 (i := 0) rfl) rfl
theorem dX3_isUndoneOnPaper_11 : decode cX3_isUndoneOnPaper 11 = Except.ok (Instr.aload_n 0, 1) := vyd_42 (vyb_cX3_isUndoneOnPaper_1 (i := 1) rfl)
theorem dX3_isUndoneOnPaper_12 : decode cX3_isUndoneOnPaper 12 = Except.ok (Instr.getfield 51, 3) := vyd_180 (vyb_cX3_isUndoneOnPaper_1 (i := 2) rfl) (vyb_cX3_isUndoneOnPaper_1 (i := 3) rfl) (vyb_cX3_isUndoneOnPaper_1 (i := 4) rfl) rfl
theorem dX3_isUndoneOnPaper_15 : decode cX3_isUndoneOnPaper 15 = Except.ok (Instr.aload_n 0, 1) := vyd_42 (vyb_cX3_isUndoneOnPaper_1 (i := 5) rfl)
theorem dX3_isUndoneOnPaper_16 : decode cX3_isUndoneOnPaper 16 = Except.ok (Instr.getfield 18, 3) := vyd_180 (vyb_cX3_isUndoneOnPaper_1 (i := 6) rfl) (vyb_cX3_isUndoneOnPaper_1 (i := 7) rfl) (vyb_cX3_isUndoneOnPaper_1 (i := 8) rfl) rfl
theorem dX3_isUndoneOnPaper_19 : decode cX3_isUndoneOnPaper 19 = Except.ok (Instr.invokevirtual 402, 3) := vyd_182 (vyb_cX3_isUndoneOnPaper_1 (i := 9) rfl) (vyb_cX3_isUndoneOnPaper_2 (i := 0) rfl) (vyb_cX3_isUndoneOnPaper_2 (i := 1) rfl) rfl
theorem dX3_isUndoneOnPaper_22 : decode cX3_isUndoneOnPaper 22 = Except.ok (Instr.aload_n 0, 1) := vyd_42 (vyb_cX3_isUndoneOnPaper_2 (i := 2) rfl)
theorem dX3_isUndoneOnPaper_23 : decode cX3_isUndoneOnPaper 23 = Except.ok (Instr.getfield 21, 3) := vyd_180 (vyb_cX3_isUndoneOnPaper_2 (i := 3) rfl) (vyb_cX3_isUndoneOnPaper_2 (i := 4) rfl) (vyb_cX3_isUndoneOnPaper_2 (i := 5) rfl) rfl
theorem dX3_isUndoneOnPaper_26 : decode cX3_isUndoneOnPaper 26 = Except.ok (Instr.invokevirtual 65, 3) := vyd_182 (vyb_cX3_isUndoneOnPaper_2 (i := 6) rfl) (vyb_cX3_isUndoneOnPaper_2 (i := 7) rfl) (vyb_cX3_isUndoneOnPaper_2 (i := 8) rfl) rfl
theorem dX3_isUndoneOnPaper_29 : decode cX3_isUndoneOnPaper 29 = Except.ok (Instr.iconst 1, 1) := vyd_4 (vyb_cX3_isUndoneOnPaper_2 (i := 9) rfl)
theorem dX3_isUndoneOnPaper_30 : decode cX3_isUndoneOnPaper 30 = Except.ok (Instr.isub, 1) := vyd_100 (vyb_cX3_isUndoneOnPaper_3 (i := 0) rfl)
theorem dX3_isUndoneOnPaper_31 : decode cX3_isUndoneOnPaper 31 = Except.ok (Instr.istore_n 1, 1) := vyd_60 (vyb_cX3_isUndoneOnPaper_3 (i := 1) rfl)
theorem dX3_isUndoneOnPaper_32 : decode cX3_isUndoneOnPaper 32 = Except.ok (Instr.iload_n 1, 1) := vyd_27 (vyb_cX3_isUndoneOnPaper_3 (i := 2) rfl)
theorem dX3_isUndoneOnPaper_33 : decode cX3_isUndoneOnPaper 33 = Except.ok (Instr.ifCond .lt 47, 3) := vyd_155 (vyb_cX3_isUndoneOnPaper_3 (i := 3) rfl) (vyb_cX3_isUndoneOnPaper_3 (i := 4) rfl) (vyb_cX3_isUndoneOnPaper_3 (i := 5) rfl) (by decide +kernel)
theorem dX3_isUndoneOnPaper_36 : decode cX3_isUndoneOnPaper 36 = Except.ok (Instr.aload_n 0, 1) := vyd_42 (vyb_cX3_isUndoneOnPaper_3 (i := 6) rfl)
theorem dX3_isUndoneOnPaper_37 : decode cX3_isUndoneOnPaper 37 = Except.ok (Instr.getfield 21, 3) := vyd_180 (vyb_cX3_isUndoneOnPaper_3 (i := 7) rfl) (vyb_cX3_isUndoneOnPaper_3 (i := 8) rfl) (vyb_cX3_isUndoneOnPaper_3 (i := 9) rfl) rfl
theorem dX3_isUndoneOnPaper_40 : decode cX3_isUndoneOnPaper 40 = Except.ok (Instr.iload_n 1, 1) := vyd_27 (vyb_cX3_isUndoneOnPaper_4 (i := 0) rfl)
theorem dX3_isUndoneOnPaper_41 : decode cX3_isUndoneOnPaper 41 = Except.ok (Instr.invokevirtual 144, 3) := vyd_182 (vyb_cX3_isUndoneOnPaper_4 (i := 1) rfl) (vyb_cX3_isUndoneOnPaper_4 (i := 2) rfl) (vyb_cX3_isUndoneOnPaper_4 (i := 3) rfl) rfl
theorem dX3_isUndoneOnPaper_44 : decode cX3_isUndoneOnPaper 44 = Except.ok (Instr.istore_n 2, 1) := vyd_61 (vyb_cX3_isUndoneOnPaper_4 (i := 4) rfl)
theorem dX3_isUndoneOnPaper_45 : decode cX3_isUndoneOnPaper 45 = Except.ok (Instr.iload_n 2, 1) := vyd_28 (vyb_cX3_isUndoneOnPaper_4 (i := 5) rfl)
theorem dX3_isUndoneOnPaper_46 : decode cX3_isUndoneOnPaper 46 = Except.ok (Instr.invokestatic 116, 3) := vyd_184 (vyb_cX3_isUndoneOnPaper_4 (i := 6) rfl) (vyb_cX3_isUndoneOnPaper_4 (i := 7) rfl) (vyb_cX3_isUndoneOnPaper_4 (i := 8) rfl) rfl
theorem dX3_isUndoneOnPaper_49 : decode cX3_isUndoneOnPaper 49 = Except.ok (Instr.ifCond .ne 10, 3) := vyd_154 (vyb_cX3_isUndoneOnPaper_4 (i := 9) rfl) (vyb_cX3_isUndoneOnPaper_5 (i := 0) rfl) (vyb_cX3_isUndoneOnPaper_5 (i := 1) rfl) (by decide +kernel)
theorem dX3_isUndoneOnPaper_52 : decode cX3_isUndoneOnPaper 52 = Except.ok (Instr.aload_n 0, 1) := vyd_42 (vyb_cX3_isUndoneOnPaper_5 (i := 2) rfl)
theorem dX3_isUndoneOnPaper_53 : decode cX3_isUndoneOnPaper 53 = Except.ok (Instr.getfield 48, 3) := vyd_180 (vyb_cX3_isUndoneOnPaper_5 (i := 3) rfl) (vyb_cX3_isUndoneOnPaper_5 (i := 4) rfl) (vyb_cX3_isUndoneOnPaper_5 (i := 5) rfl) rfl
theorem dX3_isUndoneOnPaper_56 : decode cX3_isUndoneOnPaper 56 = Except.ok (Instr.goto 7, 3) := vyd_167 (vyb_cX3_isUndoneOnPaper_5 (i := 6) rfl) (vyb_cX3_isUndoneOnPaper_5 (i := 7) rfl) (vyb_cX3_isUndoneOnPaper_5 (i := 8) rfl) (by decide +kernel)
theorem dX3_isUndoneOnPaper_59 : decode cX3_isUndoneOnPaper 59 = Except.ok (Instr.aload_n 0, 1) := vyd_42 (vyb_cX3_isUndoneOnPaper_5 (i := 9) rfl)
theorem dX3_isUndoneOnPaper_60 : decode cX3_isUndoneOnPaper 60 = Except.ok (Instr.getfield 51, 3) := vyd_180 (vyb_cX3_isUndoneOnPaper_6 (i := 0) rfl) (vyb_cX3_isUndoneOnPaper_6 (i := 1) rfl) (vyb_cX3_isUndoneOnPaper_6 (i := 2) rfl) rfl
theorem dX3_isUndoneOnPaper_63 : decode cX3_isUndoneOnPaper 63 = Except.ok (Instr.astore_n 3, 1) := vyd_78 (vyb_cX3_isUndoneOnPaper_6 (i := 3) rfl)
theorem dX3_isUndoneOnPaper_64 : decode cX3_isUndoneOnPaper 64 = Except.ok (Instr.aload_n 3, 1) := vyd_45 (vyb_cX3_isUndoneOnPaper_6 (i := 4) rfl)
theorem dX3_isUndoneOnPaper_65 : decode cX3_isUndoneOnPaper 65 = Except.ok (Instr.iload_n 2, 1) := vyd_28 (vyb_cX3_isUndoneOnPaper_6 (i := 5) rfl)
theorem dX3_isUndoneOnPaper_66 : decode cX3_isUndoneOnPaper 66 = Except.ok (Instr.invokestatic 406, 3) := vyd_184 (vyb_cX3_isUndoneOnPaper_6 (i := 6) rfl) (vyb_cX3_isUndoneOnPaper_6 (i := 7) rfl) (vyb_cX3_isUndoneOnPaper_6 (i := 8) rfl) rfl
theorem dX3_isUndoneOnPaper_69 : decode cX3_isUndoneOnPaper 69 = Except.ok (Instr.ifCond .ne 5, 3) := vyd_154 (vyb_cX3_isUndoneOnPaper_6 (i := 9) rfl) (vyb_cX3_isUndoneOnPaper_7 (i := 0) rfl) (vyb_cX3_isUndoneOnPaper_7 (i := 1) rfl) (by decide +kernel)
theorem dX3_isUndoneOnPaper_72 : decode cX3_isUndoneOnPaper 72 = Except.ok (Instr.iconst 0, 1) := vyd_3 (vyb_cX3_isUndoneOnPaper_7 (i := 2) rfl)
theorem dX3_isUndoneOnPaper_73 : decode cX3_isUndoneOnPaper 73 = Except.ok (Instr.ireturn, 1) := vyd_172 (vyb_cX3_isUndoneOnPaper_7 (i := 3) rfl)
theorem dX3_isUndoneOnPaper_74 : decode cX3_isUndoneOnPaper 74 = .ok (.iinc 1 (-1), 3) := by decide +kernel
theorem dX3_isUndoneOnPaper_77 : decode cX3_isUndoneOnPaper 77 = Except.ok (Instr.goto (-45), 3) := vyd_167 (vyb_cX3_isUndoneOnPaper_7 (i := 7) rfl) (vyb_cX3_isUndoneOnPaper_7 (i := 8) rfl) (vyb_cX3_isUndoneOnPaper_7 (i := 9) rfl) (by decide +kernel)
theorem dX3_isUndoneOnPaper_80 : decode cX3_isUndoneOnPaper 80 = Except.ok (Instr.iconst 1, 1) := vyd_4 (vyb_cX3_isUndoneOnPaper_8 (i := 0) rfl)
theorem dX3_isUndoneOnPaper_81 : decode cX3_isUndoneOnPaper 81 = Except.ok (Instr.ireturn, 1) := vyd_172 (vyb_cX3_isUndoneOnPaper_8 (i := 1) rfl)
theorem vyb_cX3_isUndoneOn_0 {i : Nat} {b : UInt8} (h : ([0x1b, 0xb8, 0x00, 0x7b, 0x3d, 0x1b, 0xb8, 0x00, 0x77, 0x99] : List UInt8)[i]? = some b) : vy_8 cX3_isUndoneOn (0 + i) b := vy_in (n := 10) (by decide +kernel) h
theorem vyb_cX3_isUndoneOn_1 {i : Nat} {b : UInt8} (h : ([0x00, 0x20, 0x2a, 0xb6, 0x00, 0x60, 0x9a, 0x00, 0x17, 0x2a] : List UInt8)[i]? = some b) : vy_8 cX3_isUndoneOn (10 + i) b := vy_in (n := 10) (by decide +kernel) h
theorem vyb_cX3_isUndoneOn_2 {i : Nat} {b : UInt8} (h : ([0x2a, 0x1c, 0xb6, 0x00, 0x6d, 0xb6, 0x00, 0x71, 0x1b, 0xb8] : List UInt8)[i]? = some b) : vy_8 cX3_isUndoneOn (20 + i) b := vy_in (n := 10) (by decide +kernel) h
theorem vyb_cX3_isUndoneOn_3 {i : Nat} {b : UInt8} (h : ([0x00, 0x7e, 0xa0, 0x00, 0x07, 0x04, 0xa7, 0x00, 0x04, 0x03] : List UInt8)[i]? = some b) : vy_8 cX3_isUndoneOn (30 + i) b := vy_in (n := 10) (by decide +kernel) h
theorem vyb_cX3_isUndoneOn_4 {i : Nat} {b : UInt8} (h : ([0xac, 0x2a, 0xb6, 0x00, 0xf8, 0x99, 0x00, 0x05, 0x03, 0xac] : List UInt8)[i]? = some b) : vy_8 cX3_isUndoneOn (40 + i) b := vy_in (n := 10) (by decide +kernel) h
theorem vyb_cX3_isUndoneOn_5 {i : Nat} {b : UInt8} (h : ([0x2a, 0x1c, 0x99, 0x00, 0x0a, 0x2a, 0xb6, 0x00, 0x41, 0xa7] : List UInt8)[i]? = some b) : vy_8 cX3_isUndoneOn (50 + i) b := vy_in (n := 10) (by decide +kernel) h
theorem vyb_cX3_isUndoneOn_6 {i : Nat} {b : UInt8} (h : ([0x00, 0x04, 0x03, 0x1b, 0xb8, 0x00, 0x7e, 0xb6, 0x00, 0x81] : List UInt8)[i]? = some b) : vy_8 cX3_isUndoneOn (60 + i) b := vy_in (n := 10) (by decide +kernel) h
theorem vyb_cX3_isUndoneOn_7 {i : Nat} {b : UInt8} (h : ([0x04, 0xac] : List UInt8)[i]? = some b) : vy_8 cX3_isUndoneOn (70 + i) b := vy_in (n := 2) (by decide +kernel) h
theorem dX3_isUndoneOn_0 : decode cX3_isUndoneOn 0 = Except.ok (Instr.iload_n 1, 1) := vyd_27 (vyb_cX3_isUndoneOn_0 (i := 0) rfl)
theorem dX3_isUndoneOn_1 : decode cX3_isUndoneOn 1 = Except.ok (Instr.invokestatic 123, 3) := vyd_184 (vyb_cX3_isUndoneOn_0 (i := 1) rfl) (vyb_cX3_isUndoneOn_0 (i := 2) rfl) (vyb_cX3_isUndoneOn_0 (i := 3) rfl) rfl
theorem dX3_isUndoneOn_4 : decode cX3_isUndoneOn 4 = Except.ok (Instr.istore_n 2, 1) := vyd_61 (vyb_cX3_isUndoneOn_0 (i := 4) rfl)
theorem dX3_isUndoneOn_5 : decode cX3_isUndoneOn 5 = Except.ok (Instr.iload_n 1, 1) := vyd_27 (vyb_cX3_isUndoneOn_0 (i := 5) rfl)
theorem dX3_isUndoneOn_6 : decode cX3_isUndoneOn 6 = Except.ok (Instr.invokestatic 119, 3) := vyd_184 (vyb_cX3_isUndoneOn_0 (i := 6) rfl) (vyb_cX3_isUndoneOn_0 (i := 7) rfl) (vyb_cX3_isUndoneOn_0 (i := 8) rfl) rfl
theorem dX3_isUndoneOn_9 : decode cX3_isUndoneOn 9 = Except.ok (Instr.ifCond .eq 32, 3) := vyd_153 (vyb_cX3_isUndoneOn_0 (i := 9) rfl) (vyb_cX3_isUndoneOn_1 (i := 0) rfl) (vyb_cX3_isUndoneOn_1 (i := 1) rfl) (by decide +kernel)
theorem dX3_isUndoneOn_12 : decode cX3_isUndoneOn 12 = Except.ok (Instr.aload_n 0, 1) := vyd_42 (vyb_cX3_isUndoneOn_1 (i := 2) rfl)
theorem dX3_isUndoneOn_13 : decode cX3_isUndoneOn 13 = Except.ok (Instr.invokevirtual 96, 3) := vyd_182 (vyb_cX3_isUndoneOn_1 (i := 3) rfl) (vyb_cX3_isUndoneOn_1 (i := 4) rfl) (vyb_cX3_isUndoneOn_1 (i := 5) rfl) rfl
theorem dX3_isUndoneOn_16 : decode cX3_isUndoneOn 16 = Except.ok (Instr.ifCond .ne 23, 3) := vyd_154 (vyb_cX3_isUndoneOn_1 (i := 6) rfl) (vyb_cX3_isUndoneOn_1 (i := 7) rfl) (vyb_cX3_isUndoneOn_1 (i := 8) rfl) (by decide +kernel)
theorem dX3_isUndoneOn_19 : decode cX3_isUndoneOn 19 = Except.ok (Instr.aload_n 0, 1) := vyd_42 (vyb_cX3_isUndoneOn_1 (i := 9) rfl)
theorem dX3_isUndoneOn_20 : decode cX3_isUndoneOn 20 = Except.ok (Instr.aload_n 0, 1) := vyd_42 (vyb_cX3_isUndoneOn_2 (i := 0) rfl)
theorem dX3_isUndoneOn_21 : decode cX3_isUndoneOn 21 = Except.ok (Instr.iload_n 2, 1) := vyd_28 (vyb_cX3_isUndoneOn_2 (i := 1) rfl)
theorem dX3_isUndoneOn_22 : decode cX3_isUndoneOn 22 = Except.ok (Instr.invokevirtual 109, 3) := vyd_182 (vyb_cX3_isUndoneOn_2 (i := 2) rfl) (vyb_cX3_isUndoneOn_2 (i := 3) rfl) (vyb_cX3_isUndoneOn_2 (i := 4) rfl) rfl
theorem dX3_isUndoneOn_25 : decode cX3_isUndoneOn 25 = Except.ok (Instr.invokevirtual 113, 3) := vyd_182 (vyb_cX3_isUndoneOn_2 (i := 5) rfl) (vyb_cX3_isUndoneOn_2 (i := 6) rfl) (vyb_cX3_isUndoneOn_2 (i := 7) rfl) rfl
theorem dX3_isUndoneOn_28 : decode cX3_isUndoneOn 28 = Except.ok (Instr.iload_n 1, 1) := vyd_27 (vyb_cX3_isUndoneOn_2 (i := 8) rfl)
theorem dX3_isUndoneOn_29 : decode cX3_isUndoneOn 29 = Except.ok (Instr.invokestatic 126, 3) := vyd_184 (vyb_cX3_isUndoneOn_2 (i := 9) rfl) (vyb_cX3_isUndoneOn_3 (i := 0) rfl) (vyb_cX3_isUndoneOn_3 (i := 1) rfl) rfl
theorem dX3_isUndoneOn_32 : decode cX3_isUndoneOn 32 = Except.ok (Instr.if_icmp .ne 7, 3) := vyd_160 (vyb_cX3_isUndoneOn_3 (i := 2) rfl) (vyb_cX3_isUndoneOn_3 (i := 3) rfl) (vyb_cX3_isUndoneOn_3 (i := 4) rfl) (by decide +kernel)
theorem dX3_isUndoneOn_35 : decode cX3_isUndoneOn 35 = Except.ok (Instr.iconst 1, 1) := vyd_4 (vyb_cX3_isUndoneOn_3 (i := 5) rfl)
theorem dX3_isUndoneOn_36 : decode cX3_isUndoneOn 36 = Except.ok (Instr.goto 4, 3) := vyd_167 (vyb_cX3_isUndoneOn_3 (i := 6) rfl) (vyb_cX3_isUndoneOn_3 (i := 7) rfl) (vyb_cX3_isUndoneOn_3 (i := 8) rfl) (by decide +kernel)
theorem dX3_isUndoneOn_39 : decode cX3_isUndoneOn 39 = Except.ok (Instr.iconst 0, 1) := vyd_3 (vyb_cX3_isUndoneOn_3 (i := 9) rfl)
theorem dX3_isUndoneOn_40 : decode cX3_isUndoneOn 40 = Except.ok (Instr.ireturn, 1) := vyd_172 (vyb_cX3_isUndoneOn_4 (i := 0) rfl)
theorem dX3_isUndoneOn_41 : decode cX3_isUndoneOn 41 = Except.ok (Instr.aload_n 0, 1) := vyd_42 (vyb_cX3_isUndoneOn_4 (i := 1) rfl)
theorem dX3_isUndoneOn_42 : decode cX3_isUndoneOn 42 = Except.ok (Instr.invokevirtual 248, 3) := vyd_182 (vyb_cX3_isUndoneOn_4 (i := 2) rfl) (vyb_cX3_isUndoneOn_4 (i := 3) rfl) (vyb_cX3_isUndoneOn_4 (i := 4) rfl) rfl
theorem dX3_isUndoneOn_45 : decode cX3_isUndoneOn 45 = Except.ok (Instr.ifCond .eq 5, 3) := vyd_153 (vyb_cX3_isUndoneOn_4 (i := 5) rfl) (vyb_cX3_isUndoneOn_4 (i := 6) rfl) (vyb_cX3_isUndoneOn_4 (i := 7) rfl) (by decide +kernel)
theorem dX3_isUndoneOn_48 : decode cX3_isUndoneOn 48 = Except.ok (Instr.iconst 0, 1) := vyd_3 (vyb_cX3_isUndoneOn_4 (i := 8) rfl)
theorem dX3_isUndoneOn_49 : decode cX3_isUndoneOn 49 = Except.ok (Instr.ireturn, 1) := vyd_172 (vyb_cX3_isUndoneOn_4 (i := 9) rfl)
theorem dX3_isUndoneOn_50 : decode cX3_isUndoneOn 50 = Except.ok (Instr.aload_n 0, 1) := vyd_42 (vyb_cX3_isUndoneOn_5 (i := 0) rfl)
theorem dX3_isUndoneOn_51 : decode cX3_isUndoneOn 51 = Except.ok (Instr.iload_n 2, 1) := vyd_28 (vyb_cX3_isUndoneOn_5 (i := 1) rfl)
theorem dX3_isUndoneOn_52 : decode cX3_isUndoneOn 52 = Except.ok (Instr.ifCond .eq 10, 3) := vyd_153 (vyb_cX3_isUndoneOn_5 (i := 2) rfl) (vyb_cX3_isUndoneOn_5 (i := 3) rfl) (vyb_cX3_isUndoneOn_5 (i := 4) rfl) (by decide +kernel)
theorem dX3_isUndoneOn_55 : decode cX3_isUndoneOn 55 = Except.ok (Instr.aload_n 0, 1) := vyd_42 (vyb_cX3_isUndoneOn_5 (i := 5) rfl)
theorem dX3_isUndoneOn_56 : decode cX3_isUndoneOn 56 = Except.ok (Instr.invokevirtual 65, 3) := vyd_182 (vyb_cX3_isUndoneOn_5 (i := 6) rfl) (vyb_cX3_isUndoneOn_5 (i := 7) rfl) (vyb_cX3_isUndoneOn_5 (i := 8) rfl) rfl
theorem dX3_isUndoneOn_59 : decode cX3_isUndoneOn 59 = Except.ok (Instr.goto 4, 3) := vyd_167 (vyb_cX3_isUndoneOn_5 (i := 9) rfl) (vyb_cX3_isUndoneOn_6 (i := 0) rfl) (vyb_cX3_isUndoneOn_6 (i := 1) rfl) (by decide +kernel)
theorem dX3_isUndoneOn_62 : decode cX3_isUndoneOn 62 = Except.ok (Instr.iconst 0, 1) := vyd_3 (vyb_cX3_isUndoneOn_6 (i := 2) rfl)
theorem dX3_isUndoneOn_63 : decode cX3_isUndoneOn 63 = Except.ok (Instr.iload_n 1, 1) := vyd_27 (vyb_cX3_isUndoneOn_6 (i := 3) rfl)
theorem dX3_isUndoneOn_64 : decode cX3_isUndoneOn 64 = Except.ok (Instr.invokestatic 126, 3) := vyd_184 (vyb_cX3_isUndoneOn_6 (i := 4) rfl) (vyb_cX3_isUndoneOn_6 (i := 5) rfl) (vyb_cX3_isUndoneOn_6 (i := 6) rfl) rfl
theorem dX3_isUndoneOn_67 : decode cX3_isUndoneOn 67 = Except.ok (Instr.invokevirtual 129, 3) := vyd_182 (vyb_cX3_isUndoneOn_6 (i := 7) rfl) (vyb_cX3_isUndoneOn_6 (i := 8) rfl) (vyb_cX3_isUndoneOn_6 (i := 9) rfl) rfl
theorem dX3_isUndoneOn_70 : decode cX3_isUndoneOn 70 = Except.ok (Instr.iconst 1, 1) := vyd_4 (vyb_cX3_isUndoneOn_7 (i := 0) rfl)
theorem dX3_isUndoneOn_71 : decode cX3_isUndoneOn 71 = Except.ok (Instr.ireturn, 1) := vyd_172 (vyb_cX3_isUndoneOn_7 (i := 1) rfl)
theorem vyb_cX3_with_0 {i : Nat} {b : UInt8} (h : ([0x1e, 0x14, 0x01, 0x99, 0x69, 0x1c, 0x85, 0x61, 0xad] : List UInt8)[i]? = some b) : vy_8 cX3_with (0 + i) b := vy_in (n := 9) (by decide +kernel) h
theorem dX3_with_0 : decode cX3_with 0 = Except.ok (Instr.lload_n 0, 1) := vyd_30 (vyb_cX3_with_0 (i := 0) rfl)
theorem dX3_with_1 : decode cX3_with 1 = Except.ok (Instr.ldc2_w 409, 3) := vyd_20 (vyb_cX3_with_0 (i := 1) rfl) (vyb_cX3_with_0 (i := 2) rfl) (vyb_cX3_with_0 (i := 3) rfl) rfl
theorem dX3_with_4 : decode cX3_with 4 = Except.ok (Instr.lmul, 1) := vyd_105 (vyb_cX3_with_0 (i := 4) rfl)
theorem dX3_with_5 : decode cX3_with 5 = Except.ok (Instr.iload_n 2, 1) := vyd_28 (vyb_cX3_with_0 (i := 5) rfl)
theorem dX3_with_6 : decode cX3_with 6 = Except.ok (Instr.i2l, 1) := vyd_133 (vyb_cX3_with_0 (i := 6) rfl)
theorem dX3_with_7 : decode cX3_with 7 = Except.ok (Instr.ladd, 1) := vyd_97 (vyb_cX3_with_0 (i := 7) rfl)
theorem dX3_with_8 : decode cX3_with 8 = Except.ok (Instr.lreturn, 1) := vyd_173 (vyb_cX3_with_0 (i := 8) rfl)
theorem vyb_cX3_withTrack_0 {i : Nat} {b : UInt8} (h : ([0x1f, 0x37, 0x04, 0x03, 0x36, 0x06, 0x15, 0x06, 0x06, 0xa3] : List UInt8)[i]? = some b) : vy_8 cX3_withTrack (0 + i) b := vy_in (n := 10) (by decide +kernel) h
theorem vyb_cX3_withTrack_1 {i : Nat} {b : UInt8} (h : ([0x00, 0x17, 0x16, 0x04, 0x2a, 0x1d, 0x15, 0x06, 0xb6, 0x01] : List UInt8)[i]? = some b) : vy_8 cX3_withTrack (10 + i) b := vy_in (n := 10) (by decide +kernel) h
theorem vyb_cX3_withTrack_2 {i : Nat} {b : UInt8} (h : ([0x09, 0xb8, 0x01, 0x41, 0x37, 0x04, 0x84, 0x06, 0x01, 0xa7] : List UInt8)[i]? = some b) : vy_8 cX3_withTrack (20 + i) b := vy_in (n := 10) (by decide +kernel) h
theorem vyb_cX3_withTrack_3 {i : Nat} {b : UInt8} (h : ([0xff, 0xe9, 0x03, 0x36, 0x06, 0x15, 0x06, 0x08, 0xa3, 0x00] : List UInt8)[i]? = some b) : vy_8 cX3_withTrack (30 + i) b := vy_in (n := 10) (by decide +kernel) h
theorem vyb_cX3_withTrack_4 {i : Nat} {b : UInt8} (h : ([0x17, 0x16, 0x04, 0x2a, 0x1d, 0x15, 0x06, 0xb6, 0x01, 0x06] : List UInt8)[i]? = some b) : vy_8 cX3_withTrack (40 + i) b := vy_in (n := 10) (by decide +kernel) h
theorem vyb_cX3_withTrack_5 {i : Nat} {b : UInt8} (h : ([0xb8, 0x01, 0x41, 0x37, 0x04, 0x84, 0x06, 0x01, 0xa7, 0xff] : List UInt8)[i]? = some b) : vy_8 cX3_withTrack (50 + i) b := vy_in (n := 10) (by decide +kernel) h
theorem vyb_cX3_withTrack_6 {i : Nat} {b : UInt8} (h : ([0xe9, 0x2a, 0x1d, 0xb6, 0x00, 0x3d, 0x3a, 0x06, 0x03, 0x36] : List UInt8)[i]? = some b) : vy_8 cX3_withTrack (60 + i) b := vy_in (n := 10) (by decide +kernel) h
theorem vyb_cX3_withTrack_7 {i : Nat} {b : UInt8} (h : ([0x07, 0x15, 0x07, 0x19, 0x06, 0xb6, 0x00, 0x41, 0xa2, 0x00] : List UInt8)[i]? = some b) : vy_8 cX3_withTrack (70 + i) b := vy_in (n := 10) (by decide +kernel) h
theorem vyb_cX3_withTrack_8 {i : Nat} {b : UInt8} (h : ([0x17, 0x16, 0x04, 0x19, 0x06, 0x15, 0x07, 0xb6, 0x00, 0x90] : List UInt8)[i]? = some b) : vy_8 cX3_withTrack (80 + i) b := vy_in (n := 10) (by decide +kernel) h
theorem vyb_cX3_withTrack_9 {i : Nat} {b : UInt8} (h : ([0xb8, 0x01, 0x41, 0x37, 0x04, 0x84, 0x07, 0x01, 0xa7, 0xff] : List UInt8)[i]? = some b) : vy_8 cX3_withTrack (90 + i) b := vy_in (n := 10) (by decide +kernel) h
theorem vyb_cX3_withTrack_10 {i : Nat} {b : UInt8} (h : ([0xe5, 0x16, 0x04, 0x19, 0x06, 0xb8, 0x01, 0x9b, 0xb8, 0x01] : List UInt8)[i]? = some b) : vy_8 cX3_withTrack (100 + i) b := vy_in (n := 10) (by decide +kernel) h
theorem vyb_cX3_withTrack_11 {i : Nat} {b : UInt8} (h : ([0x41, 0x37, 0x04, 0x16, 0x04, 0x2a, 0x1d, 0xb6, 0x01, 0x24] : List UInt8)[i]? = some b) : vy_8 cX3_withTrack (110 + i) b := vy_in (n := 10) (by decide +kernel) h
theorem vyb_cX3_withTrack_12 {i : Nat} {b : UInt8} (h : ([0xb8, 0x01, 0x41, 0xad] : List UInt8)[i]? = some b) : vy_8 cX3_withTrack (120 + i) b := vy_in (n := 4) (by decide +kernel) h
theorem dX3_withTrack_0 : decode cX3_withTrack 0 = Except.ok (Instr.lload_n 1, 1) := vyd_31 (vyb_cX3_withTrack_0 (i := 0) rfl)
theorem dX3_withTrack_1 : decode cX3_withTrack 1 = Except.ok (Instr.lstore 4, 2) := vyd_55 (vyb_cX3_withTrack_0 (i := 1) rfl) (vyb_cX3_withTrack_0 (i := 2) rfl) rfl
theorem dX3_withTrack_3 : decode cX3_withTrack 3 = Except.ok (Instr.iconst 0, 1) := vyd_3 (vyb_cX3_withTrack_0 (i := 3) rfl)
theorem dX3_withTrack_4 : decode cX3_withTrack 4 = Except.ok (Instr.istore 6, 2) := vyd_54 (vyb_cX3_withTrack_0 (i := 4) rfl) (vyb_cX3_withTrack_0 (i := 5) rfl) rfl
theorem dX3_withTrack_6 : decode cX3_withTrack 6 = Except.ok (Instr.iload 6, 2) := vyd_21 (vyb_cX3_withTrack_0 (i := 6) rfl) (vyb_cX3_withTrack_0 (i := 7) rfl) rfl
theorem dX3_withTrack_8 : decode cX3_withTrack 8 = Except.ok (Instr.iconst 3, 1) := vyd_6 (vyb_cX3_withTrack_0 (i := 8) rfl)
theorem dX3_withTrack_9 : decode cX3_withTrack 9 = Except.ok (Instr.if_icmp .gt 23, 3) := vyd_163 (vyb_cX3_withTrack_0 (i := 9) rfl) (vyb_cX3_withTrack_1 (i := 0) rfl) (vyb_cX3_withTrack_1 (i := 1) rfl) (by decide +kernel)
theorem dX3_withTrack_12 : decode cX3_withTrack 12 = Except.ok (Instr.lload 4, 2) := vyd_22 (vyb_cX3_withTrack_1 (i := 2) rfl) (vyb_cX3_withTrack_1 (i := 3) rfl) rfl
theorem dX3_withTrack_14 : decode cX3_withTrack 14 = Except.ok (Instr.aload_n 0, 1) := vyd_42 (vyb_cX3_withTrack_1 (i := 4) rfl)
theorem dX3_withTrack_15 : decode cX3_withTrack 15 = Except.ok (Instr.iload_n 3, 1) := vyd_29 (vyb_cX3_withTrack_1 (i := 5) rfl)
theorem dX3_withTrack_16 : decode cX3_withTrack 16 = Except.ok (Instr.iload 6, 2) := vyd_21 (vyb_cX3_withTrack_1 (i := 6) rfl) (vyb_cX3_withTrack_1 (i := 7) rfl) rfl
theorem dX3_withTrack_18 : decode cX3_withTrack 18 = Except.ok (Instr.invokevirtual 265, 3) := vyd_182 (vyb_cX3_withTrack_1 (i := 8) rfl) (vyb_cX3_withTrack_1 (i := 9) rfl) (vyb_cX3_withTrack_2 (i := 0) rfl) rfl
theorem dX3_withTrack_21 : decode cX3_withTrack 21 = Except.ok (Instr.invokestatic 321, 3) := vyd_184 (vyb_cX3_withTrack_2 (i := 1) rfl) (vyb_cX3_withTrack_2 (i := 2) rfl) (vyb_cX3_withTrack_2 (i := 3) rfl) rfl
theorem dX3_withTrack_24 : decode cX3_withTrack 24 = Except.ok (Instr.lstore 4, 2) := vyd_55 (vyb_cX3_withTrack_2 (i := 4) rfl) (vyb_cX3_withTrack_2 (i := 5) rfl) rfl
theorem dX3_withTrack_26 : decode cX3_withTrack 26 = .ok (.iinc 6 1, 3) := by decide +kernel
theorem dX3_withTrack_29 : decode cX3_withTrack 29 = Except.ok (Instr.goto (-23), 3) := vyd_167 (vyb_cX3_withTrack_2 (i := 9) rfl) (vyb_cX3_withTrack_3 (i := 0) rfl) (vyb_cX3_withTrack_3 (i := 1) rfl) (by decide +kernel)
theorem dX3_withTrack_32 : decode cX3_withTrack 32 = Except.ok (Instr.iconst 0, 1) := vyd_3 (vyb_cX3_withTrack_3 (i := 2) rfl)
theorem dX3_withTrack_33 : decode cX3_withTrack 33 = Except.ok (Instr.istore 6, 2) := vyd_54 (vyb_cX3_withTrack_3 (i := 3) rfl) (vyb_cX3_withTrack_3 (i := 4) rfl) rfl
theorem dX3_withTrack_35 : decode cX3_withTrack 35 = Except.ok (Instr.iload 6, 2) := vyd_21 (vyb_cX3_withTrack_3 (i := 5) rfl) (vyb_cX3_withTrack_3 (i := 6) rfl) rfl
theorem dX3_withTrack_37 : decode cX3_withTrack 37 = Except.ok (Instr.iconst 5, 1) := vyd_8 (vyb_cX3_withTrack_3 (i := 7) rfl)
theorem dX3_withTrack_38 : decode cX3_withTrack 38 = Except.ok (Instr.if_icmp .gt 23, 3) := vyd_163 (vyb_cX3_withTrack_3 (i := 8) rfl) (vyb_cX3_withTrack_3 (i := 9) rfl) (vyb_cX3_withTrack_4 (i := 0) rfl) (by decide +kernel)
theorem dX3_withTrack_41 : decode cX3_withTrack 41 = Except.ok (Instr.lload 4, 2) := vyd_22 (vyb_cX3_withTrack_4 (i := 1) rfl) (vyb_cX3_withTrack_4 (i := 2) rfl) rfl
theorem dX3_withTrack_43 : decode cX3_withTrack 43 = Except.ok (Instr.aload_n 0, 1) := vyd_42 (vyb_cX3_withTrack_4 (i := 3) rfl)
theorem dX3_withTrack_44 : decode cX3_withTrack 44 = Except.ok (Instr.iload_n 3, 1) := vyd_29 (vyb_cX3_withTrack_4 (i := 4) rfl)
theorem dX3_withTrack_45 : decode cX3_withTrack 45 = Except.ok (Instr.iload 6, 2) := vyd_21 (vyb_cX3_withTrack_4 (i := 5) rfl) (vyb_cX3_withTrack_4 (i := 6) rfl) rfl
theorem dX3_withTrack_47 : decode cX3_withTrack 47 = Except.ok (Instr.invokevirtual 262, 3) := vyd_182 (vyb_cX3_withTrack_4 (i := 7) rfl) (vyb_cX3_withTrack_4 (i := 8) rfl) (vyb_cX3_withTrack_4 (i := 9) rfl) rfl
theorem dX3_withTrack_50 : decode cX3_withTrack 50 = Except.ok (Instr.invokestatic 321, 3) := vyd_184 (vyb_cX3_withTrack_5 (i := 0) rfl) (vyb_cX3_withTrack_5 (i := 1) rfl) (vyb_cX3_withTrack_5 (i := 2) rfl) rfl
theorem dX3_withTrack_53 : decode cX3_withTrack 53 = Except.ok (Instr.lstore 4, 2) := vyd_55 (vyb_cX3_withTrack_5 (i := 3) rfl) (vyb_cX3_withTrack_5 (i := 4) rfl) rfl
theorem dX3_withTrack_55 : decode cX3_withTrack 55 = .ok (.iinc 6 1, 3) := by decide +kernel
theorem dX3_withTrack_58 : decode cX3_withTrack 58 = Except.ok (Instr.goto (-23), 3) := vyd_167 (vyb_cX3_withTrack_5 (i := 8) rfl) (vyb_cX3_withTrack_5 (i := 9) rfl) (vyb_cX3_withTrack_6 (i := 0) rfl) (by decide +kernel)
theorem dX3_withTrack_61 : decode cX3_withTrack 61 = Except.ok (Instr.aload_n 0, 1) := vyd_42 (vyb_cX3_withTrack_6 (i := 1) rfl)
theorem dX3_withTrack_62 : decode cX3_withTrack 62 = Except.ok (Instr.iload_n 3, 1) := vyd_29 (vyb_cX3_withTrack_6 (i := 2) rfl)
theorem dX3_withTrack_63 : decode cX3_withTrack 63 = Except.ok (Instr.invokevirtual 61, 3) := vyd_182 (vyb_cX3_withTrack_6 (i := 3) rfl) (vyb_cX3_withTrack_6 (i := 4) rfl) (vyb_cX3_withTrack_6 (i := 5) rfl) rfl
theorem dX3_withTrack_66 : decode cX3_withTrack 66 = Except.ok (Instr.astore 6, 2) := vyd_58 (vyb_cX3_withTrack_6 (i := 6) rfl) (vyb_cX3_withTrack_6 (i := 7) rfl) rfl
theorem dX3_withTrack_68 : decode cX3_withTrack 68 = Except.ok (Instr.iconst 0, 1) := vyd_3 (vyb_cX3_withTrack_6 (i := 8) rfl)
theorem dX3_withTrack_69 : decode cX3_withTrack 69 = Except.ok (Instr.istore 7, 2) := vyd_54 (vyb_cX3_withTrack_6 (i := 9) rfl) (vyb_cX3_withTrack_7 (i := 0) rfl) rfl
theorem dX3_withTrack_71 : decode cX3_withTrack 71 = Except.ok (Instr.iload 7, 2) := vyd_21 (vyb_cX3_withTrack_7 (i := 1) rfl) (vyb_cX3_withTrack_7 (i := 2) rfl) rfl
theorem dX3_withTrack_73 : decode cX3_withTrack 73 = Except.ok (Instr.aload 6, 2) := vyd_25 (vyb_cX3_withTrack_7 (i := 3) rfl) (vyb_cX3_withTrack_7 (i := 4) rfl) rfl
theorem dX3_withTrack_75 : decode cX3_withTrack 75 = Except.ok (Instr.invokevirtual 65, 3) := vyd_182 (vyb_cX3_withTrack_7 (i := 5) rfl) (vyb_cX3_withTrack_7 (i := 6) rfl) (vyb_cX3_withTrack_7 (i := 7) rfl) rfl
theorem dX3_withTrack_78 : decode cX3_withTrack 78 = Except.ok (Instr.if_icmp .ge 23, 3) := vyd_162 (vyb_cX3_withTrack_7 (i := 8) rfl) (vyb_cX3_withTrack_7 (i := 9) rfl) (vyb_cX3_withTrack_8 (i := 0) rfl) (by decide +kernel)
theorem dX3_withTrack_81 : decode cX3_withTrack 81 = Except.ok (Instr.lload 4, 2) := vyd_22 (vyb_cX3_withTrack_8 (i := 1) rfl) (vyb_cX3_withTrack_8 (i := 2) rfl) rfl
theorem dX3_withTrack_83 : decode cX3_withTrack 83 = Except.ok (Instr.aload 6, 2) := vyd_25 (vyb_cX3_withTrack_8 (i := 3) rfl) (vyb_cX3_withTrack_8 (i := 4) rfl) rfl
theorem dX3_withTrack_85 : decode cX3_withTrack 85 = Except.ok (Instr.iload 7, 2) := vyd_21 (vyb_cX3_withTrack_8 (i := 5) rfl) (vyb_cX3_withTrack_8 (i := 6) rfl) rfl
theorem dX3_withTrack_87 : decode cX3_withTrack 87 = Except.ok (Instr.invokevirtual 144, 3) := vyd_182 (vyb_cX3_withTrack_8 (i := 7) rfl) (vyb_cX3_withTrack_8 (i := 8) rfl) (vyb_cX3_withTrack_8 (i := 9) rfl) rfl
theorem dX3_withTrack_90 : decode cX3_withTrack 90 = Except.ok (Instr.invokestatic 321, 3) := vyd_184 (vyb_cX3_withTrack_9 (i := 0) rfl) (vyb_cX3_withTrack_9 (i := 1) rfl) (vyb_cX3_withTrack_9 (i := 2) rfl) rfl
theorem dX3_withTrack_93 : decode cX3_withTrack 93 = Except.ok (Instr.lstore 4, 2) := vyd_55 (vyb_cX3_withTrack_9 (i := 3) rfl) (vyb_cX3_withTrack_9 (i := 4) rfl) rfl
theorem dX3_withTrack_95 : decode cX3_withTrack 95 = .ok (.iinc 7 1, 3) := by decide +kernel
theorem dX3_withTrack_98 : decode cX3_withTrack 98 = Except.ok (Instr.goto (-27), 3) := vyd_167 (vyb_cX3_withTrack_9 (i := 8) rfl) (vyb_cX3_withTrack_9 (i := 9) rfl) (vyb_cX3_withTrack_10 (i := 0) rfl) (by decide +kernel)
theorem dX3_withTrack_101 : decode cX3_withTrack 101 = Except.ok (Instr.lload 4, 2) := vyd_22 (vyb_cX3_withTrack_10 (i := 1) rfl) (vyb_cX3_withTrack_10 (i := 2) rfl) rfl
theorem dX3_withTrack_103 : decode cX3_withTrack 103 = Except.ok (Instr.aload 6, 2) := vyd_25 (vyb_cX3_withTrack_10 (i := 3) rfl) (vyb_cX3_withTrack_10 (i := 4) rfl) rfl
theorem dX3_withTrack_105 : decode cX3_withTrack 105 = Except.ok (Instr.invokestatic 411, 3) := vyd_184 (vyb_cX3_withTrack_10 (i := 5) rfl) (vyb_cX3_withTrack_10 (i := 6) rfl) (vyb_cX3_withTrack_10 (i := 7) rfl) rfl
theorem dX3_withTrack_108 : decode cX3_withTrack 108 = Except.ok (Instr.invokestatic 321, 3) := vyd_184 (vyb_cX3_withTrack_10 (i := 8) rfl) (vyb_cX3_withTrack_10 (i := 9) rfl) (vyb_cX3_withTrack_11 (i := 0) rfl) rfl
theorem dX3_withTrack_111 : decode cX3_withTrack 111 = Except.ok (Instr.lstore 4, 2) := vyd_55 (vyb_cX3_withTrack_11 (i := 1) rfl) (vyb_cX3_withTrack_11 (i := 2) rfl) rfl
theorem dX3_withTrack_113 : decode cX3_withTrack 113 = Except.ok (Instr.lload 4, 2) := vyd_22 (vyb_cX3_withTrack_11 (i := 3) rfl) (vyb_cX3_withTrack_11 (i := 4) rfl) rfl
theorem dX3_withTrack_115 : decode cX3_withTrack 115 = Except.ok (Instr.aload_n 0, 1) := vyd_42 (vyb_cX3_withTrack_11 (i := 5) rfl)
theorem dX3_withTrack_116 : decode cX3_withTrack 116 = Except.ok (Instr.iload_n 3, 1) := vyd_29 (vyb_cX3_withTrack_11 (i := 6) rfl)
theorem dX3_withTrack_117 : decode cX3_withTrack 117 = Except.ok (Instr.invokevirtual 292, 3) := vyd_182 (vyb_cX3_withTrack_11 (i := 7) rfl) (vyb_cX3_withTrack_11 (i := 8) rfl) (vyb_cX3_withTrack_11 (i := 9) rfl) rfl
theorem dX3_withTrack_120 : decode cX3_withTrack 120 = Except.ok (Instr.invokestatic 321, 3) := vyd_184 (vyb_cX3_withTrack_12 (i := 0) rfl) (vyb_cX3_withTrack_12 (i := 1) rfl) (vyb_cX3_withTrack_12 (i := 2) rfl) rfl
theorem dX3_withTrack_123 : decode cX3_withTrack 123 = Except.ok (Instr.lreturn, 1) := vyd_173 (vyb_cX3_withTrack_12 (i := 3) rfl)
theorem vyb_cX3_withWalker_0 {i : Nat} {b : UInt8} (h : ([0x1f, 0x2a, 0x1d, 0x03, 0xb6, 0x00, 0xf5, 0xb8, 0x01, 0x41] : List UInt8)[i]? = some b) : vy_8 cX3_withWalker (0 + i) b := vy_in (n := 10) (by decide +kernel) h
theorem vyb_cX3_withWalker_1 {i : Nat} {b : UInt8} (h : ([0x37, 0x04, 0x2a, 0x1d, 0xb6, 0x00, 0xcb, 0xb6, 0x00, 0xd5] : List UInt8)[i]? = some b) : vy_8 cX3_withWalker (10 + i) b := vy_in (n := 10) (by decide +kernel) h
theorem vyb_cX3_withWalker_2 {i : Nat} {b : UInt8} (h : ([0x99, 0x00, 0x20, 0x04, 0x36, 0x06, 0x15, 0x06, 0x07, 0xa3] : List UInt8)[i]? = some b) : vy_8 cX3_withWalker (20 + i) b := vy_in (n := 10) (by decide +kernel) h
theorem vyb_cX3_withWalker_3 {i : Nat} {b : UInt8} (h : ([0x00, 0x17, 0x16, 0x04, 0x2a, 0x1d, 0x15, 0x06, 0xb6, 0x00] : List UInt8)[i]? = some b) : vy_8 cX3_withWalker (30 + i) b := vy_in (n := 10) (by decide +kernel) h
theorem vyb_cX3_withWalker_4 {i : Nat} {b : UInt8} (h : ([0xf5, 0xb8, 0x01, 0x41, 0x37, 0x04, 0x84, 0x06, 0x01, 0xa7] : List UInt8)[i]? = some b) : vy_8 cX3_withWalker (40 + i) b := vy_in (n := 10) (by decide +kernel) h
theorem vyb_cX3_withWalker_5 {i : Nat} {b : UInt8} (h : ([0xff, 0xe9, 0x16, 0x04, 0xad] : List UInt8)[i]? = some b) : vy_8 cX3_withWalker (50 + i) b := vy_in (n := 5) (by decide +kernel) h
theorem dX3_withWalker_0 : decode cX3_withWalker 0 = Except.ok (Instr.lload_n 1, 1) := vyd_31 (vyb_cX3_withWalker_0 (i := 0) rfl)
theorem dX3_withWalker_1 : decode cX3_withWalker 1 = Except.ok (Instr.aload_n 0, 1) := vyd_42 (vyb_cX3_withWalker_0 (i := 1) rfl)
theorem dX3_withWalker_2 : decode cX3_withWalker 2 = Except.ok (Instr.iload_n 3, 1) := vyd_29 (vyb_cX3_withWalker_0 (i := 2) rfl)
theorem dX3_withWalker_3 : decode cX3_withWalker 3 = Except.ok (Instr.iconst 0, 1) := vyd_3 (vyb_cX3_withWalker_0 (i := 3) rfl)
theorem dX3_withWalker_4 : decode cX3_withWalker 4 = Except.ok (Instr.invokevirtual 245, 3) := vyd_182 (vyb_cX3_withWalker_0 (i := 4) rfl) (vyb_cX3_withWalker_0 (i := 5) rfl) (vyb_cX3_withWalker_0 (i := 6) rfl) rfl
theorem dX3_withWalker_7 : decode cX3_withWalker 7 = Except.ok (Instr.invokestatic 321, 3) := vyd_184 (vyb_cX3_withWalker_0 (i := 7) rfl) (vyb_cX3_withWalker_0 (i := 8) rfl) (vyb_cX3_withWalker_0 (i := 9) rfl) rfl
theorem dX3_withWalker_10 : decode cX3_withWalker 10 = Except.ok (Instr.lstore 4, 2) := vyd_55 (vyb_cX3_withWalker_1 (i := 0) rfl) (vyb_cX3_withWalker_1 (i := 1) rfl) rfl
theorem dX3_withWalker_12 : decode cX3_withWalker 12 = Except.ok (Instr.aload_n 0, 1) := vyd_42 (vyb_cX3_withWalker_1 (i := 2) rfl)
theorem dX3_withWalker_13 : decode cX3_withWalker 13 = Except.ok (Instr.iload_n 3, 1) := vyd_29 (vyb_cX3_withWalker_1 (i := 3) rfl)
theorem dX3_withWalker_14 : decode cX3_withWalker 14 = Except.ok (Instr.invokevirtual 203, 3) := vyd_182 (vyb_cX3_withWalker_1 (i := 4) rfl) (vyb_cX3_withWalker_1 (i := 5) rfl) (vyb_cX3_withWalker_1 (i := 6) rfl) rfl
theorem dX3_withWalker_17 : decode cX3_withWalker 17 = Except.ok (Instr.invokevirtual 213, 3) := vyd_182 (vyb_cX3_withWalker_1 (i := 7) rfl) (vyb_cX3_withWalker_1 (i := 8) rfl) (vyb_cX3_withWalker_1 (i := 9) rfl) rfl
theorem dX3_withWalker_20 : decode cX3_withWalker 20 = Except.ok (Instr.ifCond .eq 32, 3) := vyd_153 (vyb_cX3_withWalker_2 (i := 0) rfl) (vyb_cX3_withWalker_2 (i := 1) rfl) (vyb_cX3_withWalker_2 (i := 2) rfl) (by decide +kernel)
theorem dX3_withWalker_23 : decode cX3_withWalker 23 = Except.ok (Instr.iconst 1, 1) := vyd_4 (vyb_cX3_withWalker_2 (i := 3) rfl)
theorem dX3_withWalker_24 : decode cX3_withWalker 24 = Except.ok (Instr.istore 6, 2) := vyd_54 (vyb_cX3_withWalker_2 (i := 4) rfl) (vyb_cX3_withWalker_2 (i := 5) rfl) rfl
theorem dX3_withWalker_26 : decode cX3_withWalker 26 = Except.ok (Instr.iload 6, 2) := vyd_21 (vyb_cX3_withWalker_2 (i := 6) rfl) (vyb_cX3_withWalker_2 (i := 7) rfl) rfl
theorem dX3_withWalker_28 : decode cX3_withWalker 28 = Except.ok (Instr.iconst 4, 1) := vyd_7 (vyb_cX3_withWalker_2 (i := 8) rfl)
theorem dX3_withWalker_29 : decode cX3_withWalker 29 = Except.ok (Instr.if_icmp .gt 23, 3) := vyd_163 (vyb_cX3_withWalker_2 (i := 9) rfl) (vyb_cX3_withWalker_3 (i := 0) rfl) (vyb_cX3_withWalker_3 (i := 1) rfl) (by decide +kernel)
theorem dX3_withWalker_32 : decode cX3_withWalker 32 = Except.ok (Instr.lload 4, 2) := vyd_22 (vyb_cX3_withWalker_3 (i := 2) rfl) (vyb_cX3_withWalker_3 (i := 3) rfl) rfl
theorem dX3_withWalker_34 : decode cX3_withWalker 34 = Except.ok (Instr.aload_n 0, 1) := vyd_42 (vyb_cX3_withWalker_3 (i := 4) rfl)
theorem dX3_withWalker_35 : decode cX3_withWalker 35 = Except.ok (Instr.iload_n 3, 1) := vyd_29 (vyb_cX3_withWalker_3 (i := 5) rfl)
theorem dX3_withWalker_36 : decode cX3_withWalker 36 = Except.ok (Instr.iload 6, 2) := vyd_21 (vyb_cX3_withWalker_3 (i := 6) rfl) (vyb_cX3_withWalker_3 (i := 7) rfl) rfl
theorem dX3_withWalker_38 : decode cX3_withWalker 38 = Except.ok (Instr.invokevirtual 245, 3) := vyd_182 (vyb_cX3_withWalker_3 (i := 8) rfl) (vyb_cX3_withWalker_3 (i := 9) rfl) (vyb_cX3_withWalker_4 (i := 0) rfl) rfl
theorem dX3_withWalker_41 : decode cX3_withWalker 41 = Except.ok (Instr.invokestatic 321, 3) := vyd_184 (vyb_cX3_withWalker_4 (i := 1) rfl) (vyb_cX3_withWalker_4 (i := 2) rfl) (vyb_cX3_withWalker_4 (i := 3) rfl) rfl
theorem dX3_withWalker_44 : decode cX3_withWalker 44 = Except.ok (Instr.lstore 4, 2) := vyd_55 (vyb_cX3_withWalker_4 (i := 4) rfl) (vyb_cX3_withWalker_4 (i := 5) rfl) rfl
theorem dX3_withWalker_46 : decode cX3_withWalker 46 = .ok (.iinc 6 1, 3) := by decide +kernel
theorem dX3_withWalker_49 : decode cX3_withWalker 49 = Except.ok (Instr.goto (-23), 3) := vyd_167 (vyb_cX3_withWalker_4 (i := 9) rfl) (vyb_cX3_withWalker_5 (i := 0) rfl) (vyb_cX3_withWalker_5 (i := 1) rfl) (by decide +kernel)
theorem dX3_withWalker_52 : decode cX3_withWalker 52 = Except.ok (Instr.lload 4, 2) := vyd_22 (vyb_cX3_withWalker_5 (i := 2) rfl) (vyb_cX3_withWalker_5 (i := 3) rfl) rfl
theorem dX3_withWalker_54 : decode cX3_withWalker 54 = Except.ok (Instr.lreturn, 1) := vyd_173 (vyb_cX3_withWalker_5 (i := 4) rfl)
